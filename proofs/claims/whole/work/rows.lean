section
/-! names: the skeleton's part A (the tables' words), then the printed names; written by wip/whole/mknames.py -/
/-- a private method of a class that the tables say can be made, by its rows of tables_1 -/
def lw_okq (q : MethodName × Nat) : Prop := (q.1.cls ≠ "java/lang/invoke/MethodHandle" ∧ q.1.cls ≠ "java/lang/invoke/VarHandle") ∧ Cond.instantiable q.1.cls q.2 ∈ tables_1 ∧ Cond.privateMethod q.1 ∈ tables_1 ∧ Cond.instanceMethod q.1 ∈ tables_1
theorem lw_p0 : lw_okq (⟨"StreamWeave", "obey", "([I)I"⟩, 8) := ⟨⟨by decide +kernel, by decide +kernel⟩, List.mem_of_getElem? (i := 21) (by decide +kernel), List.mem_of_getElem? (i := 333) (by decide +kernel), List.mem_of_getElem? (i := 334) (by decide +kernel)⟩
theorem lw_p1 : lw_okq (⟨"StreamWeave", "addFrame", "(III)I"⟩, 8) := ⟨⟨by decide +kernel, by decide +kernel⟩, List.mem_of_getElem? (i := 21) (by decide +kernel), List.mem_of_getElem? (i := 337) (by decide +kernel), List.mem_of_getElem? (i := 338) (by decide +kernel)⟩
theorem lw_p2 : lw_okq (⟨"StreamWeave", "setRoom", "(II)I"⟩, 8) := ⟨⟨by decide +kernel, by decide +kernel⟩, List.mem_of_getElem? (i := 21) (by decide +kernel), List.mem_of_getElem? (i := 355) (by decide +kernel), List.mem_of_getElem? (i := 356) (by decide +kernel)⟩
theorem lw_p3 : lw_okq (⟨"StreamWeave", "setClock", "(II)I"⟩, 8) := ⟨⟨by decide +kernel, by decide +kernel⟩, List.mem_of_getElem? (i := 21) (by decide +kernel), List.mem_of_getElem? (i := 359) (by decide +kernel), List.mem_of_getElem? (i := 360) (by decide +kernel)⟩
theorem lw_p4 : lw_okq (⟨"StreamWeave", "setTable", "(I)I"⟩, 8) := ⟨⟨by decide +kernel, by decide +kernel⟩, List.mem_of_getElem? (i := 21) (by decide +kernel), List.mem_of_getElem? (i := 363) (by decide +kernel), List.mem_of_getElem? (i := 364) (by decide +kernel)⟩
theorem lw_p5 : lw_okq (⟨"StreamWeave", "setWide", "(I)I"⟩, 8) := ⟨⟨by decide +kernel, by decide +kernel⟩, List.mem_of_getElem? (i := 21) (by decide +kernel), List.mem_of_getElem? (i := 367) (by decide +kernel), List.mem_of_getElem? (i := 368) (by decide +kernel)⟩
theorem lw_p6 : lw_okq (⟨"StreamWeave", "dropFrames", "(I)I"⟩, 8) := ⟨⟨by decide +kernel, by decide +kernel⟩, List.mem_of_getElem? (i := 21) (by decide +kernel), List.mem_of_getElem? (i := 371) (by decide +kernel), List.mem_of_getElem? (i := 372) (by decide +kernel)⟩
theorem lw_p7 : lw_okq (⟨"StreamWeave", "swapFrames", "(III)I"⟩, 8) := ⟨⟨by decide +kernel, by decide +kernel⟩, List.mem_of_getElem? (i := 21) (by decide +kernel), List.mem_of_getElem? (i := 375) (by decide +kernel), List.mem_of_getElem? (i := 376) (by decide +kernel)⟩
theorem lw_p8 : lw_okq (⟨"StreamWeave", "weave", "()V"⟩, 8) := ⟨⟨by decide +kernel, by decide +kernel⟩, List.mem_of_getElem? (i := 21) (by decide +kernel), List.mem_of_getElem? (i := 596) (by decide +kernel), List.mem_of_getElem? (i := 597) (by decide +kernel)⟩
theorem lw_p9 : lw_okq (⟨"StreamWeave", "trialShowsAll", "()Z"⟩, 8) := ⟨⟨by decide +kernel, by decide +kernel⟩, List.mem_of_getElem? (i := 21) (by decide +kernel), List.mem_of_getElem? (i := 706) (by decide +kernel), List.mem_of_getElem? (i := 707) (by decide +kernel)⟩
theorem lw_p10 : lw_okq (⟨"StreamWeaveModel", "isLine", "()Z"⟩, 28) := ⟨⟨by decide +kernel, by decide +kernel⟩, List.mem_of_getElem? (i := 740) (by decide +kernel), List.mem_of_getElem? (i := 847) (by decide +kernel), List.mem_of_getElem? (i := 848) (by decide +kernel)⟩
theorem lw_p11 : lw_okq (⟨"StreamWeaveModel", "readAs", "(I)I"⟩, 28) := ⟨⟨by decide +kernel, by decide +kernel⟩, List.mem_of_getElem? (i := 740) (by decide +kernel), List.mem_of_getElem? (i := 851) (by decide +kernel), List.mem_of_getElem? (i := 852) (by decide +kernel)⟩
theorem lw_p12 : lw_okq (⟨"StreamWeaveModel", "doLine", "()I"⟩, 28) := ⟨⟨by decide +kernel, by decide +kernel⟩, List.mem_of_getElem? (i := 740) (by decide +kernel), List.mem_of_getElem? (i := 868) (by decide +kernel), List.mem_of_getElem? (i := 869) (by decide +kernel)⟩
theorem lw_p13 : lw_okq (⟨"StreamWeaveModel", "frameMore", "(III)I"⟩, 28) := ⟨⟨by decide +kernel, by decide +kernel⟩, List.mem_of_getElem? (i := 740) (by decide +kernel), List.mem_of_getElem? (i := 875) (by decide +kernel), List.mem_of_getElem? (i := 876) (by decide +kernel)⟩
theorem lw_p14 : lw_okq (⟨"StreamWeaveModel", "dueOf", "(II)I"⟩, 28) := ⟨⟨by decide +kernel, by decide +kernel⟩, List.mem_of_getElem? (i := 740) (by decide +kernel), List.mem_of_getElem? (i := 879) (by decide +kernel), List.mem_of_getElem? (i := 880) (by decide +kernel)⟩
theorem lw_p15 : lw_okq (⟨"StreamWeaveModel", "setAt", "(II)I"⟩, 28) := ⟨⟨by decide +kernel, by decide +kernel⟩, List.mem_of_getElem? (i := 740) (by decide +kernel), List.mem_of_getElem? (i := 883) (by decide +kernel), List.mem_of_getElem? (i := 884) (by decide +kernel)⟩
def lw_privs_1 : List (MethodName × Nat) := [(⟨"StreamWeave", "obey", "([I)I"⟩, 8), (⟨"StreamWeave", "addFrame", "(III)I"⟩, 8), (⟨"StreamWeave", "setRoom", "(II)I"⟩, 8), (⟨"StreamWeave", "setClock", "(II)I"⟩, 8), (⟨"StreamWeave", "setTable", "(I)I"⟩, 8), (⟨"StreamWeave", "setWide", "(I)I"⟩, 8), (⟨"StreamWeave", "dropFrames", "(I)I"⟩, 8), (⟨"StreamWeave", "swapFrames", "(III)I"⟩, 8), (⟨"StreamWeave", "weave", "()V"⟩, 8), (⟨"StreamWeave", "trialShowsAll", "()Z"⟩, 8), (⟨"StreamWeaveModel", "isLine", "()Z"⟩, 28), (⟨"StreamWeaveModel", "readAs", "(I)I"⟩, 28), (⟨"StreamWeaveModel", "doLine", "()I"⟩, 28), (⟨"StreamWeaveModel", "frameMore", "(III)I"⟩, 28), (⟨"StreamWeaveModel", "dueOf", "(II)I"⟩, 28), (⟨"StreamWeaveModel", "setAt", "(II)I"⟩, 28)]
theorem lw_r1 : ∀ q ∈ lw_privs_1, lw_okq q := List.forall_mem_cons.mpr ⟨lw_p0, List.forall_mem_cons.mpr ⟨lw_p1, List.forall_mem_cons.mpr ⟨lw_p2, List.forall_mem_cons.mpr ⟨lw_p3, List.forall_mem_cons.mpr ⟨lw_p4, List.forall_mem_cons.mpr ⟨lw_p5, List.forall_mem_cons.mpr ⟨lw_p6, List.forall_mem_cons.mpr ⟨lw_p7, List.forall_mem_cons.mpr ⟨lw_p8, List.forall_mem_cons.mpr ⟨lw_p9, List.forall_mem_cons.mpr ⟨lw_p10, List.forall_mem_cons.mpr ⟨lw_p11, List.forall_mem_cons.mpr ⟨lw_p12, List.forall_mem_cons.mpr ⟨lw_p13, List.forall_mem_cons.mpr ⟨lw_p14, List.forall_mem_cons.mpr ⟨lw_p15, fun _ h => absurd h List.not_mem_nil⟩⟩⟩⟩⟩⟩⟩⟩⟩⟩⟩⟩⟩⟩⟩⟩
theorem lw_p16 : lw_okq (⟨"StreamWeaveModel", "swap", "(III)I"⟩, 28) := ⟨⟨by decide +kernel, by decide +kernel⟩, List.mem_of_getElem? (i := 740) (by decide +kernel), List.mem_of_getElem? (i := 887) (by decide +kernel), List.mem_of_getElem? (i := 888) (by decide +kernel)⟩
theorem lw_p17 : lw_okq (⟨"StreamWeaveModel", "before", "(II)I"⟩, 28) := ⟨⟨by decide +kernel, by decide +kernel⟩, List.mem_of_getElem? (i := 740) (by decide +kernel), List.mem_of_getElem? (i := 891) (by decide +kernel), List.mem_of_getElem? (i := 892) (by decide +kernel)⟩
theorem lw_p18 : lw_okq (⟨"StreamWeaveModel", "sizeOf", "(II)I"⟩, 28) := ⟨⟨by decide +kernel, by decide +kernel⟩, List.mem_of_getElem? (i := 740) (by decide +kernel), List.mem_of_getElem? (i := 895) (by decide +kernel), List.mem_of_getElem? (i := 896) (by decide +kernel)⟩
theorem lw_p19 : lw_okq (⟨"StreamWeaveModel", "isFrame", "(II)Z"⟩, 28) := ⟨⟨by decide +kernel, by decide +kernel⟩, List.mem_of_getElem? (i := 740) (by decide +kernel), List.mem_of_getElem? (i := 903) (by decide +kernel), List.mem_of_getElem? (i := 904) (by decide +kernel)⟩
theorem lw_p20 : lw_okq (⟨"StreamWeaveModel", "writeNumber", "(I)V"⟩, 28) := ⟨⟨by decide +kernel, by decide +kernel⟩, List.mem_of_getElem? (i := 740) (by decide +kernel), List.mem_of_getElem? (i := 907) (by decide +kernel), List.mem_of_getElem? (i := 908) (by decide +kernel)⟩
theorem lw_p21 : lw_okq (⟨"StreamWeaveModel", "packetsOf", "(I)I"⟩, 28) := ⟨⟨by decide +kernel, by decide +kernel⟩, List.mem_of_getElem? (i := 740) (by decide +kernel), List.mem_of_getElem? (i := 915) (by decide +kernel), List.mem_of_getElem? (i := 916) (by decide +kernel)⟩
theorem lw_p22 : lw_okq (⟨"StreamWeaveModel", "send", "()I"⟩, 28) := ⟨⟨by decide +kernel, by decide +kernel⟩, List.mem_of_getElem? (i := 740) (by decide +kernel), List.mem_of_getElem? (i := 923) (by decide +kernel), List.mem_of_getElem? (i := 924) (by decide +kernel)⟩
theorem lw_p23 : lw_okq (⟨"StreamWeaveModel", "showDue", "(II)V"⟩, 28) := ⟨⟨by decide +kernel, by decide +kernel⟩, List.mem_of_getElem? (i := 740) (by decide +kernel), List.mem_of_getElem? (i := 927) (by decide +kernel), List.mem_of_getElem? (i := 928) (by decide +kernel)⟩
theorem lw_p24 : lw_okq (⟨"StreamWeaveModel", "sendOne", "(II)V"⟩, 28) := ⟨⟨by decide +kernel, by decide +kernel⟩, List.mem_of_getElem? (i := 740) (by decide +kernel), List.mem_of_getElem? (i := 931) (by decide +kernel), List.mem_of_getElem? (i := 932) (by decide +kernel)⟩
theorem lw_p25 : lw_okq (⟨"StreamWeaveModel", "put", "(IIII)V"⟩, 28) := ⟨⟨by decide +kernel, by decide +kernel⟩, List.mem_of_getElem? (i := 740) (by decide +kernel), List.mem_of_getElem? (i := 938) (by decide +kernel), List.mem_of_getElem? (i := 939) (by decide +kernel)⟩
theorem lw_p26 : lw_okq (⟨"StreamWeaveModel", "clockNow", "(I)I"⟩, 28) := ⟨⟨by decide +kernel, by decide +kernel⟩, List.mem_of_getElem? (i := 740) (by decide +kernel), List.mem_of_getElem? (i := 942) (by decide +kernel), List.mem_of_getElem? (i := 943) (by decide +kernel)⟩
theorem lw_p27 : lw_okq (⟨"StreamWeaveModel", "programmeNow", "(I)I"⟩, 28) := ⟨⟨by decide +kernel, by decide +kernel⟩, List.mem_of_getElem? (i := 740) (by decide +kernel), List.mem_of_getElem? (i := 946) (by decide +kernel), List.mem_of_getElem? (i := 947) (by decide +kernel)⟩
theorem lw_p28 : lw_okq (⟨"StreamWeaveModel", "frameOf", "(II)I"⟩, 28) := ⟨⟨by decide +kernel, by decide +kernel⟩, List.mem_of_getElem? (i := 740) (by decide +kernel), List.mem_of_getElem? (i := 950) (by decide +kernel), List.mem_of_getElem? (i := 951) (by decide +kernel)⟩
theorem lw_p29 : lw_okq (⟨"StreamWeaveModel", "allFrames", "()I"⟩, 28) := ⟨⟨by decide +kernel, by decide +kernel⟩, List.mem_of_getElem? (i := 740) (by decide +kernel), List.mem_of_getElem? (i := 966) (by decide +kernel), List.mem_of_getElem? (i := 967) (by decide +kernel)⟩
theorem lw_p30 : lw_okq (⟨"StreamWeaveModel", "allPackets", "()I"⟩, 28) := ⟨⟨by decide +kernel, by decide +kernel⟩, List.mem_of_getElem? (i := 740) (by decide +kernel), List.mem_of_getElem? (i := 970) (by decide +kernel), List.mem_of_getElem? (i := 971) (by decide +kernel)⟩
theorem lw_p31 : lw_okq (⟨"StreamWeaveModel", "ofSort", "(I)I"⟩, 28) := ⟨⟨by decide +kernel, by decide +kernel⟩, List.mem_of_getElem? (i := 740) (by decide +kernel), List.mem_of_getElem? (i := 974) (by decide +kernel), List.mem_of_getElem? (i := 975) (by decide +kernel)⟩
def lw_privs_2 : List (MethodName × Nat) := [(⟨"StreamWeaveModel", "swap", "(III)I"⟩, 28), (⟨"StreamWeaveModel", "before", "(II)I"⟩, 28), (⟨"StreamWeaveModel", "sizeOf", "(II)I"⟩, 28), (⟨"StreamWeaveModel", "isFrame", "(II)Z"⟩, 28), (⟨"StreamWeaveModel", "writeNumber", "(I)V"⟩, 28), (⟨"StreamWeaveModel", "packetsOf", "(I)I"⟩, 28), (⟨"StreamWeaveModel", "send", "()I"⟩, 28), (⟨"StreamWeaveModel", "showDue", "(II)V"⟩, 28), (⟨"StreamWeaveModel", "sendOne", "(II)V"⟩, 28), (⟨"StreamWeaveModel", "put", "(IIII)V"⟩, 28), (⟨"StreamWeaveModel", "clockNow", "(I)I"⟩, 28), (⟨"StreamWeaveModel", "programmeNow", "(I)I"⟩, 28), (⟨"StreamWeaveModel", "frameOf", "(II)I"⟩, 28), (⟨"StreamWeaveModel", "allFrames", "()I"⟩, 28), (⟨"StreamWeaveModel", "allPackets", "()I"⟩, 28), (⟨"StreamWeaveModel", "ofSort", "(I)I"⟩, 28)]
theorem lw_r2 : ∀ q ∈ lw_privs_2, lw_okq q := List.forall_mem_cons.mpr ⟨lw_p16, List.forall_mem_cons.mpr ⟨lw_p17, List.forall_mem_cons.mpr ⟨lw_p18, List.forall_mem_cons.mpr ⟨lw_p19, List.forall_mem_cons.mpr ⟨lw_p20, List.forall_mem_cons.mpr ⟨lw_p21, List.forall_mem_cons.mpr ⟨lw_p22, List.forall_mem_cons.mpr ⟨lw_p23, List.forall_mem_cons.mpr ⟨lw_p24, List.forall_mem_cons.mpr ⟨lw_p25, List.forall_mem_cons.mpr ⟨lw_p26, List.forall_mem_cons.mpr ⟨lw_p27, List.forall_mem_cons.mpr ⟨lw_p28, List.forall_mem_cons.mpr ⟨lw_p29, List.forall_mem_cons.mpr ⟨lw_p30, List.forall_mem_cons.mpr ⟨lw_p31, fun _ h => absurd h List.not_mem_nil⟩⟩⟩⟩⟩⟩⟩⟩⟩⟩⟩⟩⟩⟩⟩⟩
theorem lw_p32 : lw_okq (⟨"StreamWeaveModel", "leastAt", "(II)I"⟩, 28) := ⟨⟨by decide +kernel, by decide +kernel⟩, List.mem_of_getElem? (i := 740) (by decide +kernel), List.mem_of_getElem? (i := 986) (by decide +kernel), List.mem_of_getElem? (i := 987) (by decide +kernel)⟩
def lw_privs_3 : List (MethodName × Nat) := [(⟨"StreamWeaveModel", "leastAt", "(II)I"⟩, 28)]
theorem lw_r3 : ∀ q ∈ lw_privs_3, lw_okq q := List.forall_mem_cons.mpr ⟨lw_p32, fun _ h => absurd h List.not_mem_nil⟩
def lw_privs : List (MethodName × Nat) := lw_privs_1 ++ (lw_privs_2 ++ (lw_privs_3))
def lw_tbl : List Cond := k2_sels lw_privs ++ tables_1
theorem lw_privs_ok : ∀ q ∈ lw_privs, lw_okq q := by
  show ∀ q ∈ lw_privs_1 ++ (lw_privs_2 ++ (lw_privs_3)), lw_okq q
  exact List.forall_mem_append.mpr ⟨lw_r1, List.forall_mem_append.mpr ⟨lw_r2, lw_r3⟩⟩

def RX0 : String := "StreamWeave$Channel"
def TX0 : u_T := fun k => match k with
  | 0 => ("StreamWeave$Channel", "gone", "[I", true)
  | 1 => ("StreamWeave$Channel", "firstTick", "[I", true)
  | 2 => ("StreamWeave$Channel", "lastTick", "[I", true)
  | 3 => ("StreamWeave$Channel", "heldBehind", "[I", true)
  | 4 => ("StreamWeave$Channel", "holds", "I", false)
  | 5 => ("StreamWeave$Channel", "packetsSent", "I", false)
  | 6 => ("StreamWeave$Channel", "lastClock", "I", false)
  | 7 => ("StreamWeave$Channel", "nextDue", "I", false)
  | _ => ("StreamWeave$Channel", "nextOpen", "I", false)
def tyX0 : Nat → FieldType := fun k => match k with
  | 0 => .array .int
  | 1 => .array .int
  | 2 => .array .int
  | 3 => .array .int
  | 4 => .int
  | 5 => .int
  | 6 => .int
  | 7 => .int
  | _ => .int
abbrev wsX00 : List Cond := u_ws RX0 TX0 9
theorem nmX0 : ∀ a, a < 9 → ∀ b, b < 9 → a ≠ b → (TX0 a).2.1 ≠ (TX0 b).2.1 := by decide +kernel
theorem tyX0_ok : ∀ k, k < 9 → parseFieldDescriptor (TX0 k).2.2.1 = some (tyX0 k) := by decide +kernel
abbrev cX0_init : ByteArray := prog_2_method_1_code
def yX0_init : MethodName := ⟨RX0, "<init>", "()V"⟩
abbrev cX0_begin : ByteArray := prog_2_method_2_code
def yX0_begin : MethodName := ⟨RX0, "begin", "()V"⟩
abbrev cX0_takeDue : ByteArray := prog_2_method_3_code
def yX0_takeDue : MethodName := ⟨RX0, "takeDue", "(LStreamWeave$Programme;I)I"⟩
abbrev cX0_openFrame : ByteArray := prog_2_method_4_code
def yX0_openFrame : MethodName := ⟨RX0, "openFrame", "(LStreamWeave$Programme;I)I"⟩
abbrev cX0_sendOf : ByteArray := prog_2_method_5_code
def yX0_sendOf : MethodName := ⟨RX0, "sendOf", "(II)V"⟩
abbrev cX0_nextCounter : ByteArray := prog_2_method_6_code
def yX0_nextCounter : MethodName := ⟨RX0, "nextCounter", "()I"⟩
abbrev cX0_mostHeld : ByteArray := prog_2_method_7_code
def yX0_mostHeld : MethodName := ⟨RX0, "mostHeld", "()I"⟩
def RX1 : String := "StreamWeave$Line"
def TX1 : u_T := fun k => match k with
  | 0 => ("StreamWeave$Line", "signs", "[I", true)
  | 1 => ("StreamWeave$Line", "numbers", "[I", true)
  | 2 => ("StreamWeave$Line", "length", "I", false)
  | _ => ("StreamWeave$Line", "word", "I", false)
def tyX1 : Nat → FieldType := fun k => match k with
  | 0 => .array .int
  | 1 => .array .int
  | 2 => .int
  | _ => .int
abbrev wsX10 : List Cond := u_ws RX1 TX1 4
theorem nmX1 : ∀ a, a < 4 → ∀ b, b < 4 → a ≠ b → (TX1 a).2.1 ≠ (TX1 b).2.1 := by decide +kernel
theorem tyX1_ok : ∀ k, k < 4 → parseFieldDescriptor (TX1 k).2.2.1 = some (tyX1 k) := by decide +kernel
abbrev cX1_init : ByteArray := prog_3_method_1_code
def yX1_init : MethodName := ⟨RX1, "<init>", "()V"⟩
abbrev cX1_text : ByteArray := prog_3_method_2_code
def yX1_text : MethodName := ⟨RX1, "text", "(I)Ljava/lang/String;"⟩
abbrev cX1_numbersBehind : ByteArray := prog_3_method_3_code
def yX1_numbersBehind : MethodName := ⟨RX1, "numbersBehind", "(I)I"⟩
abbrev cX1_add : ByteArray := prog_3_method_4_code
def yX1_add : MethodName := ⟨RX1, "add", "(I)Z"⟩
abbrev cX1_read : ByteArray := prog_3_method_5_code
def yX1_read : MethodName := ⟨RX1, "read", "()I"⟩
abbrev cX1_commonSigns : ByteArray := prog_3_method_6_code
def yX1_commonSigns : MethodName := ⟨RX1, "commonSigns", "(Ljava/lang/String;)I"⟩
abbrev cX1_readNumbers : ByteArray := prog_3_method_7_code
def yX1_readNumbers : MethodName := ⟨RX1, "readNumbers", "(I)I"⟩
abbrev cX1_isSign : ByteArray := prog_3_method_8_code
def yX1_isSign : MethodName := ⟨RX1, "isSign", "(IC)Z"⟩
abbrev cX1_isFigure : ByteArray := prog_3_method_9_code
def yX1_isFigure : MethodName := ⟨RX1, "isFigure", "(I)Z"⟩
def RX2 : String := "StreamWeave$Plan"
def TX2 : u_T := fun k => match k with
  | 0 => ("StreamWeave$Plan", "programmes", "[LStreamWeave$Programme;", true)
  | 1 => ("StreamWeave$Plan", "table", "I", false)
  | _ => ("StreamWeave$Plan", "wide", "I", false)
def tyX2 : Nat → FieldType := fun k => match k with
  | 0 => .array (.object "StreamWeave$Programme")
  | 1 => .int
  | _ => .int
abbrev wsX20 : List Cond := u_ws RX2 TX2 3
theorem nmX2 : ∀ a, a < 3 → ∀ b, b < 3 → a ≠ b → (TX2 a).2.1 ≠ (TX2 b).2.1 := by decide +kernel
theorem tyX2_ok : ∀ k, k < 3 → parseFieldDescriptor (TX2 k).2.2.1 = some (tyX2 k) := by decide +kernel
abbrev cX2_init : ByteArray := prog_4_method_1_code
def yX2_init : MethodName := ⟨RX2, "<init>", "()V"⟩
abbrev cX2_framesInAll : ByteArray := prog_4_method_2_code
def yX2_framesInAll : MethodName := ⟨RX2, "framesInAll", "()I"⟩
abbrev cX2_copyFrom : ByteArray := prog_4_method_3_code
def yX2_copyFrom : MethodName := ⟨RX2, "copyFrom", "(LStreamWeave$Plan;)V"⟩
def RX3 : String := "StreamWeave$Programme"
def TX3 : u_T := fun k => match k with
  | 0 => ("StreamWeave$Programme", "size", "[I", true)
  | 1 => ("StreamWeave$Programme", "due", "[I", true)
  | 2 => ("StreamWeave$Programme", "frames", "I", false)
  | 3 => ("StreamWeave$Programme", "room", "I", false)
  | _ => ("StreamWeave$Programme", "clock", "I", false)
def tyX3 : Nat → FieldType := fun k => match k with
  | 0 => .array .int
  | 1 => .array .int
  | 2 => .int
  | 3 => .int
  | _ => .int
abbrev wsX30 : List Cond := u_ws RX3 TX3 5
theorem nmX3 : ∀ a, a < 5 → ∀ b, b < 5 → a ≠ b → (TX3 a).2.1 ≠ (TX3 b).2.1 := by decide +kernel
theorem tyX3_ok : ∀ k, k < 5 → parseFieldDescriptor (TX3 k).2.2.1 = some (tyX3 k) := by decide +kernel
abbrev cX3_init : ByteArray := prog_5_method_1_code
def yX3_init : MethodName := ⟨RX3, "<init>", "()V"⟩
abbrev cX3_hasFrame : ByteArray := prog_5_method_2_code
def yX3_hasFrame : MethodName := ⟨RX3, "hasFrame", "(I)Z"⟩
abbrev cX3_add : ByteArray := prog_5_method_3_code
def yX3_add : MethodName := ⟨RX3, "add", "(II)Z"⟩
abbrev cX3_lastDue : ByteArray := prog_5_method_4_code
def yX3_lastDue : MethodName := ⟨RX3, "lastDue", "()I"⟩
abbrev cX3_packets : ByteArray := prog_5_method_5_code
def yX3_packets : MethodName := ⟨RX3, "packets", "()I"⟩
abbrev cX3_framesBefore : ByteArray := prog_5_method_6_code
def yX3_framesBefore : MethodName := ⟨RX3, "framesBefore", "(I)I"⟩
abbrev cX3_copyFrom : ByteArray := prog_5_method_7_code
def yX3_copyFrom : MethodName := ⟨RX3, "copyFrom", "(LStreamWeave$Programme;)V"⟩
def RX4 : String := "StreamWeave$Stream"
def TX4 : u_T := fun k => match k with
  | 0 => ("StreamWeave$Stream", "kind", "[I", true)
  | 1 => ("StreamWeave$Stream", "programme", "[I", true)
  | 2 => ("StreamWeave$Stream", "frame", "[I", true)
  | 3 => ("StreamWeave$Stream", "counter", "[I", true)
  | 4 => ("StreamWeave$Stream", "channels", "[LStreamWeave$Channel;", true)
  | 5 => ("StreamWeave$Stream", "ofKind", "[I", true)
  | 6 => ("StreamWeave$Stream", "lastTable", "I", false)
  | 7 => ("StreamWeave$Stream", "shown", "I", false)
  | 8 => ("StreamWeave$Stream", "late", "I", false)
  | 9 => ("StreamWeave$Stream", "neverSent", "I", false)
  | _ => ("StreamWeave$Stream", "firstLate", "I", false)
def tyX4 : Nat → FieldType := fun k => match k with
  | 0 => .array .int
  | 1 => .array .int
  | 2 => .array .int
  | 3 => .array .int
  | 4 => .array (.object "StreamWeave$Channel")
  | 5 => .array .int
  | 6 => .int
  | 7 => .int
  | 8 => .int
  | 9 => .int
  | _ => .int
abbrev wsX40 : List Cond := u_ws RX4 TX4 11
theorem nmX4 : ∀ a, a < 11 → ∀ b, b < 11 → a ≠ b → (TX4 a).2.1 ≠ (TX4 b).2.1 := by decide +kernel
theorem tyX4_ok : ∀ k, k < 11 → parseFieldDescriptor (TX4 k).2.2.1 = some (tyX4 k) := by decide +kernel
abbrev cX4_init : ByteArray := prog_6_method_1_code
def yX4_init : MethodName := ⟨RX4, "<init>", "()V"⟩
abbrev cX4_slot : ByteArray := prog_6_method_2_code
def yX4_slot : MethodName := ⟨RX4, "slot", "(II)I"⟩
abbrev cX4_sentOfKind : ByteArray := prog_6_method_3_code
def yX4_sentOfKind : MethodName := ⟨RX4, "sentOfKind", "(I)I"⟩
abbrev cX4_weaveWhole : ByteArray := prog_6_method_4_code
def yX4_weaveWhole : MethodName := ⟨RX4, "weaveWhole", "(LStreamWeave$Plan;)V"⟩
abbrev cX4_showsAll : ByteArray := prog_6_method_5_code
def yX4_showsAll : MethodName := ⟨RX4, "showsAll", "(LStreamWeave$Plan;)Z"⟩
abbrev cX4_begin : ByteArray := prog_6_method_6_code
def yX4_begin : MethodName := ⟨RX4, "begin", "()V"⟩
abbrev cX4_weaveTick : ByteArray := prog_6_method_7_code
def yX4_weaveTick : MethodName := ⟨RX4, "weaveTick", "(LStreamWeave$Plan;I)V"⟩
abbrev cX4_showDue : ByteArray := prog_6_method_8_code
def yX4_showDue : MethodName := ⟨RX4, "showDue", "(LStreamWeave$Programme;LStreamWeave$Channel;I)V"⟩
abbrev cX4_sendOne : ByteArray := prog_6_method_9_code
def yX4_sendOne : MethodName := ⟨RX4, "sendOne", "(LStreamWeave$Plan;II)V"⟩
abbrev cX4_sendTable : ByteArray := prog_6_method_10_code
def yX4_sendTable : MethodName := ⟨RX4, "sendTable", "(II)V"⟩
abbrev cX4_note : ByteArray := prog_6_method_11_code
def yX4_note : MethodName := ⟨RX4, "note", "(IIIII)V"⟩
abbrev cX4_clockProgramme : ByteArray := prog_6_method_12_code
def yX4_clockProgramme : MethodName := ⟨RX4, "clockProgramme", "(LStreamWeave$Plan;I)I"⟩
abbrev cX4_frameProgramme : ByteArray := prog_6_method_13_code
def yX4_frameProgramme : MethodName := ⟨RX4, "frameProgramme", "(LStreamWeave$Plan;I)I"⟩
abbrev cX4_comesAgain : ByteArray := prog_6_method_14_code
def yX4_comesAgain : MethodName := ⟨RX4, "comesAgain", "(III)Z"⟩
def RX5 : String := "StreamWeave"
def TX5 : u_T := fun k => match k with
  | 0 => ("StreamWeave", "typed", "LStreamWeave$Line;", true)
  | 1 => ("StreamWeave", "plan", "LStreamWeave$Plan;", true)
  | 2 => ("StreamWeave", "trial", "LStreamWeave$Plan;", true)
  | 3 => ("StreamWeave", "images", "[LStreamWeave$Plan;", true)
  | 4 => ("StreamWeave", "stream", "LStreamWeave$Stream;", true)
  | 5 => ("StreamWeave", "keptImages", "I", false)
  | 6 => ("StreamWeave", "lastFault", "I", false)
  | _ => ("StreamWeave", "woven", "Z", false)
def tyX5 : Nat → FieldType := fun k => match k with
  | 0 => .object "StreamWeave$Line"
  | 1 => .object "StreamWeave$Plan"
  | 2 => .object "StreamWeave$Plan"
  | 3 => .array (.object "StreamWeave$Plan")
  | 4 => .object "StreamWeave$Stream"
  | 5 => .int
  | 6 => .int
  | _ => .boolean
abbrev wsX50 : List Cond := u_ws RX5 TX5 8
theorem nmX5 : ∀ a, a < 8 → ∀ b, b < 8 → a ≠ b → (TX5 a).2.1 ≠ (TX5 b).2.1 := by decide +kernel
theorem tyX5_ok : ∀ k, k < 8 → parseFieldDescriptor (TX5 k).2.2.1 = some (tyX5 k) := by decide +kernel
abbrev cX5_init : ByteArray := prog_1_method_1_code
def yX5_init : MethodName := ⟨RX5, "<init>", "()V"⟩
abbrev cX5_say : ByteArray := prog_1_method_2_code
def yX5_say : MethodName := ⟨RX5, "say", "(I)I"⟩
abbrev cX5_wipe : ByteArray := prog_1_method_3_code
def yX5_wipe : MethodName := ⟨RX5, "wipe", "()I"⟩
abbrev cX5_line : ByteArray := prog_1_method_4_code
def yX5_line : MethodName := ⟨RX5, "line", "()I"⟩
abbrev cX5_fault : ByteArray := prog_1_method_5_code
def yX5_fault : MethodName := ⟨RX5, "fault", "()I"⟩
abbrev cX5_written : ByteArray := prog_1_method_6_code
def yX5_written : MethodName := ⟨RX5, "written", "(III)I"⟩
abbrev cX5_told : ByteArray := prog_1_method_7_code
def yX5_told : MethodName := ⟨RX5, "told", "(II)I"⟩
abbrev cX5_packet : ByteArray := prog_1_method_8_code
def yX5_packet : MethodName := ⟨RX5, "packet", "(III)I"⟩
abbrev cX5_held : ByteArray := prog_1_method_9_code
def yX5_held : MethodName := ⟨RX5, "held", "(II)I"⟩
abbrev cX5_frame : ByteArray := prog_1_method_10_code
def yX5_frame : MethodName := ⟨RX5, "frame", "(III)I"⟩
abbrev cX5_sent : ByteArray := prog_1_method_11_code
def yX5_sent : MethodName := ⟨RX5, "sent", "(I)I"⟩
abbrev cX5_most : ByteArray := prog_1_method_12_code
def yX5_most : MethodName := ⟨RX5, "most", "(I)I"⟩
abbrev cX5_needs : ByteArray := prog_1_method_13_code
def yX5_needs : MethodName := ⟨RX5, "needs", "()I"⟩
abbrev cX5_room : ByteArray := prog_1_method_14_code
def yX5_room : MethodName := ⟨RX5, "room", "(I)I"⟩
abbrev cX5_without : ByteArray := prog_1_method_15_code
def yX5_without : MethodName := ⟨RX5, "without", "(I)I"⟩
abbrev cX5_image : ByteArray := prog_1_method_16_code
def yX5_image : MethodName := ⟨RX5, "image", "(I)I"⟩
abbrev cX5_restore : ByteArray := prog_1_method_17_code
def yX5_restore : MethodName := ⟨RX5, "restore", "(I)I"⟩
abbrev cX5_count : ByteArray := prog_1_method_18_code
def yX5_count : MethodName := ⟨RX5, "count", "(I)I"⟩
abbrev cX5_obey : ByteArray := prog_1_method_19_code
def yX5_obey : MethodName := ⟨RX5, "obey", "([I)I"⟩
abbrev cX5_addFrame : ByteArray := prog_1_method_20_code
def yX5_addFrame : MethodName := ⟨RX5, "addFrame", "(III)I"⟩
abbrev cX5_setRoom : ByteArray := prog_1_method_21_code
def yX5_setRoom : MethodName := ⟨RX5, "setRoom", "(II)I"⟩
abbrev cX5_setClock : ByteArray := prog_1_method_22_code
def yX5_setClock : MethodName := ⟨RX5, "setClock", "(II)I"⟩
abbrev cX5_setTable : ByteArray := prog_1_method_23_code
def yX5_setTable : MethodName := ⟨RX5, "setTable", "(I)I"⟩
abbrev cX5_setWide : ByteArray := prog_1_method_24_code
def yX5_setWide : MethodName := ⟨RX5, "setWide", "(I)I"⟩
abbrev cX5_dropFrames : ByteArray := prog_1_method_25_code
def yX5_dropFrames : MethodName := ⟨RX5, "dropFrames", "(I)I"⟩
abbrev cX5_swapFrames : ByteArray := prog_1_method_26_code
def yX5_swapFrames : MethodName := ⟨RX5, "swapFrames", "(III)I"⟩
abbrev cX5_weave : ByteArray := prog_1_method_27_code
def yX5_weave : MethodName := ⟨RX5, "weave", "()V"⟩
abbrev cX5_trialShowsAll : ByteArray := prog_1_method_28_code
def yX5_trialShowsAll : MethodName := ⟨RX5, "trialShowsAll", "()Z"⟩
abbrev cX5_isWithin : ByteArray := prog_1_method_29_code
def yX5_isWithin : MethodName := ⟨RX5, "isWithin", "(III)Z"⟩
abbrev cX5_isProgramme : ByteArray := prog_1_method_30_code
def yX5_isProgramme : MethodName := ⟨RX5, "isProgramme", "(I)Z"⟩
abbrev cX5_isTick : ByteArray := prog_1_method_31_code
def yX5_isTick : MethodName := ⟨RX5, "isTick", "(I)Z"⟩
abbrev cX5_isDue : ByteArray := prog_1_method_32_code
def yX5_isDue : MethodName := ⟨RX5, "isDue", "(I)Z"⟩
def RX6 : String := "StreamWeaveModel"
def TX6 : u_T := fun k => match k with
  | 0 => ("StreamWeaveModel", "state", "[I", true)
  | 1 => ("StreamWeaveModel", "images", "[I", true)
  | 2 => ("StreamWeaveModel", "isKept", "[Z", true)
  | 3 => ("StreamWeaveModel", "line", "[I", true)
  | 4 => ("StreamWeaveModel", "signs", "I", false)
  | 5 => ("StreamWeaveModel", "numbers", "[I", true)
  | 6 => ("StreamWeaveModel", "numberMany", "I", false)
  | 7 => ("StreamWeaveModel", "isWhole", "Z", false)
  | 8 => ("StreamWeaveModel", "wordNow", "I", false)
  | 9 => ("StreamWeaveModel", "faultPlace", "I", false)
  | 10 => ("StreamWeaveModel", "row", "[I", true)
  | 11 => ("StreamWeaveModel", "rowLong", "I", false)
  | 12 => ("StreamWeaveModel", "sort", "[I", true)
  | 13 => ("StreamWeaveModel", "whose", "[I", true)
  | 14 => ("StreamWeaveModel", "which", "[I", true)
  | 15 => ("StreamWeaveModel", "counter", "[I", true)
  | 16 => ("StreamWeaveModel", "sentOf", "[I", true)
  | 17 => ("StreamWeaveModel", "firstSent", "[I", true)
  | 18 => ("StreamWeaveModel", "lastSent", "[I", true)
  | 19 => ("StreamWeaveModel", "isShown", "[Z", true)
  | 20 => ("StreamWeaveModel", "heldBehind", "[I", true)
  | 21 => ("StreamWeaveModel", "held", "[I", true)
  | 22 => ("StreamWeaveModel", "countOf", "[I", true)
  | 23 => ("StreamWeaveModel", "lastClock", "[I", true)
  | 24 => ("StreamWeaveModel", "lastTable", "I", false)
  | 25 => ("StreamWeaveModel", "late", "I", false)
  | 26 => ("StreamWeaveModel", "firstLate", "I", false)
  | _ => ("StreamWeaveModel", "leftOut", "I", false)
def tyX6 : Nat → FieldType := fun k => match k with
  | 0 => .array .int
  | 1 => .array .int
  | 2 => .array .boolean
  | 3 => .array .int
  | 4 => .int
  | 5 => .array .int
  | 6 => .int
  | 7 => .boolean
  | 8 => .int
  | 9 => .int
  | 10 => .array .int
  | 11 => .int
  | 12 => .array .int
  | 13 => .array .int
  | 14 => .array .int
  | 15 => .array .int
  | 16 => .array .int
  | 17 => .array .int
  | 18 => .array .int
  | 19 => .array .boolean
  | 20 => .array .int
  | 21 => .array .int
  | 22 => .array .int
  | 23 => .array .int
  | 24 => .int
  | 25 => .int
  | 26 => .int
  | _ => .int
abbrev wsX60 : List Cond := u_ws RX6 TX6 28
theorem nmX6 : ∀ a, a < 28 → ∀ b, b < 28 → a ≠ b → (TX6 a).2.1 ≠ (TX6 b).2.1 := by decide +kernel
theorem tyX6_ok : ∀ k, k < 28 → parseFieldDescriptor (TX6 k).2.2.1 = some (tyX6 k) := by decide +kernel
abbrev cX6_init : ByteArray := prog_8_method_1_code
def yX6_init : MethodName := ⟨RX6, "<init>", "()V"⟩
abbrev cX6_in : ByteArray := prog_8_method_2_code
def yX6_in : MethodName := ⟨RX6, "in", "(III)Z"⟩
abbrev cX6_isProgramme : ByteArray := prog_8_method_3_code
def yX6_isProgramme : MethodName := ⟨RX6, "isProgramme", "(I)Z"⟩
abbrev cX6_isFrame : ByteArray := prog_8_method_4_code
def yX6_isFrame : MethodName := ⟨RX6, "isFrame", "(II)Z"⟩
abbrev cX6_sizeOf : ByteArray := prog_8_method_5_code
def yX6_sizeOf : MethodName := ⟨RX6, "sizeOf", "(II)I"⟩
abbrev cX6_dueOf : ByteArray := prog_8_method_6_code
def yX6_dueOf : MethodName := ⟨RX6, "dueOf", "(II)I"⟩
abbrev cX6_say : ByteArray := prog_8_method_7_code
def yX6_say : MethodName := ⟨RX6, "say", "(I)I"⟩
abbrev cX6_wipe : ByteArray := prog_8_method_8_code
def yX6_wipe : MethodName := ⟨RX6, "wipe", "()I"⟩
abbrev cX6_pick : ByteArray := prog_8_method_9_code
def yX6_pick : MethodName := ⟨RX6, "pick", "(IIIIII)I"⟩
abbrev cX6_signOf : ByteArray := prog_8_method_10_code
def yX6_signOf : MethodName := ⟨RX6, "signOf", "(II)I"⟩
abbrev cX6_numbersOf : ByteArray := prog_8_method_11_code
def yX6_numbersOf : MethodName := ⟨RX6, "numbersOf", "(I)I"⟩
abbrev cX6_readAs : ByteArray := prog_8_method_12_code
def yX6_readAs : MethodName := ⟨RX6, "readAs", "(I)I"⟩
abbrev cX6_isLine : ByteArray := prog_8_method_13_code
def yX6_isLine : MethodName := ⟨RX6, "isLine", "()Z"⟩
abbrev cX6_fault : ByteArray := prog_8_method_14_code
def yX6_fault : MethodName := ⟨RX6, "fault", "()I"⟩
abbrev cX6_frameMore : ByteArray := prog_8_method_15_code
def yX6_frameMore : MethodName := ⟨RX6, "frameMore", "(III)I"⟩
abbrev cX6_setAt : ByteArray := prog_8_method_16_code
def yX6_setAt : MethodName := ⟨RX6, "setAt", "(II)I"⟩
abbrev cX6_before : ByteArray := prog_8_method_17_code
def yX6_before : MethodName := ⟨RX6, "before", "(II)I"⟩
abbrev cX6_swap : ByteArray := prog_8_method_18_code
def yX6_swap : MethodName := ⟨RX6, "swap", "(III)I"⟩
abbrev cX6_doLine : ByteArray := prog_8_method_19_code
def yX6_doLine : MethodName := ⟨RX6, "doLine", "()I"⟩
abbrev cX6_line : ByteArray := prog_8_method_20_code
def yX6_line : MethodName := ⟨RX6, "line", "()I"⟩
abbrev cX6_writeNumber : ByteArray := prog_8_method_21_code
def yX6_writeNumber : MethodName := ⟨RX6, "writeNumber", "(I)V"⟩
abbrev cX6_written : ByteArray := prog_8_method_22_code
def yX6_written : MethodName := ⟨RX6, "written", "(III)I"⟩
abbrev cX6_packetsOf : ByteArray := prog_8_method_23_code
def yX6_packetsOf : MethodName := ⟨RX6, "packetsOf", "(I)I"⟩
abbrev cX6_told : ByteArray := prog_8_method_24_code
def yX6_told : MethodName := ⟨RX6, "told", "(II)I"⟩
abbrev cX6_showDue : ByteArray := prog_8_method_25_code
def yX6_showDue : MethodName := ⟨RX6, "showDue", "(II)V"⟩
abbrev cX6_isAgain : ByteArray := prog_8_method_26_code
def yX6_isAgain : MethodName := ⟨RX6, "isAgain", "(III)Z"⟩
abbrev cX6_clockNow : ByteArray := prog_8_method_27_code
def yX6_clockNow : MethodName := ⟨RX6, "clockNow", "(I)I"⟩
abbrev cX6_frameOf : ByteArray := prog_8_method_28_code
def yX6_frameOf : MethodName := ⟨RX6, "frameOf", "(II)I"⟩
abbrev cX6_programmeNow : ByteArray := prog_8_method_29_code
def yX6_programmeNow : MethodName := ⟨RX6, "programmeNow", "(I)I"⟩
abbrev cX6_put : ByteArray := prog_8_method_30_code
def yX6_put : MethodName := ⟨RX6, "put", "(IIII)V"⟩
abbrev cX6_sendOne : ByteArray := prog_8_method_31_code
def yX6_sendOne : MethodName := ⟨RX6, "sendOne", "(II)V"⟩
abbrev cX6_send : ByteArray := prog_8_method_32_code
def yX6_send : MethodName := ⟨RX6, "send", "()I"⟩
abbrev cX6_packet : ByteArray := prog_8_method_33_code
def yX6_packet : MethodName := ⟨RX6, "packet", "(III)I"⟩
abbrev cX6_held : ByteArray := prog_8_method_34_code
def yX6_held : MethodName := ⟨RX6, "held", "(II)I"⟩
abbrev cX6_frame : ByteArray := prog_8_method_35_code
def yX6_frame : MethodName := ⟨RX6, "frame", "(III)I"⟩
abbrev cX6_ofSort : ByteArray := prog_8_method_36_code
def yX6_ofSort : MethodName := ⟨RX6, "ofSort", "(I)I"⟩
abbrev cX6_allFrames : ByteArray := prog_8_method_37_code
def yX6_allFrames : MethodName := ⟨RX6, "allFrames", "()I"⟩
abbrev cX6_allPackets : ByteArray := prog_8_method_38_code
def yX6_allPackets : MethodName := ⟨RX6, "allPackets", "()I"⟩
abbrev cX6_sent : ByteArray := prog_8_method_39_code
def yX6_sent : MethodName := ⟨RX6, "sent", "(I)I"⟩
abbrev cX6_most : ByteArray := prog_8_method_40_code
def yX6_most : MethodName := ⟨RX6, "most", "(I)I"⟩
abbrev cX6_leastAt : ByteArray := prog_8_method_41_code
def yX6_leastAt : MethodName := ⟨RX6, "leastAt", "(II)I"⟩
abbrev cX6_needs : ByteArray := prog_8_method_42_code
def yX6_needs : MethodName := ⟨RX6, "needs", "()I"⟩
abbrev cX6_room : ByteArray := prog_8_method_43_code
def yX6_room : MethodName := ⟨RX6, "room", "(I)I"⟩
abbrev cX6_without : ByteArray := prog_8_method_44_code
def yX6_without : MethodName := ⟨RX6, "without", "(I)I"⟩
abbrev cX6_image : ByteArray := prog_8_method_45_code
def yX6_image : MethodName := ⟨RX6, "image", "(I)I"⟩
abbrev cX6_restore : ByteArray := prog_8_method_46_code
def yX6_restore : MethodName := ⟨RX6, "restore", "(I)I"⟩
abbrev cX6_count : ByteArray := prog_8_method_47_code
def yX6_count : MethodName := ⟨RX6, "count", "(I)I"⟩
def RJx145de : String := "java/io/Serializable"
def TJx145de : u_T := fun k => match k with
  | _ => ("", "", "", false)
def tyJx145de : Nat → FieldType := fun k => match k with
  | _ => .int
abbrev wsJx145de0 : List Cond := u_ws RJx145de TJx145de 0
theorem nmJx145de : ∀ a, a < 0 → ∀ b, b < 0 → a ≠ b → (TJx145de a).2.1 ≠ (TJx145de b).2.1 := by decide +kernel
theorem tyJx145de_ok : ∀ k, k < 0 → parseFieldDescriptor (TJx145de k).2.2.1 = some (tyJx145de k) := by decide +kernel
def RJ5 : String := "java/lang/AbstractStringBuilder"
def TJ5 : u_T := fun k => match k with
  | _ => ("", "", "", false)
def tyJ5 : Nat → FieldType := fun k => match k with
  | _ => .int
abbrev wsJ50 : List Cond := u_ws RJ5 TJ5 0
theorem nmJ5 : ∀ a, a < 0 → ∀ b, b < 0 → a ≠ b → (TJ5 a).2.1 ≠ (TJ5 b).2.1 := by decide +kernel
theorem tyJ5_ok : ∀ k, k < 0 → parseFieldDescriptor (TJ5 k).2.2.1 = some (tyJ5 k) := by decide +kernel
abbrev cJ5_init_d00df : ByteArray := prog_9_method_2_code
def yJ5_init_d00df : MethodName := ⟨RJ5, "<init>", "(I)V"⟩
abbrev cJ5_length_8abf5 : ByteArray := prog_9_method_6_code
def yJ5_length_8abf5 : MethodName := ⟨RJ5, "length", "()I"⟩
abbrev cJ5_ensureCapacityInternal_d00df : ByteArray := prog_9_method_9_code
def yJ5_ensureCapacityInternal_d00df : MethodName := ⟨RJ5, "ensureCapacityInternal", "(I)V"⟩
abbrev cJ5_newCapacity_0f7a4 : ByteArray := prog_9_method_10_code
def yJ5_newCapacity_0f7a4 : MethodName := ⟨RJ5, "newCapacity", "(I)I"⟩
abbrev cJ5_inflate_da8c8 : ByteArray := prog_9_method_11_code
def yJ5_inflate_da8c8 : MethodName := ⟨RJ5, "inflate", "()V"⟩
abbrev cJ5_charAt_5068e : ByteArray := prog_9_method_14_code
def yJ5_charAt_5068e : MethodName := ⟨RJ5, "charAt", "(I)C"⟩
abbrev cJ5_append_cf1ce : ByteArray := prog_9_method_22_code
def yJ5_append_cf1ce : MethodName := ⟨RJ5, "append", "(Ljava/lang/String;)Ljava/lang/AbstractStringBuilder;"⟩
abbrev cJ5_appendNull_278bc : ByteArray := prog_9_method_26_code
def yJ5_appendNull_278bc : MethodName := ⟨RJ5, "appendNull", "()Ljava/lang/AbstractStringBuilder;"⟩
abbrev cJ5_append_3fe6f : ByteArray := prog_9_method_31_code
def yJ5_append_3fe6f : MethodName := ⟨RJ5, "append", "(C)Ljava/lang/AbstractStringBuilder;"⟩
abbrev cJ5_append_c97b9 : ByteArray := prog_9_method_32_code
def yJ5_append_c97b9 : MethodName := ⟨RJ5, "append", "(I)Ljava/lang/AbstractStringBuilder;"⟩
abbrev cJ5_isLatin1_aae02 : ByteArray := prog_9_method_68_code
def yJ5_isLatin1_aae02 : MethodName := ⟨RJ5, "isLatin1", "()Z"⟩
abbrev cJ5_inflateIfNeededFor_a7421 : ByteArray := prog_9_method_71_code
def yJ5_inflateIfNeededFor_a7421 : MethodName := ⟨RJ5, "inflateIfNeededFor", "(Ljava/lang/String;)V"⟩
abbrev cJ5_putStringAt_47b60 : ByteArray := prog_9_method_73_code
def yJ5_putStringAt_47b60 : MethodName := ⟨RJ5, "putStringAt", "(ILjava/lang/String;)V"⟩
def RJx2cfe8 : String := "java/lang/Appendable"
def TJx2cfe8 : u_T := fun k => match k with
  | _ => ("", "", "", false)
def tyJx2cfe8 : Nat → FieldType := fun k => match k with
  | _ => .int
abbrev wsJx2cfe80 : List Cond := u_ws RJx2cfe8 TJx2cfe8 0
theorem nmJx2cfe8 : ∀ a, a < 0 → ∀ b, b < 0 → a ≠ b → (TJx2cfe8 a).2.1 ≠ (TJx2cfe8 b).2.1 := by decide +kernel
theorem tyJx2cfe8_ok : ∀ k, k < 0 → parseFieldDescriptor (TJx2cfe8 k).2.2.1 = some (tyJx2cfe8 k) := by decide +kernel
def RJx9f9b0 : String := "java/lang/CharSequence"
def TJx9f9b0 : u_T := fun k => match k with
  | _ => ("", "", "", false)
def tyJx9f9b0 : Nat → FieldType := fun k => match k with
  | _ => .int
abbrev wsJx9f9b00 : List Cond := u_ws RJx9f9b0 TJx9f9b0 0
theorem nmJx9f9b0 : ∀ a, a < 0 → ∀ b, b < 0 → a ≠ b → (TJx9f9b0 a).2.1 ≠ (TJx9f9b0 b).2.1 := by decide +kernel
theorem tyJx9f9b0_ok : ∀ k, k < 0 → parseFieldDescriptor (TJx9f9b0 k).2.2.1 = some (tyJx9f9b0 k) := by decide +kernel
def RJx8e188 : String := "java/lang/Cloneable"
def TJx8e188 : u_T := fun k => match k with
  | _ => ("", "", "", false)
def tyJx8e188 : Nat → FieldType := fun k => match k with
  | _ => .int
abbrev wsJx8e1880 : List Cond := u_ws RJx8e188 TJx8e188 0
theorem nmJx8e188 : ∀ a, a < 0 → ∀ b, b < 0 → a ≠ b → (TJx8e188 a).2.1 ≠ (TJx8e188 b).2.1 := by decide +kernel
theorem tyJx8e188_ok : ∀ k, k < 0 → parseFieldDescriptor (TJx8e188 k).2.2.1 = some (tyJx8e188 k) := by decide +kernel
def RJxb160c : String := "java/lang/Comparable"
def TJxb160c : u_T := fun k => match k with
  | _ => ("", "", "", false)
def tyJxb160c : Nat → FieldType := fun k => match k with
  | _ => .int
abbrev wsJxb160c0 : List Cond := u_ws RJxb160c TJxb160c 0
theorem nmJxb160c : ∀ a, a < 0 → ∀ b, b < 0 → a ≠ b → (TJxb160c a).2.1 ≠ (TJxb160c b).2.1 := by decide +kernel
theorem tyJxb160c_ok : ∀ k, k < 0 → parseFieldDescriptor (TJxb160c k).2.2.1 = some (tyJxb160c k) := by decide +kernel
def RJ6 : String := "java/lang/Integer"
def TJ6 : u_T := fun k => match k with
  | _ => ("", "", "", false)
def tyJ6 : Nat → FieldType := fun k => match k with
  | _ => .int
abbrev wsJ60 : List Cond := u_ws RJ6 TJ6 0
theorem nmJ6 : ∀ a, a < 0 → ∀ b, b < 0 → a ≠ b → (TJ6 a).2.1 ≠ (TJ6 b).2.1 := by decide +kernel
theorem tyJ6_ok : ∀ k, k < 0 → parseFieldDescriptor (TJ6 k).2.2.1 = some (tyJ6 k) := by decide +kernel
abbrev cJ6_getChars_ba4f3 : ByteArray := prog_11_method_12_code
def yJ6_getChars_ba4f3 : MethodName := ⟨RJ6, "getChars", "(II[B)I"⟩
abbrev cJ6_stringSize_0f7a4 : ByteArray := prog_11_method_13_code
def yJ6_stringSize_0f7a4 : MethodName := ⟨RJ6, "stringSize", "(I)I"⟩
def RJ9 : String := "java/lang/Math"
def TJ9 : u_T := fun k => match k with
  | _ => ("", "", "", false)
def tyJ9 : Nat → FieldType := fun k => match k with
  | _ => .int
abbrev wsJ90 : List Cond := u_ws RJ9 TJ9 0
theorem nmJ9 : ∀ a, a < 0 → ∀ b, b < 0 → a ≠ b → (TJ9 a).2.1 ≠ (TJ9 b).2.1 := by decide +kernel
theorem tyJ9_ok : ∀ k, k < 0 → parseFieldDescriptor (TJ9 k).2.2.1 = some (tyJ9 k) := by decide +kernel
abbrev cJ9_max_7cf53 : ByteArray := prog_12_method_65_code
def yJ9_max_7cf53 : MethodName := ⟨RJ9, "max", "(II)I"⟩
abbrev cJ9_min_7cf53 : ByteArray := prog_12_method_69_code
def yJ9_min_7cf53 : MethodName := ⟨RJ9, "min", "(II)I"⟩
def RJxd2413 : String := "java/lang/Number"
def TJxd2413 : u_T := fun k => match k with
  | _ => ("", "", "", false)
def tyJxd2413 : Nat → FieldType := fun k => match k with
  | _ => .int
abbrev wsJxd24130 : List Cond := u_ws RJxd2413 TJxd2413 0
theorem nmJxd2413 : ∀ a, a < 0 → ∀ b, b < 0 → a ≠ b → (TJxd2413 a).2.1 ≠ (TJxd2413 b).2.1 := by decide +kernel
theorem tyJxd2413_ok : ∀ k, k < 0 → parseFieldDescriptor (TJxd2413 k).2.2.1 = some (tyJxd2413 k) := by decide +kernel
def RJ0 : String := "java/lang/String"
def TJ0 : u_T := fun k => match k with
  | _ => ("", "", "", false)
def tyJ0 : Nat → FieldType := fun k => match k with
  | _ => .int
abbrev wsJ00 : List Cond := u_ws RJ0 TJ0 0
theorem nmJ0 : ∀ a, a < 0 → ∀ b, b < 0 → a ≠ b → (TJ0 a).2.1 ≠ (TJ0 b).2.1 := by decide +kernel
theorem tyJ0_ok : ∀ k, k < 0 → parseFieldDescriptor (TJ0 k).2.2.1 = some (tyJ0 k) := by decide +kernel
abbrev cJ0_length_8abf5 : ByteArray := prog_14_method_54_code
def yJ0_length_8abf5 : MethodName := ⟨RJ0, "length", "()I"⟩
abbrev cJ0_charAt_5068e : ByteArray := prog_14_method_56_code
def yJ0_charAt_5068e : MethodName := ⟨RJ0, "charAt", "(I)C"⟩
abbrev cJ0_getBytes_840e7 : ByteArray := prog_14_method_147_code
def yJ0_getBytes_840e7 : MethodName := ⟨RJ0, "getBytes", "([BIB)V"⟩
abbrev cJ0_coder_7d493 : ByteArray := prog_14_method_152_code
def yJ0_coder_7d493 : MethodName := ⟨RJ0, "coder", "()B"⟩
abbrev cJ0_isLatin1_aae02 : ByteArray := prog_14_method_154_code
def yJ0_isLatin1_aae02 : MethodName := ⟨RJ0, "isLatin1", "()Z"⟩
abbrev cJ0_checkIndex_df160 : ByteArray := prog_14_method_155_code
def yJ0_checkIndex_df160 : MethodName := ⟨RJ0, "checkIndex", "(II)V"⟩
abbrev cJ0_checkBoundsOffCount_cabcc : ByteArray := prog_14_method_157_code
def yJ0_checkBoundsOffCount_cabcc : MethodName := ⟨RJ0, "checkBoundsOffCount", "(III)I"⟩
abbrev cJ0_checkBoundsBeginEnd_23922 : ByteArray := prog_14_method_158_code
def yJ0_checkBoundsBeginEnd_23922 : MethodName := ⟨RJ0, "checkBoundsBeginEnd", "(III)V"⟩
def RJ4 : String := "java/lang/StringBuilder"
def TJ4 : u_T := fun k => match k with
  | 0 => ("java/lang/AbstractStringBuilder", "value", "[B", false)
  | 1 => ("java/lang/AbstractStringBuilder", "coder", "B", false)
  | 2 => ("java/lang/AbstractStringBuilder", "maybeLatin1", "Z", false)
  | _ => ("java/lang/AbstractStringBuilder", "count", "I", false)
def tyJ4 : Nat → FieldType := fun k => match k with
  | 0 => .array .byte
  | 1 => .byte
  | 2 => .boolean
  | _ => .int
abbrev wsJ40 : List Cond := u_ws RJ4 TJ4 4
theorem nmJ4 : ∀ a, a < 4 → ∀ b, b < 4 → a ≠ b → (TJ4 a).2.1 ≠ (TJ4 b).2.1 := by decide +kernel
theorem tyJ4_ok : ∀ k, k < 4 → parseFieldDescriptor (TJ4 k).2.2.1 = some (tyJ4 k) := by decide +kernel
abbrev cJ4_init_da8c8 : ByteArray := prog_15_method_1_code
def yJ4_init_da8c8 : MethodName := ⟨RJ4, "<init>", "()V"⟩
abbrev cJ4_append_15ec4 : ByteArray := prog_15_method_7_code
def yJ4_append_15ec4 : MethodName := ⟨RJ4, "append", "(Ljava/lang/String;)Ljava/lang/StringBuilder;"⟩
abbrev cJ4_append_cf468 : ByteArray := prog_15_method_14_code
def yJ4_append_cf468 : MethodName := ⟨RJ4, "append", "(C)Ljava/lang/StringBuilder;"⟩
abbrev cJ4_append_bf812 : ByteArray := prog_15_method_15_code
def yJ4_append_bf812 : MethodName := ⟨RJ4, "append", "(I)Ljava/lang/StringBuilder;"⟩
abbrev cJ4_charAt_5068e : ByteArray := prog_15_method_88_code
def yJ4_charAt_5068e : MethodName := ⟨RJ4, "charAt", "(I)C"⟩
abbrev cJ4_length_8abf5 : ByteArray := prog_15_method_93_code
def yJ4_length_8abf5 : MethodName := ⟨RJ4, "length", "()I"⟩
def RJ1 : String := "java/lang/StringLatin1"
def TJ1 : u_T := fun k => match k with
  | _ => ("", "", "", false)
def tyJ1 : Nat → FieldType := fun k => match k with
  | _ => .int
abbrev wsJ10 : List Cond := u_ws RJ1 TJ1 0
theorem nmJ1 : ∀ a, a < 0 → ∀ b, b < 0 → a ≠ b → (TJ1 a).2.1 ≠ (TJ1 b).2.1 := by decide +kernel
theorem tyJ1_ok : ∀ k, k < 0 → parseFieldDescriptor (TJ1 k).2.2.1 = some (tyJ1 k) := by decide +kernel
abbrev cJ1_charAt_3b067 : ByteArray := prog_16_method_2_code
def yJ1_charAt_3b067 : MethodName := ⟨RJ1, "charAt", "([BI)C"⟩
abbrev cJ1_canEncode_fc78d : ByteArray := prog_16_method_3_code
def yJ1_canEncode_fc78d : MethodName := ⟨RJ1, "canEncode", "(C)Z"⟩
abbrev cJ1_inflate_0e8fd : ByteArray := prog_16_method_50_code
def yJ1_inflate_0e8fd : MethodName := ⟨RJ1, "inflate", "([BI[BII)V"⟩
def RJ2 : String := "java/lang/StringUTF16"
def TJ2 : u_T := fun k => match k with
  | _ => ("", "", "", false)
def tyJ2 : Nat → FieldType := fun k => match k with
  | _ => .int
abbrev wsJ20 : List Cond := u_ws RJ2 TJ2 0
theorem nmJ2 : ∀ a, a < 0 → ∀ b, b < 0 → a ≠ b → (TJ2 a).2.1 ≠ (TJ2 b).2.1 := by decide +kernel
theorem tyJ2_ok : ∀ k, k < 0 → parseFieldDescriptor (TJ2 k).2.2.1 = some (tyJ2 k) := by decide +kernel
abbrev cJ2_newBytesFor_77867 : ByteArray := prog_17_method_2_code
def yJ2_newBytesFor_77867 : MethodName := ⟨RJ2, "newBytesFor", "(I)[B"⟩
abbrev cJ2_newBytesLength_0f7a4 : ByteArray := prog_17_method_3_code
def yJ2_newBytesLength_0f7a4 : MethodName := ⟨RJ2, "newBytesLength", "(I)I"⟩
abbrev cJ2_putChar_b72d1 : ByteArray := prog_17_method_4_code
def yJ2_putChar_b72d1 : MethodName := ⟨RJ2, "putChar", "([BII)V"⟩
abbrev cJ2_getChar_3b067 : ByteArray := prog_17_method_5_code
def yJ2_getChar_3b067 : MethodName := ⟨RJ2, "getChar", "([BI)C"⟩
abbrev cJ2_length_9d52b : ByteArray := prog_17_method_6_code
def yJ2_length_9d52b : MethodName := ⟨RJ2, "length", "([B)I"⟩
abbrev cJ2_putCharSB_b72d1 : ByteArray := prog_17_method_71_code
def yJ2_putCharSB_b72d1 : MethodName := ⟨RJ2, "putCharSB", "([BII)V"⟩
abbrev cJ2_getChars_46870 : ByteArray := prog_17_method_77_code
def yJ2_getChars_46870 : MethodName := ⟨RJ2, "getChars", "(III[B)I"⟩
abbrev cJ2_putCharsAt_cd4e5 : ByteArray := prog_17_method_81_code
def yJ2_putCharsAt_cd4e5 : MethodName := ⟨RJ2, "putCharsAt", "([BICCCC)I"⟩
abbrev cJ2_charAt_3b067 : ByteArray := prog_17_method_83_code
def yJ2_charAt_3b067 : MethodName := ⟨RJ2, "charAt", "([BI)C"⟩
abbrev cJ2_inflate_0e8fd : ByteArray := prog_17_method_86_code
def yJ2_inflate_0e8fd : MethodName := ⟨RJ2, "inflate", "([BI[BII)V"⟩
abbrev cJ2_getChars_ba4f3 : ByteArray := prog_17_method_89_code
def yJ2_getChars_ba4f3 : MethodName := ⟨RJ2, "getChars", "(II[B)I"⟩
abbrev cJ2_checkIndex_2214a : ByteArray := prog_17_method_91_code
def yJ2_checkIndex_2214a : MethodName := ⟨RJ2, "checkIndex", "(I[B)V"⟩
abbrev cJ2_checkBoundsBeginEnd_d044e : ByteArray := prog_17_method_93_code
def yJ2_checkBoundsBeginEnd_d044e : MethodName := ⟨RJ2, "checkBoundsBeginEnd", "(II[B)V"⟩
abbrev cJ2_checkBoundsOffCount_d044e : ByteArray := prog_17_method_94_code
def yJ2_checkBoundsOffCount_d044e : MethodName := ⟨RJ2, "checkBoundsOffCount", "(II[B)V"⟩
def RJ10 : String := "java/lang/System"
def TJ10 : u_T := fun k => match k with
  | _ => ("", "", "", false)
def tyJ10 : Nat → FieldType := fun k => match k with
  | _ => .int
abbrev wsJ100 : List Cond := u_ws RJ10 TJ10 0
theorem nmJ10 : ∀ a, a < 0 → ∀ b, b < 0 → a ≠ b → (TJ10 a).2.1 ≠ (TJ10 b).2.1 := by decide +kernel
theorem tyJ10_ok : ∀ k, k < 0 → parseFieldDescriptor (TJ10 k).2.2.1 = some (tyJ10 k) := by decide +kernel
def RJxfd54e : String := "java/lang/constant/Constable"
def TJxfd54e : u_T := fun k => match k with
  | _ => ("", "", "", false)
def tyJxfd54e : Nat → FieldType := fun k => match k with
  | _ => .int
abbrev wsJxfd54e0 : List Cond := u_ws RJxfd54e TJxfd54e 0
theorem nmJxfd54e : ∀ a, a < 0 → ∀ b, b < 0 → a ≠ b → (TJxfd54e a).2.1 ≠ (TJxfd54e b).2.1 := by decide +kernel
theorem tyJxfd54e_ok : ∀ k, k < 0 → parseFieldDescriptor (TJxfd54e k).2.2.1 = some (tyJxfd54e k) := by decide +kernel
def RJx3cf43 : String := "java/lang/constant/ConstantDesc"
def TJx3cf43 : u_T := fun k => match k with
  | _ => ("", "", "", false)
def tyJx3cf43 : Nat → FieldType := fun k => match k with
  | _ => .int
abbrev wsJx3cf430 : List Cond := u_ws RJx3cf43 TJx3cf43 0
theorem nmJx3cf43 : ∀ a, a < 0 → ∀ b, b < 0 → a ≠ b → (TJx3cf43 a).2.1 ≠ (TJx3cf43 b).2.1 := by decide +kernel
theorem tyJx3cf43_ok : ∀ k, k < 0 → parseFieldDescriptor (TJx3cf43 k).2.2.1 = some (tyJx3cf43 k) := by decide +kernel
def RJ7 : String := "java/util/Arrays"
def TJ7 : u_T := fun k => match k with
  | _ => ("", "", "", false)
def tyJ7 : Nat → FieldType := fun k => match k with
  | _ => .int
abbrev wsJ70 : List Cond := u_ws RJ7 TJ7 0
theorem nmJ7 : ∀ a, a < 0 → ∀ b, b < 0 → a ≠ b → (TJ7 a).2.1 ≠ (TJ7 b).2.1 := by decide +kernel
theorem tyJ7_ok : ∀ k, k < 0 → parseFieldDescriptor (TJ7 k).2.2.1 = some (tyJ7 k) := by decide +kernel
abbrev cJ7_fill_53178 : ByteArray := prog_19_method_103_code
def yJ7_fill_53178 : MethodName := ⟨RJ7, "fill", "([II)V"⟩
abbrev cJ7_copyOf_9075b : ByteArray := prog_19_method_121_code
def yJ7_copyOf_9075b : MethodName := ⟨RJ7, "copyOf", "([BI)[B"⟩
def RJ8 : String := "jdk/internal/util/ArraysSupport"
def TJ8 : u_T := fun k => match k with
  | _ => ("", "", "", false)
def tyJ8 : Nat → FieldType := fun k => match k with
  | _ => .int
abbrev wsJ80 : List Cond := u_ws RJ8 TJ8 0
theorem nmJ8 : ∀ a, a < 0 → ∀ b, b < 0 → a ≠ b → (TJ8 a).2.1 ≠ (TJ8 b).2.1 := by decide +kernel
theorem tyJ8_ok : ∀ k, k < 0 → parseFieldDescriptor (TJ8 k).2.2.1 = some (tyJ8 k) := by decide +kernel
abbrev cJ8_newLength_cabcc : ByteArray := prog_20_method_27_code
def yJ8_newLength_cabcc : MethodName := ⟨RJ8, "newLength", "(III)I"⟩
abbrev cJ8_hugeLength_7cf53 : ByteArray := prog_20_method_28_code
def yJ8_hugeLength_7cf53 : MethodName := ⟨RJ8, "hugeLength", "(II)I"⟩
def RJ3 : String := "jdk/internal/util/Preconditions"
def TJ3 : u_T := fun k => match k with
  | _ => ("", "", "", false)
def tyJ3 : Nat → FieldType := fun k => match k with
  | _ => .int
abbrev wsJ30 : List Cond := u_ws RJ3 TJ3 0
theorem nmJ3 : ∀ a, a < 0 → ∀ b, b < 0 → a ≠ b → (TJ3 a).2.1 ≠ (TJ3 b).2.1 := by decide +kernel
theorem tyJ3_ok : ∀ k, k < 0 → parseFieldDescriptor (TJ3 k).2.2.1 = some (tyJ3 k) := by decide +kernel
abbrev cJ3_checkIndex_8e157 : ByteArray := prog_21_method_11_code
def yJ3_checkIndex_8e157 : MethodName := ⟨RJ3, "checkIndex", "(IILjava/util/function/BiFunction;)I"⟩
abbrev cJ3_checkFromToIndex_8c36e : ByteArray := prog_21_method_12_code
def yJ3_checkFromToIndex_8c36e : MethodName := ⟨RJ3, "checkFromToIndex", "(IIILjava/util/function/BiFunction;)I"⟩
abbrev cJ3_checkFromIndexSize_8c36e : ByteArray := prog_21_method_13_code
def yJ3_checkFromIndexSize_8c36e : MethodName := ⟨RJ3, "checkFromIndexSize", "(IIILjava/util/function/BiFunction;)I"⟩
def RL : String := "StreamWeaveLaw"
abbrev cL_law : ByteArray := code
def yL_law : MethodName := ⟨RL, "law", "([I)Z"⟩
abbrev vwCl : List vw_C := [(RJ4, TJ4, 4), (RX0, TX0, 9), (RX1, TX1, 4), (RX2, TX2, 3), (RX3, TX3, 5), (RX4, TX4, 11), (RX5, TX5, 8), (RX6, TX6, 28)]
/-- the words that stay: all of the tables but the nest links, the literals and the arrays of references -/
def tbG : List Cond := lw_tbl.filter goodWord
theorem tbG_sub : ∀ w ∈ tbG, w ∈ lw_tbl := fun _ h => (List.mem_filter.mp h).1
theorem tbG_at {w : Cond} (i : Nat) (h : lw_tbl[i]? = some w) (hg : goodWord w = true) : w ∈ tbG := List.mem_filter.mpr ⟨List.mem_of_getElem? h, hg⟩
theorem tbG_good : ∀ w ∈ tbG, ((w.onTables && w.keeps) = true ∨ ∃ ty, w = .arrayClass ty) := fun _ h => good_of_word (List.mem_filter.mp h).2
def nsL : List (String × Nat × MethodName × String) := [("StreamWeave$Line", 77, ⟨"StreamWeave", "isWithin", "(III)Z"⟩, "StreamWeave"), ("StreamWeave$Programme", 28, ⟨"StreamWeave", "isWithin", "(III)Z"⟩, "StreamWeave"), ("StreamWeave$Stream", 50, ⟨"StreamWeave", "isWithin", "(III)Z"⟩, "StreamWeave")]
end
section
/-! decode rows -/
theorem dX0_init_0 : decode cX0_init 0 = .ok (.aload_n 0, 1) := by decide +kernel
theorem dX0_init_1 : decode cX0_init 1 = .ok (.invokespecial 3, 3) := by decide +kernel
theorem dX0_init_4 : decode cX0_init 4 = .ok (.aload_n 0, 1) := by decide +kernel
theorem dX0_init_5 : decode cX0_init 5 = .ok (.bipush 10, 2) := by decide +kernel
theorem dX0_init_7 : decode cX0_init 7 = .ok (.newarray .int, 2) := by decide +kernel
theorem dX0_init_9 : decode cX0_init 9 = .ok (.putfield 9, 3) := by decide +kernel
theorem dX0_init_12 : decode cX0_init 12 = .ok (.aload_n 0, 1) := by decide +kernel
theorem dX0_init_13 : decode cX0_init 13 = .ok (.bipush 10, 2) := by decide +kernel
theorem dX0_init_15 : decode cX0_init 15 = .ok (.newarray .int, 2) := by decide +kernel
theorem dX0_init_17 : decode cX0_init 17 = .ok (.putfield 15, 3) := by decide +kernel
theorem dX0_init_20 : decode cX0_init 20 = .ok (.aload_n 0, 1) := by decide +kernel
theorem dX0_init_21 : decode cX0_init 21 = .ok (.bipush 10, 2) := by decide +kernel
theorem dX0_init_23 : decode cX0_init 23 = .ok (.newarray .int, 2) := by decide +kernel
theorem dX0_init_25 : decode cX0_init 25 = .ok (.putfield 18, 3) := by decide +kernel
theorem dX0_init_28 : decode cX0_init 28 = .ok (.aload_n 0, 1) := by decide +kernel
theorem dX0_init_29 : decode cX0_init 29 = .ok (.bipush 100, 2) := by decide +kernel
theorem dX0_init_31 : decode cX0_init 31 = .ok (.newarray .int, 2) := by decide +kernel
theorem dX0_init_33 : decode cX0_init 33 = .ok (.putfield 21, 3) := by decide +kernel
theorem dX0_init_36 : decode cX0_init 36 = .ok (.aload_n 0, 1) := by decide +kernel
theorem dX0_init_37 : decode cX0_init 37 = .ok (.iconst 0, 1) := by decide +kernel
theorem dX0_init_38 : decode cX0_init 38 = .ok (.putfield 24, 3) := by decide +kernel
theorem dX0_init_41 : decode cX0_init 41 = .ok (.aload_n 0, 1) := by decide +kernel
theorem dX0_init_42 : decode cX0_init 42 = .ok (.iconst 0, 1) := by decide +kernel
theorem dX0_init_43 : decode cX0_init 43 = .ok (.putfield 28, 3) := by decide +kernel
theorem dX0_init_46 : decode cX0_init 46 = .ok (.aload_n 0, 1) := by decide +kernel
theorem dX0_init_47 : decode cX0_init 47 = .ok (.bipush (-6), 2) := by decide +kernel
theorem dX0_init_49 : decode cX0_init 49 = .ok (.putfield 31, 3) := by decide +kernel
theorem dX0_init_52 : decode cX0_init 52 = .ok (.aload_n 0, 1) := by decide +kernel
theorem dX0_init_53 : decode cX0_init 53 = .ok (.iconst 0, 1) := by decide +kernel
theorem dX0_init_54 : decode cX0_init 54 = .ok (.putfield 34, 3) := by decide +kernel
theorem dX0_init_57 : decode cX0_init 57 = .ok (.aload_n 0, 1) := by decide +kernel
theorem dX0_init_58 : decode cX0_init 58 = .ok (.iconst 0, 1) := by decide +kernel
theorem dX0_init_59 : decode cX0_init 59 = .ok (.putfield 37, 3) := by decide +kernel
theorem dX0_init_62 : decode cX0_init 62 = .ok (.return_, 1) := by decide +kernel
theorem dX0_begin_0 : decode cX0_begin 0 = .ok (.aload_n 0, 1) := by decide +kernel
theorem dX0_begin_1 : decode cX0_begin 1 = .ok (.getfield 9, 3) := by decide +kernel
theorem dX0_begin_4 : decode cX0_begin 4 = .ok (.iconst 0, 1) := by decide +kernel
theorem dX0_begin_5 : decode cX0_begin 5 = .ok (.invokestatic 40, 3) := by decide +kernel
theorem dX0_begin_8 : decode cX0_begin 8 = .ok (.aload_n 0, 1) := by decide +kernel
theorem dX0_begin_9 : decode cX0_begin 9 = .ok (.getfield 15, 3) := by decide +kernel
theorem dX0_begin_12 : decode cX0_begin 12 = .ok (.bipush (-6), 2) := by decide +kernel
theorem dX0_begin_14 : decode cX0_begin 14 = .ok (.invokestatic 40, 3) := by decide +kernel
theorem dX0_begin_17 : decode cX0_begin 17 = .ok (.aload_n 0, 1) := by decide +kernel
theorem dX0_begin_18 : decode cX0_begin 18 = .ok (.getfield 18, 3) := by decide +kernel
theorem dX0_begin_21 : decode cX0_begin 21 = .ok (.bipush (-6), 2) := by decide +kernel
theorem dX0_begin_23 : decode cX0_begin 23 = .ok (.invokestatic 40, 3) := by decide +kernel
theorem dX0_begin_26 : decode cX0_begin 26 = .ok (.aload_n 0, 1) := by decide +kernel
theorem dX0_begin_27 : decode cX0_begin 27 = .ok (.iconst 0, 1) := by decide +kernel
theorem dX0_begin_28 : decode cX0_begin 28 = .ok (.putfield 24, 3) := by decide +kernel
theorem dX0_begin_31 : decode cX0_begin 31 = .ok (.aload_n 0, 1) := by decide +kernel
theorem dX0_begin_32 : decode cX0_begin 32 = .ok (.iconst 0, 1) := by decide +kernel
theorem dX0_begin_33 : decode cX0_begin 33 = .ok (.putfield 28, 3) := by decide +kernel
theorem dX0_begin_36 : decode cX0_begin 36 = .ok (.aload_n 0, 1) := by decide +kernel
theorem dX0_begin_37 : decode cX0_begin 37 = .ok (.bipush (-6), 2) := by decide +kernel
theorem dX0_begin_39 : decode cX0_begin 39 = .ok (.putfield 31, 3) := by decide +kernel
theorem dX0_begin_42 : decode cX0_begin 42 = .ok (.aload_n 0, 1) := by decide +kernel
theorem dX0_begin_43 : decode cX0_begin 43 = .ok (.iconst 0, 1) := by decide +kernel
theorem dX0_begin_44 : decode cX0_begin 44 = .ok (.putfield 34, 3) := by decide +kernel
theorem dX0_begin_47 : decode cX0_begin 47 = .ok (.aload_n 0, 1) := by decide +kernel
theorem dX0_begin_48 : decode cX0_begin 48 = .ok (.iconst 0, 1) := by decide +kernel
theorem dX0_begin_49 : decode cX0_begin 49 = .ok (.putfield 37, 3) := by decide +kernel
theorem dX0_begin_52 : decode cX0_begin 52 = .ok (.return_, 1) := by decide +kernel
theorem dX0_takeDue_0 : decode cX0_takeDue 0 = .ok (.aload_n 0, 1) := by decide +kernel
theorem dX0_takeDue_1 : decode cX0_takeDue 1 = .ok (.getfield 34, 3) := by decide +kernel
theorem dX0_takeDue_4 : decode cX0_takeDue 4 = .ok (.aload_n 1, 1) := by decide +kernel
theorem dX0_takeDue_5 : decode cX0_takeDue 5 = .ok (.getfield 46, 3) := by decide +kernel
theorem dX0_takeDue_8 : decode cX0_takeDue 8 = .ok (.if_icmp .ge 16, 3) := by decide +kernel
theorem dX0_takeDue_11 : decode cX0_takeDue 11 = .ok (.aload_n 1, 1) := by decide +kernel
theorem dX0_takeDue_12 : decode cX0_takeDue 12 = .ok (.getfield 51, 3) := by decide +kernel
theorem dX0_takeDue_15 : decode cX0_takeDue 15 = .ok (.aload_n 0, 1) := by decide +kernel
theorem dX0_takeDue_16 : decode cX0_takeDue 16 = .ok (.getfield 34, 3) := by decide +kernel
theorem dX0_takeDue_19 : decode cX0_takeDue 19 = .ok (.iaload, 1) := by decide +kernel
theorem dX0_takeDue_20 : decode cX0_takeDue 20 = .ok (.iload_n 2, 1) := by decide +kernel
theorem dX0_takeDue_21 : decode cX0_takeDue 21 = .ok (.if_icmp .eq 6, 3) := by decide +kernel
theorem dX0_takeDue_24 : decode cX0_takeDue 24 = .ok (.bipush (-6), 2) := by decide +kernel
theorem dX0_takeDue_26 : decode cX0_takeDue 26 = .ok (.ireturn, 1) := by decide +kernel
theorem dX0_takeDue_27 : decode cX0_takeDue 27 = .ok (.aload_n 0, 1) := by decide +kernel
theorem dX0_takeDue_28 : decode cX0_takeDue 28 = .ok (.getfield 34, 3) := by decide +kernel
theorem dX0_takeDue_31 : decode cX0_takeDue 31 = .ok (.istore_n 3, 1) := by decide +kernel
theorem dX0_takeDue_32 : decode cX0_takeDue 32 = .ok (.aload_n 0, 1) := by decide +kernel
theorem dX0_takeDue_33 : decode cX0_takeDue 33 = .ok (.dup, 1) := by decide +kernel
theorem dX0_takeDue_34 : decode cX0_takeDue 34 = .ok (.getfield 24, 3) := by decide +kernel
theorem dX0_takeDue_37 : decode cX0_takeDue 37 = .ok (.aload_n 0, 1) := by decide +kernel
theorem dX0_takeDue_38 : decode cX0_takeDue 38 = .ok (.getfield 9, 3) := by decide +kernel
theorem dX0_takeDue_41 : decode cX0_takeDue 41 = .ok (.iload_n 3, 1) := by decide +kernel
theorem dX0_takeDue_42 : decode cX0_takeDue 42 = .ok (.iaload, 1) := by decide +kernel
theorem dX0_takeDue_43 : decode cX0_takeDue 43 = .ok (.isub, 1) := by decide +kernel
theorem dX0_takeDue_44 : decode cX0_takeDue 44 = .ok (.putfield 24, 3) := by decide +kernel
theorem dX0_takeDue_47 : decode cX0_takeDue 47 = .ok (.aload_n 0, 1) := by decide +kernel
theorem dX0_takeDue_48 : decode cX0_takeDue 48 = .ok (.dup, 1) := by decide +kernel
theorem dX0_takeDue_49 : decode cX0_takeDue 49 = .ok (.getfield 34, 3) := by decide +kernel
theorem dX0_takeDue_52 : decode cX0_takeDue 52 = .ok (.iconst 1, 1) := by decide +kernel
theorem dX0_takeDue_53 : decode cX0_takeDue 53 = .ok (.iadd, 1) := by decide +kernel
theorem dX0_takeDue_54 : decode cX0_takeDue 54 = .ok (.putfield 34, 3) := by decide +kernel
theorem dX0_takeDue_57 : decode cX0_takeDue 57 = .ok (.iload_n 3, 1) := by decide +kernel
theorem dX0_takeDue_58 : decode cX0_takeDue 58 = .ok (.ireturn, 1) := by decide +kernel
theorem dX0_openFrame_0 : decode cX0_openFrame 0 = .ok (.aload_n 0, 1) := by decide +kernel
theorem dX0_openFrame_1 : decode cX0_openFrame 1 = .ok (.getfield 37, 3) := by decide +kernel
theorem dX0_openFrame_4 : decode cX0_openFrame 4 = .ok (.aload_n 1, 1) := by decide +kernel
theorem dX0_openFrame_5 : decode cX0_openFrame 5 = .ok (.getfield 46, 3) := by decide +kernel
theorem dX0_openFrame_8 : decode cX0_openFrame 8 = .ok (.if_icmp .ge 50, 3) := by decide +kernel
theorem dX0_openFrame_11 : decode cX0_openFrame 11 = .ok (.aload_n 1, 1) := by decide +kernel
theorem dX0_openFrame_12 : decode cX0_openFrame 12 = .ok (.getfield 51, 3) := by decide +kernel
theorem dX0_openFrame_15 : decode cX0_openFrame 15 = .ok (.aload_n 0, 1) := by decide +kernel
theorem dX0_openFrame_16 : decode cX0_openFrame 16 = .ok (.getfield 37, 3) := by decide +kernel
theorem dX0_openFrame_19 : decode cX0_openFrame 19 = .ok (.iaload, 1) := by decide +kernel
theorem dX0_openFrame_20 : decode cX0_openFrame 20 = .ok (.iload_n 2, 1) := by decide +kernel
theorem dX0_openFrame_21 : decode cX0_openFrame 21 = .ok (.if_icmp .le 24, 3) := by decide +kernel
theorem dX0_openFrame_24 : decode cX0_openFrame 24 = .ok (.aload_n 0, 1) := by decide +kernel
theorem dX0_openFrame_25 : decode cX0_openFrame 25 = .ok (.getfield 9, 3) := by decide +kernel
theorem dX0_openFrame_28 : decode cX0_openFrame 28 = .ok (.aload_n 0, 1) := by decide +kernel
theorem dX0_openFrame_29 : decode cX0_openFrame 29 = .ok (.getfield 37, 3) := by decide +kernel
theorem dX0_openFrame_32 : decode cX0_openFrame 32 = .ok (.iaload, 1) := by decide +kernel
theorem dX0_openFrame_33 : decode cX0_openFrame 33 = .ok (.aload_n 1, 1) := by decide +kernel
theorem dX0_openFrame_34 : decode cX0_openFrame 34 = .ok (.getfield 54, 3) := by decide +kernel
theorem dX0_openFrame_37 : decode cX0_openFrame 37 = .ok (.aload_n 0, 1) := by decide +kernel
theorem dX0_openFrame_38 : decode cX0_openFrame 38 = .ok (.getfield 37, 3) := by decide +kernel
theorem dX0_openFrame_41 : decode cX0_openFrame 41 = .ok (.iaload, 1) := by decide +kernel
theorem dX0_openFrame_42 : decode cX0_openFrame 42 = .ok (.if_icmp .ne 16, 3) := by decide +kernel
theorem dX0_openFrame_45 : decode cX0_openFrame 45 = .ok (.aload_n 0, 1) := by decide +kernel
theorem dX0_openFrame_46 : decode cX0_openFrame 46 = .ok (.dup, 1) := by decide +kernel
theorem dX0_openFrame_47 : decode cX0_openFrame 47 = .ok (.getfield 37, 3) := by decide +kernel
theorem dX0_openFrame_50 : decode cX0_openFrame 50 = .ok (.iconst 1, 1) := by decide +kernel
theorem dX0_openFrame_51 : decode cX0_openFrame 51 = .ok (.iadd, 1) := by decide +kernel
theorem dX0_openFrame_52 : decode cX0_openFrame 52 = .ok (.putfield 37, 3) := by decide +kernel
theorem dX0_openFrame_55 : decode cX0_openFrame 55 = .ok (.goto (-55), 3) := by decide +kernel
theorem dX0_openFrame_58 : decode cX0_openFrame 58 = .ok (.aload_n 0, 1) := by decide +kernel
theorem dX0_openFrame_59 : decode cX0_openFrame 59 = .ok (.getfield 37, 3) := by decide +kernel
theorem dX0_openFrame_62 : decode cX0_openFrame 62 = .ok (.aload_n 1, 1) := by decide +kernel
theorem dX0_openFrame_63 : decode cX0_openFrame 63 = .ok (.getfield 46, 3) := by decide +kernel
theorem dX0_openFrame_66 : decode cX0_openFrame 66 = .ok (.if_icmp .ge 21, 3) := by decide +kernel
theorem dX0_openFrame_69 : decode cX0_openFrame 69 = .ok (.aload_n 0, 1) := by decide +kernel
theorem dX0_openFrame_70 : decode cX0_openFrame 70 = .ok (.getfield 24, 3) := by decide +kernel
theorem dX0_openFrame_73 : decode cX0_openFrame 73 = .ok (.aload_n 1, 1) := by decide +kernel
theorem dX0_openFrame_74 : decode cX0_openFrame 74 = .ok (.getfield 57, 3) := by decide +kernel
theorem dX0_openFrame_77 : decode cX0_openFrame 77 = .ok (.if_icmp .ge 10, 3) := by decide +kernel
theorem dX0_openFrame_80 : decode cX0_openFrame 80 = .ok (.aload_n 0, 1) := by decide +kernel
theorem dX0_openFrame_81 : decode cX0_openFrame 81 = .ok (.getfield 37, 3) := by decide +kernel
theorem dX0_openFrame_84 : decode cX0_openFrame 84 = .ok (.goto 5, 3) := by decide +kernel
theorem dX0_openFrame_87 : decode cX0_openFrame 87 = .ok (.bipush (-6), 2) := by decide +kernel
theorem dX0_openFrame_89 : decode cX0_openFrame 89 = .ok (.ireturn, 1) := by decide +kernel
theorem dX0_sendOf_0 : decode cX0_sendOf 0 = .ok (.aload_n 0, 1) := by decide +kernel
theorem dX0_sendOf_1 : decode cX0_sendOf 1 = .ok (.getfield 9, 3) := by decide +kernel
theorem dX0_sendOf_4 : decode cX0_sendOf 4 = .ok (.iload_n 1, 1) := by decide +kernel
theorem dX0_sendOf_5 : decode cX0_sendOf 5 = .ok (.iaload, 1) := by decide +kernel
theorem dX0_sendOf_6 : decode cX0_sendOf 6 = .ok (.ifCond .ne 10, 3) := by decide +kernel
theorem dX0_sendOf_9 : decode cX0_sendOf 9 = .ok (.aload_n 0, 1) := by decide +kernel
theorem dX0_sendOf_10 : decode cX0_sendOf 10 = .ok (.getfield 15, 3) := by decide +kernel
theorem dX0_sendOf_13 : decode cX0_sendOf 13 = .ok (.iload_n 1, 1) := by decide +kernel
theorem dX0_sendOf_14 : decode cX0_sendOf 14 = .ok (.iload_n 2, 1) := by decide +kernel
theorem dX0_sendOf_15 : decode cX0_sendOf 15 = .ok (.iastore, 1) := by decide +kernel
theorem dX0_sendOf_16 : decode cX0_sendOf 16 = .ok (.aload_n 0, 1) := by decide +kernel
theorem dX0_sendOf_17 : decode cX0_sendOf 17 = .ok (.getfield 18, 3) := by decide +kernel
theorem dX0_sendOf_20 : decode cX0_sendOf 20 = .ok (.iload_n 1, 1) := by decide +kernel
theorem dX0_sendOf_21 : decode cX0_sendOf 21 = .ok (.iload_n 2, 1) := by decide +kernel
theorem dX0_sendOf_22 : decode cX0_sendOf 22 = .ok (.iastore, 1) := by decide +kernel
theorem dX0_sendOf_23 : decode cX0_sendOf 23 = .ok (.aload_n 0, 1) := by decide +kernel
theorem dX0_sendOf_24 : decode cX0_sendOf 24 = .ok (.getfield 9, 3) := by decide +kernel
theorem dX0_sendOf_27 : decode cX0_sendOf 27 = .ok (.iload_n 1, 1) := by decide +kernel
theorem dX0_sendOf_28 : decode cX0_sendOf 28 = .ok (.dup2, 1) := by decide +kernel
theorem dX0_sendOf_29 : decode cX0_sendOf 29 = .ok (.iaload, 1) := by decide +kernel
theorem dX0_sendOf_30 : decode cX0_sendOf 30 = .ok (.iconst 1, 1) := by decide +kernel
theorem dX0_sendOf_31 : decode cX0_sendOf 31 = .ok (.iadd, 1) := by decide +kernel
theorem dX0_sendOf_32 : decode cX0_sendOf 32 = .ok (.iastore, 1) := by decide +kernel
theorem dX0_sendOf_33 : decode cX0_sendOf 33 = .ok (.aload_n 0, 1) := by decide +kernel
theorem dX0_sendOf_34 : decode cX0_sendOf 34 = .ok (.dup, 1) := by decide +kernel
theorem dX0_sendOf_35 : decode cX0_sendOf 35 = .ok (.getfield 24, 3) := by decide +kernel
theorem dX0_sendOf_38 : decode cX0_sendOf 38 = .ok (.iconst 1, 1) := by decide +kernel
theorem dX0_sendOf_39 : decode cX0_sendOf 39 = .ok (.iadd, 1) := by decide +kernel
theorem dX0_sendOf_40 : decode cX0_sendOf 40 = .ok (.putfield 24, 3) := by decide +kernel
theorem dX0_sendOf_43 : decode cX0_sendOf 43 = .ok (.return_, 1) := by decide +kernel
theorem dX0_nextCounter_0 : decode cX0_nextCounter 0 = .ok (.aload_n 0, 1) := by decide +kernel
theorem dX0_nextCounter_1 : decode cX0_nextCounter 1 = .ok (.getfield 28, 3) := by decide +kernel
theorem dX0_nextCounter_4 : decode cX0_nextCounter 4 = .ok (.bipush 16, 2) := by decide +kernel
theorem dX0_nextCounter_6 : decode cX0_nextCounter 6 = .ok (.irem, 1) := by decide +kernel
theorem dX0_nextCounter_7 : decode cX0_nextCounter 7 = .ok (.istore_n 1, 1) := by decide +kernel
theorem dX0_nextCounter_8 : decode cX0_nextCounter 8 = .ok (.aload_n 0, 1) := by decide +kernel
theorem dX0_nextCounter_9 : decode cX0_nextCounter 9 = .ok (.dup, 1) := by decide +kernel
theorem dX0_nextCounter_10 : decode cX0_nextCounter 10 = .ok (.getfield 28, 3) := by decide +kernel
theorem dX0_nextCounter_13 : decode cX0_nextCounter 13 = .ok (.iconst 1, 1) := by decide +kernel
theorem dX0_nextCounter_14 : decode cX0_nextCounter 14 = .ok (.iadd, 1) := by decide +kernel
theorem dX0_nextCounter_15 : decode cX0_nextCounter 15 = .ok (.putfield 28, 3) := by decide +kernel
theorem dX0_nextCounter_18 : decode cX0_nextCounter 18 = .ok (.iload_n 1, 1) := by decide +kernel
theorem dX0_nextCounter_19 : decode cX0_nextCounter 19 = .ok (.ireturn, 1) := by decide +kernel
theorem dX0_mostHeld_0 : decode cX0_mostHeld 0 = .ok (.iconst 0, 1) := by decide +kernel
theorem dX0_mostHeld_1 : decode cX0_mostHeld 1 = .ok (.istore_n 1, 1) := by decide +kernel
theorem dX0_mostHeld_2 : decode cX0_mostHeld 2 = .ok (.iconst 0, 1) := by decide +kernel
theorem dX0_mostHeld_3 : decode cX0_mostHeld 3 = .ok (.istore_n 2, 1) := by decide +kernel
theorem dX0_mostHeld_4 : decode cX0_mostHeld 4 = .ok (.iload_n 2, 1) := by decide +kernel
theorem dX0_mostHeld_5 : decode cX0_mostHeld 5 = .ok (.bipush 100, 2) := by decide +kernel
theorem dX0_mostHeld_7 : decode cX0_mostHeld 7 = .ok (.if_icmp .ge 20, 3) := by decide +kernel
theorem dX0_mostHeld_10 : decode cX0_mostHeld 10 = .ok (.iload_n 1, 1) := by decide +kernel
theorem dX0_mostHeld_11 : decode cX0_mostHeld 11 = .ok (.aload_n 0, 1) := by decide +kernel
theorem dX0_mostHeld_12 : decode cX0_mostHeld 12 = .ok (.getfield 21, 3) := by decide +kernel
theorem dX0_mostHeld_15 : decode cX0_mostHeld 15 = .ok (.iload_n 2, 1) := by decide +kernel
theorem dX0_mostHeld_16 : decode cX0_mostHeld 16 = .ok (.iaload, 1) := by decide +kernel
theorem dX0_mostHeld_17 : decode cX0_mostHeld 17 = .ok (.invokestatic 60, 3) := by decide +kernel
theorem dX0_mostHeld_20 : decode cX0_mostHeld 20 = .ok (.istore_n 1, 1) := by decide +kernel
theorem dX0_mostHeld_21 : decode cX0_mostHeld 21 = .ok (.iinc 2 1, 3) := by decide +kernel
theorem dX0_mostHeld_24 : decode cX0_mostHeld 24 = .ok (.goto (-20), 3) := by decide +kernel
theorem dX0_mostHeld_27 : decode cX0_mostHeld 27 = .ok (.iload_n 1, 1) := by decide +kernel
theorem dX0_mostHeld_28 : decode cX0_mostHeld 28 = .ok (.ireturn, 1) := by decide +kernel
theorem dX1_init_0 : decode cX1_init 0 = .ok (.aload_n 0, 1) := by decide +kernel
theorem dX1_init_1 : decode cX1_init 1 = .ok (.invokespecial 3, 3) := by decide +kernel
theorem dX1_init_4 : decode cX1_init 4 = .ok (.aload_n 0, 1) := by decide +kernel
theorem dX1_init_5 : decode cX1_init 5 = .ok (.bipush 20, 2) := by decide +kernel
theorem dX1_init_7 : decode cX1_init 7 = .ok (.newarray .int, 2) := by decide +kernel
theorem dX1_init_9 : decode cX1_init 9 = .ok (.putfield 9, 3) := by decide +kernel
theorem dX1_init_12 : decode cX1_init 12 = .ok (.aload_n 0, 1) := by decide +kernel
theorem dX1_init_13 : decode cX1_init 13 = .ok (.iconst 3, 1) := by decide +kernel
theorem dX1_init_14 : decode cX1_init 14 = .ok (.newarray .int, 2) := by decide +kernel
theorem dX1_init_16 : decode cX1_init 16 = .ok (.putfield 15, 3) := by decide +kernel
theorem dX1_init_19 : decode cX1_init 19 = .ok (.aload_n 0, 1) := by decide +kernel
theorem dX1_init_20 : decode cX1_init 20 = .ok (.iconst 0, 1) := by decide +kernel
theorem dX1_init_21 : decode cX1_init 21 = .ok (.putfield 18, 3) := by decide +kernel
theorem dX1_init_24 : decode cX1_init 24 = .ok (.aload_n 0, 1) := by decide +kernel
theorem dX1_init_25 : decode cX1_init 25 = .ok (.iconst 0, 1) := by decide +kernel
theorem dX1_init_26 : decode cX1_init 26 = .ok (.putfield 22, 3) := by decide +kernel
theorem dX1_init_29 : decode cX1_init 29 = .ok (.return_, 1) := by decide +kernel
theorem dX1_text_0 : decode cX1_text 0 = .ok (.iload_n 0, 1) := by decide +kernel
theorem dX1_text_1 : decode cX1_text 1 = .ok (.tableswitch 57 0 5 #[39, 42, 45, 48, 51, 54], 39) := by decide +kernel
theorem dX1_text_40 : decode cX1_text 40 = .ok (.ldc 25, 2) := by decide +kernel
theorem dX1_text_42 : decode cX1_text 42 = .ok (.areturn, 1) := by decide +kernel
theorem dX1_text_43 : decode cX1_text 43 = .ok (.ldc 27, 2) := by decide +kernel
theorem dX1_text_45 : decode cX1_text 45 = .ok (.areturn, 1) := by decide +kernel
theorem dX1_text_46 : decode cX1_text 46 = .ok (.ldc 29, 2) := by decide +kernel
theorem dX1_text_48 : decode cX1_text 48 = .ok (.areturn, 1) := by decide +kernel
theorem dX1_text_49 : decode cX1_text 49 = .ok (.ldc 31, 2) := by decide +kernel
theorem dX1_text_51 : decode cX1_text 51 = .ok (.areturn, 1) := by decide +kernel
theorem dX1_text_52 : decode cX1_text 52 = .ok (.ldc 33, 2) := by decide +kernel
theorem dX1_text_54 : decode cX1_text 54 = .ok (.areturn, 1) := by decide +kernel
theorem dX1_text_55 : decode cX1_text 55 = .ok (.ldc 35, 2) := by decide +kernel
theorem dX1_text_57 : decode cX1_text 57 = .ok (.areturn, 1) := by decide +kernel
theorem dX1_text_58 : decode cX1_text 58 = .ok (.ldc 37, 2) := by decide +kernel
theorem dX1_text_60 : decode cX1_text 60 = .ok (.areturn, 1) := by decide +kernel
theorem dX1_numbersBehind_0 : decode cX1_numbersBehind 0 = .ok (.iload_n 0, 1) := by decide +kernel
theorem dX1_numbersBehind_1 : decode cX1_numbersBehind 1 = .ok (.tableswitch 47 0 6 #[43, 45, 45, 47, 47, 47, 43], 43) := by decide +kernel
theorem dX1_numbersBehind_44 : decode cX1_numbersBehind 44 = .ok (.iconst 3, 1) := by decide +kernel
theorem dX1_numbersBehind_45 : decode cX1_numbersBehind 45 = .ok (.ireturn, 1) := by decide +kernel
theorem dX1_numbersBehind_46 : decode cX1_numbersBehind 46 = .ok (.iconst 2, 1) := by decide +kernel
theorem dX1_numbersBehind_47 : decode cX1_numbersBehind 47 = .ok (.ireturn, 1) := by decide +kernel
theorem dX1_numbersBehind_48 : decode cX1_numbersBehind 48 = .ok (.iconst 1, 1) := by decide +kernel
theorem dX1_numbersBehind_49 : decode cX1_numbersBehind 49 = .ok (.ireturn, 1) := by decide +kernel
theorem dX1_add_0 : decode cX1_add 0 = .ok (.aload_n 0, 1) := by decide +kernel
theorem dX1_add_1 : decode cX1_add 1 = .ok (.getfield 18, 3) := by decide +kernel
theorem dX1_add_4 : decode cX1_add 4 = .ok (.bipush 20, 2) := by decide +kernel
theorem dX1_add_6 : decode cX1_add 6 = .ok (.if_icmp .lt 5, 3) := by decide +kernel
theorem dX1_add_9 : decode cX1_add 9 = .ok (.iconst 0, 1) := by decide +kernel
theorem dX1_add_10 : decode cX1_add 10 = .ok (.ireturn, 1) := by decide +kernel
theorem dX1_add_11 : decode cX1_add 11 = .ok (.aload_n 0, 1) := by decide +kernel
theorem dX1_add_12 : decode cX1_add 12 = .ok (.getfield 9, 3) := by decide +kernel
theorem dX1_add_15 : decode cX1_add 15 = .ok (.aload_n 0, 1) := by decide +kernel
theorem dX1_add_16 : decode cX1_add 16 = .ok (.getfield 18, 3) := by decide +kernel
theorem dX1_add_19 : decode cX1_add 19 = .ok (.iload_n 1, 1) := by decide +kernel
theorem dX1_add_20 : decode cX1_add 20 = .ok (.iastore, 1) := by decide +kernel
theorem dX1_add_21 : decode cX1_add 21 = .ok (.aload_n 0, 1) := by decide +kernel
theorem dX1_add_22 : decode cX1_add 22 = .ok (.dup, 1) := by decide +kernel
theorem dX1_add_23 : decode cX1_add 23 = .ok (.getfield 18, 3) := by decide +kernel
theorem dX1_add_26 : decode cX1_add 26 = .ok (.iconst 1, 1) := by decide +kernel
theorem dX1_add_27 : decode cX1_add 27 = .ok (.iadd, 1) := by decide +kernel
theorem dX1_add_28 : decode cX1_add 28 = .ok (.putfield 18, 3) := by decide +kernel
theorem dX1_add_31 : decode cX1_add 31 = .ok (.iconst 1, 1) := by decide +kernel
theorem dX1_add_32 : decode cX1_add 32 = .ok (.ireturn, 1) := by decide +kernel
theorem dX1_read_0 : decode cX1_read 0 = .ok (.iconst 0, 1) := by decide +kernel
theorem dX1_read_1 : decode cX1_read 1 = .ok (.istore_n 1, 1) := by decide +kernel
theorem dX1_read_2 : decode cX1_read 2 = .ok (.aload_n 0, 1) := by decide +kernel
theorem dX1_read_3 : decode cX1_read 3 = .ok (.iconst 0, 1) := by decide +kernel
theorem dX1_read_4 : decode cX1_read 4 = .ok (.putfield 22, 3) := by decide +kernel
theorem dX1_read_7 : decode cX1_read 7 = .ok (.iconst 0, 1) := by decide +kernel
theorem dX1_read_8 : decode cX1_read 8 = .ok (.istore_n 2, 1) := by decide +kernel
theorem dX1_read_9 : decode cX1_read 9 = .ok (.iload_n 2, 1) := by decide +kernel
theorem dX1_read_10 : decode cX1_read 10 = .ok (.bipush 7, 2) := by decide +kernel
theorem dX1_read_12 : decode cX1_read 12 = .ok (.if_icmp .ge 30, 3) := by decide +kernel
theorem dX1_read_15 : decode cX1_read 15 = .ok (.aload_n 0, 1) := by decide +kernel
theorem dX1_read_16 : decode cX1_read 16 = .ok (.iload_n 2, 1) := by decide +kernel
theorem dX1_read_17 : decode cX1_read 17 = .ok (.invokestatic 39, 3) := by decide +kernel
theorem dX1_read_20 : decode cX1_read 20 = .ok (.invokevirtual 43, 3) := by decide +kernel
theorem dX1_read_23 : decode cX1_read 23 = .ok (.istore_n 3, 1) := by decide +kernel
theorem dX1_read_24 : decode cX1_read 24 = .ok (.iload_n 3, 1) := by decide +kernel
theorem dX1_read_25 : decode cX1_read 25 = .ok (.iload_n 1, 1) := by decide +kernel
theorem dX1_read_26 : decode cX1_read 26 = .ok (.if_icmp .le 10, 3) := by decide +kernel
theorem dX1_read_29 : decode cX1_read 29 = .ok (.iload_n 3, 1) := by decide +kernel
theorem dX1_read_30 : decode cX1_read 30 = .ok (.istore_n 1, 1) := by decide +kernel
theorem dX1_read_31 : decode cX1_read 31 = .ok (.aload_n 0, 1) := by decide +kernel
theorem dX1_read_32 : decode cX1_read 32 = .ok (.iload_n 2, 1) := by decide +kernel
theorem dX1_read_33 : decode cX1_read 33 = .ok (.putfield 22, 3) := by decide +kernel
theorem dX1_read_36 : decode cX1_read 36 = .ok (.iinc 2 1, 3) := by decide +kernel
theorem dX1_read_39 : decode cX1_read 39 = .ok (.goto (-30), 3) := by decide +kernel
theorem dX1_read_42 : decode cX1_read 42 = .ok (.iload_n 1, 1) := by decide +kernel
theorem dX1_read_43 : decode cX1_read 43 = .ok (.aload_n 0, 1) := by decide +kernel
theorem dX1_read_44 : decode cX1_read 44 = .ok (.getfield 22, 3) := by decide +kernel
theorem dX1_read_47 : decode cX1_read 47 = .ok (.invokestatic 39, 3) := by decide +kernel
theorem dX1_read_50 : decode cX1_read 50 = .ok (.invokevirtual 47, 3) := by decide +kernel
theorem dX1_read_53 : decode cX1_read 53 = .ok (.if_icmp .ge 7, 3) := by decide +kernel
theorem dX1_read_56 : decode cX1_read 56 = .ok (.iload_n 1, 1) := by decide +kernel
theorem dX1_read_57 : decode cX1_read 57 = .ok (.goto 8, 3) := by decide +kernel
theorem dX1_read_60 : decode cX1_read 60 = .ok (.aload_n 0, 1) := by decide +kernel
theorem dX1_read_61 : decode cX1_read 61 = .ok (.iload_n 1, 1) := by decide +kernel
theorem dX1_read_62 : decode cX1_read 62 = .ok (.invokevirtual 52, 3) := by decide +kernel
theorem dX1_read_65 : decode cX1_read 65 = .ok (.ireturn, 1) := by decide +kernel
theorem dX1_commonSigns_0 : decode cX1_commonSigns 0 = .ok (.aload_n 0, 1) := by decide +kernel
theorem dX1_commonSigns_1 : decode cX1_commonSigns 1 = .ok (.getfield 18, 3) := by decide +kernel
theorem dX1_commonSigns_4 : decode cX1_commonSigns 4 = .ok (.aload_n 1, 1) := by decide +kernel
theorem dX1_commonSigns_5 : decode cX1_commonSigns 5 = .ok (.invokevirtual 47, 3) := by decide +kernel
theorem dX1_commonSigns_8 : decode cX1_commonSigns 8 = .ok (.invokestatic 56, 3) := by decide +kernel
theorem dX1_commonSigns_11 : decode cX1_commonSigns 11 = .ok (.istore_n 2, 1) := by decide +kernel
theorem dX1_commonSigns_12 : decode cX1_commonSigns 12 = .ok (.iconst 0, 1) := by decide +kernel
theorem dX1_commonSigns_13 : decode cX1_commonSigns 13 = .ok (.istore_n 3, 1) := by decide +kernel
theorem dX1_commonSigns_14 : decode cX1_commonSigns 14 = .ok (.iload_n 3, 1) := by decide +kernel
theorem dX1_commonSigns_15 : decode cX1_commonSigns 15 = .ok (.iload_n 2, 1) := by decide +kernel
theorem dX1_commonSigns_16 : decode cX1_commonSigns 16 = .ok (.if_icmp .ge 23, 3) := by decide +kernel
theorem dX1_commonSigns_19 : decode cX1_commonSigns 19 = .ok (.aload_n 0, 1) := by decide +kernel
theorem dX1_commonSigns_20 : decode cX1_commonSigns 20 = .ok (.getfield 9, 3) := by decide +kernel
theorem dX1_commonSigns_23 : decode cX1_commonSigns 23 = .ok (.iload_n 3, 1) := by decide +kernel
theorem dX1_commonSigns_24 : decode cX1_commonSigns 24 = .ok (.iaload, 1) := by decide +kernel
theorem dX1_commonSigns_25 : decode cX1_commonSigns 25 = .ok (.aload_n 1, 1) := by decide +kernel
theorem dX1_commonSigns_26 : decode cX1_commonSigns 26 = .ok (.iload_n 3, 1) := by decide +kernel
theorem dX1_commonSigns_27 : decode cX1_commonSigns 27 = .ok (.invokevirtual 62, 3) := by decide +kernel
theorem dX1_commonSigns_30 : decode cX1_commonSigns 30 = .ok (.if_icmp .ne 9, 3) := by decide +kernel
theorem dX1_commonSigns_33 : decode cX1_commonSigns 33 = .ok (.iinc 3 1, 3) := by decide +kernel
theorem dX1_commonSigns_36 : decode cX1_commonSigns 36 = .ok (.goto (-22), 3) := by decide +kernel
theorem dX1_commonSigns_39 : decode cX1_commonSigns 39 = .ok (.iload_n 3, 1) := by decide +kernel
theorem dX1_commonSigns_40 : decode cX1_commonSigns 40 = .ok (.ireturn, 1) := by decide +kernel
theorem dX1_readNumbers_0 : decode cX1_readNumbers 0 = .ok (.iload_n 1, 1) := by decide +kernel
theorem dX1_readNumbers_1 : decode cX1_readNumbers 1 = .ok (.istore_n 2, 1) := by decide +kernel
theorem dX1_readNumbers_2 : decode cX1_readNumbers 2 = .ok (.aload_n 0, 1) := by decide +kernel
theorem dX1_readNumbers_3 : decode cX1_readNumbers 3 = .ok (.getfield 22, 3) := by decide +kernel
theorem dX1_readNumbers_6 : decode cX1_readNumbers 6 = .ok (.invokestatic 66, 3) := by decide +kernel
theorem dX1_readNumbers_9 : decode cX1_readNumbers 9 = .ok (.istore_n 3, 1) := by decide +kernel
theorem dX1_readNumbers_10 : decode cX1_readNumbers 10 = .ok (.iconst 0, 1) := by decide +kernel
theorem dX1_readNumbers_11 : decode cX1_readNumbers 11 = .ok (.istore 4, 2) := by decide +kernel
theorem dX1_readNumbers_13 : decode cX1_readNumbers 13 = .ok (.iload 4, 2) := by decide +kernel
theorem dX1_readNumbers_15 : decode cX1_readNumbers 15 = .ok (.iload_n 3, 1) := by decide +kernel
theorem dX1_readNumbers_16 : decode cX1_readNumbers 16 = .ok (.if_icmp .ge 91, 3) := by decide +kernel
theorem dX1_readNumbers_19 : decode cX1_readNumbers 19 = .ok (.aload_n 0, 1) := by decide +kernel
theorem dX1_readNumbers_20 : decode cX1_readNumbers 20 = .ok (.iload_n 2, 1) := by decide +kernel
theorem dX1_readNumbers_21 : decode cX1_readNumbers 21 = .ok (.bipush 32, 2) := by decide +kernel
theorem dX1_readNumbers_23 : decode cX1_readNumbers 23 = .ok (.invokevirtual 69, 3) := by decide +kernel
theorem dX1_readNumbers_26 : decode cX1_readNumbers 26 = .ok (.ifCond .ne 5, 3) := by decide +kernel
theorem dX1_readNumbers_29 : decode cX1_readNumbers 29 = .ok (.iload_n 2, 1) := by decide +kernel
theorem dX1_readNumbers_30 : decode cX1_readNumbers 30 = .ok (.ireturn, 1) := by decide +kernel
theorem dX1_readNumbers_31 : decode cX1_readNumbers 31 = .ok (.iinc 2 1, 3) := by decide +kernel
theorem dX1_readNumbers_34 : decode cX1_readNumbers 34 = .ok (.aload_n 0, 1) := by decide +kernel
theorem dX1_readNumbers_35 : decode cX1_readNumbers 35 = .ok (.iload_n 2, 1) := by decide +kernel
theorem dX1_readNumbers_36 : decode cX1_readNumbers 36 = .ok (.invokevirtual 73, 3) := by decide +kernel
theorem dX1_readNumbers_39 : decode cX1_readNumbers 39 = .ok (.ifCond .ne 5, 3) := by decide +kernel
theorem dX1_readNumbers_42 : decode cX1_readNumbers 42 = .ok (.iload_n 2, 1) := by decide +kernel
theorem dX1_readNumbers_43 : decode cX1_readNumbers 43 = .ok (.ireturn, 1) := by decide +kernel
theorem dX1_readNumbers_44 : decode cX1_readNumbers 44 = .ok (.aload_n 0, 1) := by decide +kernel
theorem dX1_readNumbers_45 : decode cX1_readNumbers 45 = .ok (.getfield 15, 3) := by decide +kernel
theorem dX1_readNumbers_48 : decode cX1_readNumbers 48 = .ok (.iload 4, 2) := by decide +kernel
theorem dX1_readNumbers_50 : decode cX1_readNumbers 50 = .ok (.aload_n 0, 1) := by decide +kernel
theorem dX1_readNumbers_51 : decode cX1_readNumbers 51 = .ok (.getfield 9, 3) := by decide +kernel
theorem dX1_readNumbers_54 : decode cX1_readNumbers 54 = .ok (.iload_n 2, 1) := by decide +kernel
theorem dX1_readNumbers_55 : decode cX1_readNumbers 55 = .ok (.iaload, 1) := by decide +kernel
theorem dX1_readNumbers_56 : decode cX1_readNumbers 56 = .ok (.bipush 48, 2) := by decide +kernel
theorem dX1_readNumbers_58 : decode cX1_readNumbers 58 = .ok (.isub, 1) := by decide +kernel
theorem dX1_readNumbers_59 : decode cX1_readNumbers 59 = .ok (.iastore, 1) := by decide +kernel
theorem dX1_readNumbers_60 : decode cX1_readNumbers 60 = .ok (.iinc 2 1, 3) := by decide +kernel
theorem dX1_readNumbers_63 : decode cX1_readNumbers 63 = .ok (.aload_n 0, 1) := by decide +kernel
theorem dX1_readNumbers_64 : decode cX1_readNumbers 64 = .ok (.iload_n 2, 1) := by decide +kernel
theorem dX1_readNumbers_65 : decode cX1_readNumbers 65 = .ok (.invokevirtual 73, 3) := by decide +kernel
theorem dX1_readNumbers_68 : decode cX1_readNumbers 68 = .ok (.ifCond .eq 33, 3) := by decide +kernel
theorem dX1_readNumbers_71 : decode cX1_readNumbers 71 = .ok (.aload_n 0, 1) := by decide +kernel
theorem dX1_readNumbers_72 : decode cX1_readNumbers 72 = .ok (.getfield 15, 3) := by decide +kernel
theorem dX1_readNumbers_75 : decode cX1_readNumbers 75 = .ok (.iload 4, 2) := by decide +kernel
theorem dX1_readNumbers_77 : decode cX1_readNumbers 77 = .ok (.aload_n 0, 1) := by decide +kernel
theorem dX1_readNumbers_78 : decode cX1_readNumbers 78 = .ok (.getfield 15, 3) := by decide +kernel
theorem dX1_readNumbers_81 : decode cX1_readNumbers 81 = .ok (.iload 4, 2) := by decide +kernel
theorem dX1_readNumbers_83 : decode cX1_readNumbers 83 = .ok (.iaload, 1) := by decide +kernel
theorem dX1_readNumbers_84 : decode cX1_readNumbers 84 = .ok (.bipush 10, 2) := by decide +kernel
theorem dX1_readNumbers_86 : decode cX1_readNumbers 86 = .ok (.imul, 1) := by decide +kernel
theorem dX1_readNumbers_87 : decode cX1_readNumbers 87 = .ok (.aload_n 0, 1) := by decide +kernel
theorem dX1_readNumbers_88 : decode cX1_readNumbers 88 = .ok (.getfield 9, 3) := by decide +kernel
theorem dX1_readNumbers_91 : decode cX1_readNumbers 91 = .ok (.iload_n 2, 1) := by decide +kernel
theorem dX1_readNumbers_92 : decode cX1_readNumbers 92 = .ok (.iaload, 1) := by decide +kernel
theorem dX1_readNumbers_93 : decode cX1_readNumbers 93 = .ok (.iadd, 1) := by decide +kernel
theorem dX1_readNumbers_94 : decode cX1_readNumbers 94 = .ok (.bipush 48, 2) := by decide +kernel
theorem dX1_readNumbers_96 : decode cX1_readNumbers 96 = .ok (.isub, 1) := by decide +kernel
theorem dX1_readNumbers_97 : decode cX1_readNumbers 97 = .ok (.iastore, 1) := by decide +kernel
theorem dX1_readNumbers_98 : decode cX1_readNumbers 98 = .ok (.iinc 2 1, 3) := by decide +kernel
theorem dX1_readNumbers_101 : decode cX1_readNumbers 101 = .ok (.iinc 4 1, 3) := by decide +kernel
theorem dX1_readNumbers_104 : decode cX1_readNumbers 104 = .ok (.goto (-91), 3) := by decide +kernel
theorem dX1_readNumbers_107 : decode cX1_readNumbers 107 = .ok (.iload_n 2, 1) := by decide +kernel
theorem dX1_readNumbers_108 : decode cX1_readNumbers 108 = .ok (.aload_n 0, 1) := by decide +kernel
theorem dX1_readNumbers_109 : decode cX1_readNumbers 109 = .ok (.getfield 18, 3) := by decide +kernel
theorem dX1_readNumbers_112 : decode cX1_readNumbers 112 = .ok (.if_icmp .ge 7, 3) := by decide +kernel
theorem dX1_readNumbers_115 : decode cX1_readNumbers 115 = .ok (.iload_n 2, 1) := by decide +kernel
theorem dX1_readNumbers_116 : decode cX1_readNumbers 116 = .ok (.goto 5, 3) := by decide +kernel
theorem dX1_readNumbers_119 : decode cX1_readNumbers 119 = .ok (.bipush (-6), 2) := by decide +kernel
theorem dX1_readNumbers_121 : decode cX1_readNumbers 121 = .ok (.ireturn, 1) := by decide +kernel
theorem dX1_isSign_0 : decode cX1_isSign 0 = .ok (.iload_n 1, 1) := by decide +kernel
theorem dX1_isSign_1 : decode cX1_isSign 1 = .ok (.aload_n 0, 1) := by decide +kernel
theorem dX1_isSign_2 : decode cX1_isSign 2 = .ok (.getfield 18, 3) := by decide +kernel
theorem dX1_isSign_5 : decode cX1_isSign 5 = .ok (.if_icmp .ge 17, 3) := by decide +kernel
theorem dX1_isSign_8 : decode cX1_isSign 8 = .ok (.aload_n 0, 1) := by decide +kernel
theorem dX1_isSign_9 : decode cX1_isSign 9 = .ok (.getfield 9, 3) := by decide +kernel
theorem dX1_isSign_12 : decode cX1_isSign 12 = .ok (.iload_n 1, 1) := by decide +kernel
theorem dX1_isSign_13 : decode cX1_isSign 13 = .ok (.iaload, 1) := by decide +kernel
theorem dX1_isSign_14 : decode cX1_isSign 14 = .ok (.iload_n 2, 1) := by decide +kernel
theorem dX1_isSign_15 : decode cX1_isSign 15 = .ok (.if_icmp .ne 7, 3) := by decide +kernel
theorem dX1_isSign_18 : decode cX1_isSign 18 = .ok (.iconst 1, 1) := by decide +kernel
theorem dX1_isSign_19 : decode cX1_isSign 19 = .ok (.goto 4, 3) := by decide +kernel
theorem dX1_isSign_22 : decode cX1_isSign 22 = .ok (.iconst 0, 1) := by decide +kernel
theorem dX1_isSign_23 : decode cX1_isSign 23 = .ok (.ireturn, 1) := by decide +kernel
theorem dX1_isFigure_0 : decode cX1_isFigure 0 = .ok (.iload_n 1, 1) := by decide +kernel
theorem dX1_isFigure_1 : decode cX1_isFigure 1 = .ok (.aload_n 0, 1) := by decide +kernel
theorem dX1_isFigure_2 : decode cX1_isFigure 2 = .ok (.getfield 18, 3) := by decide +kernel
theorem dX1_isFigure_5 : decode cX1_isFigure 5 = .ok (.if_icmp .ge 23, 3) := by decide +kernel
theorem dX1_isFigure_8 : decode cX1_isFigure 8 = .ok (.aload_n 0, 1) := by decide +kernel
theorem dX1_isFigure_9 : decode cX1_isFigure 9 = .ok (.getfield 9, 3) := by decide +kernel
theorem dX1_isFigure_12 : decode cX1_isFigure 12 = .ok (.iload_n 1, 1) := by decide +kernel
theorem dX1_isFigure_13 : decode cX1_isFigure 13 = .ok (.iaload, 1) := by decide +kernel
theorem dX1_isFigure_14 : decode cX1_isFigure 14 = .ok (.bipush 48, 2) := by decide +kernel
theorem dX1_isFigure_16 : decode cX1_isFigure 16 = .ok (.bipush 57, 2) := by decide +kernel
theorem dX1_isFigure_18 : decode cX1_isFigure 18 = .ok (.invokestatic 77, 3) := by decide +kernel
theorem dX1_isFigure_21 : decode cX1_isFigure 21 = .ok (.ifCond .eq 7, 3) := by decide +kernel
theorem dX1_isFigure_24 : decode cX1_isFigure 24 = .ok (.iconst 1, 1) := by decide +kernel
theorem dX1_isFigure_25 : decode cX1_isFigure 25 = .ok (.goto 4, 3) := by decide +kernel
theorem dX1_isFigure_28 : decode cX1_isFigure 28 = .ok (.iconst 0, 1) := by decide +kernel
theorem dX1_isFigure_29 : decode cX1_isFigure 29 = .ok (.ireturn, 1) := by decide +kernel
theorem dX2_init_0 : decode cX2_init 0 = .ok (.aload_n 0, 1) := by decide +kernel
theorem dX2_init_1 : decode cX2_init 1 = .ok (.invokespecial 3, 3) := by decide +kernel
theorem dX2_init_4 : decode cX2_init 4 = .ok (.aload_n 0, 1) := by decide +kernel
theorem dX2_init_5 : decode cX2_init 5 = .ok (.iconst 4, 1) := by decide +kernel
theorem dX2_init_6 : decode cX2_init 6 = .ok (.anewarray 9, 3) := by decide +kernel
theorem dX2_init_9 : decode cX2_init 9 = .ok (.putfield 11, 3) := by decide +kernel
theorem dX2_init_12 : decode cX2_init 12 = .ok (.aload_n 0, 1) := by decide +kernel
theorem dX2_init_13 : decode cX2_init 13 = .ok (.bipush 20, 2) := by decide +kernel
theorem dX2_init_15 : decode cX2_init 15 = .ok (.putfield 17, 3) := by decide +kernel
theorem dX2_init_18 : decode cX2_init 18 = .ok (.aload_n 0, 1) := by decide +kernel
theorem dX2_init_19 : decode cX2_init 19 = .ok (.iconst 1, 1) := by decide +kernel
theorem dX2_init_20 : decode cX2_init 20 = .ok (.putfield 21, 3) := by decide +kernel
theorem dX2_init_23 : decode cX2_init 23 = .ok (.iconst 0, 1) := by decide +kernel
theorem dX2_init_24 : decode cX2_init 24 = .ok (.istore_n 1, 1) := by decide +kernel
theorem dX2_init_25 : decode cX2_init 25 = .ok (.iload_n 1, 1) := by decide +kernel
theorem dX2_init_26 : decode cX2_init 26 = .ok (.iconst 4, 1) := by decide +kernel
theorem dX2_init_27 : decode cX2_init 27 = .ok (.if_icmp .ge 22, 3) := by decide +kernel
theorem dX2_init_30 : decode cX2_init 30 = .ok (.aload_n 0, 1) := by decide +kernel
theorem dX2_init_31 : decode cX2_init 31 = .ok (.getfield 11, 3) := by decide +kernel
theorem dX2_init_34 : decode cX2_init 34 = .ok (.iload_n 1, 1) := by decide +kernel
theorem dX2_init_35 : decode cX2_init 35 = .ok (.new 9, 3) := by decide +kernel
theorem dX2_init_38 : decode cX2_init 38 = .ok (.dup, 1) := by decide +kernel
theorem dX2_init_39 : decode cX2_init 39 = .ok (.invokespecial 24, 3) := by decide +kernel
theorem dX2_init_42 : decode cX2_init 42 = .ok (.aastore, 1) := by decide +kernel
theorem dX2_init_43 : decode cX2_init 43 = .ok (.iinc 1 1, 3) := by decide +kernel
theorem dX2_init_46 : decode cX2_init 46 = .ok (.goto (-21), 3) := by decide +kernel
theorem dX2_init_49 : decode cX2_init 49 = .ok (.return_, 1) := by decide +kernel
theorem dX2_framesInAll_0 : decode cX2_framesInAll 0 = .ok (.iconst 0, 1) := by decide +kernel
theorem dX2_framesInAll_1 : decode cX2_framesInAll 1 = .ok (.istore_n 1, 1) := by decide +kernel
theorem dX2_framesInAll_2 : decode cX2_framesInAll 2 = .ok (.iconst 0, 1) := by decide +kernel
theorem dX2_framesInAll_3 : decode cX2_framesInAll 3 = .ok (.istore_n 2, 1) := by decide +kernel
theorem dX2_framesInAll_4 : decode cX2_framesInAll 4 = .ok (.iload_n 2, 1) := by decide +kernel
theorem dX2_framesInAll_5 : decode cX2_framesInAll 5 = .ok (.iconst 4, 1) := by decide +kernel
theorem dX2_framesInAll_6 : decode cX2_framesInAll 6 = .ok (.if_icmp .ge 21, 3) := by decide +kernel
theorem dX2_framesInAll_9 : decode cX2_framesInAll 9 = .ok (.iload_n 1, 1) := by decide +kernel
theorem dX2_framesInAll_10 : decode cX2_framesInAll 10 = .ok (.aload_n 0, 1) := by decide +kernel
theorem dX2_framesInAll_11 : decode cX2_framesInAll 11 = .ok (.getfield 11, 3) := by decide +kernel
theorem dX2_framesInAll_14 : decode cX2_framesInAll 14 = .ok (.iload_n 2, 1) := by decide +kernel
theorem dX2_framesInAll_15 : decode cX2_framesInAll 15 = .ok (.aaload, 1) := by decide +kernel
theorem dX2_framesInAll_16 : decode cX2_framesInAll 16 = .ok (.getfield 25, 3) := by decide +kernel
theorem dX2_framesInAll_19 : decode cX2_framesInAll 19 = .ok (.iadd, 1) := by decide +kernel
theorem dX2_framesInAll_20 : decode cX2_framesInAll 20 = .ok (.istore_n 1, 1) := by decide +kernel
theorem dX2_framesInAll_21 : decode cX2_framesInAll 21 = .ok (.iinc 2 1, 3) := by decide +kernel
theorem dX2_framesInAll_24 : decode cX2_framesInAll 24 = .ok (.goto (-20), 3) := by decide +kernel
theorem dX2_framesInAll_27 : decode cX2_framesInAll 27 = .ok (.iload_n 1, 1) := by decide +kernel
theorem dX2_framesInAll_28 : decode cX2_framesInAll 28 = .ok (.ireturn, 1) := by decide +kernel
theorem dX2_copyFrom_0 : decode cX2_copyFrom 0 = .ok (.iconst 0, 1) := by decide +kernel
theorem dX2_copyFrom_1 : decode cX2_copyFrom 1 = .ok (.istore_n 2, 1) := by decide +kernel
theorem dX2_copyFrom_2 : decode cX2_copyFrom 2 = .ok (.iload_n 2, 1) := by decide +kernel
theorem dX2_copyFrom_3 : decode cX2_copyFrom 3 = .ok (.iconst 4, 1) := by decide +kernel
theorem dX2_copyFrom_4 : decode cX2_copyFrom 4 = .ok (.if_icmp .ge 24, 3) := by decide +kernel
theorem dX2_copyFrom_7 : decode cX2_copyFrom 7 = .ok (.aload_n 0, 1) := by decide +kernel
theorem dX2_copyFrom_8 : decode cX2_copyFrom 8 = .ok (.getfield 11, 3) := by decide +kernel
theorem dX2_copyFrom_11 : decode cX2_copyFrom 11 = .ok (.iload_n 2, 1) := by decide +kernel
theorem dX2_copyFrom_12 : decode cX2_copyFrom 12 = .ok (.aaload, 1) := by decide +kernel
theorem dX2_copyFrom_13 : decode cX2_copyFrom 13 = .ok (.aload_n 1, 1) := by decide +kernel
theorem dX2_copyFrom_14 : decode cX2_copyFrom 14 = .ok (.getfield 11, 3) := by decide +kernel
theorem dX2_copyFrom_17 : decode cX2_copyFrom 17 = .ok (.iload_n 2, 1) := by decide +kernel
theorem dX2_copyFrom_18 : decode cX2_copyFrom 18 = .ok (.aaload, 1) := by decide +kernel
theorem dX2_copyFrom_19 : decode cX2_copyFrom 19 = .ok (.invokevirtual 28, 3) := by decide +kernel
theorem dX2_copyFrom_22 : decode cX2_copyFrom 22 = .ok (.iinc 2 1, 3) := by decide +kernel
theorem dX2_copyFrom_25 : decode cX2_copyFrom 25 = .ok (.goto (-23), 3) := by decide +kernel
theorem dX2_copyFrom_28 : decode cX2_copyFrom 28 = .ok (.aload_n 0, 1) := by decide +kernel
theorem dX2_copyFrom_29 : decode cX2_copyFrom 29 = .ok (.aload_n 1, 1) := by decide +kernel
theorem dX2_copyFrom_30 : decode cX2_copyFrom 30 = .ok (.getfield 17, 3) := by decide +kernel
theorem dX2_copyFrom_33 : decode cX2_copyFrom 33 = .ok (.putfield 17, 3) := by decide +kernel
theorem dX2_copyFrom_36 : decode cX2_copyFrom 36 = .ok (.aload_n 0, 1) := by decide +kernel
theorem dX2_copyFrom_37 : decode cX2_copyFrom 37 = .ok (.aload_n 1, 1) := by decide +kernel
theorem dX2_copyFrom_38 : decode cX2_copyFrom 38 = .ok (.getfield 21, 3) := by decide +kernel
theorem dX2_copyFrom_41 : decode cX2_copyFrom 41 = .ok (.putfield 21, 3) := by decide +kernel
theorem dX2_copyFrom_44 : decode cX2_copyFrom 44 = .ok (.return_, 1) := by decide +kernel
theorem dX3_init_0 : decode cX3_init 0 = .ok (.aload_n 0, 1) := by decide +kernel
theorem dX3_init_1 : decode cX3_init 1 = .ok (.invokespecial 3, 3) := by decide +kernel
theorem dX3_init_4 : decode cX3_init 4 = .ok (.aload_n 0, 1) := by decide +kernel
theorem dX3_init_5 : decode cX3_init 5 = .ok (.bipush 10, 2) := by decide +kernel
theorem dX3_init_7 : decode cX3_init 7 = .ok (.newarray .int, 2) := by decide +kernel
theorem dX3_init_9 : decode cX3_init 9 = .ok (.putfield 9, 3) := by decide +kernel
theorem dX3_init_12 : decode cX3_init 12 = .ok (.aload_n 0, 1) := by decide +kernel
theorem dX3_init_13 : decode cX3_init 13 = .ok (.bipush 10, 2) := by decide +kernel
theorem dX3_init_15 : decode cX3_init 15 = .ok (.newarray .int, 2) := by decide +kernel
theorem dX3_init_17 : decode cX3_init 17 = .ok (.putfield 15, 3) := by decide +kernel
theorem dX3_init_20 : decode cX3_init 20 = .ok (.aload_n 0, 1) := by decide +kernel
theorem dX3_init_21 : decode cX3_init 21 = .ok (.iconst 0, 1) := by decide +kernel
theorem dX3_init_22 : decode cX3_init 22 = .ok (.putfield 18, 3) := by decide +kernel
theorem dX3_init_25 : decode cX3_init 25 = .ok (.aload_n 0, 1) := by decide +kernel
theorem dX3_init_26 : decode cX3_init 26 = .ok (.bipush 10, 2) := by decide +kernel
theorem dX3_init_28 : decode cX3_init 28 = .ok (.putfield 22, 3) := by decide +kernel
theorem dX3_init_31 : decode cX3_init 31 = .ok (.aload_n 0, 1) := by decide +kernel
theorem dX3_init_32 : decode cX3_init 32 = .ok (.iconst 0, 1) := by decide +kernel
theorem dX3_init_33 : decode cX3_init 33 = .ok (.putfield 25, 3) := by decide +kernel
theorem dX3_init_36 : decode cX3_init 36 = .ok (.return_, 1) := by decide +kernel
theorem dX3_hasFrame_0 : decode cX3_hasFrame 0 = .ok (.iload_n 1, 1) := by decide +kernel
theorem dX3_hasFrame_1 : decode cX3_hasFrame 1 = .ok (.iconst 0, 1) := by decide +kernel
theorem dX3_hasFrame_2 : decode cX3_hasFrame 2 = .ok (.aload_n 0, 1) := by decide +kernel
theorem dX3_hasFrame_3 : decode cX3_hasFrame 3 = .ok (.getfield 18, 3) := by decide +kernel
theorem dX3_hasFrame_6 : decode cX3_hasFrame 6 = .ok (.iconst 1, 1) := by decide +kernel
theorem dX3_hasFrame_7 : decode cX3_hasFrame 7 = .ok (.isub, 1) := by decide +kernel
theorem dX3_hasFrame_8 : decode cX3_hasFrame 8 = .ok (.invokestatic 28, 3) := by decide +kernel
theorem dX3_hasFrame_11 : decode cX3_hasFrame 11 = .ok (.ireturn, 1) := by decide +kernel
theorem dX3_add_0 : decode cX3_add 0 = .ok (.aload_n 0, 1) := by decide +kernel
theorem dX3_add_1 : decode cX3_add 1 = .ok (.getfield 18, 3) := by decide +kernel
theorem dX3_add_4 : decode cX3_add 4 = .ok (.bipush 10, 2) := by decide +kernel
theorem dX3_add_6 : decode cX3_add 6 = .ok (.if_icmp .lt 5, 3) := by decide +kernel
theorem dX3_add_9 : decode cX3_add 9 = .ok (.iconst 0, 1) := by decide +kernel
theorem dX3_add_10 : decode cX3_add 10 = .ok (.ireturn, 1) := by decide +kernel
theorem dX3_add_11 : decode cX3_add 11 = .ok (.aload_n 0, 1) := by decide +kernel
theorem dX3_add_12 : decode cX3_add 12 = .ok (.getfield 9, 3) := by decide +kernel
theorem dX3_add_15 : decode cX3_add 15 = .ok (.aload_n 0, 1) := by decide +kernel
theorem dX3_add_16 : decode cX3_add 16 = .ok (.getfield 18, 3) := by decide +kernel
theorem dX3_add_19 : decode cX3_add 19 = .ok (.iload_n 1, 1) := by decide +kernel
theorem dX3_add_20 : decode cX3_add 20 = .ok (.iastore, 1) := by decide +kernel
theorem dX3_add_21 : decode cX3_add 21 = .ok (.aload_n 0, 1) := by decide +kernel
theorem dX3_add_22 : decode cX3_add 22 = .ok (.getfield 15, 3) := by decide +kernel
theorem dX3_add_25 : decode cX3_add 25 = .ok (.aload_n 0, 1) := by decide +kernel
theorem dX3_add_26 : decode cX3_add 26 = .ok (.getfield 18, 3) := by decide +kernel
theorem dX3_add_29 : decode cX3_add 29 = .ok (.iload_n 2, 1) := by decide +kernel
theorem dX3_add_30 : decode cX3_add 30 = .ok (.iastore, 1) := by decide +kernel
theorem dX3_add_31 : decode cX3_add 31 = .ok (.aload_n 0, 1) := by decide +kernel
theorem dX3_add_32 : decode cX3_add 32 = .ok (.dup, 1) := by decide +kernel
theorem dX3_add_33 : decode cX3_add 33 = .ok (.getfield 18, 3) := by decide +kernel
theorem dX3_add_36 : decode cX3_add 36 = .ok (.iconst 1, 1) := by decide +kernel
theorem dX3_add_37 : decode cX3_add 37 = .ok (.iadd, 1) := by decide +kernel
theorem dX3_add_38 : decode cX3_add 38 = .ok (.putfield 18, 3) := by decide +kernel
theorem dX3_add_41 : decode cX3_add 41 = .ok (.iconst 1, 1) := by decide +kernel
theorem dX3_add_42 : decode cX3_add 42 = .ok (.ireturn, 1) := by decide +kernel
theorem dX3_lastDue_0 : decode cX3_lastDue 0 = .ok (.aload_n 0, 1) := by decide +kernel
theorem dX3_lastDue_1 : decode cX3_lastDue 1 = .ok (.getfield 18, 3) := by decide +kernel
theorem dX3_lastDue_4 : decode cX3_lastDue 4 = .ok (.ifCond .le 17, 3) := by decide +kernel
theorem dX3_lastDue_7 : decode cX3_lastDue 7 = .ok (.aload_n 0, 1) := by decide +kernel
theorem dX3_lastDue_8 : decode cX3_lastDue 8 = .ok (.getfield 15, 3) := by decide +kernel
theorem dX3_lastDue_11 : decode cX3_lastDue 11 = .ok (.aload_n 0, 1) := by decide +kernel
theorem dX3_lastDue_12 : decode cX3_lastDue 12 = .ok (.getfield 18, 3) := by decide +kernel
theorem dX3_lastDue_15 : decode cX3_lastDue 15 = .ok (.iconst 1, 1) := by decide +kernel
theorem dX3_lastDue_16 : decode cX3_lastDue 16 = .ok (.isub, 1) := by decide +kernel
theorem dX3_lastDue_17 : decode cX3_lastDue 17 = .ok (.iaload, 1) := by decide +kernel
theorem dX3_lastDue_18 : decode cX3_lastDue 18 = .ok (.goto 5, 3) := by decide +kernel
theorem dX3_lastDue_21 : decode cX3_lastDue 21 = .ok (.bipush (-6), 2) := by decide +kernel
theorem dX3_lastDue_23 : decode cX3_lastDue 23 = .ok (.ireturn, 1) := by decide +kernel
theorem dX3_packets_0 : decode cX3_packets 0 = .ok (.iconst 0, 1) := by decide +kernel
theorem dX3_packets_1 : decode cX3_packets 1 = .ok (.istore_n 1, 1) := by decide +kernel
theorem dX3_packets_2 : decode cX3_packets 2 = .ok (.iconst 0, 1) := by decide +kernel
theorem dX3_packets_3 : decode cX3_packets 3 = .ok (.istore_n 2, 1) := by decide +kernel
theorem dX3_packets_4 : decode cX3_packets 4 = .ok (.iload_n 2, 1) := by decide +kernel
theorem dX3_packets_5 : decode cX3_packets 5 = .ok (.aload_n 0, 1) := by decide +kernel
theorem dX3_packets_6 : decode cX3_packets 6 = .ok (.getfield 18, 3) := by decide +kernel
theorem dX3_packets_9 : decode cX3_packets 9 = .ok (.if_icmp .ge 18, 3) := by decide +kernel
theorem dX3_packets_12 : decode cX3_packets 12 = .ok (.iload_n 1, 1) := by decide +kernel
theorem dX3_packets_13 : decode cX3_packets 13 = .ok (.aload_n 0, 1) := by decide +kernel
theorem dX3_packets_14 : decode cX3_packets 14 = .ok (.getfield 9, 3) := by decide +kernel
theorem dX3_packets_17 : decode cX3_packets 17 = .ok (.iload_n 2, 1) := by decide +kernel
theorem dX3_packets_18 : decode cX3_packets 18 = .ok (.iaload, 1) := by decide +kernel
theorem dX3_packets_19 : decode cX3_packets 19 = .ok (.iadd, 1) := by decide +kernel
theorem dX3_packets_20 : decode cX3_packets 20 = .ok (.istore_n 1, 1) := by decide +kernel
theorem dX3_packets_21 : decode cX3_packets 21 = .ok (.iinc 2 1, 3) := by decide +kernel
theorem dX3_packets_24 : decode cX3_packets 24 = .ok (.goto (-20), 3) := by decide +kernel
theorem dX3_packets_27 : decode cX3_packets 27 = .ok (.iload_n 1, 1) := by decide +kernel
theorem dX3_packets_28 : decode cX3_packets 28 = .ok (.ireturn, 1) := by decide +kernel
theorem dX3_framesBefore_0 : decode cX3_framesBefore 0 = .ok (.iconst 0, 1) := by decide +kernel
theorem dX3_framesBefore_1 : decode cX3_framesBefore 1 = .ok (.istore_n 2, 1) := by decide +kernel
theorem dX3_framesBefore_2 : decode cX3_framesBefore 2 = .ok (.iload_n 2, 1) := by decide +kernel
theorem dX3_framesBefore_3 : decode cX3_framesBefore 3 = .ok (.aload_n 0, 1) := by decide +kernel
theorem dX3_framesBefore_4 : decode cX3_framesBefore 4 = .ok (.getfield 18, 3) := by decide +kernel
theorem dX3_framesBefore_7 : decode cX3_framesBefore 7 = .ok (.if_icmp .ge 19, 3) := by decide +kernel
theorem dX3_framesBefore_10 : decode cX3_framesBefore 10 = .ok (.aload_n 0, 1) := by decide +kernel
theorem dX3_framesBefore_11 : decode cX3_framesBefore 11 = .ok (.getfield 15, 3) := by decide +kernel
theorem dX3_framesBefore_14 : decode cX3_framesBefore 14 = .ok (.iload_n 2, 1) := by decide +kernel
theorem dX3_framesBefore_15 : decode cX3_framesBefore 15 = .ok (.iaload, 1) := by decide +kernel
theorem dX3_framesBefore_16 : decode cX3_framesBefore 16 = .ok (.iload_n 1, 1) := by decide +kernel
theorem dX3_framesBefore_17 : decode cX3_framesBefore 17 = .ok (.if_icmp .ge 9, 3) := by decide +kernel
theorem dX3_framesBefore_20 : decode cX3_framesBefore 20 = .ok (.iinc 2 1, 3) := by decide +kernel
theorem dX3_framesBefore_23 : decode cX3_framesBefore 23 = .ok (.goto (-21), 3) := by decide +kernel
theorem dX3_framesBefore_26 : decode cX3_framesBefore 26 = .ok (.iload_n 2, 1) := by decide +kernel
theorem dX3_framesBefore_27 : decode cX3_framesBefore 27 = .ok (.ireturn, 1) := by decide +kernel
theorem dX3_copyFrom_0 : decode cX3_copyFrom 0 = .ok (.aload_n 1, 1) := by decide +kernel
theorem dX3_copyFrom_1 : decode cX3_copyFrom 1 = .ok (.getfield 9, 3) := by decide +kernel
theorem dX3_copyFrom_4 : decode cX3_copyFrom 4 = .ok (.iconst 0, 1) := by decide +kernel
theorem dX3_copyFrom_5 : decode cX3_copyFrom 5 = .ok (.aload_n 0, 1) := by decide +kernel
theorem dX3_copyFrom_6 : decode cX3_copyFrom 6 = .ok (.getfield 9, 3) := by decide +kernel
theorem dX3_copyFrom_9 : decode cX3_copyFrom 9 = .ok (.iconst 0, 1) := by decide +kernel
theorem dX3_copyFrom_10 : decode cX3_copyFrom 10 = .ok (.bipush 10, 2) := by decide +kernel
theorem dX3_copyFrom_12 : decode cX3_copyFrom 12 = .ok (.invokestatic 32, 3) := by decide +kernel
theorem dX3_copyFrom_15 : decode cX3_copyFrom 15 = .ok (.aload_n 1, 1) := by decide +kernel
theorem dX3_copyFrom_16 : decode cX3_copyFrom 16 = .ok (.getfield 15, 3) := by decide +kernel
theorem dX3_copyFrom_19 : decode cX3_copyFrom 19 = .ok (.iconst 0, 1) := by decide +kernel
theorem dX3_copyFrom_20 : decode cX3_copyFrom 20 = .ok (.aload_n 0, 1) := by decide +kernel
theorem dX3_copyFrom_21 : decode cX3_copyFrom 21 = .ok (.getfield 15, 3) := by decide +kernel
theorem dX3_copyFrom_24 : decode cX3_copyFrom 24 = .ok (.iconst 0, 1) := by decide +kernel
theorem dX3_copyFrom_25 : decode cX3_copyFrom 25 = .ok (.bipush 10, 2) := by decide +kernel
theorem dX3_copyFrom_27 : decode cX3_copyFrom 27 = .ok (.invokestatic 32, 3) := by decide +kernel
theorem dX3_copyFrom_30 : decode cX3_copyFrom 30 = .ok (.aload_n 0, 1) := by decide +kernel
theorem dX3_copyFrom_31 : decode cX3_copyFrom 31 = .ok (.aload_n 1, 1) := by decide +kernel
theorem dX3_copyFrom_32 : decode cX3_copyFrom 32 = .ok (.getfield 18, 3) := by decide +kernel
theorem dX3_copyFrom_35 : decode cX3_copyFrom 35 = .ok (.putfield 18, 3) := by decide +kernel
theorem dX3_copyFrom_38 : decode cX3_copyFrom 38 = .ok (.aload_n 0, 1) := by decide +kernel
theorem dX3_copyFrom_39 : decode cX3_copyFrom 39 = .ok (.aload_n 1, 1) := by decide +kernel
theorem dX3_copyFrom_40 : decode cX3_copyFrom 40 = .ok (.getfield 22, 3) := by decide +kernel
theorem dX3_copyFrom_43 : decode cX3_copyFrom 43 = .ok (.putfield 22, 3) := by decide +kernel
theorem dX3_copyFrom_46 : decode cX3_copyFrom 46 = .ok (.aload_n 0, 1) := by decide +kernel
theorem dX3_copyFrom_47 : decode cX3_copyFrom 47 = .ok (.aload_n 1, 1) := by decide +kernel
theorem dX3_copyFrom_48 : decode cX3_copyFrom 48 = .ok (.getfield 25, 3) := by decide +kernel
theorem dX3_copyFrom_51 : decode cX3_copyFrom 51 = .ok (.putfield 25, 3) := by decide +kernel
theorem dX3_copyFrom_54 : decode cX3_copyFrom 54 = .ok (.return_, 1) := by decide +kernel
theorem dX4_init_0 : decode cX4_init 0 = .ok (.aload_n 0, 1) := by decide +kernel
theorem dX4_init_1 : decode cX4_init 1 = .ok (.invokespecial 3, 3) := by decide +kernel
theorem dX4_init_4 : decode cX4_init 4 = .ok (.aload_n 0, 1) := by decide +kernel
theorem dX4_init_5 : decode cX4_init 5 = .ok (.sipush 400, 3) := by decide +kernel
theorem dX4_init_8 : decode cX4_init 8 = .ok (.newarray .int, 2) := by decide +kernel
theorem dX4_init_10 : decode cX4_init 10 = .ok (.putfield 9, 3) := by decide +kernel
theorem dX4_init_13 : decode cX4_init 13 = .ok (.aload_n 0, 1) := by decide +kernel
theorem dX4_init_14 : decode cX4_init 14 = .ok (.sipush 400, 3) := by decide +kernel
theorem dX4_init_17 : decode cX4_init 17 = .ok (.newarray .int, 2) := by decide +kernel
theorem dX4_init_19 : decode cX4_init 19 = .ok (.putfield 15, 3) := by decide +kernel
theorem dX4_init_22 : decode cX4_init 22 = .ok (.aload_n 0, 1) := by decide +kernel
theorem dX4_init_23 : decode cX4_init 23 = .ok (.sipush 400, 3) := by decide +kernel
theorem dX4_init_26 : decode cX4_init 26 = .ok (.newarray .int, 2) := by decide +kernel
theorem dX4_init_28 : decode cX4_init 28 = .ok (.putfield 18, 3) := by decide +kernel
theorem dX4_init_31 : decode cX4_init 31 = .ok (.aload_n 0, 1) := by decide +kernel
theorem dX4_init_32 : decode cX4_init 32 = .ok (.sipush 400, 3) := by decide +kernel
theorem dX4_init_35 : decode cX4_init 35 = .ok (.newarray .int, 2) := by decide +kernel
theorem dX4_init_37 : decode cX4_init 37 = .ok (.putfield 21, 3) := by decide +kernel
theorem dX4_init_40 : decode cX4_init 40 = .ok (.aload_n 0, 1) := by decide +kernel
theorem dX4_init_41 : decode cX4_init 41 = .ok (.iconst 4, 1) := by decide +kernel
theorem dX4_init_42 : decode cX4_init 42 = .ok (.anewarray 24, 3) := by decide +kernel
theorem dX4_init_45 : decode cX4_init 45 = .ok (.putfield 26, 3) := by decide +kernel
theorem dX4_init_48 : decode cX4_init 48 = .ok (.aload_n 0, 1) := by decide +kernel
theorem dX4_init_49 : decode cX4_init 49 = .ok (.iconst 4, 1) := by decide +kernel
theorem dX4_init_50 : decode cX4_init 50 = .ok (.newarray .int, 2) := by decide +kernel
theorem dX4_init_52 : decode cX4_init 52 = .ok (.putfield 30, 3) := by decide +kernel
theorem dX4_init_55 : decode cX4_init 55 = .ok (.aload_n 0, 1) := by decide +kernel
theorem dX4_init_56 : decode cX4_init 56 = .ok (.bipush (-6), 2) := by decide +kernel
theorem dX4_init_58 : decode cX4_init 58 = .ok (.putfield 33, 3) := by decide +kernel
theorem dX4_init_61 : decode cX4_init 61 = .ok (.aload_n 0, 1) := by decide +kernel
theorem dX4_init_62 : decode cX4_init 62 = .ok (.iconst 0, 1) := by decide +kernel
theorem dX4_init_63 : decode cX4_init 63 = .ok (.putfield 37, 3) := by decide +kernel
theorem dX4_init_66 : decode cX4_init 66 = .ok (.aload_n 0, 1) := by decide +kernel
theorem dX4_init_67 : decode cX4_init 67 = .ok (.iconst 0, 1) := by decide +kernel
theorem dX4_init_68 : decode cX4_init 68 = .ok (.putfield 40, 3) := by decide +kernel
theorem dX4_init_71 : decode cX4_init 71 = .ok (.aload_n 0, 1) := by decide +kernel
theorem dX4_init_72 : decode cX4_init 72 = .ok (.iconst 0, 1) := by decide +kernel
theorem dX4_init_73 : decode cX4_init 73 = .ok (.putfield 43, 3) := by decide +kernel
theorem dX4_init_76 : decode cX4_init 76 = .ok (.aload_n 0, 1) := by decide +kernel
theorem dX4_init_77 : decode cX4_init 77 = .ok (.bipush (-6), 2) := by decide +kernel
theorem dX4_init_79 : decode cX4_init 79 = .ok (.putfield 46, 3) := by decide +kernel
theorem dX4_init_82 : decode cX4_init 82 = .ok (.iconst 0, 1) := by decide +kernel
theorem dX4_init_83 : decode cX4_init 83 = .ok (.istore_n 1, 1) := by decide +kernel
theorem dX4_init_84 : decode cX4_init 84 = .ok (.iload_n 1, 1) := by decide +kernel
theorem dX4_init_85 : decode cX4_init 85 = .ok (.iconst 4, 1) := by decide +kernel
theorem dX4_init_86 : decode cX4_init 86 = .ok (.if_icmp .ge 22, 3) := by decide +kernel
theorem dX4_init_89 : decode cX4_init 89 = .ok (.aload_n 0, 1) := by decide +kernel
theorem dX4_init_90 : decode cX4_init 90 = .ok (.getfield 26, 3) := by decide +kernel
theorem dX4_init_93 : decode cX4_init 93 = .ok (.iload_n 1, 1) := by decide +kernel
theorem dX4_init_94 : decode cX4_init 94 = .ok (.new 24, 3) := by decide +kernel
theorem dX4_init_97 : decode cX4_init 97 = .ok (.dup, 1) := by decide +kernel
theorem dX4_init_98 : decode cX4_init 98 = .ok (.invokespecial 49, 3) := by decide +kernel
theorem dX4_init_101 : decode cX4_init 101 = .ok (.aastore, 1) := by decide +kernel
theorem dX4_init_102 : decode cX4_init 102 = .ok (.iinc 1 1, 3) := by decide +kernel
theorem dX4_init_105 : decode cX4_init 105 = .ok (.goto (-21), 3) := by decide +kernel
theorem dX4_init_108 : decode cX4_init 108 = .ok (.return_, 1) := by decide +kernel
theorem dX4_slot_0 : decode cX4_slot 0 = .ok (.iload_n 0, 1) := by decide +kernel
theorem dX4_slot_1 : decode cX4_slot 1 = .ok (.iconst 4, 1) := by decide +kernel
theorem dX4_slot_2 : decode cX4_slot 2 = .ok (.imul, 1) := by decide +kernel
theorem dX4_slot_3 : decode cX4_slot 3 = .ok (.iload_n 1, 1) := by decide +kernel
theorem dX4_slot_4 : decode cX4_slot 4 = .ok (.iadd, 1) := by decide +kernel
theorem dX4_slot_5 : decode cX4_slot 5 = .ok (.ireturn, 1) := by decide +kernel
theorem dX4_sentOfKind_0 : decode cX4_sentOfKind 0 = .ok (.iload_n 1, 1) := by decide +kernel
theorem dX4_sentOfKind_1 : decode cX4_sentOfKind 1 = .ok (.iconst 0, 1) := by decide +kernel
theorem dX4_sentOfKind_2 : decode cX4_sentOfKind 2 = .ok (.iconst 3, 1) := by decide +kernel
theorem dX4_sentOfKind_3 : decode cX4_sentOfKind 3 = .ok (.invokestatic 50, 3) := by decide +kernel
theorem dX4_sentOfKind_6 : decode cX4_sentOfKind 6 = .ok (.ifCond .eq 12, 3) := by decide +kernel
theorem dX4_sentOfKind_9 : decode cX4_sentOfKind 9 = .ok (.aload_n 0, 1) := by decide +kernel
theorem dX4_sentOfKind_10 : decode cX4_sentOfKind 10 = .ok (.getfield 30, 3) := by decide +kernel
theorem dX4_sentOfKind_13 : decode cX4_sentOfKind 13 = .ok (.iload_n 1, 1) := by decide +kernel
theorem dX4_sentOfKind_14 : decode cX4_sentOfKind 14 = .ok (.iaload, 1) := by decide +kernel
theorem dX4_sentOfKind_15 : decode cX4_sentOfKind 15 = .ok (.goto 4, 3) := by decide +kernel
theorem dX4_sentOfKind_18 : decode cX4_sentOfKind 18 = .ok (.iconst 0, 1) := by decide +kernel
theorem dX4_sentOfKind_19 : decode cX4_sentOfKind 19 = .ok (.ireturn, 1) := by decide +kernel
theorem dX4_weaveWhole_0 : decode cX4_weaveWhole 0 = .ok (.aload_n 0, 1) := by decide +kernel
theorem dX4_weaveWhole_1 : decode cX4_weaveWhole 1 = .ok (.invokevirtual 54, 3) := by decide +kernel
theorem dX4_weaveWhole_4 : decode cX4_weaveWhole 4 = .ok (.iconst 0, 1) := by decide +kernel
theorem dX4_weaveWhole_5 : decode cX4_weaveWhole 5 = .ok (.istore_n 2, 1) := by decide +kernel
theorem dX4_weaveWhole_6 : decode cX4_weaveWhole 6 = .ok (.iload_n 2, 1) := by decide +kernel
theorem dX4_weaveWhole_7 : decode cX4_weaveWhole 7 = .ok (.bipush 100, 2) := by decide +kernel
theorem dX4_weaveWhole_9 : decode cX4_weaveWhole 9 = .ok (.if_icmp .ge 15, 3) := by decide +kernel
theorem dX4_weaveWhole_12 : decode cX4_weaveWhole 12 = .ok (.aload_n 0, 1) := by decide +kernel
theorem dX4_weaveWhole_13 : decode cX4_weaveWhole 13 = .ok (.aload_n 1, 1) := by decide +kernel
theorem dX4_weaveWhole_14 : decode cX4_weaveWhole 14 = .ok (.iload_n 2, 1) := by decide +kernel
theorem dX4_weaveWhole_15 : decode cX4_weaveWhole 15 = .ok (.invokevirtual 57, 3) := by decide +kernel
theorem dX4_weaveWhole_18 : decode cX4_weaveWhole 18 = .ok (.iinc 2 1, 3) := by decide +kernel
theorem dX4_weaveWhole_21 : decode cX4_weaveWhole 21 = .ok (.goto (-15), 3) := by decide +kernel
theorem dX4_weaveWhole_24 : decode cX4_weaveWhole 24 = .ok (.return_, 1) := by decide +kernel
theorem dX4_showsAll_0 : decode cX4_showsAll 0 = .ok (.aload_n 0, 1) := by decide +kernel
theorem dX4_showsAll_1 : decode cX4_showsAll 1 = .ok (.invokevirtual 54, 3) := by decide +kernel
theorem dX4_showsAll_4 : decode cX4_showsAll 4 = .ok (.iconst 0, 1) := by decide +kernel
theorem dX4_showsAll_5 : decode cX4_showsAll 5 = .ok (.istore_n 2, 1) := by decide +kernel
theorem dX4_showsAll_6 : decode cX4_showsAll 6 = .ok (.iload_n 2, 1) := by decide +kernel
theorem dX4_showsAll_7 : decode cX4_showsAll 7 = .ok (.bipush 100, 2) := by decide +kernel
theorem dX4_showsAll_9 : decode cX4_showsAll 9 = .ok (.if_icmp .ge 22, 3) := by decide +kernel
theorem dX4_showsAll_12 : decode cX4_showsAll 12 = .ok (.aload_n 0, 1) := by decide +kernel
theorem dX4_showsAll_13 : decode cX4_showsAll 13 = .ok (.getfield 40, 3) := by decide +kernel
theorem dX4_showsAll_16 : decode cX4_showsAll 16 = .ok (.ifCond .ne 15, 3) := by decide +kernel
theorem dX4_showsAll_19 : decode cX4_showsAll 19 = .ok (.aload_n 0, 1) := by decide +kernel
theorem dX4_showsAll_20 : decode cX4_showsAll 20 = .ok (.aload_n 1, 1) := by decide +kernel
theorem dX4_showsAll_21 : decode cX4_showsAll 21 = .ok (.iload_n 2, 1) := by decide +kernel
theorem dX4_showsAll_22 : decode cX4_showsAll 22 = .ok (.invokevirtual 57, 3) := by decide +kernel
theorem dX4_showsAll_25 : decode cX4_showsAll 25 = .ok (.iinc 2 1, 3) := by decide +kernel
theorem dX4_showsAll_28 : decode cX4_showsAll 28 = .ok (.goto (-22), 3) := by decide +kernel
theorem dX4_showsAll_31 : decode cX4_showsAll 31 = .ok (.aload_n 0, 1) := by decide +kernel
theorem dX4_showsAll_32 : decode cX4_showsAll 32 = .ok (.getfield 40, 3) := by decide +kernel
theorem dX4_showsAll_35 : decode cX4_showsAll 35 = .ok (.ifCond .ne 7, 3) := by decide +kernel
theorem dX4_showsAll_38 : decode cX4_showsAll 38 = .ok (.iconst 1, 1) := by decide +kernel
theorem dX4_showsAll_39 : decode cX4_showsAll 39 = .ok (.goto 4, 3) := by decide +kernel
theorem dX4_showsAll_42 : decode cX4_showsAll 42 = .ok (.iconst 0, 1) := by decide +kernel
theorem dX4_showsAll_43 : decode cX4_showsAll 43 = .ok (.ireturn, 1) := by decide +kernel
theorem dX4_begin_0 : decode cX4_begin 0 = .ok (.iconst 0, 1) := by decide +kernel
theorem dX4_begin_1 : decode cX4_begin 1 = .ok (.istore_n 1, 1) := by decide +kernel
theorem dX4_begin_2 : decode cX4_begin 2 = .ok (.iload_n 1, 1) := by decide +kernel
theorem dX4_begin_3 : decode cX4_begin 3 = .ok (.iconst 4, 1) := by decide +kernel
theorem dX4_begin_4 : decode cX4_begin 4 = .ok (.if_icmp .ge 18, 3) := by decide +kernel
theorem dX4_begin_7 : decode cX4_begin 7 = .ok (.aload_n 0, 1) := by decide +kernel
theorem dX4_begin_8 : decode cX4_begin 8 = .ok (.getfield 26, 3) := by decide +kernel
theorem dX4_begin_11 : decode cX4_begin 11 = .ok (.iload_n 1, 1) := by decide +kernel
theorem dX4_begin_12 : decode cX4_begin 12 = .ok (.aaload, 1) := by decide +kernel
theorem dX4_begin_13 : decode cX4_begin 13 = .ok (.invokevirtual 61, 3) := by decide +kernel
theorem dX4_begin_16 : decode cX4_begin 16 = .ok (.iinc 1 1, 3) := by decide +kernel
theorem dX4_begin_19 : decode cX4_begin 19 = .ok (.goto (-17), 3) := by decide +kernel
theorem dX4_begin_22 : decode cX4_begin 22 = .ok (.aload_n 0, 1) := by decide +kernel
theorem dX4_begin_23 : decode cX4_begin 23 = .ok (.getfield 30, 3) := by decide +kernel
theorem dX4_begin_26 : decode cX4_begin 26 = .ok (.iconst 0, 1) := by decide +kernel
theorem dX4_begin_27 : decode cX4_begin 27 = .ok (.invokestatic 62, 3) := by decide +kernel
theorem dX4_begin_30 : decode cX4_begin 30 = .ok (.aload_n 0, 1) := by decide +kernel
theorem dX4_begin_31 : decode cX4_begin 31 = .ok (.bipush (-6), 2) := by decide +kernel
theorem dX4_begin_33 : decode cX4_begin 33 = .ok (.putfield 33, 3) := by decide +kernel
theorem dX4_begin_36 : decode cX4_begin 36 = .ok (.aload_n 0, 1) := by decide +kernel
theorem dX4_begin_37 : decode cX4_begin 37 = .ok (.iconst 0, 1) := by decide +kernel
theorem dX4_begin_38 : decode cX4_begin 38 = .ok (.putfield 37, 3) := by decide +kernel
theorem dX4_begin_41 : decode cX4_begin 41 = .ok (.aload_n 0, 1) := by decide +kernel
theorem dX4_begin_42 : decode cX4_begin 42 = .ok (.iconst 0, 1) := by decide +kernel
theorem dX4_begin_43 : decode cX4_begin 43 = .ok (.putfield 40, 3) := by decide +kernel
theorem dX4_begin_46 : decode cX4_begin 46 = .ok (.aload_n 0, 1) := by decide +kernel
theorem dX4_begin_47 : decode cX4_begin 47 = .ok (.iconst 0, 1) := by decide +kernel
theorem dX4_begin_48 : decode cX4_begin 48 = .ok (.putfield 43, 3) := by decide +kernel
theorem dX4_begin_51 : decode cX4_begin 51 = .ok (.aload_n 0, 1) := by decide +kernel
theorem dX4_begin_52 : decode cX4_begin 52 = .ok (.bipush (-6), 2) := by decide +kernel
theorem dX4_begin_54 : decode cX4_begin 54 = .ok (.putfield 46, 3) := by decide +kernel
theorem dX4_begin_57 : decode cX4_begin 57 = .ok (.return_, 1) := by decide +kernel
theorem dX4_weaveTick_0 : decode cX4_weaveTick 0 = .ok (.iconst 0, 1) := by decide +kernel
theorem dX4_weaveTick_1 : decode cX4_weaveTick 1 = .ok (.istore_n 3, 1) := by decide +kernel
theorem dX4_weaveTick_2 : decode cX4_weaveTick 2 = .ok (.iload_n 3, 1) := by decide +kernel
theorem dX4_weaveTick_3 : decode cX4_weaveTick 3 = .ok (.iconst 4, 1) := by decide +kernel
theorem dX4_weaveTick_4 : decode cX4_weaveTick 4 = .ok (.if_icmp .ge 26, 3) := by decide +kernel
theorem dX4_weaveTick_7 : decode cX4_weaveTick 7 = .ok (.aload_n 0, 1) := by decide +kernel
theorem dX4_weaveTick_8 : decode cX4_weaveTick 8 = .ok (.aload_n 1, 1) := by decide +kernel
theorem dX4_weaveTick_9 : decode cX4_weaveTick 9 = .ok (.getfield 68, 3) := by decide +kernel
theorem dX4_weaveTick_12 : decode cX4_weaveTick 12 = .ok (.iload_n 3, 1) := by decide +kernel
theorem dX4_weaveTick_13 : decode cX4_weaveTick 13 = .ok (.aaload, 1) := by decide +kernel
theorem dX4_weaveTick_14 : decode cX4_weaveTick 14 = .ok (.aload_n 0, 1) := by decide +kernel
theorem dX4_weaveTick_15 : decode cX4_weaveTick 15 = .ok (.getfield 26, 3) := by decide +kernel
theorem dX4_weaveTick_18 : decode cX4_weaveTick 18 = .ok (.iload_n 3, 1) := by decide +kernel
theorem dX4_weaveTick_19 : decode cX4_weaveTick 19 = .ok (.aaload, 1) := by decide +kernel
theorem dX4_weaveTick_20 : decode cX4_weaveTick 20 = .ok (.iload_n 2, 1) := by decide +kernel
theorem dX4_weaveTick_21 : decode cX4_weaveTick 21 = .ok (.invokevirtual 74, 3) := by decide +kernel
theorem dX4_weaveTick_24 : decode cX4_weaveTick 24 = .ok (.iinc 3 1, 3) := by decide +kernel
theorem dX4_weaveTick_27 : decode cX4_weaveTick 27 = .ok (.goto (-25), 3) := by decide +kernel
theorem dX4_weaveTick_30 : decode cX4_weaveTick 30 = .ok (.iconst 0, 1) := by decide +kernel
theorem dX4_weaveTick_31 : decode cX4_weaveTick 31 = .ok (.istore_n 3, 1) := by decide +kernel
theorem dX4_weaveTick_32 : decode cX4_weaveTick 32 = .ok (.iload_n 3, 1) := by decide +kernel
theorem dX4_weaveTick_33 : decode cX4_weaveTick 33 = .ok (.aload_n 1, 1) := by decide +kernel
theorem dX4_weaveTick_34 : decode cX4_weaveTick 34 = .ok (.getfield 78, 3) := by decide +kernel
theorem dX4_weaveTick_37 : decode cX4_weaveTick 37 = .ok (.if_icmp .ge 20, 3) := by decide +kernel
theorem dX4_weaveTick_40 : decode cX4_weaveTick 40 = .ok (.aload_n 0, 1) := by decide +kernel
theorem dX4_weaveTick_41 : decode cX4_weaveTick 41 = .ok (.aload_n 1, 1) := by decide +kernel
theorem dX4_weaveTick_42 : decode cX4_weaveTick 42 = .ok (.iload_n 2, 1) := by decide +kernel
theorem dX4_weaveTick_43 : decode cX4_weaveTick 43 = .ok (.iload_n 2, 1) := by decide +kernel
theorem dX4_weaveTick_44 : decode cX4_weaveTick 44 = .ok (.iload_n 3, 1) := by decide +kernel
theorem dX4_weaveTick_45 : decode cX4_weaveTick 45 = .ok (.invokestatic 81, 3) := by decide +kernel
theorem dX4_weaveTick_48 : decode cX4_weaveTick 48 = .ok (.invokevirtual 85, 3) := by decide +kernel
theorem dX4_weaveTick_51 : decode cX4_weaveTick 51 = .ok (.iinc 3 1, 3) := by decide +kernel
theorem dX4_weaveTick_54 : decode cX4_weaveTick 54 = .ok (.goto (-22), 3) := by decide +kernel
theorem dX4_weaveTick_57 : decode cX4_weaveTick 57 = .ok (.iconst 0, 1) := by decide +kernel
theorem dX4_weaveTick_58 : decode cX4_weaveTick 58 = .ok (.istore_n 3, 1) := by decide +kernel
theorem dX4_weaveTick_59 : decode cX4_weaveTick 59 = .ok (.iload_n 3, 1) := by decide +kernel
theorem dX4_weaveTick_60 : decode cX4_weaveTick 60 = .ok (.iconst 4, 1) := by decide +kernel
theorem dX4_weaveTick_61 : decode cX4_weaveTick 61 = .ok (.if_icmp .ge 29, 3) := by decide +kernel
theorem dX4_weaveTick_64 : decode cX4_weaveTick 64 = .ok (.aload_n 0, 1) := by decide +kernel
theorem dX4_weaveTick_65 : decode cX4_weaveTick 65 = .ok (.getfield 26, 3) := by decide +kernel
theorem dX4_weaveTick_68 : decode cX4_weaveTick 68 = .ok (.iload_n 3, 1) := by decide +kernel
theorem dX4_weaveTick_69 : decode cX4_weaveTick 69 = .ok (.aaload, 1) := by decide +kernel
theorem dX4_weaveTick_70 : decode cX4_weaveTick 70 = .ok (.getfield 89, 3) := by decide +kernel
theorem dX4_weaveTick_73 : decode cX4_weaveTick 73 = .ok (.iload_n 2, 1) := by decide +kernel
theorem dX4_weaveTick_74 : decode cX4_weaveTick 74 = .ok (.aload_n 0, 1) := by decide +kernel
theorem dX4_weaveTick_75 : decode cX4_weaveTick 75 = .ok (.getfield 26, 3) := by decide +kernel
theorem dX4_weaveTick_78 : decode cX4_weaveTick 78 = .ok (.iload_n 3, 1) := by decide +kernel
theorem dX4_weaveTick_79 : decode cX4_weaveTick 79 = .ok (.aaload, 1) := by decide +kernel
theorem dX4_weaveTick_80 : decode cX4_weaveTick 80 = .ok (.getfield 92, 3) := by decide +kernel
theorem dX4_weaveTick_83 : decode cX4_weaveTick 83 = .ok (.iastore, 1) := by decide +kernel
theorem dX4_weaveTick_84 : decode cX4_weaveTick 84 = .ok (.iinc 3 1, 3) := by decide +kernel
theorem dX4_weaveTick_87 : decode cX4_weaveTick 87 = .ok (.goto (-28), 3) := by decide +kernel
theorem dX4_weaveTick_90 : decode cX4_weaveTick 90 = .ok (.return_, 1) := by decide +kernel
theorem dX4_showDue_0 : decode cX4_showDue 0 = .ok (.aload_n 2, 1) := by decide +kernel
theorem dX4_showDue_1 : decode cX4_showDue 1 = .ok (.aload_n 1, 1) := by decide +kernel
theorem dX4_showDue_2 : decode cX4_showDue 2 = .ok (.iload_n 3, 1) := by decide +kernel
theorem dX4_showDue_3 : decode cX4_showDue 3 = .ok (.invokevirtual 95, 3) := by decide +kernel
theorem dX4_showDue_6 : decode cX4_showDue 6 = .ok (.istore 4, 2) := by decide +kernel
theorem dX4_showDue_8 : decode cX4_showDue 8 = .ok (.iload 4, 2) := by decide +kernel
theorem dX4_showDue_10 : decode cX4_showDue 10 = .ok (.bipush (-6), 2) := by decide +kernel
theorem dX4_showDue_12 : decode cX4_showDue 12 = .ok (.if_icmp .ne 4, 3) := by decide +kernel
theorem dX4_showDue_15 : decode cX4_showDue 15 = .ok (.return_, 1) := by decide +kernel
theorem dX4_showDue_16 : decode cX4_showDue 16 = .ok (.aload_n 1, 1) := by decide +kernel
theorem dX4_showDue_17 : decode cX4_showDue 17 = .ok (.getfield 99, 3) := by decide +kernel
theorem dX4_showDue_20 : decode cX4_showDue 20 = .ok (.iload 4, 2) := by decide +kernel
theorem dX4_showDue_22 : decode cX4_showDue 22 = .ok (.iaload, 1) := by decide +kernel
theorem dX4_showDue_23 : decode cX4_showDue 23 = .ok (.aload_n 2, 1) := by decide +kernel
theorem dX4_showDue_24 : decode cX4_showDue 24 = .ok (.getfield 104, 3) := by decide +kernel
theorem dX4_showDue_27 : decode cX4_showDue 27 = .ok (.iload 4, 2) := by decide +kernel
theorem dX4_showDue_29 : decode cX4_showDue 29 = .ok (.iaload, 1) := by decide +kernel
theorem dX4_showDue_30 : decode cX4_showDue 30 = .ok (.isub, 1) := by decide +kernel
theorem dX4_showDue_31 : decode cX4_showDue 31 = .ok (.istore 5, 2) := by decide +kernel
theorem dX4_showDue_33 : decode cX4_showDue 33 = .ok (.iload 5, 2) := by decide +kernel
theorem dX4_showDue_35 : decode cX4_showDue 35 = .ok (.ifCond .ne 14, 3) := by decide +kernel
theorem dX4_showDue_38 : decode cX4_showDue 38 = .ok (.aload_n 0, 1) := by decide +kernel
theorem dX4_showDue_39 : decode cX4_showDue 39 = .ok (.dup, 1) := by decide +kernel
theorem dX4_showDue_40 : decode cX4_showDue 40 = .ok (.getfield 37, 3) := by decide +kernel
theorem dX4_showDue_43 : decode cX4_showDue 43 = .ok (.iconst 1, 1) := by decide +kernel
theorem dX4_showDue_44 : decode cX4_showDue 44 = .ok (.iadd, 1) := by decide +kernel
theorem dX4_showDue_45 : decode cX4_showDue 45 = .ok (.putfield 37, 3) := by decide +kernel
theorem dX4_showDue_48 : decode cX4_showDue 48 = .ok (.return_, 1) := by decide +kernel
theorem dX4_showDue_49 : decode cX4_showDue 49 = .ok (.aload_n 0, 1) := by decide +kernel
theorem dX4_showDue_50 : decode cX4_showDue 50 = .ok (.dup, 1) := by decide +kernel
theorem dX4_showDue_51 : decode cX4_showDue 51 = .ok (.getfield 40, 3) := by decide +kernel
theorem dX4_showDue_54 : decode cX4_showDue 54 = .ok (.iconst 1, 1) := by decide +kernel
theorem dX4_showDue_55 : decode cX4_showDue 55 = .ok (.iadd, 1) := by decide +kernel
theorem dX4_showDue_56 : decode cX4_showDue 56 = .ok (.putfield 40, 3) := by decide +kernel
theorem dX4_showDue_59 : decode cX4_showDue 59 = .ok (.aload_n 0, 1) := by decide +kernel
theorem dX4_showDue_60 : decode cX4_showDue 60 = .ok (.dup, 1) := by decide +kernel
theorem dX4_showDue_61 : decode cX4_showDue 61 = .ok (.getfield 43, 3) := by decide +kernel
theorem dX4_showDue_64 : decode cX4_showDue 64 = .ok (.iload 5, 2) := by decide +kernel
theorem dX4_showDue_66 : decode cX4_showDue 66 = .ok (.iadd, 1) := by decide +kernel
theorem dX4_showDue_67 : decode cX4_showDue 67 = .ok (.putfield 43, 3) := by decide +kernel
theorem dX4_showDue_70 : decode cX4_showDue 70 = .ok (.aload_n 0, 1) := by decide +kernel
theorem dX4_showDue_71 : decode cX4_showDue 71 = .ok (.getfield 46, 3) := by decide +kernel
theorem dX4_showDue_74 : decode cX4_showDue 74 = .ok (.bipush (-6), 2) := by decide +kernel
theorem dX4_showDue_76 : decode cX4_showDue 76 = .ok (.if_icmp .ne 8, 3) := by decide +kernel
theorem dX4_showDue_79 : decode cX4_showDue 79 = .ok (.aload_n 0, 1) := by decide +kernel
theorem dX4_showDue_80 : decode cX4_showDue 80 = .ok (.iload_n 3, 1) := by decide +kernel
theorem dX4_showDue_81 : decode cX4_showDue 81 = .ok (.putfield 46, 3) := by decide +kernel
theorem dX4_showDue_84 : decode cX4_showDue 84 = .ok (.return_, 1) := by decide +kernel
theorem dX4_sendOne_0 : decode cX4_sendOne 0 = .ok (.aload_n 1, 1) := by decide +kernel
theorem dX4_sendOne_1 : decode cX4_sendOne 1 = .ok (.getfield 107, 3) := by decide +kernel
theorem dX4_sendOne_4 : decode cX4_sendOne 4 = .ok (.aload_n 0, 1) := by decide +kernel
theorem dX4_sendOne_5 : decode cX4_sendOne 5 = .ok (.getfield 33, 3) := by decide +kernel
theorem dX4_sendOne_8 : decode cX4_sendOne 8 = .ok (.iload_n 2, 1) := by decide +kernel
theorem dX4_sendOne_9 : decode cX4_sendOne 9 = .ok (.invokestatic 110, 3) := by decide +kernel
theorem dX4_sendOne_12 : decode cX4_sendOne 12 = .ok (.ifCond .eq 10, 3) := by decide +kernel
theorem dX4_sendOne_15 : decode cX4_sendOne 15 = .ok (.aload_n 0, 1) := by decide +kernel
theorem dX4_sendOne_16 : decode cX4_sendOne 16 = .ok (.iload_n 2, 1) := by decide +kernel
theorem dX4_sendOne_17 : decode cX4_sendOne 17 = .ok (.iload_n 3, 1) := by decide +kernel
theorem dX4_sendOne_18 : decode cX4_sendOne 18 = .ok (.invokevirtual 113, 3) := by decide +kernel
theorem dX4_sendOne_21 : decode cX4_sendOne 21 = .ok (.return_, 1) := by decide +kernel
theorem dX4_sendOne_22 : decode cX4_sendOne 22 = .ok (.aload_n 0, 1) := by decide +kernel
theorem dX4_sendOne_23 : decode cX4_sendOne 23 = .ok (.aload_n 1, 1) := by decide +kernel
theorem dX4_sendOne_24 : decode cX4_sendOne 24 = .ok (.iload_n 2, 1) := by decide +kernel
theorem dX4_sendOne_25 : decode cX4_sendOne 25 = .ok (.invokevirtual 117, 3) := by decide +kernel
theorem dX4_sendOne_28 : decode cX4_sendOne 28 = .ok (.istore 4, 2) := by decide +kernel
theorem dX4_sendOne_30 : decode cX4_sendOne 30 = .ok (.iload 4, 2) := by decide +kernel
theorem dX4_sendOne_32 : decode cX4_sendOne 32 = .ok (.bipush (-6), 2) := by decide +kernel
theorem dX4_sendOne_34 : decode cX4_sendOne 34 = .ok (.if_icmp .eq 35, 3) := by decide +kernel
theorem dX4_sendOne_37 : decode cX4_sendOne 37 = .ok (.aload_n 0, 1) := by decide +kernel
theorem dX4_sendOne_38 : decode cX4_sendOne 38 = .ok (.getfield 26, 3) := by decide +kernel
theorem dX4_sendOne_41 : decode cX4_sendOne 41 = .ok (.iload 4, 2) := by decide +kernel
theorem dX4_sendOne_43 : decode cX4_sendOne 43 = .ok (.aaload, 1) := by decide +kernel
theorem dX4_sendOne_44 : decode cX4_sendOne 44 = .ok (.iload_n 2, 1) := by decide +kernel
theorem dX4_sendOne_45 : decode cX4_sendOne 45 = .ok (.putfield 121, 3) := by decide +kernel
theorem dX4_sendOne_48 : decode cX4_sendOne 48 = .ok (.aload_n 0, 1) := by decide +kernel
theorem dX4_sendOne_49 : decode cX4_sendOne 49 = .ok (.iload_n 3, 1) := by decide +kernel
theorem dX4_sendOne_50 : decode cX4_sendOne 50 = .ok (.iconst 2, 1) := by decide +kernel
theorem dX4_sendOne_51 : decode cX4_sendOne 51 = .ok (.iload 4, 2) := by decide +kernel
theorem dX4_sendOne_53 : decode cX4_sendOne 53 = .ok (.bipush (-6), 2) := by decide +kernel
theorem dX4_sendOne_55 : decode cX4_sendOne 55 = .ok (.aload_n 0, 1) := by decide +kernel
theorem dX4_sendOne_56 : decode cX4_sendOne 56 = .ok (.getfield 26, 3) := by decide +kernel
theorem dX4_sendOne_59 : decode cX4_sendOne 59 = .ok (.iload 4, 2) := by decide +kernel
theorem dX4_sendOne_61 : decode cX4_sendOne 61 = .ok (.aaload, 1) := by decide +kernel
theorem dX4_sendOne_62 : decode cX4_sendOne 62 = .ok (.invokevirtual 124, 3) := by decide +kernel
theorem dX4_sendOne_65 : decode cX4_sendOne 65 = .ok (.invokevirtual 128, 3) := by decide +kernel
theorem dX4_sendOne_68 : decode cX4_sendOne 68 = .ok (.return_, 1) := by decide +kernel
theorem dX4_sendOne_69 : decode cX4_sendOne 69 = .ok (.aload_n 0, 1) := by decide +kernel
theorem dX4_sendOne_70 : decode cX4_sendOne 70 = .ok (.aload_n 1, 1) := by decide +kernel
theorem dX4_sendOne_71 : decode cX4_sendOne 71 = .ok (.iload_n 2, 1) := by decide +kernel
theorem dX4_sendOne_72 : decode cX4_sendOne 72 = .ok (.invokevirtual 132, 3) := by decide +kernel
theorem dX4_sendOne_75 : decode cX4_sendOne 75 = .ok (.istore 4, 2) := by decide +kernel
theorem dX4_sendOne_77 : decode cX4_sendOne 77 = .ok (.iload 4, 2) := by decide +kernel
theorem dX4_sendOne_79 : decode cX4_sendOne 79 = .ok (.bipush (-6), 2) := by decide +kernel
theorem dX4_sendOne_81 : decode cX4_sendOne 81 = .ok (.if_icmp .eq 49, 3) := by decide +kernel
theorem dX4_sendOne_84 : decode cX4_sendOne 84 = .ok (.aload_n 0, 1) := by decide +kernel
theorem dX4_sendOne_85 : decode cX4_sendOne 85 = .ok (.getfield 26, 3) := by decide +kernel
theorem dX4_sendOne_88 : decode cX4_sendOne 88 = .ok (.iload 4, 2) := by decide +kernel
theorem dX4_sendOne_90 : decode cX4_sendOne 90 = .ok (.aaload, 1) := by decide +kernel
theorem dX4_sendOne_91 : decode cX4_sendOne 91 = .ok (.getfield 135, 3) := by decide +kernel
theorem dX4_sendOne_94 : decode cX4_sendOne 94 = .ok (.istore 5, 2) := by decide +kernel
theorem dX4_sendOne_96 : decode cX4_sendOne 96 = .ok (.aload_n 0, 1) := by decide +kernel
theorem dX4_sendOne_97 : decode cX4_sendOne 97 = .ok (.getfield 26, 3) := by decide +kernel
theorem dX4_sendOne_100 : decode cX4_sendOne 100 = .ok (.iload 4, 2) := by decide +kernel
theorem dX4_sendOne_102 : decode cX4_sendOne 102 = .ok (.aaload, 1) := by decide +kernel
theorem dX4_sendOne_103 : decode cX4_sendOne 103 = .ok (.iload 5, 2) := by decide +kernel
theorem dX4_sendOne_105 : decode cX4_sendOne 105 = .ok (.iload_n 2, 1) := by decide +kernel
theorem dX4_sendOne_106 : decode cX4_sendOne 106 = .ok (.invokevirtual 138, 3) := by decide +kernel
theorem dX4_sendOne_109 : decode cX4_sendOne 109 = .ok (.aload_n 0, 1) := by decide +kernel
theorem dX4_sendOne_110 : decode cX4_sendOne 110 = .ok (.iload_n 3, 1) := by decide +kernel
theorem dX4_sendOne_111 : decode cX4_sendOne 111 = .ok (.iconst 3, 1) := by decide +kernel
theorem dX4_sendOne_112 : decode cX4_sendOne 112 = .ok (.iload 4, 2) := by decide +kernel
theorem dX4_sendOne_114 : decode cX4_sendOne 114 = .ok (.iload 5, 2) := by decide +kernel
theorem dX4_sendOne_116 : decode cX4_sendOne 116 = .ok (.aload_n 0, 1) := by decide +kernel
theorem dX4_sendOne_117 : decode cX4_sendOne 117 = .ok (.getfield 26, 3) := by decide +kernel
theorem dX4_sendOne_120 : decode cX4_sendOne 120 = .ok (.iload 4, 2) := by decide +kernel
theorem dX4_sendOne_122 : decode cX4_sendOne 122 = .ok (.aaload, 1) := by decide +kernel
theorem dX4_sendOne_123 : decode cX4_sendOne 123 = .ok (.invokevirtual 124, 3) := by decide +kernel
theorem dX4_sendOne_126 : decode cX4_sendOne 126 = .ok (.invokevirtual 128, 3) := by decide +kernel
theorem dX4_sendOne_129 : decode cX4_sendOne 129 = .ok (.return_, 1) := by decide +kernel
theorem dX4_sendOne_130 : decode cX4_sendOne 130 = .ok (.aload_n 0, 1) := by decide +kernel
theorem dX4_sendOne_131 : decode cX4_sendOne 131 = .ok (.iload_n 3, 1) := by decide +kernel
theorem dX4_sendOne_132 : decode cX4_sendOne 132 = .ok (.iconst 0, 1) := by decide +kernel
theorem dX4_sendOne_133 : decode cX4_sendOne 133 = .ok (.bipush (-6), 2) := by decide +kernel
theorem dX4_sendOne_135 : decode cX4_sendOne 135 = .ok (.bipush (-6), 2) := by decide +kernel
theorem dX4_sendOne_137 : decode cX4_sendOne 137 = .ok (.iconst 0, 1) := by decide +kernel
theorem dX4_sendOne_138 : decode cX4_sendOne 138 = .ok (.invokevirtual 128, 3) := by decide +kernel
theorem dX4_sendOne_141 : decode cX4_sendOne 141 = .ok (.return_, 1) := by decide +kernel
theorem dX4_sendTable_0 : decode cX4_sendTable 0 = .ok (.aload_n 0, 1) := by decide +kernel
theorem dX4_sendTable_1 : decode cX4_sendTable 1 = .ok (.iload_n 1, 1) := by decide +kernel
theorem dX4_sendTable_2 : decode cX4_sendTable 2 = .ok (.putfield 33, 3) := by decide +kernel
theorem dX4_sendTable_5 : decode cX4_sendTable 5 = .ok (.aload_n 0, 1) := by decide +kernel
theorem dX4_sendTable_6 : decode cX4_sendTable 6 = .ok (.iload_n 2, 1) := by decide +kernel
theorem dX4_sendTable_7 : decode cX4_sendTable 7 = .ok (.iconst 1, 1) := by decide +kernel
theorem dX4_sendTable_8 : decode cX4_sendTable 8 = .ok (.bipush (-6), 2) := by decide +kernel
theorem dX4_sendTable_10 : decode cX4_sendTable 10 = .ok (.bipush (-6), 2) := by decide +kernel
theorem dX4_sendTable_12 : decode cX4_sendTable 12 = .ok (.aload_n 0, 1) := by decide +kernel
theorem dX4_sendTable_13 : decode cX4_sendTable 13 = .ok (.getfield 30, 3) := by decide +kernel
theorem dX4_sendTable_16 : decode cX4_sendTable 16 = .ok (.iconst 1, 1) := by decide +kernel
theorem dX4_sendTable_17 : decode cX4_sendTable 17 = .ok (.iaload, 1) := by decide +kernel
theorem dX4_sendTable_18 : decode cX4_sendTable 18 = .ok (.bipush 16, 2) := by decide +kernel
theorem dX4_sendTable_20 : decode cX4_sendTable 20 = .ok (.irem, 1) := by decide +kernel
theorem dX4_sendTable_21 : decode cX4_sendTable 21 = .ok (.invokevirtual 128, 3) := by decide +kernel
theorem dX4_sendTable_24 : decode cX4_sendTable 24 = .ok (.return_, 1) := by decide +kernel
theorem dX4_note_0 : decode cX4_note 0 = .ok (.aload_n 0, 1) := by decide +kernel
theorem dX4_note_1 : decode cX4_note 1 = .ok (.getfield 9, 3) := by decide +kernel
theorem dX4_note_4 : decode cX4_note 4 = .ok (.iload_n 1, 1) := by decide +kernel
theorem dX4_note_5 : decode cX4_note 5 = .ok (.iload_n 2, 1) := by decide +kernel
theorem dX4_note_6 : decode cX4_note 6 = .ok (.iastore, 1) := by decide +kernel
theorem dX4_note_7 : decode cX4_note 7 = .ok (.aload_n 0, 1) := by decide +kernel
theorem dX4_note_8 : decode cX4_note 8 = .ok (.getfield 15, 3) := by decide +kernel
theorem dX4_note_11 : decode cX4_note 11 = .ok (.iload_n 1, 1) := by decide +kernel
theorem dX4_note_12 : decode cX4_note 12 = .ok (.iload_n 3, 1) := by decide +kernel
theorem dX4_note_13 : decode cX4_note 13 = .ok (.iastore, 1) := by decide +kernel
theorem dX4_note_14 : decode cX4_note 14 = .ok (.aload_n 0, 1) := by decide +kernel
theorem dX4_note_15 : decode cX4_note 15 = .ok (.getfield 18, 3) := by decide +kernel
theorem dX4_note_18 : decode cX4_note 18 = .ok (.iload_n 1, 1) := by decide +kernel
theorem dX4_note_19 : decode cX4_note 19 = .ok (.iload 4, 2) := by decide +kernel
theorem dX4_note_21 : decode cX4_note 21 = .ok (.iastore, 1) := by decide +kernel
theorem dX4_note_22 : decode cX4_note 22 = .ok (.aload_n 0, 1) := by decide +kernel
theorem dX4_note_23 : decode cX4_note 23 = .ok (.getfield 21, 3) := by decide +kernel
theorem dX4_note_26 : decode cX4_note 26 = .ok (.iload_n 1, 1) := by decide +kernel
theorem dX4_note_27 : decode cX4_note 27 = .ok (.iload 5, 2) := by decide +kernel
theorem dX4_note_29 : decode cX4_note 29 = .ok (.iastore, 1) := by decide +kernel
theorem dX4_note_30 : decode cX4_note 30 = .ok (.aload_n 0, 1) := by decide +kernel
theorem dX4_note_31 : decode cX4_note 31 = .ok (.getfield 30, 3) := by decide +kernel
theorem dX4_note_34 : decode cX4_note 34 = .ok (.iload_n 2, 1) := by decide +kernel
theorem dX4_note_35 : decode cX4_note 35 = .ok (.dup2, 1) := by decide +kernel
theorem dX4_note_36 : decode cX4_note 36 = .ok (.iaload, 1) := by decide +kernel
theorem dX4_note_37 : decode cX4_note 37 = .ok (.iconst 1, 1) := by decide +kernel
theorem dX4_note_38 : decode cX4_note 38 = .ok (.iadd, 1) := by decide +kernel
theorem dX4_note_39 : decode cX4_note 39 = .ok (.iastore, 1) := by decide +kernel
theorem dX4_note_40 : decode cX4_note 40 = .ok (.return_, 1) := by decide +kernel
theorem dX4_clockProgramme_0 : decode cX4_clockProgramme 0 = .ok (.iconst 0, 1) := by decide +kernel
theorem dX4_clockProgramme_1 : decode cX4_clockProgramme 1 = .ok (.istore_n 3, 1) := by decide +kernel
theorem dX4_clockProgramme_2 : decode cX4_clockProgramme 2 = .ok (.iload_n 3, 1) := by decide +kernel
theorem dX4_clockProgramme_3 : decode cX4_clockProgramme 3 = .ok (.iconst 4, 1) := by decide +kernel
theorem dX4_clockProgramme_4 : decode cX4_clockProgramme 4 = .ok (.if_icmp .ge 36, 3) := by decide +kernel
theorem dX4_clockProgramme_7 : decode cX4_clockProgramme 7 = .ok (.aload_n 1, 1) := by decide +kernel
theorem dX4_clockProgramme_8 : decode cX4_clockProgramme 8 = .ok (.getfield 68, 3) := by decide +kernel
theorem dX4_clockProgramme_11 : decode cX4_clockProgramme 11 = .ok (.iload_n 3, 1) := by decide +kernel
theorem dX4_clockProgramme_12 : decode cX4_clockProgramme 12 = .ok (.aaload, 1) := by decide +kernel
theorem dX4_clockProgramme_13 : decode cX4_clockProgramme 13 = .ok (.getfield 141, 3) := by decide +kernel
theorem dX4_clockProgramme_16 : decode cX4_clockProgramme 16 = .ok (.aload_n 0, 1) := by decide +kernel
theorem dX4_clockProgramme_17 : decode cX4_clockProgramme 17 = .ok (.getfield 26, 3) := by decide +kernel
theorem dX4_clockProgramme_20 : decode cX4_clockProgramme 20 = .ok (.iload_n 3, 1) := by decide +kernel
theorem dX4_clockProgramme_21 : decode cX4_clockProgramme 21 = .ok (.aaload, 1) := by decide +kernel
theorem dX4_clockProgramme_22 : decode cX4_clockProgramme 22 = .ok (.getfield 121, 3) := by decide +kernel
theorem dX4_clockProgramme_25 : decode cX4_clockProgramme 25 = .ok (.iload_n 2, 1) := by decide +kernel
theorem dX4_clockProgramme_26 : decode cX4_clockProgramme 26 = .ok (.invokestatic 110, 3) := by decide +kernel
theorem dX4_clockProgramme_29 : decode cX4_clockProgramme 29 = .ok (.ifCond .eq 5, 3) := by decide +kernel
theorem dX4_clockProgramme_32 : decode cX4_clockProgramme 32 = .ok (.iload_n 3, 1) := by decide +kernel
theorem dX4_clockProgramme_33 : decode cX4_clockProgramme 33 = .ok (.ireturn, 1) := by decide +kernel
theorem dX4_clockProgramme_34 : decode cX4_clockProgramme 34 = .ok (.iinc 3 1, 3) := by decide +kernel
theorem dX4_clockProgramme_37 : decode cX4_clockProgramme 37 = .ok (.goto (-35), 3) := by decide +kernel
theorem dX4_clockProgramme_40 : decode cX4_clockProgramme 40 = .ok (.bipush (-6), 2) := by decide +kernel
theorem dX4_clockProgramme_42 : decode cX4_clockProgramme 42 = .ok (.ireturn, 1) := by decide +kernel
theorem dX4_frameProgramme_0 : decode cX4_frameProgramme 0 = .ok (.bipush (-6), 2) := by decide +kernel
theorem dX4_frameProgramme_2 : decode cX4_frameProgramme 2 = .ok (.istore_n 3, 1) := by decide +kernel
theorem dX4_frameProgramme_3 : decode cX4_frameProgramme 3 = .ok (.bipush 100, 2) := by decide +kernel
theorem dX4_frameProgramme_5 : decode cX4_frameProgramme 5 = .ok (.istore 4, 2) := by decide +kernel
theorem dX4_frameProgramme_7 : decode cX4_frameProgramme 7 = .ok (.iconst 0, 1) := by decide +kernel
theorem dX4_frameProgramme_8 : decode cX4_frameProgramme 8 = .ok (.istore 5, 2) := by decide +kernel
theorem dX4_frameProgramme_10 : decode cX4_frameProgramme 10 = .ok (.iload 5, 2) := by decide +kernel
theorem dX4_frameProgramme_12 : decode cX4_frameProgramme 12 = .ok (.iconst 4, 1) := by decide +kernel
theorem dX4_frameProgramme_13 : decode cX4_frameProgramme 13 = .ok (.if_icmp .ge 72, 3) := by decide +kernel
theorem dX4_frameProgramme_16 : decode cX4_frameProgramme 16 = .ok (.aload_n 0, 1) := by decide +kernel
theorem dX4_frameProgramme_17 : decode cX4_frameProgramme 17 = .ok (.getfield 26, 3) := by decide +kernel
theorem dX4_frameProgramme_20 : decode cX4_frameProgramme 20 = .ok (.iload 5, 2) := by decide +kernel
theorem dX4_frameProgramme_22 : decode cX4_frameProgramme 22 = .ok (.aaload, 1) := by decide +kernel
theorem dX4_frameProgramme_23 : decode cX4_frameProgramme 23 = .ok (.aload_n 1, 1) := by decide +kernel
theorem dX4_frameProgramme_24 : decode cX4_frameProgramme 24 = .ok (.getfield 68, 3) := by decide +kernel
theorem dX4_frameProgramme_27 : decode cX4_frameProgramme 27 = .ok (.iload 5, 2) := by decide +kernel
theorem dX4_frameProgramme_29 : decode cX4_frameProgramme 29 = .ok (.aaload, 1) := by decide +kernel
theorem dX4_frameProgramme_30 : decode cX4_frameProgramme 30 = .ok (.iload_n 2, 1) := by decide +kernel
theorem dX4_frameProgramme_31 : decode cX4_frameProgramme 31 = .ok (.invokevirtual 144, 3) := by decide +kernel
theorem dX4_frameProgramme_34 : decode cX4_frameProgramme 34 = .ok (.istore 6, 2) := by decide +kernel
theorem dX4_frameProgramme_36 : decode cX4_frameProgramme 36 = .ok (.iload 6, 2) := by decide +kernel
theorem dX4_frameProgramme_38 : decode cX4_frameProgramme 38 = .ok (.bipush (-6), 2) := by decide +kernel
theorem dX4_frameProgramme_40 : decode cX4_frameProgramme 40 = .ok (.if_icmp .eq 39, 3) := by decide +kernel
theorem dX4_frameProgramme_43 : decode cX4_frameProgramme 43 = .ok (.aload_n 1, 1) := by decide +kernel
theorem dX4_frameProgramme_44 : decode cX4_frameProgramme 44 = .ok (.getfield 68, 3) := by decide +kernel
theorem dX4_frameProgramme_47 : decode cX4_frameProgramme 47 = .ok (.iload 5, 2) := by decide +kernel
theorem dX4_frameProgramme_49 : decode cX4_frameProgramme 49 = .ok (.aaload, 1) := by decide +kernel
theorem dX4_frameProgramme_50 : decode cX4_frameProgramme 50 = .ok (.getfield 147, 3) := by decide +kernel
theorem dX4_frameProgramme_53 : decode cX4_frameProgramme 53 = .ok (.iload 6, 2) := by decide +kernel
theorem dX4_frameProgramme_55 : decode cX4_frameProgramme 55 = .ok (.iaload, 1) := by decide +kernel
theorem dX4_frameProgramme_56 : decode cX4_frameProgramme 56 = .ok (.iload 4, 2) := by decide +kernel
theorem dX4_frameProgramme_58 : decode cX4_frameProgramme 58 = .ok (.if_icmp .ge 21, 3) := by decide +kernel
theorem dX4_frameProgramme_61 : decode cX4_frameProgramme 61 = .ok (.iload 5, 2) := by decide +kernel
theorem dX4_frameProgramme_63 : decode cX4_frameProgramme 63 = .ok (.istore_n 3, 1) := by decide +kernel
theorem dX4_frameProgramme_64 : decode cX4_frameProgramme 64 = .ok (.aload_n 1, 1) := by decide +kernel
theorem dX4_frameProgramme_65 : decode cX4_frameProgramme 65 = .ok (.getfield 68, 3) := by decide +kernel
theorem dX4_frameProgramme_68 : decode cX4_frameProgramme 68 = .ok (.iload 5, 2) := by decide +kernel
theorem dX4_frameProgramme_70 : decode cX4_frameProgramme 70 = .ok (.aaload, 1) := by decide +kernel
theorem dX4_frameProgramme_71 : decode cX4_frameProgramme 71 = .ok (.getfield 147, 3) := by decide +kernel
theorem dX4_frameProgramme_74 : decode cX4_frameProgramme 74 = .ok (.iload 6, 2) := by decide +kernel
theorem dX4_frameProgramme_76 : decode cX4_frameProgramme 76 = .ok (.iaload, 1) := by decide +kernel
theorem dX4_frameProgramme_77 : decode cX4_frameProgramme 77 = .ok (.istore 4, 2) := by decide +kernel
theorem dX4_frameProgramme_79 : decode cX4_frameProgramme 79 = .ok (.iinc 5 1, 3) := by decide +kernel
theorem dX4_frameProgramme_82 : decode cX4_frameProgramme 82 = .ok (.goto (-72), 3) := by decide +kernel
theorem dX4_frameProgramme_85 : decode cX4_frameProgramme 85 = .ok (.iload_n 3, 1) := by decide +kernel
theorem dX4_frameProgramme_86 : decode cX4_frameProgramme 86 = .ok (.ireturn, 1) := by decide +kernel
theorem dX4_comesAgain_0 : decode cX4_comesAgain 0 = .ok (.iload_n 0, 1) := by decide +kernel
theorem dX4_comesAgain_1 : decode cX4_comesAgain 1 = .ok (.ifCond .eq 20, 3) := by decide +kernel
theorem dX4_comesAgain_4 : decode cX4_comesAgain 4 = .ok (.iload_n 1, 1) := by decide +kernel
theorem dX4_comesAgain_5 : decode cX4_comesAgain 5 = .ok (.bipush (-6), 2) := by decide +kernel
theorem dX4_comesAgain_7 : decode cX4_comesAgain 7 = .ok (.if_icmp .eq 10, 3) := by decide +kernel
theorem dX4_comesAgain_10 : decode cX4_comesAgain 10 = .ok (.iload_n 2, 1) := by decide +kernel
theorem dX4_comesAgain_11 : decode cX4_comesAgain 11 = .ok (.iload_n 1, 1) := by decide +kernel
theorem dX4_comesAgain_12 : decode cX4_comesAgain 12 = .ok (.isub, 1) := by decide +kernel
theorem dX4_comesAgain_13 : decode cX4_comesAgain 13 = .ok (.iload_n 0, 1) := by decide +kernel
theorem dX4_comesAgain_14 : decode cX4_comesAgain 14 = .ok (.if_icmp .lt 7, 3) := by decide +kernel
theorem dX4_comesAgain_17 : decode cX4_comesAgain 17 = .ok (.iconst 1, 1) := by decide +kernel
theorem dX4_comesAgain_18 : decode cX4_comesAgain 18 = .ok (.goto 4, 3) := by decide +kernel
theorem dX4_comesAgain_21 : decode cX4_comesAgain 21 = .ok (.iconst 0, 1) := by decide +kernel
theorem dX4_comesAgain_22 : decode cX4_comesAgain 22 = .ok (.ireturn, 1) := by decide +kernel
theorem dX5_init_0 : decode cX5_init 0 = .ok (.aload_n 0, 1) := by decide +kernel
theorem dX5_init_1 : decode cX5_init 1 = .ok (.invokespecial 1, 3) := by decide +kernel
theorem dX5_init_4 : decode cX5_init 4 = .ok (.aload_n 0, 1) := by decide +kernel
theorem dX5_init_5 : decode cX5_init 5 = .ok (.new 7, 3) := by decide +kernel
theorem dX5_init_8 : decode cX5_init 8 = .ok (.dup, 1) := by decide +kernel
theorem dX5_init_9 : decode cX5_init 9 = .ok (.invokespecial 9, 3) := by decide +kernel
theorem dX5_init_12 : decode cX5_init 12 = .ok (.putfield 10, 3) := by decide +kernel
theorem dX5_init_15 : decode cX5_init 15 = .ok (.aload_n 0, 1) := by decide +kernel
theorem dX5_init_16 : decode cX5_init 16 = .ok (.new 16, 3) := by decide +kernel
theorem dX5_init_19 : decode cX5_init 19 = .ok (.dup, 1) := by decide +kernel
theorem dX5_init_20 : decode cX5_init 20 = .ok (.invokespecial 18, 3) := by decide +kernel
theorem dX5_init_23 : decode cX5_init 23 = .ok (.putfield 19, 3) := by decide +kernel
theorem dX5_init_26 : decode cX5_init 26 = .ok (.aload_n 0, 1) := by decide +kernel
theorem dX5_init_27 : decode cX5_init 27 = .ok (.new 16, 3) := by decide +kernel
theorem dX5_init_30 : decode cX5_init 30 = .ok (.dup, 1) := by decide +kernel
theorem dX5_init_31 : decode cX5_init 31 = .ok (.invokespecial 18, 3) := by decide +kernel
theorem dX5_init_34 : decode cX5_init 34 = .ok (.putfield 23, 3) := by decide +kernel
theorem dX5_init_37 : decode cX5_init 37 = .ok (.aload_n 0, 1) := by decide +kernel
theorem dX5_init_38 : decode cX5_init 38 = .ok (.iconst 2, 1) := by decide +kernel
theorem dX5_init_39 : decode cX5_init 39 = .ok (.anewarray 16, 3) := by decide +kernel
theorem dX5_init_42 : decode cX5_init 42 = .ok (.putfield 26, 3) := by decide +kernel
theorem dX5_init_45 : decode cX5_init 45 = .ok (.aload_n 0, 1) := by decide +kernel
theorem dX5_init_46 : decode cX5_init 46 = .ok (.new 30, 3) := by decide +kernel
theorem dX5_init_49 : decode cX5_init 49 = .ok (.dup, 1) := by decide +kernel
theorem dX5_init_50 : decode cX5_init 50 = .ok (.invokespecial 32, 3) := by decide +kernel
theorem dX5_init_53 : decode cX5_init 53 = .ok (.putfield 33, 3) := by decide +kernel
theorem dX5_init_56 : decode cX5_init 56 = .ok (.aload_n 0, 1) := by decide +kernel
theorem dX5_init_57 : decode cX5_init 57 = .ok (.iconst 0, 1) := by decide +kernel
theorem dX5_init_58 : decode cX5_init 58 = .ok (.putfield 37, 3) := by decide +kernel
theorem dX5_init_61 : decode cX5_init 61 = .ok (.aload_n 0, 1) := by decide +kernel
theorem dX5_init_62 : decode cX5_init 62 = .ok (.bipush (-6), 2) := by decide +kernel
theorem dX5_init_64 : decode cX5_init 64 = .ok (.putfield 41, 3) := by decide +kernel
theorem dX5_init_67 : decode cX5_init 67 = .ok (.aload_n 0, 1) := by decide +kernel
theorem dX5_init_68 : decode cX5_init 68 = .ok (.iconst 0, 1) := by decide +kernel
theorem dX5_init_69 : decode cX5_init 69 = .ok (.putfield 44, 3) := by decide +kernel
theorem dX5_init_72 : decode cX5_init 72 = .ok (.iconst 0, 1) := by decide +kernel
theorem dX5_init_73 : decode cX5_init 73 = .ok (.istore_n 1, 1) := by decide +kernel
theorem dX5_init_74 : decode cX5_init 74 = .ok (.iload_n 1, 1) := by decide +kernel
theorem dX5_init_75 : decode cX5_init 75 = .ok (.iconst 2, 1) := by decide +kernel
theorem dX5_init_76 : decode cX5_init 76 = .ok (.if_icmp .ge 22, 3) := by decide +kernel
theorem dX5_init_79 : decode cX5_init 79 = .ok (.aload_n 0, 1) := by decide +kernel
theorem dX5_init_80 : decode cX5_init 80 = .ok (.getfield 26, 3) := by decide +kernel
theorem dX5_init_83 : decode cX5_init 83 = .ok (.iload_n 1, 1) := by decide +kernel
theorem dX5_init_84 : decode cX5_init 84 = .ok (.new 16, 3) := by decide +kernel
theorem dX5_init_87 : decode cX5_init 87 = .ok (.dup, 1) := by decide +kernel
theorem dX5_init_88 : decode cX5_init 88 = .ok (.invokespecial 18, 3) := by decide +kernel
theorem dX5_init_91 : decode cX5_init 91 = .ok (.aastore, 1) := by decide +kernel
theorem dX5_init_92 : decode cX5_init 92 = .ok (.iinc 1 1, 3) := by decide +kernel
theorem dX5_init_95 : decode cX5_init 95 = .ok (.goto (-21), 3) := by decide +kernel
theorem dX5_init_98 : decode cX5_init 98 = .ok (.return_, 1) := by decide +kernel
theorem dX5_say_0 : decode cX5_say 0 = .ok (.iload_n 1, 1) := by decide +kernel
theorem dX5_say_1 : decode cX5_say 1 = .ok (.bipush 32, 2) := by decide +kernel
theorem dX5_say_3 : decode cX5_say 3 = .ok (.bipush 126, 2) := by decide +kernel
theorem dX5_say_5 : decode cX5_say 5 = .ok (.invokestatic 48, 3) := by decide +kernel
theorem dX5_say_8 : decode cX5_say 8 = .ok (.ifCond .ne 6, 3) := by decide +kernel
theorem dX5_say_11 : decode cX5_say 11 = .ok (.bipush (-2), 2) := by decide +kernel
theorem dX5_say_13 : decode cX5_say 13 = .ok (.ireturn, 1) := by decide +kernel
theorem dX5_say_14 : decode cX5_say 14 = .ok (.aload_n 0, 1) := by decide +kernel
theorem dX5_say_15 : decode cX5_say 15 = .ok (.getfield 10, 3) := by decide +kernel
theorem dX5_say_18 : decode cX5_say 18 = .ok (.iload_n 1, 1) := by decide +kernel
theorem dX5_say_19 : decode cX5_say 19 = .ok (.invokevirtual 52, 3) := by decide +kernel
theorem dX5_say_22 : decode cX5_say 22 = .ok (.ifCond .eq 13, 3) := by decide +kernel
theorem dX5_say_25 : decode cX5_say 25 = .ok (.aload_n 0, 1) := by decide +kernel
theorem dX5_say_26 : decode cX5_say 26 = .ok (.getfield 10, 3) := by decide +kernel
theorem dX5_say_29 : decode cX5_say 29 = .ok (.getfield 56, 3) := by decide +kernel
theorem dX5_say_32 : decode cX5_say 32 = .ok (.goto 5, 3) := by decide +kernel
theorem dX5_say_35 : decode cX5_say 35 = .ok (.bipush (-4), 2) := by decide +kernel
theorem dX5_say_37 : decode cX5_say 37 = .ok (.ireturn, 1) := by decide +kernel
theorem dX5_wipe_0 : decode cX5_wipe 0 = .ok (.aload_n 0, 1) := by decide +kernel
theorem dX5_wipe_1 : decode cX5_wipe 1 = .ok (.getfield 10, 3) := by decide +kernel
theorem dX5_wipe_4 : decode cX5_wipe 4 = .ok (.getfield 56, 3) := by decide +kernel
theorem dX5_wipe_7 : decode cX5_wipe 7 = .ok (.istore_n 1, 1) := by decide +kernel
theorem dX5_wipe_8 : decode cX5_wipe 8 = .ok (.aload_n 0, 1) := by decide +kernel
theorem dX5_wipe_9 : decode cX5_wipe 9 = .ok (.getfield 10, 3) := by decide +kernel
theorem dX5_wipe_12 : decode cX5_wipe 12 = .ok (.iconst 0, 1) := by decide +kernel
theorem dX5_wipe_13 : decode cX5_wipe 13 = .ok (.putfield 56, 3) := by decide +kernel
theorem dX5_wipe_16 : decode cX5_wipe 16 = .ok (.iload_n 1, 1) := by decide +kernel
theorem dX5_wipe_17 : decode cX5_wipe 17 = .ok (.ireturn, 1) := by decide +kernel
theorem dX5_line_0 : decode cX5_line 0 = .ok (.aload_n 0, 1) := by decide +kernel
theorem dX5_line_1 : decode cX5_line 1 = .ok (.getfield 10, 3) := by decide +kernel
theorem dX5_line_4 : decode cX5_line 4 = .ok (.invokevirtual 59, 3) := by decide +kernel
theorem dX5_line_7 : decode cX5_line 7 = .ok (.istore_n 1, 1) := by decide +kernel
theorem dX5_line_8 : decode cX5_line 8 = .ok (.iload_n 1, 1) := by decide +kernel
theorem dX5_line_9 : decode cX5_line 9 = .ok (.bipush (-6), 2) := by decide +kernel
theorem dX5_line_11 : decode cX5_line 11 = .ok (.if_icmp .eq 11, 3) := by decide +kernel
theorem dX5_line_14 : decode cX5_line 14 = .ok (.aload_n 0, 1) := by decide +kernel
theorem dX5_line_15 : decode cX5_line 15 = .ok (.iload_n 1, 1) := by decide +kernel
theorem dX5_line_16 : decode cX5_line 16 = .ok (.putfield 41, 3) := by decide +kernel
theorem dX5_line_19 : decode cX5_line 19 = .ok (.bipush (-7), 2) := by decide +kernel
theorem dX5_line_21 : decode cX5_line 21 = .ok (.ireturn, 1) := by decide +kernel
theorem dX5_line_22 : decode cX5_line 22 = .ok (.aload_n 0, 1) := by decide +kernel
theorem dX5_line_23 : decode cX5_line 23 = .ok (.aload_n 0, 1) := by decide +kernel
theorem dX5_line_24 : decode cX5_line 24 = .ok (.getfield 10, 3) := by decide +kernel
theorem dX5_line_27 : decode cX5_line 27 = .ok (.getfield 63, 3) := by decide +kernel
theorem dX5_line_30 : decode cX5_line 30 = .ok (.invokevirtual 67, 3) := by decide +kernel
theorem dX5_line_33 : decode cX5_line 33 = .ok (.istore_n 2, 1) := by decide +kernel
theorem dX5_line_34 : decode cX5_line 34 = .ok (.iload_n 2, 1) := by decide +kernel
theorem dX5_line_35 : decode cX5_line 35 = .ok (.ifCond .lt 16, 3) := by decide +kernel
theorem dX5_line_38 : decode cX5_line 38 = .ok (.aload_n 0, 1) := by decide +kernel
theorem dX5_line_39 : decode cX5_line 39 = .ok (.getfield 10, 3) := by decide +kernel
theorem dX5_line_42 : decode cX5_line 42 = .ok (.iconst 0, 1) := by decide +kernel
theorem dX5_line_43 : decode cX5_line 43 = .ok (.putfield 56, 3) := by decide +kernel
theorem dX5_line_46 : decode cX5_line 46 = .ok (.aload_n 0, 1) := by decide +kernel
theorem dX5_line_47 : decode cX5_line 47 = .ok (.iconst 0, 1) := by decide +kernel
theorem dX5_line_48 : decode cX5_line 48 = .ok (.putfield 44, 3) := by decide +kernel
theorem dX5_line_51 : decode cX5_line 51 = .ok (.iload_n 2, 1) := by decide +kernel
theorem dX5_line_52 : decode cX5_line 52 = .ok (.ireturn, 1) := by decide +kernel
theorem dX5_fault_0 : decode cX5_fault 0 = .ok (.aload_n 0, 1) := by decide +kernel
theorem dX5_fault_1 : decode cX5_fault 1 = .ok (.getfield 10, 3) := by decide +kernel
theorem dX5_fault_4 : decode cX5_fault 4 = .ok (.invokevirtual 59, 3) := by decide +kernel
theorem dX5_fault_7 : decode cX5_fault 7 = .ok (.ireturn, 1) := by decide +kernel
theorem dX5_written_0 : decode cX5_written 0 = .ok (.iload_n 1, 1) := by decide +kernel
theorem dX5_written_1 : decode cX5_written 1 = .ok (.invokestatic 71, 3) := by decide +kernel
theorem dX5_written_4 : decode cX5_written 4 = .ok (.ifCond .eq 8, 3) := by decide +kernel
theorem dX5_written_7 : decode cX5_written 7 = .ok (.iload_n 3, 1) := by decide +kernel
theorem dX5_written_8 : decode cX5_written 8 = .ok (.iconst (-1), 1) := by decide +kernel
theorem dX5_written_9 : decode cX5_written 9 = .ok (.if_icmp .ge 6, 3) := by decide +kernel
theorem dX5_written_12 : decode cX5_written 12 = .ok (.bipush (-2), 2) := by decide +kernel
theorem dX5_written_14 : decode cX5_written 14 = .ok (.ireturn, 1) := by decide +kernel
theorem dX5_written_15 : decode cX5_written 15 = .ok (.aload_n 0, 1) := by decide +kernel
theorem dX5_written_16 : decode cX5_written 16 = .ok (.getfield 19, 3) := by decide +kernel
theorem dX5_written_19 : decode cX5_written 19 = .ok (.getfield 74, 3) := by decide +kernel
theorem dX5_written_22 : decode cX5_written 22 = .ok (.iload_n 1, 1) := by decide +kernel
theorem dX5_written_23 : decode cX5_written 23 = .ok (.aaload, 1) := by decide +kernel
theorem dX5_written_24 : decode cX5_written 24 = .ok (.astore 4, 2) := by decide +kernel
theorem dX5_written_26 : decode cX5_written 26 = .ok (.aload 4, 2) := by decide +kernel
theorem dX5_written_28 : decode cX5_written 28 = .ok (.iload_n 2, 1) := by decide +kernel
theorem dX5_written_29 : decode cX5_written 29 = .ok (.invokevirtual 78, 3) := by decide +kernel
theorem dX5_written_32 : decode cX5_written 32 = .ok (.ifCond .ne 6, 3) := by decide +kernel
theorem dX5_written_35 : decode cX5_written 35 = .ok (.bipush (-6), 2) := by decide +kernel
theorem dX5_written_37 : decode cX5_written 37 = .ok (.ireturn, 1) := by decide +kernel
theorem dX5_written_38 : decode cX5_written 38 = .ok (.new 83, 3) := by decide +kernel
theorem dX5_written_41 : decode cX5_written 41 = .ok (.dup, 1) := by decide +kernel
theorem dX5_written_42 : decode cX5_written 42 = .ok (.invokespecial 85, 3) := by decide +kernel
theorem dX5_written_45 : decode cX5_written 45 = .ok (.astore 5, 2) := by decide +kernel
theorem dX5_written_47 : decode cX5_written 47 = .ok (.aload 5, 2) := by decide +kernel
theorem dX5_written_49 : decode cX5_written 49 = .ok (.iconst 0, 1) := by decide +kernel
theorem dX5_written_50 : decode cX5_written 50 = .ok (.invokestatic 86, 3) := by decide +kernel
theorem dX5_written_53 : decode cX5_written 53 = .ok (.invokevirtual 90, 3) := by decide +kernel
theorem dX5_written_56 : decode cX5_written 56 = .ok (.pop, 1) := by decide +kernel
theorem dX5_written_57 : decode cX5_written 57 = .ok (.aload 5, 2) := by decide +kernel
theorem dX5_written_59 : decode cX5_written 59 = .ok (.bipush 32, 2) := by decide +kernel
theorem dX5_written_61 : decode cX5_written 61 = .ok (.invokevirtual 94, 3) := by decide +kernel
theorem dX5_written_64 : decode cX5_written 64 = .ok (.iload_n 1, 1) := by decide +kernel
theorem dX5_written_65 : decode cX5_written 65 = .ok (.invokevirtual 97, 3) := by decide +kernel
theorem dX5_written_68 : decode cX5_written 68 = .ok (.pop, 1) := by decide +kernel
theorem dX5_written_69 : decode cX5_written 69 = .ok (.aload 5, 2) := by decide +kernel
theorem dX5_written_71 : decode cX5_written 71 = .ok (.bipush 32, 2) := by decide +kernel
theorem dX5_written_73 : decode cX5_written 73 = .ok (.invokevirtual 94, 3) := by decide +kernel
theorem dX5_written_76 : decode cX5_written 76 = .ok (.aload 4, 2) := by decide +kernel
theorem dX5_written_78 : decode cX5_written 78 = .ok (.getfield 100, 3) := by decide +kernel
theorem dX5_written_81 : decode cX5_written 81 = .ok (.iload_n 2, 1) := by decide +kernel
theorem dX5_written_82 : decode cX5_written 82 = .ok (.iaload, 1) := by decide +kernel
theorem dX5_written_83 : decode cX5_written 83 = .ok (.invokevirtual 97, 3) := by decide +kernel
theorem dX5_written_86 : decode cX5_written 86 = .ok (.pop, 1) := by decide +kernel
theorem dX5_written_87 : decode cX5_written 87 = .ok (.aload 5, 2) := by decide +kernel
theorem dX5_written_89 : decode cX5_written 89 = .ok (.bipush 32, 2) := by decide +kernel
theorem dX5_written_91 : decode cX5_written 91 = .ok (.invokevirtual 94, 3) := by decide +kernel
theorem dX5_written_94 : decode cX5_written 94 = .ok (.aload 4, 2) := by decide +kernel
theorem dX5_written_96 : decode cX5_written 96 = .ok (.getfield 103, 3) := by decide +kernel
theorem dX5_written_99 : decode cX5_written 99 = .ok (.iload_n 2, 1) := by decide +kernel
theorem dX5_written_100 : decode cX5_written 100 = .ok (.iaload, 1) := by decide +kernel
theorem dX5_written_101 : decode cX5_written 101 = .ok (.invokevirtual 97, 3) := by decide +kernel
theorem dX5_written_104 : decode cX5_written 104 = .ok (.pop, 1) := by decide +kernel
theorem dX5_written_105 : decode cX5_written 105 = .ok (.iload_n 3, 1) := by decide +kernel
theorem dX5_written_106 : decode cX5_written 106 = .ok (.iconst (-1), 1) := by decide +kernel
theorem dX5_written_107 : decode cX5_written 107 = .ok (.if_icmp .ne 9, 3) := by decide +kernel
theorem dX5_written_110 : decode cX5_written 110 = .ok (.aload 5, 2) := by decide +kernel
theorem dX5_written_112 : decode cX5_written 112 = .ok (.invokevirtual 106, 3) := by decide +kernel
theorem dX5_written_115 : decode cX5_written 115 = .ok (.ireturn, 1) := by decide +kernel
theorem dX5_written_116 : decode cX5_written 116 = .ok (.iload_n 3, 1) := by decide +kernel
theorem dX5_written_117 : decode cX5_written 117 = .ok (.aload 5, 2) := by decide +kernel
theorem dX5_written_119 : decode cX5_written 119 = .ok (.invokevirtual 106, 3) := by decide +kernel
theorem dX5_written_122 : decode cX5_written 122 = .ok (.if_icmp .lt 6, 3) := by decide +kernel
theorem dX5_written_125 : decode cX5_written 125 = .ok (.bipush (-6), 2) := by decide +kernel
theorem dX5_written_127 : decode cX5_written 127 = .ok (.ireturn, 1) := by decide +kernel
theorem dX5_written_128 : decode cX5_written 128 = .ok (.aload 5, 2) := by decide +kernel
theorem dX5_written_130 : decode cX5_written 130 = .ok (.iload_n 3, 1) := by decide +kernel
theorem dX5_written_131 : decode cX5_written 131 = .ok (.invokevirtual 108, 3) := by decide +kernel
theorem dX5_written_134 : decode cX5_written 134 = .ok (.ireturn, 1) := by decide +kernel
theorem dX5_told_0 : decode cX5_told 0 = .ok (.iload_n 1, 1) := by decide +kernel
theorem dX5_told_1 : decode cX5_told 1 = .ok (.invokestatic 71, 3) := by decide +kernel
theorem dX5_told_4 : decode cX5_told 4 = .ok (.ifCond .ne 6, 3) := by decide +kernel
theorem dX5_told_7 : decode cX5_told 7 = .ok (.bipush (-2), 2) := by decide +kernel
theorem dX5_told_9 : decode cX5_told 9 = .ok (.ireturn, 1) := by decide +kernel
theorem dX5_told_10 : decode cX5_told 10 = .ok (.aload_n 0, 1) := by decide +kernel
theorem dX5_told_11 : decode cX5_told 11 = .ok (.getfield 19, 3) := by decide +kernel
theorem dX5_told_14 : decode cX5_told 14 = .ok (.getfield 74, 3) := by decide +kernel
theorem dX5_told_17 : decode cX5_told 17 = .ok (.iload_n 1, 1) := by decide +kernel
theorem dX5_told_18 : decode cX5_told 18 = .ok (.aaload, 1) := by decide +kernel
theorem dX5_told_19 : decode cX5_told 19 = .ok (.astore_n 3, 1) := by decide +kernel
theorem dX5_told_20 : decode cX5_told 20 = .ok (.iload_n 2, 1) := by decide +kernel
theorem dX5_told_21 : decode cX5_told 21 = .ok (.tableswitch 60 0 4 #[35, 40, 45, 50, 55], 35) := by decide +kernel
theorem dX5_told_56 : decode cX5_told 56 = .ok (.aload_n 3, 1) := by decide +kernel
theorem dX5_told_57 : decode cX5_told 57 = .ok (.getfield 112, 3) := by decide +kernel
theorem dX5_told_60 : decode cX5_told 60 = .ok (.ireturn, 1) := by decide +kernel
theorem dX5_told_61 : decode cX5_told 61 = .ok (.aload_n 3, 1) := by decide +kernel
theorem dX5_told_62 : decode cX5_told 62 = .ok (.getfield 115, 3) := by decide +kernel
theorem dX5_told_65 : decode cX5_told 65 = .ok (.ireturn, 1) := by decide +kernel
theorem dX5_told_66 : decode cX5_told 66 = .ok (.aload_n 3, 1) := by decide +kernel
theorem dX5_told_67 : decode cX5_told 67 = .ok (.getfield 118, 3) := by decide +kernel
theorem dX5_told_70 : decode cX5_told 70 = .ok (.ireturn, 1) := by decide +kernel
theorem dX5_told_71 : decode cX5_told 71 = .ok (.aload_n 3, 1) := by decide +kernel
theorem dX5_told_72 : decode cX5_told 72 = .ok (.invokevirtual 121, 3) := by decide +kernel
theorem dX5_told_75 : decode cX5_told 75 = .ok (.ireturn, 1) := by decide +kernel
theorem dX5_told_76 : decode cX5_told 76 = .ok (.aload_n 3, 1) := by decide +kernel
theorem dX5_told_77 : decode cX5_told 77 = .ok (.invokevirtual 124, 3) := by decide +kernel
theorem dX5_told_80 : decode cX5_told 80 = .ok (.ireturn, 1) := by decide +kernel
theorem dX5_told_81 : decode cX5_told 81 = .ok (.bipush (-2), 2) := by decide +kernel
theorem dX5_told_83 : decode cX5_told 83 = .ok (.ireturn, 1) := by decide +kernel
theorem dX5_packet_0 : decode cX5_packet 0 = .ok (.iload_n 1, 1) := by decide +kernel
theorem dX5_packet_1 : decode cX5_packet 1 = .ok (.invokestatic 127, 3) := by decide +kernel
theorem dX5_packet_4 : decode cX5_packet 4 = .ok (.ifCond .eq 20, 3) := by decide +kernel
theorem dX5_packet_7 : decode cX5_packet 7 = .ok (.iload_n 2, 1) := by decide +kernel
theorem dX5_packet_8 : decode cX5_packet 8 = .ok (.iconst 0, 1) := by decide +kernel
theorem dX5_packet_9 : decode cX5_packet 9 = .ok (.aload_n 0, 1) := by decide +kernel
theorem dX5_packet_10 : decode cX5_packet 10 = .ok (.getfield 19, 3) := by decide +kernel
theorem dX5_packet_13 : decode cX5_packet 13 = .ok (.getfield 130, 3) := by decide +kernel
theorem dX5_packet_16 : decode cX5_packet 16 = .ok (.iconst 1, 1) := by decide +kernel
theorem dX5_packet_17 : decode cX5_packet 17 = .ok (.isub, 1) := by decide +kernel
theorem dX5_packet_18 : decode cX5_packet 18 = .ok (.invokestatic 48, 3) := by decide +kernel
theorem dX5_packet_21 : decode cX5_packet 21 = .ok (.ifCond .ne 6, 3) := by decide +kernel
theorem dX5_packet_24 : decode cX5_packet 24 = .ok (.bipush (-2), 2) := by decide +kernel
theorem dX5_packet_26 : decode cX5_packet 26 = .ok (.ireturn, 1) := by decide +kernel
theorem dX5_packet_27 : decode cX5_packet 27 = .ok (.aload_n 0, 1) := by decide +kernel
theorem dX5_packet_28 : decode cX5_packet 28 = .ok (.invokevirtual 133, 3) := by decide +kernel
theorem dX5_packet_31 : decode cX5_packet 31 = .ok (.iload_n 1, 1) := by decide +kernel
theorem dX5_packet_32 : decode cX5_packet 32 = .ok (.iload_n 2, 1) := by decide +kernel
theorem dX5_packet_33 : decode cX5_packet 33 = .ok (.invokestatic 136, 3) := by decide +kernel
theorem dX5_packet_36 : decode cX5_packet 36 = .ok (.istore 4, 2) := by decide +kernel
theorem dX5_packet_38 : decode cX5_packet 38 = .ok (.iload_n 3, 1) := by decide +kernel
theorem dX5_packet_39 : decode cX5_packet 39 = .ok (.tableswitch 73 0 3 #[29, 40, 51, 62], 29) := by decide +kernel
theorem dX5_packet_68 : decode cX5_packet 68 = .ok (.aload_n 0, 1) := by decide +kernel
theorem dX5_packet_69 : decode cX5_packet 69 = .ok (.getfield 33, 3) := by decide +kernel
theorem dX5_packet_72 : decode cX5_packet 72 = .ok (.getfield 140, 3) := by decide +kernel
theorem dX5_packet_75 : decode cX5_packet 75 = .ok (.iload 4, 2) := by decide +kernel
theorem dX5_packet_77 : decode cX5_packet 77 = .ok (.iaload, 1) := by decide +kernel
theorem dX5_packet_78 : decode cX5_packet 78 = .ok (.ireturn, 1) := by decide +kernel
theorem dX5_packet_79 : decode cX5_packet 79 = .ok (.aload_n 0, 1) := by decide +kernel
theorem dX5_packet_80 : decode cX5_packet 80 = .ok (.getfield 33, 3) := by decide +kernel
theorem dX5_packet_83 : decode cX5_packet 83 = .ok (.getfield 143, 3) := by decide +kernel
theorem dX5_packet_86 : decode cX5_packet 86 = .ok (.iload 4, 2) := by decide +kernel
theorem dX5_packet_88 : decode cX5_packet 88 = .ok (.iaload, 1) := by decide +kernel
theorem dX5_packet_89 : decode cX5_packet 89 = .ok (.ireturn, 1) := by decide +kernel
theorem dX5_packet_90 : decode cX5_packet 90 = .ok (.aload_n 0, 1) := by decide +kernel
theorem dX5_packet_91 : decode cX5_packet 91 = .ok (.getfield 33, 3) := by decide +kernel
theorem dX5_packet_94 : decode cX5_packet 94 = .ok (.getfield 146, 3) := by decide +kernel
theorem dX5_packet_97 : decode cX5_packet 97 = .ok (.iload 4, 2) := by decide +kernel
theorem dX5_packet_99 : decode cX5_packet 99 = .ok (.iaload, 1) := by decide +kernel
theorem dX5_packet_100 : decode cX5_packet 100 = .ok (.ireturn, 1) := by decide +kernel
theorem dX5_packet_101 : decode cX5_packet 101 = .ok (.aload_n 0, 1) := by decide +kernel
theorem dX5_packet_102 : decode cX5_packet 102 = .ok (.getfield 33, 3) := by decide +kernel
theorem dX5_packet_105 : decode cX5_packet 105 = .ok (.getfield 149, 3) := by decide +kernel
theorem dX5_packet_108 : decode cX5_packet 108 = .ok (.iload 4, 2) := by decide +kernel
theorem dX5_packet_110 : decode cX5_packet 110 = .ok (.iaload, 1) := by decide +kernel
theorem dX5_packet_111 : decode cX5_packet 111 = .ok (.ireturn, 1) := by decide +kernel
theorem dX5_packet_112 : decode cX5_packet 112 = .ok (.bipush (-2), 2) := by decide +kernel
theorem dX5_packet_114 : decode cX5_packet 114 = .ok (.ireturn, 1) := by decide +kernel
theorem dX5_held_0 : decode cX5_held 0 = .ok (.iload_n 1, 1) := by decide +kernel
theorem dX5_held_1 : decode cX5_held 1 = .ok (.invokestatic 71, 3) := by decide +kernel
theorem dX5_held_4 : decode cX5_held 4 = .ok (.ifCond .eq 10, 3) := by decide +kernel
theorem dX5_held_7 : decode cX5_held 7 = .ok (.iload_n 2, 1) := by decide +kernel
theorem dX5_held_8 : decode cX5_held 8 = .ok (.invokestatic 127, 3) := by decide +kernel
theorem dX5_held_11 : decode cX5_held 11 = .ok (.ifCond .ne 6, 3) := by decide +kernel
theorem dX5_held_14 : decode cX5_held 14 = .ok (.bipush (-2), 2) := by decide +kernel
theorem dX5_held_16 : decode cX5_held 16 = .ok (.ireturn, 1) := by decide +kernel
theorem dX5_held_17 : decode cX5_held 17 = .ok (.aload_n 0, 1) := by decide +kernel
theorem dX5_held_18 : decode cX5_held 18 = .ok (.invokevirtual 133, 3) := by decide +kernel
theorem dX5_held_21 : decode cX5_held 21 = .ok (.aload_n 0, 1) := by decide +kernel
theorem dX5_held_22 : decode cX5_held 22 = .ok (.getfield 33, 3) := by decide +kernel
theorem dX5_held_25 : decode cX5_held 25 = .ok (.getfield 152, 3) := by decide +kernel
theorem dX5_held_28 : decode cX5_held 28 = .ok (.iload_n 1, 1) := by decide +kernel
theorem dX5_held_29 : decode cX5_held 29 = .ok (.aaload, 1) := by decide +kernel
theorem dX5_held_30 : decode cX5_held 30 = .ok (.getfield 156, 3) := by decide +kernel
theorem dX5_held_33 : decode cX5_held 33 = .ok (.iload_n 2, 1) := by decide +kernel
theorem dX5_held_34 : decode cX5_held 34 = .ok (.iaload, 1) := by decide +kernel
theorem dX5_held_35 : decode cX5_held 35 = .ok (.ireturn, 1) := by decide +kernel
theorem dX5_frame_0 : decode cX5_frame 0 = .ok (.iload_n 1, 1) := by decide +kernel
theorem dX5_frame_1 : decode cX5_frame 1 = .ok (.invokestatic 71, 3) := by decide +kernel
theorem dX5_frame_4 : decode cX5_frame 4 = .ok (.ifCond .eq 12, 3) := by decide +kernel
theorem dX5_frame_7 : decode cX5_frame 7 = .ok (.iload_n 3, 1) := by decide +kernel
theorem dX5_frame_8 : decode cX5_frame 8 = .ok (.iconst 0, 1) := by decide +kernel
theorem dX5_frame_9 : decode cX5_frame 9 = .ok (.iconst 5, 1) := by decide +kernel
theorem dX5_frame_10 : decode cX5_frame 10 = .ok (.invokestatic 48, 3) := by decide +kernel
theorem dX5_frame_13 : decode cX5_frame 13 = .ok (.ifCond .ne 6, 3) := by decide +kernel
theorem dX5_frame_16 : decode cX5_frame 16 = .ok (.bipush (-2), 2) := by decide +kernel
theorem dX5_frame_18 : decode cX5_frame 18 = .ok (.ireturn, 1) := by decide +kernel
theorem dX5_frame_19 : decode cX5_frame 19 = .ok (.aload_n 0, 1) := by decide +kernel
theorem dX5_frame_20 : decode cX5_frame 20 = .ok (.getfield 19, 3) := by decide +kernel
theorem dX5_frame_23 : decode cX5_frame 23 = .ok (.getfield 74, 3) := by decide +kernel
theorem dX5_frame_26 : decode cX5_frame 26 = .ok (.iload_n 1, 1) := by decide +kernel
theorem dX5_frame_27 : decode cX5_frame 27 = .ok (.aaload, 1) := by decide +kernel
theorem dX5_frame_28 : decode cX5_frame 28 = .ok (.astore 4, 2) := by decide +kernel
theorem dX5_frame_30 : decode cX5_frame 30 = .ok (.aload 4, 2) := by decide +kernel
theorem dX5_frame_32 : decode cX5_frame 32 = .ok (.iload_n 2, 1) := by decide +kernel
theorem dX5_frame_33 : decode cX5_frame 33 = .ok (.invokevirtual 78, 3) := by decide +kernel
theorem dX5_frame_36 : decode cX5_frame 36 = .ok (.ifCond .ne 6, 3) := by decide +kernel
theorem dX5_frame_39 : decode cX5_frame 39 = .ok (.bipush (-6), 2) := by decide +kernel
theorem dX5_frame_41 : decode cX5_frame 41 = .ok (.ireturn, 1) := by decide +kernel
theorem dX5_frame_42 : decode cX5_frame 42 = .ok (.aload_n 0, 1) := by decide +kernel
theorem dX5_frame_43 : decode cX5_frame 43 = .ok (.invokevirtual 133, 3) := by decide +kernel
theorem dX5_frame_46 : decode cX5_frame 46 = .ok (.aload_n 0, 1) := by decide +kernel
theorem dX5_frame_47 : decode cX5_frame 47 = .ok (.getfield 33, 3) := by decide +kernel
theorem dX5_frame_50 : decode cX5_frame 50 = .ok (.getfield 152, 3) := by decide +kernel
theorem dX5_frame_53 : decode cX5_frame 53 = .ok (.iload_n 1, 1) := by decide +kernel
theorem dX5_frame_54 : decode cX5_frame 54 = .ok (.aaload, 1) := by decide +kernel
theorem dX5_frame_55 : decode cX5_frame 55 = .ok (.astore 5, 2) := by decide +kernel
theorem dX5_frame_57 : decode cX5_frame 57 = .ok (.iload_n 3, 1) := by decide +kernel
theorem dX5_frame_58 : decode cX5_frame 58 = .ok (.tableswitch 74 0 4 #[34, 42, 50, 58, 66], 34) := by decide +kernel
theorem dX5_frame_92 : decode cX5_frame 92 = .ok (.aload 4, 2) := by decide +kernel
theorem dX5_frame_94 : decode cX5_frame 94 = .ok (.getfield 100, 3) := by decide +kernel
theorem dX5_frame_97 : decode cX5_frame 97 = .ok (.iload_n 2, 1) := by decide +kernel
theorem dX5_frame_98 : decode cX5_frame 98 = .ok (.iaload, 1) := by decide +kernel
theorem dX5_frame_99 : decode cX5_frame 99 = .ok (.ireturn, 1) := by decide +kernel
theorem dX5_frame_100 : decode cX5_frame 100 = .ok (.aload 4, 2) := by decide +kernel
theorem dX5_frame_102 : decode cX5_frame 102 = .ok (.getfield 103, 3) := by decide +kernel
theorem dX5_frame_105 : decode cX5_frame 105 = .ok (.iload_n 2, 1) := by decide +kernel
theorem dX5_frame_106 : decode cX5_frame 106 = .ok (.iaload, 1) := by decide +kernel
theorem dX5_frame_107 : decode cX5_frame 107 = .ok (.ireturn, 1) := by decide +kernel
theorem dX5_frame_108 : decode cX5_frame 108 = .ok (.aload 5, 2) := by decide +kernel
theorem dX5_frame_110 : decode cX5_frame 110 = .ok (.getfield 161, 3) := by decide +kernel
theorem dX5_frame_113 : decode cX5_frame 113 = .ok (.iload_n 2, 1) := by decide +kernel
theorem dX5_frame_114 : decode cX5_frame 114 = .ok (.iaload, 1) := by decide +kernel
theorem dX5_frame_115 : decode cX5_frame 115 = .ok (.ireturn, 1) := by decide +kernel
theorem dX5_frame_116 : decode cX5_frame 116 = .ok (.aload 5, 2) := by decide +kernel
theorem dX5_frame_118 : decode cX5_frame 118 = .ok (.getfield 164, 3) := by decide +kernel
theorem dX5_frame_121 : decode cX5_frame 121 = .ok (.iload_n 2, 1) := by decide +kernel
theorem dX5_frame_122 : decode cX5_frame 122 = .ok (.iaload, 1) := by decide +kernel
theorem dX5_frame_123 : decode cX5_frame 123 = .ok (.ireturn, 1) := by decide +kernel
theorem dX5_frame_124 : decode cX5_frame 124 = .ok (.aload 5, 2) := by decide +kernel
theorem dX5_frame_126 : decode cX5_frame 126 = .ok (.getfield 167, 3) := by decide +kernel
theorem dX5_frame_129 : decode cX5_frame 129 = .ok (.iload_n 2, 1) := by decide +kernel
theorem dX5_frame_130 : decode cX5_frame 130 = .ok (.iaload, 1) := by decide +kernel
theorem dX5_frame_131 : decode cX5_frame 131 = .ok (.ireturn, 1) := by decide +kernel
theorem dX5_frame_132 : decode cX5_frame 132 = .ok (.aload 5, 2) := by decide +kernel
theorem dX5_frame_134 : decode cX5_frame 134 = .ok (.getfield 161, 3) := by decide +kernel
theorem dX5_frame_137 : decode cX5_frame 137 = .ok (.iload_n 2, 1) := by decide +kernel
theorem dX5_frame_138 : decode cX5_frame 138 = .ok (.iaload, 1) := by decide +kernel
theorem dX5_frame_139 : decode cX5_frame 139 = .ok (.aload 4, 2) := by decide +kernel
theorem dX5_frame_141 : decode cX5_frame 141 = .ok (.getfield 100, 3) := by decide +kernel
theorem dX5_frame_144 : decode cX5_frame 144 = .ok (.iload_n 2, 1) := by decide +kernel
theorem dX5_frame_145 : decode cX5_frame 145 = .ok (.iaload, 1) := by decide +kernel
theorem dX5_frame_146 : decode cX5_frame 146 = .ok (.if_icmp .ne 7, 3) := by decide +kernel
theorem dX5_frame_149 : decode cX5_frame 149 = .ok (.iconst 1, 1) := by decide +kernel
theorem dX5_frame_150 : decode cX5_frame 150 = .ok (.goto 4, 3) := by decide +kernel
theorem dX5_frame_153 : decode cX5_frame 153 = .ok (.iconst 0, 1) := by decide +kernel
theorem dX5_frame_154 : decode cX5_frame 154 = .ok (.ireturn, 1) := by decide +kernel
theorem dX5_sent_0 : decode cX5_sent 0 = .ok (.iload_n 1, 1) := by decide +kernel
theorem dX5_sent_1 : decode cX5_sent 1 = .ok (.iconst 0, 1) := by decide +kernel
theorem dX5_sent_2 : decode cX5_sent 2 = .ok (.bipush 7, 2) := by decide +kernel
theorem dX5_sent_4 : decode cX5_sent 4 = .ok (.invokestatic 48, 3) := by decide +kernel
theorem dX5_sent_7 : decode cX5_sent 7 = .ok (.ifCond .ne 6, 3) := by decide +kernel
theorem dX5_sent_10 : decode cX5_sent 10 = .ok (.bipush (-2), 2) := by decide +kernel
theorem dX5_sent_12 : decode cX5_sent 12 = .ok (.ireturn, 1) := by decide +kernel
theorem dX5_sent_13 : decode cX5_sent 13 = .ok (.aload_n 0, 1) := by decide +kernel
theorem dX5_sent_14 : decode cX5_sent 14 = .ok (.invokevirtual 133, 3) := by decide +kernel
theorem dX5_sent_17 : decode cX5_sent 17 = .ok (.iload_n 1, 1) := by decide +kernel
theorem dX5_sent_18 : decode cX5_sent 18 = .ok (.tableswitch 62 4 7 #[30, 38, 46, 54], 30) := by decide +kernel
theorem dX5_sent_48 : decode cX5_sent 48 = .ok (.aload_n 0, 1) := by decide +kernel
theorem dX5_sent_49 : decode cX5_sent 49 = .ok (.getfield 33, 3) := by decide +kernel
theorem dX5_sent_52 : decode cX5_sent 52 = .ok (.getfield 170, 3) := by decide +kernel
theorem dX5_sent_55 : decode cX5_sent 55 = .ok (.ireturn, 1) := by decide +kernel
theorem dX5_sent_56 : decode cX5_sent 56 = .ok (.aload_n 0, 1) := by decide +kernel
theorem dX5_sent_57 : decode cX5_sent 57 = .ok (.getfield 33, 3) := by decide +kernel
theorem dX5_sent_60 : decode cX5_sent 60 = .ok (.getfield 173, 3) := by decide +kernel
theorem dX5_sent_63 : decode cX5_sent 63 = .ok (.ireturn, 1) := by decide +kernel
theorem dX5_sent_64 : decode cX5_sent 64 = .ok (.aload_n 0, 1) := by decide +kernel
theorem dX5_sent_65 : decode cX5_sent 65 = .ok (.getfield 33, 3) := by decide +kernel
theorem dX5_sent_68 : decode cX5_sent 68 = .ok (.getfield 176, 3) := by decide +kernel
theorem dX5_sent_71 : decode cX5_sent 71 = .ok (.ireturn, 1) := by decide +kernel
theorem dX5_sent_72 : decode cX5_sent 72 = .ok (.aload_n 0, 1) := by decide +kernel
theorem dX5_sent_73 : decode cX5_sent 73 = .ok (.getfield 33, 3) := by decide +kernel
theorem dX5_sent_76 : decode cX5_sent 76 = .ok (.getfield 179, 3) := by decide +kernel
theorem dX5_sent_79 : decode cX5_sent 79 = .ok (.ireturn, 1) := by decide +kernel
theorem dX5_sent_80 : decode cX5_sent 80 = .ok (.aload_n 0, 1) := by decide +kernel
theorem dX5_sent_81 : decode cX5_sent 81 = .ok (.getfield 33, 3) := by decide +kernel
theorem dX5_sent_84 : decode cX5_sent 84 = .ok (.iload_n 1, 1) := by decide +kernel
theorem dX5_sent_85 : decode cX5_sent 85 = .ok (.invokevirtual 182, 3) := by decide +kernel
theorem dX5_sent_88 : decode cX5_sent 88 = .ok (.ireturn, 1) := by decide +kernel
theorem dX5_most_0 : decode cX5_most 0 = .ok (.iload_n 1, 1) := by decide +kernel
theorem dX5_most_1 : decode cX5_most 1 = .ok (.invokestatic 71, 3) := by decide +kernel
theorem dX5_most_4 : decode cX5_most 4 = .ok (.ifCond .ne 6, 3) := by decide +kernel
theorem dX5_most_7 : decode cX5_most 7 = .ok (.bipush (-2), 2) := by decide +kernel
theorem dX5_most_9 : decode cX5_most 9 = .ok (.ireturn, 1) := by decide +kernel
theorem dX5_most_10 : decode cX5_most 10 = .ok (.aload_n 0, 1) := by decide +kernel
theorem dX5_most_11 : decode cX5_most 11 = .ok (.invokevirtual 133, 3) := by decide +kernel
theorem dX5_most_14 : decode cX5_most 14 = .ok (.aload_n 0, 1) := by decide +kernel
theorem dX5_most_15 : decode cX5_most 15 = .ok (.getfield 33, 3) := by decide +kernel
theorem dX5_most_18 : decode cX5_most 18 = .ok (.getfield 152, 3) := by decide +kernel
theorem dX5_most_21 : decode cX5_most 21 = .ok (.iload_n 1, 1) := by decide +kernel
theorem dX5_most_22 : decode cX5_most 22 = .ok (.aaload, 1) := by decide +kernel
theorem dX5_most_23 : decode cX5_most 23 = .ok (.invokevirtual 186, 3) := by decide +kernel
theorem dX5_most_26 : decode cX5_most 26 = .ok (.ireturn, 1) := by decide +kernel
theorem dX5_needs_0 : decode cX5_needs 0 = .ok (.aload_n 0, 1) := by decide +kernel
theorem dX5_needs_1 : decode cX5_needs 1 = .ok (.getfield 23, 3) := by decide +kernel
theorem dX5_needs_4 : decode cX5_needs 4 = .ok (.aload_n 0, 1) := by decide +kernel
theorem dX5_needs_5 : decode cX5_needs 5 = .ok (.getfield 19, 3) := by decide +kernel
theorem dX5_needs_8 : decode cX5_needs 8 = .ok (.invokevirtual 189, 3) := by decide +kernel
theorem dX5_needs_11 : decode cX5_needs 11 = .ok (.iconst 1, 1) := by decide +kernel
theorem dX5_needs_12 : decode cX5_needs 12 = .ok (.istore_n 1, 1) := by decide +kernel
theorem dX5_needs_13 : decode cX5_needs 13 = .ok (.iload_n 1, 1) := by decide +kernel
theorem dX5_needs_14 : decode cX5_needs 14 = .ok (.iconst 4, 1) := by decide +kernel
theorem dX5_needs_15 : decode cX5_needs 15 = .ok (.if_icmp .gt 26, 3) := by decide +kernel
theorem dX5_needs_18 : decode cX5_needs 18 = .ok (.aload_n 0, 1) := by decide +kernel
theorem dX5_needs_19 : decode cX5_needs 19 = .ok (.getfield 23, 3) := by decide +kernel
theorem dX5_needs_22 : decode cX5_needs 22 = .ok (.iload_n 1, 1) := by decide +kernel
theorem dX5_needs_23 : decode cX5_needs 23 = .ok (.putfield 130, 3) := by decide +kernel
theorem dX5_needs_26 : decode cX5_needs 26 = .ok (.aload_n 0, 1) := by decide +kernel
theorem dX5_needs_27 : decode cX5_needs 27 = .ok (.invokevirtual 193, 3) := by decide +kernel
theorem dX5_needs_30 : decode cX5_needs 30 = .ok (.ifCond .eq 5, 3) := by decide +kernel
theorem dX5_needs_33 : decode cX5_needs 33 = .ok (.iload_n 1, 1) := by decide +kernel
theorem dX5_needs_34 : decode cX5_needs 34 = .ok (.ireturn, 1) := by decide +kernel
theorem dX5_needs_35 : decode cX5_needs 35 = .ok (.iinc 1 1, 3) := by decide +kernel
theorem dX5_needs_38 : decode cX5_needs 38 = .ok (.goto (-25), 3) := by decide +kernel
theorem dX5_needs_41 : decode cX5_needs 41 = .ok (.bipush (-6), 2) := by decide +kernel
theorem dX5_needs_43 : decode cX5_needs 43 = .ok (.ireturn, 1) := by decide +kernel
theorem dX5_room_0 : decode cX5_room 0 = .ok (.iload_n 1, 1) := by decide +kernel
theorem dX5_room_1 : decode cX5_room 1 = .ok (.invokestatic 71, 3) := by decide +kernel
theorem dX5_room_4 : decode cX5_room 4 = .ok (.ifCond .ne 6, 3) := by decide +kernel
theorem dX5_room_7 : decode cX5_room 7 = .ok (.bipush (-2), 2) := by decide +kernel
theorem dX5_room_9 : decode cX5_room 9 = .ok (.ireturn, 1) := by decide +kernel
theorem dX5_room_10 : decode cX5_room 10 = .ok (.aload_n 0, 1) := by decide +kernel
theorem dX5_room_11 : decode cX5_room 11 = .ok (.getfield 23, 3) := by decide +kernel
theorem dX5_room_14 : decode cX5_room 14 = .ok (.aload_n 0, 1) := by decide +kernel
theorem dX5_room_15 : decode cX5_room 15 = .ok (.getfield 19, 3) := by decide +kernel
theorem dX5_room_18 : decode cX5_room 18 = .ok (.invokevirtual 189, 3) := by decide +kernel
theorem dX5_room_21 : decode cX5_room 21 = .ok (.aload_n 0, 1) := by decide +kernel
theorem dX5_room_22 : decode cX5_room 22 = .ok (.getfield 23, 3) := by decide +kernel
theorem dX5_room_25 : decode cX5_room 25 = .ok (.getfield 74, 3) := by decide +kernel
theorem dX5_room_28 : decode cX5_room 28 = .ok (.iload_n 1, 1) := by decide +kernel
theorem dX5_room_29 : decode cX5_room 29 = .ok (.aaload, 1) := by decide +kernel
theorem dX5_room_30 : decode cX5_room 30 = .ok (.astore_n 2, 1) := by decide +kernel
theorem dX5_room_31 : decode cX5_room 31 = .ok (.iconst 1, 1) := by decide +kernel
theorem dX5_room_32 : decode cX5_room 32 = .ok (.bipush 40, 2) := by decide +kernel
theorem dX5_room_34 : decode cX5_room 34 = .ok (.aload_n 2, 1) := by decide +kernel
theorem dX5_room_35 : decode cX5_room 35 = .ok (.invokevirtual 124, 3) := by decide +kernel
theorem dX5_room_38 : decode cX5_room 38 = .ok (.invokestatic 197, 3) := by decide +kernel
theorem dX5_room_41 : decode cX5_room 41 = .ok (.invokestatic 202, 3) := by decide +kernel
theorem dX5_room_44 : decode cX5_room 44 = .ok (.istore_n 3, 1) := by decide +kernel
theorem dX5_room_45 : decode cX5_room 45 = .ok (.iconst 1, 1) := by decide +kernel
theorem dX5_room_46 : decode cX5_room 46 = .ok (.istore 4, 2) := by decide +kernel
theorem dX5_room_48 : decode cX5_room 48 = .ok (.iload 4, 2) := by decide +kernel
theorem dX5_room_50 : decode cX5_room 50 = .ok (.iload_n 3, 1) := by decide +kernel
theorem dX5_room_51 : decode cX5_room 51 = .ok (.if_icmp .gt 25, 3) := by decide +kernel
theorem dX5_room_54 : decode cX5_room 54 = .ok (.aload_n 2, 1) := by decide +kernel
theorem dX5_room_55 : decode cX5_room 55 = .ok (.iload 4, 2) := by decide +kernel
theorem dX5_room_57 : decode cX5_room 57 = .ok (.putfield 112, 3) := by decide +kernel
theorem dX5_room_60 : decode cX5_room 60 = .ok (.aload_n 0, 1) := by decide +kernel
theorem dX5_room_61 : decode cX5_room 61 = .ok (.invokevirtual 193, 3) := by decide +kernel
theorem dX5_room_64 : decode cX5_room 64 = .ok (.ifCond .eq 6, 3) := by decide +kernel
theorem dX5_room_67 : decode cX5_room 67 = .ok (.iload 4, 2) := by decide +kernel
theorem dX5_room_69 : decode cX5_room 69 = .ok (.ireturn, 1) := by decide +kernel
theorem dX5_room_70 : decode cX5_room 70 = .ok (.iinc 4 1, 3) := by decide +kernel
theorem dX5_room_73 : decode cX5_room 73 = .ok (.goto (-25), 3) := by decide +kernel
theorem dX5_room_76 : decode cX5_room 76 = .ok (.bipush (-6), 2) := by decide +kernel
theorem dX5_room_78 : decode cX5_room 78 = .ok (.ireturn, 1) := by decide +kernel
theorem dX5_without_0 : decode cX5_without 0 = .ok (.iload_n 1, 1) := by decide +kernel
theorem dX5_without_1 : decode cX5_without 1 = .ok (.invokestatic 71, 3) := by decide +kernel
theorem dX5_without_4 : decode cX5_without 4 = .ok (.ifCond .ne 6, 3) := by decide +kernel
theorem dX5_without_7 : decode cX5_without 7 = .ok (.bipush (-2), 2) := by decide +kernel
theorem dX5_without_9 : decode cX5_without 9 = .ok (.ireturn, 1) := by decide +kernel
theorem dX5_without_10 : decode cX5_without 10 = .ok (.aload_n 0, 1) := by decide +kernel
theorem dX5_without_11 : decode cX5_without 11 = .ok (.getfield 23, 3) := by decide +kernel
theorem dX5_without_14 : decode cX5_without 14 = .ok (.aload_n 0, 1) := by decide +kernel
theorem dX5_without_15 : decode cX5_without 15 = .ok (.getfield 19, 3) := by decide +kernel
theorem dX5_without_18 : decode cX5_without 18 = .ok (.invokevirtual 189, 3) := by decide +kernel
theorem dX5_without_21 : decode cX5_without 21 = .ok (.aload_n 0, 1) := by decide +kernel
theorem dX5_without_22 : decode cX5_without 22 = .ok (.getfield 23, 3) := by decide +kernel
theorem dX5_without_25 : decode cX5_without 25 = .ok (.getfield 74, 3) := by decide +kernel
theorem dX5_without_28 : decode cX5_without 28 = .ok (.iload_n 1, 1) := by decide +kernel
theorem dX5_without_29 : decode cX5_without 29 = .ok (.aaload, 1) := by decide +kernel
theorem dX5_without_30 : decode cX5_without 30 = .ok (.iconst 0, 1) := by decide +kernel
theorem dX5_without_31 : decode cX5_without 31 = .ok (.putfield 118, 3) := by decide +kernel
theorem dX5_without_34 : decode cX5_without 34 = .ok (.aload_n 0, 1) := by decide +kernel
theorem dX5_without_35 : decode cX5_without 35 = .ok (.getfield 23, 3) := by decide +kernel
theorem dX5_without_38 : decode cX5_without 38 = .ok (.getfield 74, 3) := by decide +kernel
theorem dX5_without_41 : decode cX5_without 41 = .ok (.iload_n 1, 1) := by decide +kernel
theorem dX5_without_42 : decode cX5_without 42 = .ok (.aaload, 1) := by decide +kernel
theorem dX5_without_43 : decode cX5_without 43 = .ok (.iconst 0, 1) := by decide +kernel
theorem dX5_without_44 : decode cX5_without 44 = .ok (.putfield 115, 3) := by decide +kernel
theorem dX5_without_47 : decode cX5_without 47 = .ok (.aload_n 0, 1) := by decide +kernel
theorem dX5_without_48 : decode cX5_without 48 = .ok (.iconst 0, 1) := by decide +kernel
theorem dX5_without_49 : decode cX5_without 49 = .ok (.putfield 44, 3) := by decide +kernel
theorem dX5_without_52 : decode cX5_without 52 = .ok (.aload_n 0, 1) := by decide +kernel
theorem dX5_without_53 : decode cX5_without 53 = .ok (.getfield 33, 3) := by decide +kernel
theorem dX5_without_56 : decode cX5_without 56 = .ok (.aload_n 0, 1) := by decide +kernel
theorem dX5_without_57 : decode cX5_without 57 = .ok (.getfield 23, 3) := by decide +kernel
theorem dX5_without_60 : decode cX5_without 60 = .ok (.invokevirtual 205, 3) := by decide +kernel
theorem dX5_without_63 : decode cX5_without 63 = .ok (.aload_n 0, 1) := by decide +kernel
theorem dX5_without_64 : decode cX5_without 64 = .ok (.getfield 33, 3) := by decide +kernel
theorem dX5_without_67 : decode cX5_without 67 = .ok (.getfield 173, 3) := by decide +kernel
theorem dX5_without_70 : decode cX5_without 70 = .ok (.ireturn, 1) := by decide +kernel
theorem dX5_image_0 : decode cX5_image 0 = .ok (.iload_n 1, 1) := by decide +kernel
theorem dX5_image_1 : decode cX5_image 1 = .ok (.iconst 0, 1) := by decide +kernel
theorem dX5_image_2 : decode cX5_image 2 = .ok (.iconst 1, 1) := by decide +kernel
theorem dX5_image_3 : decode cX5_image 3 = .ok (.invokestatic 48, 3) := by decide +kernel
theorem dX5_image_6 : decode cX5_image 6 = .ok (.ifCond .ne 6, 3) := by decide +kernel
theorem dX5_image_9 : decode cX5_image 9 = .ok (.bipush (-2), 2) := by decide +kernel
theorem dX5_image_11 : decode cX5_image 11 = .ok (.ireturn, 1) := by decide +kernel
theorem dX5_image_12 : decode cX5_image 12 = .ok (.aload_n 0, 1) := by decide +kernel
theorem dX5_image_13 : decode cX5_image 13 = .ok (.getfield 26, 3) := by decide +kernel
theorem dX5_image_16 : decode cX5_image 16 = .ok (.iload_n 1, 1) := by decide +kernel
theorem dX5_image_17 : decode cX5_image 17 = .ok (.aaload, 1) := by decide +kernel
theorem dX5_image_18 : decode cX5_image 18 = .ok (.aload_n 0, 1) := by decide +kernel
theorem dX5_image_19 : decode cX5_image 19 = .ok (.getfield 19, 3) := by decide +kernel
theorem dX5_image_22 : decode cX5_image 22 = .ok (.invokevirtual 189, 3) := by decide +kernel
theorem dX5_image_25 : decode cX5_image 25 = .ok (.aload_n 0, 1) := by decide +kernel
theorem dX5_image_26 : decode cX5_image 26 = .ok (.dup, 1) := by decide +kernel
theorem dX5_image_27 : decode cX5_image 27 = .ok (.getfield 37, 3) := by decide +kernel
theorem dX5_image_30 : decode cX5_image 30 = .ok (.iconst 1, 1) := by decide +kernel
theorem dX5_image_31 : decode cX5_image 31 = .ok (.iload_n 1, 1) := by decide +kernel
theorem dX5_image_32 : decode cX5_image 32 = .ok (.ishl, 1) := by decide +kernel
theorem dX5_image_33 : decode cX5_image 33 = .ok (.ior, 1) := by decide +kernel
theorem dX5_image_34 : decode cX5_image 34 = .ok (.putfield 37, 3) := by decide +kernel
theorem dX5_image_37 : decode cX5_image 37 = .ok (.iconst 1, 1) := by decide +kernel
theorem dX5_image_38 : decode cX5_image 38 = .ok (.ireturn, 1) := by decide +kernel
theorem dX5_restore_0 : decode cX5_restore 0 = .ok (.iload_n 1, 1) := by decide +kernel
theorem dX5_restore_1 : decode cX5_restore 1 = .ok (.iconst 0, 1) := by decide +kernel
theorem dX5_restore_2 : decode cX5_restore 2 = .ok (.iconst 1, 1) := by decide +kernel
theorem dX5_restore_3 : decode cX5_restore 3 = .ok (.invokestatic 48, 3) := by decide +kernel
theorem dX5_restore_6 : decode cX5_restore 6 = .ok (.ifCond .ne 6, 3) := by decide +kernel
theorem dX5_restore_9 : decode cX5_restore 9 = .ok (.bipush (-2), 2) := by decide +kernel
theorem dX5_restore_11 : decode cX5_restore 11 = .ok (.ireturn, 1) := by decide +kernel
theorem dX5_restore_12 : decode cX5_restore 12 = .ok (.aload_n 0, 1) := by decide +kernel
theorem dX5_restore_13 : decode cX5_restore 13 = .ok (.getfield 37, 3) := by decide +kernel
theorem dX5_restore_16 : decode cX5_restore 16 = .ok (.iconst 1, 1) := by decide +kernel
theorem dX5_restore_17 : decode cX5_restore 17 = .ok (.iload_n 1, 1) := by decide +kernel
theorem dX5_restore_18 : decode cX5_restore 18 = .ok (.ishl, 1) := by decide +kernel
theorem dX5_restore_19 : decode cX5_restore 19 = .ok (.iand, 1) := by decide +kernel
theorem dX5_restore_20 : decode cX5_restore 20 = .ok (.ifCond .ne 6, 3) := by decide +kernel
theorem dX5_restore_23 : decode cX5_restore 23 = .ok (.bipush (-3), 2) := by decide +kernel
theorem dX5_restore_25 : decode cX5_restore 25 = .ok (.ireturn, 1) := by decide +kernel
theorem dX5_restore_26 : decode cX5_restore 26 = .ok (.aload_n 0, 1) := by decide +kernel
theorem dX5_restore_27 : decode cX5_restore 27 = .ok (.getfield 19, 3) := by decide +kernel
theorem dX5_restore_30 : decode cX5_restore 30 = .ok (.aload_n 0, 1) := by decide +kernel
theorem dX5_restore_31 : decode cX5_restore 31 = .ok (.getfield 26, 3) := by decide +kernel
theorem dX5_restore_34 : decode cX5_restore 34 = .ok (.iload_n 1, 1) := by decide +kernel
theorem dX5_restore_35 : decode cX5_restore 35 = .ok (.aaload, 1) := by decide +kernel
theorem dX5_restore_36 : decode cX5_restore 36 = .ok (.invokevirtual 189, 3) := by decide +kernel
theorem dX5_restore_39 : decode cX5_restore 39 = .ok (.aload_n 0, 1) := by decide +kernel
theorem dX5_restore_40 : decode cX5_restore 40 = .ok (.iconst 0, 1) := by decide +kernel
theorem dX5_restore_41 : decode cX5_restore 41 = .ok (.putfield 44, 3) := by decide +kernel
theorem dX5_restore_44 : decode cX5_restore 44 = .ok (.iconst 1, 1) := by decide +kernel
theorem dX5_restore_45 : decode cX5_restore 45 = .ok (.ireturn, 1) := by decide +kernel
theorem dX5_count_0 : decode cX5_count 0 = .ok (.iload_n 1, 1) := by decide +kernel
theorem dX5_count_1 : decode cX5_count 1 = .ok (.tableswitch 81 0 5 #[39, 47, 55, 63, 71, 76], 39) := by decide +kernel
theorem dX5_count_40 : decode cX5_count 40 = .ok (.aload_n 0, 1) := by decide +kernel
theorem dX5_count_41 : decode cX5_count 41 = .ok (.getfield 19, 3) := by decide +kernel
theorem dX5_count_44 : decode cX5_count 44 = .ok (.getfield 130, 3) := by decide +kernel
theorem dX5_count_47 : decode cX5_count 47 = .ok (.ireturn, 1) := by decide +kernel
theorem dX5_count_48 : decode cX5_count 48 = .ok (.aload_n 0, 1) := by decide +kernel
theorem dX5_count_49 : decode cX5_count 49 = .ok (.getfield 19, 3) := by decide +kernel
theorem dX5_count_52 : decode cX5_count 52 = .ok (.getfield 208, 3) := by decide +kernel
theorem dX5_count_55 : decode cX5_count 55 = .ok (.ireturn, 1) := by decide +kernel
theorem dX5_count_56 : decode cX5_count 56 = .ok (.aload_n 0, 1) := by decide +kernel
theorem dX5_count_57 : decode cX5_count 57 = .ok (.getfield 19, 3) := by decide +kernel
theorem dX5_count_60 : decode cX5_count 60 = .ok (.invokevirtual 211, 3) := by decide +kernel
theorem dX5_count_63 : decode cX5_count 63 = .ok (.ireturn, 1) := by decide +kernel
theorem dX5_count_64 : decode cX5_count 64 = .ok (.aload_n 0, 1) := by decide +kernel
theorem dX5_count_65 : decode cX5_count 65 = .ok (.getfield 10, 3) := by decide +kernel
theorem dX5_count_68 : decode cX5_count 68 = .ok (.getfield 56, 3) := by decide +kernel
theorem dX5_count_71 : decode cX5_count 71 = .ok (.ireturn, 1) := by decide +kernel
theorem dX5_count_72 : decode cX5_count 72 = .ok (.aload_n 0, 1) := by decide +kernel
theorem dX5_count_73 : decode cX5_count 73 = .ok (.getfield 41, 3) := by decide +kernel
theorem dX5_count_76 : decode cX5_count 76 = .ok (.ireturn, 1) := by decide +kernel
theorem dX5_count_77 : decode cX5_count 77 = .ok (.aload_n 0, 1) := by decide +kernel
theorem dX5_count_78 : decode cX5_count 78 = .ok (.getfield 37, 3) := by decide +kernel
theorem dX5_count_81 : decode cX5_count 81 = .ok (.ireturn, 1) := by decide +kernel
theorem dX5_count_82 : decode cX5_count 82 = .ok (.bipush (-2), 2) := by decide +kernel
theorem dX5_count_84 : decode cX5_count 84 = .ok (.ireturn, 1) := by decide +kernel
theorem dX5_obey_0 : decode cX5_obey 0 = .ok (.aload_n 1, 1) := by decide +kernel
theorem dX5_obey_1 : decode cX5_obey 1 = .ok (.iconst 0, 1) := by decide +kernel
theorem dX5_obey_2 : decode cX5_obey 2 = .ok (.iaload, 1) := by decide +kernel
theorem dX5_obey_3 : decode cX5_obey 3 = .ok (.istore_n 2, 1) := by decide +kernel
theorem dX5_obey_4 : decode cX5_obey 4 = .ok (.aload_n 1, 1) := by decide +kernel
theorem dX5_obey_5 : decode cX5_obey 5 = .ok (.iconst 1, 1) := by decide +kernel
theorem dX5_obey_6 : decode cX5_obey 6 = .ok (.iaload, 1) := by decide +kernel
theorem dX5_obey_7 : decode cX5_obey 7 = .ok (.istore_n 3, 1) := by decide +kernel
theorem dX5_obey_8 : decode cX5_obey 8 = .ok (.aload_n 1, 1) := by decide +kernel
theorem dX5_obey_9 : decode cX5_obey 9 = .ok (.iconst 2, 1) := by decide +kernel
theorem dX5_obey_10 : decode cX5_obey 10 = .ok (.iaload, 1) := by decide +kernel
theorem dX5_obey_11 : decode cX5_obey 11 = .ok (.istore 4, 2) := by decide +kernel
theorem dX5_obey_13 : decode cX5_obey 13 = .ok (.aload_n 0, 1) := by decide +kernel
theorem dX5_obey_14 : decode cX5_obey 14 = .ok (.getfield 10, 3) := by decide +kernel
theorem dX5_obey_17 : decode cX5_obey 17 = .ok (.getfield 214, 3) := by decide +kernel
theorem dX5_obey_20 : decode cX5_obey 20 = .ok (.tableswitch 81 0 5 #[40, 49, 56, 63, 69, 75], 40) := by decide +kernel
theorem dX5_obey_60 : decode cX5_obey 60 = .ok (.aload_n 0, 1) := by decide +kernel
theorem dX5_obey_61 : decode cX5_obey 61 = .ok (.iload_n 2, 1) := by decide +kernel
theorem dX5_obey_62 : decode cX5_obey 62 = .ok (.iload_n 3, 1) := by decide +kernel
theorem dX5_obey_63 : decode cX5_obey 63 = .ok (.iload 4, 2) := by decide +kernel
theorem dX5_obey_65 : decode cX5_obey 65 = .ok (.invokevirtual 217, 3) := by decide +kernel
theorem dX5_obey_68 : decode cX5_obey 68 = .ok (.ireturn, 1) := by decide +kernel
theorem dX5_obey_69 : decode cX5_obey 69 = .ok (.aload_n 0, 1) := by decide +kernel
theorem dX5_obey_70 : decode cX5_obey 70 = .ok (.iload_n 2, 1) := by decide +kernel
theorem dX5_obey_71 : decode cX5_obey 71 = .ok (.iload_n 3, 1) := by decide +kernel
theorem dX5_obey_72 : decode cX5_obey 72 = .ok (.invokevirtual 221, 3) := by decide +kernel
theorem dX5_obey_75 : decode cX5_obey 75 = .ok (.ireturn, 1) := by decide +kernel
theorem dX5_obey_76 : decode cX5_obey 76 = .ok (.aload_n 0, 1) := by decide +kernel
theorem dX5_obey_77 : decode cX5_obey 77 = .ok (.iload_n 2, 1) := by decide +kernel
theorem dX5_obey_78 : decode cX5_obey 78 = .ok (.iload_n 3, 1) := by decide +kernel
theorem dX5_obey_79 : decode cX5_obey 79 = .ok (.invokevirtual 224, 3) := by decide +kernel
theorem dX5_obey_82 : decode cX5_obey 82 = .ok (.ireturn, 1) := by decide +kernel
theorem dX5_obey_83 : decode cX5_obey 83 = .ok (.aload_n 0, 1) := by decide +kernel
theorem dX5_obey_84 : decode cX5_obey 84 = .ok (.iload_n 2, 1) := by decide +kernel
theorem dX5_obey_85 : decode cX5_obey 85 = .ok (.invokevirtual 227, 3) := by decide +kernel
theorem dX5_obey_88 : decode cX5_obey 88 = .ok (.ireturn, 1) := by decide +kernel
theorem dX5_obey_89 : decode cX5_obey 89 = .ok (.aload_n 0, 1) := by decide +kernel
theorem dX5_obey_90 : decode cX5_obey 90 = .ok (.iload_n 2, 1) := by decide +kernel
theorem dX5_obey_91 : decode cX5_obey 91 = .ok (.invokevirtual 230, 3) := by decide +kernel
theorem dX5_obey_94 : decode cX5_obey 94 = .ok (.ireturn, 1) := by decide +kernel
theorem dX5_obey_95 : decode cX5_obey 95 = .ok (.aload_n 0, 1) := by decide +kernel
theorem dX5_obey_96 : decode cX5_obey 96 = .ok (.iload_n 2, 1) := by decide +kernel
theorem dX5_obey_97 : decode cX5_obey 97 = .ok (.invokevirtual 233, 3) := by decide +kernel
theorem dX5_obey_100 : decode cX5_obey 100 = .ok (.ireturn, 1) := by decide +kernel
theorem dX5_obey_101 : decode cX5_obey 101 = .ok (.aload_n 0, 1) := by decide +kernel
theorem dX5_obey_102 : decode cX5_obey 102 = .ok (.iload_n 2, 1) := by decide +kernel
theorem dX5_obey_103 : decode cX5_obey 103 = .ok (.iload_n 3, 1) := by decide +kernel
theorem dX5_obey_104 : decode cX5_obey 104 = .ok (.iload 4, 2) := by decide +kernel
theorem dX5_obey_106 : decode cX5_obey 106 = .ok (.invokevirtual 236, 3) := by decide +kernel
theorem dX5_obey_109 : decode cX5_obey 109 = .ok (.ireturn, 1) := by decide +kernel
theorem dX5_addFrame_0 : decode cX5_addFrame 0 = .ok (.iload_n 1, 1) := by decide +kernel
theorem dX5_addFrame_1 : decode cX5_addFrame 1 = .ok (.invokestatic 71, 3) := by decide +kernel
theorem dX5_addFrame_4 : decode cX5_addFrame 4 = .ok (.ifCond .eq 20, 3) := by decide +kernel
theorem dX5_addFrame_7 : decode cX5_addFrame 7 = .ok (.iload_n 2, 1) := by decide +kernel
theorem dX5_addFrame_8 : decode cX5_addFrame 8 = .ok (.iconst 1, 1) := by decide +kernel
theorem dX5_addFrame_9 : decode cX5_addFrame 9 = .ok (.bipush 9, 2) := by decide +kernel
theorem dX5_addFrame_11 : decode cX5_addFrame 11 = .ok (.invokestatic 48, 3) := by decide +kernel
theorem dX5_addFrame_14 : decode cX5_addFrame 14 = .ok (.ifCond .eq 10, 3) := by decide +kernel
theorem dX5_addFrame_17 : decode cX5_addFrame 17 = .ok (.iload_n 3, 1) := by decide +kernel
theorem dX5_addFrame_18 : decode cX5_addFrame 18 = .ok (.invokestatic 239, 3) := by decide +kernel
theorem dX5_addFrame_21 : decode cX5_addFrame 21 = .ok (.ifCond .ne 6, 3) := by decide +kernel
theorem dX5_addFrame_24 : decode cX5_addFrame 24 = .ok (.bipush (-2), 2) := by decide +kernel
theorem dX5_addFrame_26 : decode cX5_addFrame 26 = .ok (.ireturn, 1) := by decide +kernel
theorem dX5_addFrame_27 : decode cX5_addFrame 27 = .ok (.aload_n 0, 1) := by decide +kernel
theorem dX5_addFrame_28 : decode cX5_addFrame 28 = .ok (.getfield 19, 3) := by decide +kernel
theorem dX5_addFrame_31 : decode cX5_addFrame 31 = .ok (.getfield 74, 3) := by decide +kernel
theorem dX5_addFrame_34 : decode cX5_addFrame 34 = .ok (.iload_n 1, 1) := by decide +kernel
theorem dX5_addFrame_35 : decode cX5_addFrame 35 = .ok (.aaload, 1) := by decide +kernel
theorem dX5_addFrame_36 : decode cX5_addFrame 36 = .ok (.astore 4, 2) := by decide +kernel
theorem dX5_addFrame_38 : decode cX5_addFrame 38 = .ok (.iload_n 3, 1) := by decide +kernel
theorem dX5_addFrame_39 : decode cX5_addFrame 39 = .ok (.aload 4, 2) := by decide +kernel
theorem dX5_addFrame_41 : decode cX5_addFrame 41 = .ok (.invokevirtual 121, 3) := by decide +kernel
theorem dX5_addFrame_44 : decode cX5_addFrame 44 = .ok (.if_icmp .gt 6, 3) := by decide +kernel
theorem dX5_addFrame_47 : decode cX5_addFrame 47 = .ok (.bipush (-3), 2) := by decide +kernel
theorem dX5_addFrame_49 : decode cX5_addFrame 49 = .ok (.ireturn, 1) := by decide +kernel
theorem dX5_addFrame_50 : decode cX5_addFrame 50 = .ok (.aload 4, 2) := by decide +kernel
theorem dX5_addFrame_52 : decode cX5_addFrame 52 = .ok (.iload_n 2, 1) := by decide +kernel
theorem dX5_addFrame_53 : decode cX5_addFrame 53 = .ok (.iload_n 3, 1) := by decide +kernel
theorem dX5_addFrame_54 : decode cX5_addFrame 54 = .ok (.invokevirtual 242, 3) := by decide +kernel
theorem dX5_addFrame_57 : decode cX5_addFrame 57 = .ok (.ifCond .eq 13, 3) := by decide +kernel
theorem dX5_addFrame_60 : decode cX5_addFrame 60 = .ok (.aload 4, 2) := by decide +kernel
theorem dX5_addFrame_62 : decode cX5_addFrame 62 = .ok (.getfield 118, 3) := by decide +kernel
theorem dX5_addFrame_65 : decode cX5_addFrame 65 = .ok (.iconst 1, 1) := by decide +kernel
theorem dX5_addFrame_66 : decode cX5_addFrame 66 = .ok (.isub, 1) := by decide +kernel
theorem dX5_addFrame_67 : decode cX5_addFrame 67 = .ok (.goto 5, 3) := by decide +kernel
theorem dX5_addFrame_70 : decode cX5_addFrame 70 = .ok (.bipush (-4), 2) := by decide +kernel
theorem dX5_addFrame_72 : decode cX5_addFrame 72 = .ok (.ireturn, 1) := by decide +kernel
theorem dX5_setRoom_0 : decode cX5_setRoom 0 = .ok (.iload_n 1, 1) := by decide +kernel
theorem dX5_setRoom_1 : decode cX5_setRoom 1 = .ok (.invokestatic 71, 3) := by decide +kernel
theorem dX5_setRoom_4 : decode cX5_setRoom 4 = .ok (.ifCond .eq 13, 3) := by decide +kernel
theorem dX5_setRoom_7 : decode cX5_setRoom 7 = .ok (.iload_n 2, 1) := by decide +kernel
theorem dX5_setRoom_8 : decode cX5_setRoom 8 = .ok (.iconst 1, 1) := by decide +kernel
theorem dX5_setRoom_9 : decode cX5_setRoom 9 = .ok (.bipush 40, 2) := by decide +kernel
theorem dX5_setRoom_11 : decode cX5_setRoom 11 = .ok (.invokestatic 48, 3) := by decide +kernel
theorem dX5_setRoom_14 : decode cX5_setRoom 14 = .ok (.ifCond .ne 6, 3) := by decide +kernel
theorem dX5_setRoom_17 : decode cX5_setRoom 17 = .ok (.bipush (-2), 2) := by decide +kernel
theorem dX5_setRoom_19 : decode cX5_setRoom 19 = .ok (.ireturn, 1) := by decide +kernel
theorem dX5_setRoom_20 : decode cX5_setRoom 20 = .ok (.aload_n 0, 1) := by decide +kernel
theorem dX5_setRoom_21 : decode cX5_setRoom 21 = .ok (.getfield 19, 3) := by decide +kernel
theorem dX5_setRoom_24 : decode cX5_setRoom 24 = .ok (.getfield 74, 3) := by decide +kernel
theorem dX5_setRoom_27 : decode cX5_setRoom 27 = .ok (.iload_n 1, 1) := by decide +kernel
theorem dX5_setRoom_28 : decode cX5_setRoom 28 = .ok (.aaload, 1) := by decide +kernel
theorem dX5_setRoom_29 : decode cX5_setRoom 29 = .ok (.getfield 112, 3) := by decide +kernel
theorem dX5_setRoom_32 : decode cX5_setRoom 32 = .ok (.istore_n 3, 1) := by decide +kernel
theorem dX5_setRoom_33 : decode cX5_setRoom 33 = .ok (.aload_n 0, 1) := by decide +kernel
theorem dX5_setRoom_34 : decode cX5_setRoom 34 = .ok (.getfield 19, 3) := by decide +kernel
theorem dX5_setRoom_37 : decode cX5_setRoom 37 = .ok (.getfield 74, 3) := by decide +kernel
theorem dX5_setRoom_40 : decode cX5_setRoom 40 = .ok (.iload_n 1, 1) := by decide +kernel
theorem dX5_setRoom_41 : decode cX5_setRoom 41 = .ok (.aaload, 1) := by decide +kernel
theorem dX5_setRoom_42 : decode cX5_setRoom 42 = .ok (.iload_n 2, 1) := by decide +kernel
theorem dX5_setRoom_43 : decode cX5_setRoom 43 = .ok (.putfield 112, 3) := by decide +kernel
theorem dX5_setRoom_46 : decode cX5_setRoom 46 = .ok (.iload_n 3, 1) := by decide +kernel
theorem dX5_setRoom_47 : decode cX5_setRoom 47 = .ok (.ireturn, 1) := by decide +kernel
theorem dX5_setClock_0 : decode cX5_setClock 0 = .ok (.iload_n 1, 1) := by decide +kernel
theorem dX5_setClock_1 : decode cX5_setClock 1 = .ok (.invokestatic 71, 3) := by decide +kernel
theorem dX5_setClock_4 : decode cX5_setClock 4 = .ok (.ifCond .eq 13, 3) := by decide +kernel
theorem dX5_setClock_7 : decode cX5_setClock 7 = .ok (.iload_n 2, 1) := by decide +kernel
theorem dX5_setClock_8 : decode cX5_setClock 8 = .ok (.iconst 0, 1) := by decide +kernel
theorem dX5_setClock_9 : decode cX5_setClock 9 = .ok (.bipush 50, 2) := by decide +kernel
theorem dX5_setClock_11 : decode cX5_setClock 11 = .ok (.invokestatic 48, 3) := by decide +kernel
theorem dX5_setClock_14 : decode cX5_setClock 14 = .ok (.ifCond .ne 6, 3) := by decide +kernel
theorem dX5_setClock_17 : decode cX5_setClock 17 = .ok (.bipush (-2), 2) := by decide +kernel
theorem dX5_setClock_19 : decode cX5_setClock 19 = .ok (.ireturn, 1) := by decide +kernel
theorem dX5_setClock_20 : decode cX5_setClock 20 = .ok (.aload_n 0, 1) := by decide +kernel
theorem dX5_setClock_21 : decode cX5_setClock 21 = .ok (.getfield 19, 3) := by decide +kernel
theorem dX5_setClock_24 : decode cX5_setClock 24 = .ok (.getfield 74, 3) := by decide +kernel
theorem dX5_setClock_27 : decode cX5_setClock 27 = .ok (.iload_n 1, 1) := by decide +kernel
theorem dX5_setClock_28 : decode cX5_setClock 28 = .ok (.aaload, 1) := by decide +kernel
theorem dX5_setClock_29 : decode cX5_setClock 29 = .ok (.getfield 115, 3) := by decide +kernel
theorem dX5_setClock_32 : decode cX5_setClock 32 = .ok (.istore_n 3, 1) := by decide +kernel
theorem dX5_setClock_33 : decode cX5_setClock 33 = .ok (.aload_n 0, 1) := by decide +kernel
theorem dX5_setClock_34 : decode cX5_setClock 34 = .ok (.getfield 19, 3) := by decide +kernel
theorem dX5_setClock_37 : decode cX5_setClock 37 = .ok (.getfield 74, 3) := by decide +kernel
theorem dX5_setClock_40 : decode cX5_setClock 40 = .ok (.iload_n 1, 1) := by decide +kernel
theorem dX5_setClock_41 : decode cX5_setClock 41 = .ok (.aaload, 1) := by decide +kernel
theorem dX5_setClock_42 : decode cX5_setClock 42 = .ok (.iload_n 2, 1) := by decide +kernel
theorem dX5_setClock_43 : decode cX5_setClock 43 = .ok (.putfield 115, 3) := by decide +kernel
theorem dX5_setClock_46 : decode cX5_setClock 46 = .ok (.iload_n 3, 1) := by decide +kernel
theorem dX5_setClock_47 : decode cX5_setClock 47 = .ok (.ireturn, 1) := by decide +kernel
theorem dX5_setTable_0 : decode cX5_setTable 0 = .ok (.iload_n 1, 1) := by decide +kernel
theorem dX5_setTable_1 : decode cX5_setTable 1 = .ok (.iconst 0, 1) := by decide +kernel
theorem dX5_setTable_2 : decode cX5_setTable 2 = .ok (.bipush 50, 2) := by decide +kernel
theorem dX5_setTable_4 : decode cX5_setTable 4 = .ok (.invokestatic 48, 3) := by decide +kernel
theorem dX5_setTable_7 : decode cX5_setTable 7 = .ok (.ifCond .ne 6, 3) := by decide +kernel
theorem dX5_setTable_10 : decode cX5_setTable 10 = .ok (.bipush (-2), 2) := by decide +kernel
theorem dX5_setTable_12 : decode cX5_setTable 12 = .ok (.ireturn, 1) := by decide +kernel
theorem dX5_setTable_13 : decode cX5_setTable 13 = .ok (.aload_n 0, 1) := by decide +kernel
theorem dX5_setTable_14 : decode cX5_setTable 14 = .ok (.getfield 19, 3) := by decide +kernel
theorem dX5_setTable_17 : decode cX5_setTable 17 = .ok (.getfield 208, 3) := by decide +kernel
theorem dX5_setTable_20 : decode cX5_setTable 20 = .ok (.istore_n 2, 1) := by decide +kernel
theorem dX5_setTable_21 : decode cX5_setTable 21 = .ok (.aload_n 0, 1) := by decide +kernel
theorem dX5_setTable_22 : decode cX5_setTable 22 = .ok (.getfield 19, 3) := by decide +kernel
theorem dX5_setTable_25 : decode cX5_setTable 25 = .ok (.iload_n 1, 1) := by decide +kernel
theorem dX5_setTable_26 : decode cX5_setTable 26 = .ok (.putfield 208, 3) := by decide +kernel
theorem dX5_setTable_29 : decode cX5_setTable 29 = .ok (.iload_n 2, 1) := by decide +kernel
theorem dX5_setTable_30 : decode cX5_setTable 30 = .ok (.ireturn, 1) := by decide +kernel
theorem dX5_setWide_0 : decode cX5_setWide 0 = .ok (.iload_n 1, 1) := by decide +kernel
theorem dX5_setWide_1 : decode cX5_setWide 1 = .ok (.iconst 1, 1) := by decide +kernel
theorem dX5_setWide_2 : decode cX5_setWide 2 = .ok (.iconst 4, 1) := by decide +kernel
theorem dX5_setWide_3 : decode cX5_setWide 3 = .ok (.invokestatic 48, 3) := by decide +kernel
theorem dX5_setWide_6 : decode cX5_setWide 6 = .ok (.ifCond .ne 6, 3) := by decide +kernel
theorem dX5_setWide_9 : decode cX5_setWide 9 = .ok (.bipush (-2), 2) := by decide +kernel
theorem dX5_setWide_11 : decode cX5_setWide 11 = .ok (.ireturn, 1) := by decide +kernel
theorem dX5_setWide_12 : decode cX5_setWide 12 = .ok (.aload_n 0, 1) := by decide +kernel
theorem dX5_setWide_13 : decode cX5_setWide 13 = .ok (.getfield 19, 3) := by decide +kernel
theorem dX5_setWide_16 : decode cX5_setWide 16 = .ok (.getfield 130, 3) := by decide +kernel
theorem dX5_setWide_19 : decode cX5_setWide 19 = .ok (.istore_n 2, 1) := by decide +kernel
theorem dX5_setWide_20 : decode cX5_setWide 20 = .ok (.aload_n 0, 1) := by decide +kernel
theorem dX5_setWide_21 : decode cX5_setWide 21 = .ok (.getfield 19, 3) := by decide +kernel
theorem dX5_setWide_24 : decode cX5_setWide 24 = .ok (.iload_n 1, 1) := by decide +kernel
theorem dX5_setWide_25 : decode cX5_setWide 25 = .ok (.putfield 130, 3) := by decide +kernel
theorem dX5_setWide_28 : decode cX5_setWide 28 = .ok (.iload_n 2, 1) := by decide +kernel
theorem dX5_setWide_29 : decode cX5_setWide 29 = .ok (.ireturn, 1) := by decide +kernel
theorem dX5_dropFrames_0 : decode cX5_dropFrames 0 = .ok (.iload_n 1, 1) := by decide +kernel
theorem dX5_dropFrames_1 : decode cX5_dropFrames 1 = .ok (.invokestatic 71, 3) := by decide +kernel
theorem dX5_dropFrames_4 : decode cX5_dropFrames 4 = .ok (.ifCond .ne 6, 3) := by decide +kernel
theorem dX5_dropFrames_7 : decode cX5_dropFrames 7 = .ok (.bipush (-2), 2) := by decide +kernel
theorem dX5_dropFrames_9 : decode cX5_dropFrames 9 = .ok (.ireturn, 1) := by decide +kernel
theorem dX5_dropFrames_10 : decode cX5_dropFrames 10 = .ok (.aload_n 0, 1) := by decide +kernel
theorem dX5_dropFrames_11 : decode cX5_dropFrames 11 = .ok (.getfield 19, 3) := by decide +kernel
theorem dX5_dropFrames_14 : decode cX5_dropFrames 14 = .ok (.getfield 74, 3) := by decide +kernel
theorem dX5_dropFrames_17 : decode cX5_dropFrames 17 = .ok (.iload_n 1, 1) := by decide +kernel
theorem dX5_dropFrames_18 : decode cX5_dropFrames 18 = .ok (.aaload, 1) := by decide +kernel
theorem dX5_dropFrames_19 : decode cX5_dropFrames 19 = .ok (.getfield 118, 3) := by decide +kernel
theorem dX5_dropFrames_22 : decode cX5_dropFrames 22 = .ok (.istore_n 2, 1) := by decide +kernel
theorem dX5_dropFrames_23 : decode cX5_dropFrames 23 = .ok (.aload_n 0, 1) := by decide +kernel
theorem dX5_dropFrames_24 : decode cX5_dropFrames 24 = .ok (.getfield 19, 3) := by decide +kernel
theorem dX5_dropFrames_27 : decode cX5_dropFrames 27 = .ok (.getfield 74, 3) := by decide +kernel
theorem dX5_dropFrames_30 : decode cX5_dropFrames 30 = .ok (.iload_n 1, 1) := by decide +kernel
theorem dX5_dropFrames_31 : decode cX5_dropFrames 31 = .ok (.aaload, 1) := by decide +kernel
theorem dX5_dropFrames_32 : decode cX5_dropFrames 32 = .ok (.iconst 0, 1) := by decide +kernel
theorem dX5_dropFrames_33 : decode cX5_dropFrames 33 = .ok (.putfield 118, 3) := by decide +kernel
theorem dX5_dropFrames_36 : decode cX5_dropFrames 36 = .ok (.iload_n 2, 1) := by decide +kernel
theorem dX5_dropFrames_37 : decode cX5_dropFrames 37 = .ok (.ireturn, 1) := by decide +kernel
theorem dX5_swapFrames_0 : decode cX5_swapFrames 0 = .ok (.iload_n 1, 1) := by decide +kernel
theorem dX5_swapFrames_1 : decode cX5_swapFrames 1 = .ok (.invokestatic 71, 3) := by decide +kernel
theorem dX5_swapFrames_4 : decode cX5_swapFrames 4 = .ok (.ifCond .eq 22, 3) := by decide +kernel
theorem dX5_swapFrames_7 : decode cX5_swapFrames 7 = .ok (.iload_n 2, 1) := by decide +kernel
theorem dX5_swapFrames_8 : decode cX5_swapFrames 8 = .ok (.invokestatic 71, 3) := by decide +kernel
theorem dX5_swapFrames_11 : decode cX5_swapFrames 11 = .ok (.ifCond .eq 15, 3) := by decide +kernel
theorem dX5_swapFrames_14 : decode cX5_swapFrames 14 = .ok (.iload_n 1, 1) := by decide +kernel
theorem dX5_swapFrames_15 : decode cX5_swapFrames 15 = .ok (.iload_n 2, 1) := by decide +kernel
theorem dX5_swapFrames_16 : decode cX5_swapFrames 16 = .ok (.if_icmp .eq 10, 3) := by decide +kernel
theorem dX5_swapFrames_19 : decode cX5_swapFrames 19 = .ok (.iload_n 3, 1) := by decide +kernel
theorem dX5_swapFrames_20 : decode cX5_swapFrames 20 = .ok (.invokestatic 239, 3) := by decide +kernel
theorem dX5_swapFrames_23 : decode cX5_swapFrames 23 = .ok (.ifCond .ne 6, 3) := by decide +kernel
theorem dX5_swapFrames_26 : decode cX5_swapFrames 26 = .ok (.bipush (-2), 2) := by decide +kernel
theorem dX5_swapFrames_28 : decode cX5_swapFrames 28 = .ok (.ireturn, 1) := by decide +kernel
theorem dX5_swapFrames_29 : decode cX5_swapFrames 29 = .ok (.aload_n 0, 1) := by decide +kernel
theorem dX5_swapFrames_30 : decode cX5_swapFrames 30 = .ok (.getfield 19, 3) := by decide +kernel
theorem dX5_swapFrames_33 : decode cX5_swapFrames 33 = .ok (.getfield 74, 3) := by decide +kernel
theorem dX5_swapFrames_36 : decode cX5_swapFrames 36 = .ok (.iload_n 1, 1) := by decide +kernel
theorem dX5_swapFrames_37 : decode cX5_swapFrames 37 = .ok (.aaload, 1) := by decide +kernel
theorem dX5_swapFrames_38 : decode cX5_swapFrames 38 = .ok (.astore 4, 2) := by decide +kernel
theorem dX5_swapFrames_40 : decode cX5_swapFrames 40 = .ok (.aload_n 0, 1) := by decide +kernel
theorem dX5_swapFrames_41 : decode cX5_swapFrames 41 = .ok (.getfield 19, 3) := by decide +kernel
theorem dX5_swapFrames_44 : decode cX5_swapFrames 44 = .ok (.getfield 74, 3) := by decide +kernel
theorem dX5_swapFrames_47 : decode cX5_swapFrames 47 = .ok (.iload_n 2, 1) := by decide +kernel
theorem dX5_swapFrames_48 : decode cX5_swapFrames 48 = .ok (.aaload, 1) := by decide +kernel
theorem dX5_swapFrames_49 : decode cX5_swapFrames 49 = .ok (.astore 5, 2) := by decide +kernel
theorem dX5_swapFrames_51 : decode cX5_swapFrames 51 = .ok (.aload 4, 2) := by decide +kernel
theorem dX5_swapFrames_53 : decode cX5_swapFrames 53 = .ok (.iload_n 3, 1) := by decide +kernel
theorem dX5_swapFrames_54 : decode cX5_swapFrames 54 = .ok (.invokevirtual 245, 3) := by decide +kernel
theorem dX5_swapFrames_57 : decode cX5_swapFrames 57 = .ok (.istore 6, 2) := by decide +kernel
theorem dX5_swapFrames_59 : decode cX5_swapFrames 59 = .ok (.aload 5, 2) := by decide +kernel
theorem dX5_swapFrames_61 : decode cX5_swapFrames 61 = .ok (.iload_n 3, 1) := by decide +kernel
theorem dX5_swapFrames_62 : decode cX5_swapFrames 62 = .ok (.invokevirtual 245, 3) := by decide +kernel
theorem dX5_swapFrames_65 : decode cX5_swapFrames 65 = .ok (.istore 7, 2) := by decide +kernel
theorem dX5_swapFrames_67 : decode cX5_swapFrames 67 = .ok (.iload 6, 2) := by decide +kernel
theorem dX5_swapFrames_69 : decode cX5_swapFrames 69 = .ok (.aload 5, 2) := by decide +kernel
theorem dX5_swapFrames_71 : decode cX5_swapFrames 71 = .ok (.getfield 118, 3) := by decide +kernel
theorem dX5_swapFrames_74 : decode cX5_swapFrames 74 = .ok (.iadd, 1) := by decide +kernel
theorem dX5_swapFrames_75 : decode cX5_swapFrames 75 = .ok (.iload 7, 2) := by decide +kernel
theorem dX5_swapFrames_77 : decode cX5_swapFrames 77 = .ok (.isub, 1) := by decide +kernel
theorem dX5_swapFrames_78 : decode cX5_swapFrames 78 = .ok (.bipush 10, 2) := by decide +kernel
theorem dX5_swapFrames_80 : decode cX5_swapFrames 80 = .ok (.if_icmp .le 6, 3) := by decide +kernel
theorem dX5_swapFrames_83 : decode cX5_swapFrames 83 = .ok (.bipush (-4), 2) := by decide +kernel
theorem dX5_swapFrames_85 : decode cX5_swapFrames 85 = .ok (.ireturn, 1) := by decide +kernel
theorem dX5_swapFrames_86 : decode cX5_swapFrames 86 = .ok (.aload 4, 2) := by decide +kernel
theorem dX5_swapFrames_88 : decode cX5_swapFrames 88 = .ok (.iload 6, 2) := by decide +kernel
theorem dX5_swapFrames_90 : decode cX5_swapFrames 90 = .ok (.putfield 118, 3) := by decide +kernel
theorem dX5_swapFrames_93 : decode cX5_swapFrames 93 = .ok (.iload 7, 2) := by decide +kernel
theorem dX5_swapFrames_95 : decode cX5_swapFrames 95 = .ok (.istore 8, 2) := by decide +kernel
theorem dX5_swapFrames_97 : decode cX5_swapFrames 97 = .ok (.iload 8, 2) := by decide +kernel
theorem dX5_swapFrames_99 : decode cX5_swapFrames 99 = .ok (.aload 5, 2) := by decide +kernel
theorem dX5_swapFrames_101 : decode cX5_swapFrames 101 = .ok (.getfield 118, 3) := by decide +kernel
theorem dX5_swapFrames_104 : decode cX5_swapFrames 104 = .ok (.if_icmp .ge 31, 3) := by decide +kernel
theorem dX5_swapFrames_107 : decode cX5_swapFrames 107 = .ok (.aload 4, 2) := by decide +kernel
theorem dX5_swapFrames_109 : decode cX5_swapFrames 109 = .ok (.aload 5, 2) := by decide +kernel
theorem dX5_swapFrames_111 : decode cX5_swapFrames 111 = .ok (.getfield 100, 3) := by decide +kernel
theorem dX5_swapFrames_114 : decode cX5_swapFrames 114 = .ok (.iload 8, 2) := by decide +kernel
theorem dX5_swapFrames_116 : decode cX5_swapFrames 116 = .ok (.iaload, 1) := by decide +kernel
theorem dX5_swapFrames_117 : decode cX5_swapFrames 117 = .ok (.aload 5, 2) := by decide +kernel
theorem dX5_swapFrames_119 : decode cX5_swapFrames 119 = .ok (.getfield 103, 3) := by decide +kernel
theorem dX5_swapFrames_122 : decode cX5_swapFrames 122 = .ok (.iload 8, 2) := by decide +kernel
theorem dX5_swapFrames_124 : decode cX5_swapFrames 124 = .ok (.iaload, 1) := by decide +kernel
theorem dX5_swapFrames_125 : decode cX5_swapFrames 125 = .ok (.invokevirtual 242, 3) := by decide +kernel
theorem dX5_swapFrames_128 : decode cX5_swapFrames 128 = .ok (.pop, 1) := by decide +kernel
theorem dX5_swapFrames_129 : decode cX5_swapFrames 129 = .ok (.iinc 8 1, 3) := by decide +kernel
theorem dX5_swapFrames_132 : decode cX5_swapFrames 132 = .ok (.goto (-35), 3) := by decide +kernel
theorem dX5_swapFrames_135 : decode cX5_swapFrames 135 = .ok (.aload 4, 2) := by decide +kernel
theorem dX5_swapFrames_137 : decode cX5_swapFrames 137 = .ok (.getfield 118, 3) := by decide +kernel
theorem dX5_swapFrames_140 : decode cX5_swapFrames 140 = .ok (.ireturn, 1) := by decide +kernel
theorem dX5_weave_0 : decode cX5_weave 0 = .ok (.aload_n 0, 1) := by decide +kernel
theorem dX5_weave_1 : decode cX5_weave 1 = .ok (.getfield 44, 3) := by decide +kernel
theorem dX5_weave_4 : decode cX5_weave 4 = .ok (.ifCond .ne 19, 3) := by decide +kernel
theorem dX5_weave_7 : decode cX5_weave 7 = .ok (.aload_n 0, 1) := by decide +kernel
theorem dX5_weave_8 : decode cX5_weave 8 = .ok (.getfield 33, 3) := by decide +kernel
theorem dX5_weave_11 : decode cX5_weave 11 = .ok (.aload_n 0, 1) := by decide +kernel
theorem dX5_weave_12 : decode cX5_weave 12 = .ok (.getfield 19, 3) := by decide +kernel
theorem dX5_weave_15 : decode cX5_weave 15 = .ok (.invokevirtual 205, 3) := by decide +kernel
theorem dX5_weave_18 : decode cX5_weave 18 = .ok (.aload_n 0, 1) := by decide +kernel
theorem dX5_weave_19 : decode cX5_weave 19 = .ok (.iconst 1, 1) := by decide +kernel
theorem dX5_weave_20 : decode cX5_weave 20 = .ok (.putfield 44, 3) := by decide +kernel
theorem dX5_weave_23 : decode cX5_weave 23 = .ok (.return_, 1) := by decide +kernel
theorem dX5_trialShowsAll_0 : decode cX5_trialShowsAll 0 = .ok (.aload_n 0, 1) := by decide +kernel
theorem dX5_trialShowsAll_1 : decode cX5_trialShowsAll 1 = .ok (.iconst 0, 1) := by decide +kernel
theorem dX5_trialShowsAll_2 : decode cX5_trialShowsAll 2 = .ok (.putfield 44, 3) := by decide +kernel
theorem dX5_trialShowsAll_5 : decode cX5_trialShowsAll 5 = .ok (.aload_n 0, 1) := by decide +kernel
theorem dX5_trialShowsAll_6 : decode cX5_trialShowsAll 6 = .ok (.getfield 33, 3) := by decide +kernel
theorem dX5_trialShowsAll_9 : decode cX5_trialShowsAll 9 = .ok (.aload_n 0, 1) := by decide +kernel
theorem dX5_trialShowsAll_10 : decode cX5_trialShowsAll 10 = .ok (.getfield 23, 3) := by decide +kernel
theorem dX5_trialShowsAll_13 : decode cX5_trialShowsAll 13 = .ok (.invokevirtual 248, 3) := by decide +kernel
theorem dX5_trialShowsAll_16 : decode cX5_trialShowsAll 16 = .ok (.ireturn, 1) := by decide +kernel
theorem dX5_isWithin_0 : decode cX5_isWithin 0 = .ok (.iload_n 0, 1) := by decide +kernel
theorem dX5_isWithin_1 : decode cX5_isWithin 1 = .ok (.iload_n 1, 1) := by decide +kernel
theorem dX5_isWithin_2 : decode cX5_isWithin 2 = .ok (.if_icmp .lt 12, 3) := by decide +kernel
theorem dX5_isWithin_5 : decode cX5_isWithin 5 = .ok (.iload_n 0, 1) := by decide +kernel
theorem dX5_isWithin_6 : decode cX5_isWithin 6 = .ok (.iload_n 2, 1) := by decide +kernel
theorem dX5_isWithin_7 : decode cX5_isWithin 7 = .ok (.if_icmp .gt 7, 3) := by decide +kernel
theorem dX5_isWithin_10 : decode cX5_isWithin 10 = .ok (.iconst 1, 1) := by decide +kernel
theorem dX5_isWithin_11 : decode cX5_isWithin 11 = .ok (.goto 4, 3) := by decide +kernel
theorem dX5_isWithin_14 : decode cX5_isWithin 14 = .ok (.iconst 0, 1) := by decide +kernel
theorem dX5_isWithin_15 : decode cX5_isWithin 15 = .ok (.ireturn, 1) := by decide +kernel
theorem dX5_isProgramme_0 : decode cX5_isProgramme 0 = .ok (.iload_n 0, 1) := by decide +kernel
theorem dX5_isProgramme_1 : decode cX5_isProgramme 1 = .ok (.iconst 0, 1) := by decide +kernel
theorem dX5_isProgramme_2 : decode cX5_isProgramme 2 = .ok (.iconst 3, 1) := by decide +kernel
theorem dX5_isProgramme_3 : decode cX5_isProgramme 3 = .ok (.invokestatic 48, 3) := by decide +kernel
theorem dX5_isProgramme_6 : decode cX5_isProgramme 6 = .ok (.ireturn, 1) := by decide +kernel
theorem dX5_isTick_0 : decode cX5_isTick 0 = .ok (.iload_n 0, 1) := by decide +kernel
theorem dX5_isTick_1 : decode cX5_isTick 1 = .ok (.iconst 0, 1) := by decide +kernel
theorem dX5_isTick_2 : decode cX5_isTick 2 = .ok (.bipush 99, 2) := by decide +kernel
theorem dX5_isTick_4 : decode cX5_isTick 4 = .ok (.invokestatic 48, 3) := by decide +kernel
theorem dX5_isTick_7 : decode cX5_isTick 7 = .ok (.ireturn, 1) := by decide +kernel
theorem dX5_isDue_0 : decode cX5_isDue 0 = .ok (.iload_n 0, 1) := by decide +kernel
theorem dX5_isDue_1 : decode cX5_isDue 1 = .ok (.iconst 1, 1) := by decide +kernel
theorem dX5_isDue_2 : decode cX5_isDue 2 = .ok (.bipush 99, 2) := by decide +kernel
theorem dX5_isDue_4 : decode cX5_isDue 4 = .ok (.invokestatic 48, 3) := by decide +kernel
theorem dX5_isDue_7 : decode cX5_isDue 7 = .ok (.ireturn, 1) := by decide +kernel
end
section
/-! decode rows -/
theorem dX6_init_0 : decode cX6_init 0 = .ok (.aload_n 0, 1) := by decide +kernel
theorem dX6_init_1 : decode cX6_init 1 = .ok (.invokespecial 1, 3) := by decide +kernel
theorem dX6_init_4 : decode cX6_init 4 = .ok (.aload_n 0, 1) := by decide +kernel
theorem dX6_init_5 : decode cX6_init 5 = .ok (.bipush 95, 2) := by decide +kernel
theorem dX6_init_7 : decode cX6_init 7 = .ok (.newarray .int, 2) := by decide +kernel
theorem dX6_init_9 : decode cX6_init 9 = .ok (.putfield 7, 3) := by decide +kernel
theorem dX6_init_12 : decode cX6_init 12 = .ok (.aload_n 0, 1) := by decide +kernel
theorem dX6_init_13 : decode cX6_init 13 = .ok (.sipush 190, 3) := by decide +kernel
theorem dX6_init_16 : decode cX6_init 16 = .ok (.newarray .int, 2) := by decide +kernel
theorem dX6_init_18 : decode cX6_init 18 = .ok (.putfield 13, 3) := by decide +kernel
theorem dX6_init_21 : decode cX6_init 21 = .ok (.aload_n 0, 1) := by decide +kernel
theorem dX6_init_22 : decode cX6_init 22 = .ok (.iconst 2, 1) := by decide +kernel
theorem dX6_init_23 : decode cX6_init 23 = .ok (.newarray .boolean, 2) := by decide +kernel
theorem dX6_init_25 : decode cX6_init 25 = .ok (.putfield 16, 3) := by decide +kernel
theorem dX6_init_28 : decode cX6_init 28 = .ok (.aload_n 0, 1) := by decide +kernel
theorem dX6_init_29 : decode cX6_init 29 = .ok (.bipush 20, 2) := by decide +kernel
theorem dX6_init_31 : decode cX6_init 31 = .ok (.newarray .int, 2) := by decide +kernel
theorem dX6_init_33 : decode cX6_init 33 = .ok (.putfield 20, 3) := by decide +kernel
theorem dX6_init_36 : decode cX6_init 36 = .ok (.aload_n 0, 1) := by decide +kernel
theorem dX6_init_37 : decode cX6_init 37 = .ok (.iconst 3, 1) := by decide +kernel
theorem dX6_init_38 : decode cX6_init 38 = .ok (.newarray .int, 2) := by decide +kernel
theorem dX6_init_40 : decode cX6_init 40 = .ok (.putfield 23, 3) := by decide +kernel
theorem dX6_init_43 : decode cX6_init 43 = .ok (.aload_n 0, 1) := by decide +kernel
theorem dX6_init_44 : decode cX6_init 44 = .ok (.bipush 16, 2) := by decide +kernel
theorem dX6_init_46 : decode cX6_init 46 = .ok (.newarray .int, 2) := by decide +kernel
theorem dX6_init_48 : decode cX6_init 48 = .ok (.putfield 26, 3) := by decide +kernel
theorem dX6_init_51 : decode cX6_init 51 = .ok (.aload_n 0, 1) := by decide +kernel
theorem dX6_init_52 : decode cX6_init 52 = .ok (.sipush 400, 3) := by decide +kernel
theorem dX6_init_55 : decode cX6_init 55 = .ok (.newarray .int, 2) := by decide +kernel
theorem dX6_init_57 : decode cX6_init 57 = .ok (.putfield 29, 3) := by decide +kernel
theorem dX6_init_60 : decode cX6_init 60 = .ok (.aload_n 0, 1) := by decide +kernel
theorem dX6_init_61 : decode cX6_init 61 = .ok (.sipush 400, 3) := by decide +kernel
theorem dX6_init_64 : decode cX6_init 64 = .ok (.newarray .int, 2) := by decide +kernel
theorem dX6_init_66 : decode cX6_init 66 = .ok (.putfield 32, 3) := by decide +kernel
theorem dX6_init_69 : decode cX6_init 69 = .ok (.aload_n 0, 1) := by decide +kernel
theorem dX6_init_70 : decode cX6_init 70 = .ok (.sipush 400, 3) := by decide +kernel
theorem dX6_init_73 : decode cX6_init 73 = .ok (.newarray .int, 2) := by decide +kernel
theorem dX6_init_75 : decode cX6_init 75 = .ok (.putfield 35, 3) := by decide +kernel
theorem dX6_init_78 : decode cX6_init 78 = .ok (.aload_n 0, 1) := by decide +kernel
theorem dX6_init_79 : decode cX6_init 79 = .ok (.sipush 400, 3) := by decide +kernel
theorem dX6_init_82 : decode cX6_init 82 = .ok (.newarray .int, 2) := by decide +kernel
theorem dX6_init_84 : decode cX6_init 84 = .ok (.putfield 38, 3) := by decide +kernel
theorem dX6_init_87 : decode cX6_init 87 = .ok (.aload_n 0, 1) := by decide +kernel
theorem dX6_init_88 : decode cX6_init 88 = .ok (.bipush 40, 2) := by decide +kernel
theorem dX6_init_90 : decode cX6_init 90 = .ok (.newarray .int, 2) := by decide +kernel
theorem dX6_init_92 : decode cX6_init 92 = .ok (.putfield 41, 3) := by decide +kernel
theorem dX6_init_95 : decode cX6_init 95 = .ok (.aload_n 0, 1) := by decide +kernel
theorem dX6_init_96 : decode cX6_init 96 = .ok (.bipush 40, 2) := by decide +kernel
theorem dX6_init_98 : decode cX6_init 98 = .ok (.newarray .int, 2) := by decide +kernel
theorem dX6_init_100 : decode cX6_init 100 = .ok (.putfield 44, 3) := by decide +kernel
theorem dX6_init_103 : decode cX6_init 103 = .ok (.aload_n 0, 1) := by decide +kernel
theorem dX6_init_104 : decode cX6_init 104 = .ok (.bipush 40, 2) := by decide +kernel
theorem dX6_init_106 : decode cX6_init 106 = .ok (.newarray .int, 2) := by decide +kernel
theorem dX6_init_108 : decode cX6_init 108 = .ok (.putfield 47, 3) := by decide +kernel
theorem dX6_init_111 : decode cX6_init 111 = .ok (.aload_n 0, 1) := by decide +kernel
theorem dX6_init_112 : decode cX6_init 112 = .ok (.bipush 40, 2) := by decide +kernel
theorem dX6_init_114 : decode cX6_init 114 = .ok (.newarray .boolean, 2) := by decide +kernel
theorem dX6_init_116 : decode cX6_init 116 = .ok (.putfield 50, 3) := by decide +kernel
theorem dX6_init_119 : decode cX6_init 119 = .ok (.aload_n 0, 1) := by decide +kernel
theorem dX6_init_120 : decode cX6_init 120 = .ok (.sipush 400, 3) := by decide +kernel
theorem dX6_init_123 : decode cX6_init 123 = .ok (.newarray .int, 2) := by decide +kernel
theorem dX6_init_125 : decode cX6_init 125 = .ok (.putfield 53, 3) := by decide +kernel
theorem dX6_init_128 : decode cX6_init 128 = .ok (.aload_n 0, 1) := by decide +kernel
theorem dX6_init_129 : decode cX6_init 129 = .ok (.iconst 4, 1) := by decide +kernel
theorem dX6_init_130 : decode cX6_init 130 = .ok (.newarray .int, 2) := by decide +kernel
theorem dX6_init_132 : decode cX6_init 132 = .ok (.putfield 56, 3) := by decide +kernel
theorem dX6_init_135 : decode cX6_init 135 = .ok (.aload_n 0, 1) := by decide +kernel
theorem dX6_init_136 : decode cX6_init 136 = .ok (.iconst 5, 1) := by decide +kernel
theorem dX6_init_137 : decode cX6_init 137 = .ok (.newarray .int, 2) := by decide +kernel
theorem dX6_init_139 : decode cX6_init 139 = .ok (.putfield 59, 3) := by decide +kernel
theorem dX6_init_142 : decode cX6_init 142 = .ok (.aload_n 0, 1) := by decide +kernel
theorem dX6_init_143 : decode cX6_init 143 = .ok (.iconst 4, 1) := by decide +kernel
theorem dX6_init_144 : decode cX6_init 144 = .ok (.newarray .int, 2) := by decide +kernel
theorem dX6_init_146 : decode cX6_init 146 = .ok (.putfield 62, 3) := by decide +kernel
theorem dX6_init_149 : decode cX6_init 149 = .ok (.aload_n 0, 1) := by decide +kernel
theorem dX6_init_150 : decode cX6_init 150 = .ok (.bipush (-6), 2) := by decide +kernel
theorem dX6_init_152 : decode cX6_init 152 = .ok (.putfield 65, 3) := by decide +kernel
theorem dX6_init_155 : decode cX6_init 155 = .ok (.iconst 0, 1) := by decide +kernel
theorem dX6_init_156 : decode cX6_init 156 = .ok (.istore_n 1, 1) := by decide +kernel
theorem dX6_init_157 : decode cX6_init 157 = .ok (.iload_n 1, 1) := by decide +kernel
theorem dX6_init_158 : decode cX6_init 158 = .ok (.iconst 4, 1) := by decide +kernel
theorem dX6_init_159 : decode cX6_init 159 = .ok (.if_icmp .ge 19, 3) := by decide +kernel
theorem dX6_init_162 : decode cX6_init 162 = .ok (.aload_n 0, 1) := by decide +kernel
theorem dX6_init_163 : decode cX6_init 163 = .ok (.getfield 7, 3) := by decide +kernel
theorem dX6_init_166 : decode cX6_init 166 = .ok (.iconst 0, 1) := by decide +kernel
theorem dX6_init_167 : decode cX6_init 167 = .ok (.iload_n 1, 1) := by decide +kernel
theorem dX6_init_168 : decode cX6_init 168 = .ok (.iadd, 1) := by decide +kernel
theorem dX6_init_169 : decode cX6_init 169 = .ok (.bipush 10, 2) := by decide +kernel
theorem dX6_init_171 : decode cX6_init 171 = .ok (.iastore, 1) := by decide +kernel
theorem dX6_init_172 : decode cX6_init 172 = .ok (.iinc 1 1, 3) := by decide +kernel
theorem dX6_init_175 : decode cX6_init 175 = .ok (.goto (-18), 3) := by decide +kernel
theorem dX6_init_178 : decode cX6_init 178 = .ok (.aload_n 0, 1) := by decide +kernel
theorem dX6_init_179 : decode cX6_init 179 = .ok (.getfield 7, 3) := by decide +kernel
theorem dX6_init_182 : decode cX6_init 182 = .ok (.bipush 92, 2) := by decide +kernel
theorem dX6_init_184 : decode cX6_init 184 = .ok (.bipush 20, 2) := by decide +kernel
theorem dX6_init_186 : decode cX6_init 186 = .ok (.iastore, 1) := by decide +kernel
theorem dX6_init_187 : decode cX6_init 187 = .ok (.aload_n 0, 1) := by decide +kernel
theorem dX6_init_188 : decode cX6_init 188 = .ok (.getfield 7, 3) := by decide +kernel
theorem dX6_init_191 : decode cX6_init 191 = .ok (.bipush 93, 2) := by decide +kernel
theorem dX6_init_193 : decode cX6_init 193 = .ok (.iconst 1, 1) := by decide +kernel
theorem dX6_init_194 : decode cX6_init 194 = .ok (.iastore, 1) := by decide +kernel
theorem dX6_init_195 : decode cX6_init 195 = .ok (.aload_n 0, 1) := by decide +kernel
theorem dX6_init_196 : decode cX6_init 196 = .ok (.getfield 7, 3) := by decide +kernel
theorem dX6_init_199 : decode cX6_init 199 = .ok (.bipush 94, 2) := by decide +kernel
theorem dX6_init_201 : decode cX6_init 201 = .ok (.bipush (-6), 2) := by decide +kernel
theorem dX6_init_203 : decode cX6_init 203 = .ok (.iastore, 1) := by decide +kernel
theorem dX6_init_204 : decode cX6_init 204 = .ok (.return_, 1) := by decide +kernel
theorem dX6_in_0 : decode cX6_in 0 = .ok (.iload_n 0, 1) := by decide +kernel
theorem dX6_in_1 : decode cX6_in 1 = .ok (.iload_n 1, 1) := by decide +kernel
theorem dX6_in_2 : decode cX6_in 2 = .ok (.if_icmp .lt 12, 3) := by decide +kernel
theorem dX6_in_5 : decode cX6_in 5 = .ok (.iload_n 0, 1) := by decide +kernel
theorem dX6_in_6 : decode cX6_in 6 = .ok (.iload_n 2, 1) := by decide +kernel
theorem dX6_in_7 : decode cX6_in 7 = .ok (.if_icmp .gt 7, 3) := by decide +kernel
theorem dX6_in_10 : decode cX6_in 10 = .ok (.iconst 1, 1) := by decide +kernel
theorem dX6_in_11 : decode cX6_in 11 = .ok (.goto 4, 3) := by decide +kernel
theorem dX6_in_14 : decode cX6_in 14 = .ok (.iconst 0, 1) := by decide +kernel
theorem dX6_in_15 : decode cX6_in 15 = .ok (.ireturn, 1) := by decide +kernel
theorem dX6_isProgramme_0 : decode cX6_isProgramme 0 = .ok (.iload_n 0, 1) := by decide +kernel
theorem dX6_isProgramme_1 : decode cX6_isProgramme 1 = .ok (.iconst 0, 1) := by decide +kernel
theorem dX6_isProgramme_2 : decode cX6_isProgramme 2 = .ok (.iconst 3, 1) := by decide +kernel
theorem dX6_isProgramme_3 : decode cX6_isProgramme 3 = .ok (.invokestatic 69, 3) := by decide +kernel
theorem dX6_isProgramme_6 : decode cX6_isProgramme 6 = .ok (.ireturn, 1) := by decide +kernel
theorem dX6_isFrame_0 : decode cX6_isFrame 0 = .ok (.iload_n 2, 1) := by decide +kernel
theorem dX6_isFrame_1 : decode cX6_isFrame 1 = .ok (.iconst 0, 1) := by decide +kernel
theorem dX6_isFrame_2 : decode cX6_isFrame 2 = .ok (.aload_n 0, 1) := by decide +kernel
theorem dX6_isFrame_3 : decode cX6_isFrame 3 = .ok (.getfield 7, 3) := by decide +kernel
theorem dX6_isFrame_6 : decode cX6_isFrame 6 = .ok (.bipush 8, 2) := by decide +kernel
theorem dX6_isFrame_8 : decode cX6_isFrame 8 = .ok (.iload_n 1, 1) := by decide +kernel
theorem dX6_isFrame_9 : decode cX6_isFrame 9 = .ok (.iadd, 1) := by decide +kernel
theorem dX6_isFrame_10 : decode cX6_isFrame 10 = .ok (.iaload, 1) := by decide +kernel
theorem dX6_isFrame_11 : decode cX6_isFrame 11 = .ok (.iconst 1, 1) := by decide +kernel
theorem dX6_isFrame_12 : decode cX6_isFrame 12 = .ok (.isub, 1) := by decide +kernel
theorem dX6_isFrame_13 : decode cX6_isFrame 13 = .ok (.invokestatic 69, 3) := by decide +kernel
theorem dX6_isFrame_16 : decode cX6_isFrame 16 = .ok (.ireturn, 1) := by decide +kernel
theorem dX6_sizeOf_0 : decode cX6_sizeOf 0 = .ok (.aload_n 0, 1) := by decide +kernel
theorem dX6_sizeOf_1 : decode cX6_sizeOf 1 = .ok (.getfield 7, 3) := by decide +kernel
theorem dX6_sizeOf_4 : decode cX6_sizeOf 4 = .ok (.bipush 12, 2) := by decide +kernel
theorem dX6_sizeOf_6 : decode cX6_sizeOf 6 = .ok (.bipush 10, 2) := by decide +kernel
theorem dX6_sizeOf_8 : decode cX6_sizeOf 8 = .ok (.iload_n 1, 1) := by decide +kernel
theorem dX6_sizeOf_9 : decode cX6_sizeOf 9 = .ok (.imul, 1) := by decide +kernel
theorem dX6_sizeOf_10 : decode cX6_sizeOf 10 = .ok (.iadd, 1) := by decide +kernel
theorem dX6_sizeOf_11 : decode cX6_sizeOf 11 = .ok (.iload_n 2, 1) := by decide +kernel
theorem dX6_sizeOf_12 : decode cX6_sizeOf 12 = .ok (.iadd, 1) := by decide +kernel
theorem dX6_sizeOf_13 : decode cX6_sizeOf 13 = .ok (.iaload, 1) := by decide +kernel
theorem dX6_sizeOf_14 : decode cX6_sizeOf 14 = .ok (.ireturn, 1) := by decide +kernel
theorem dX6_dueOf_0 : decode cX6_dueOf 0 = .ok (.aload_n 0, 1) := by decide +kernel
theorem dX6_dueOf_1 : decode cX6_dueOf 1 = .ok (.getfield 7, 3) := by decide +kernel
theorem dX6_dueOf_4 : decode cX6_dueOf 4 = .ok (.bipush 52, 2) := by decide +kernel
theorem dX6_dueOf_6 : decode cX6_dueOf 6 = .ok (.bipush 10, 2) := by decide +kernel
theorem dX6_dueOf_8 : decode cX6_dueOf 8 = .ok (.iload_n 1, 1) := by decide +kernel
theorem dX6_dueOf_9 : decode cX6_dueOf 9 = .ok (.imul, 1) := by decide +kernel
theorem dX6_dueOf_10 : decode cX6_dueOf 10 = .ok (.iadd, 1) := by decide +kernel
theorem dX6_dueOf_11 : decode cX6_dueOf 11 = .ok (.iload_n 2, 1) := by decide +kernel
theorem dX6_dueOf_12 : decode cX6_dueOf 12 = .ok (.iadd, 1) := by decide +kernel
theorem dX6_dueOf_13 : decode cX6_dueOf 13 = .ok (.iaload, 1) := by decide +kernel
theorem dX6_dueOf_14 : decode cX6_dueOf 14 = .ok (.ireturn, 1) := by decide +kernel
theorem dX6_say_0 : decode cX6_say 0 = .ok (.iload_n 1, 1) := by decide +kernel
theorem dX6_say_1 : decode cX6_say 1 = .ok (.bipush 32, 2) := by decide +kernel
theorem dX6_say_3 : decode cX6_say 3 = .ok (.bipush 126, 2) := by decide +kernel
theorem dX6_say_5 : decode cX6_say 5 = .ok (.invokestatic 69, 3) := by decide +kernel
theorem dX6_say_8 : decode cX6_say 8 = .ok (.ifCond .ne 6, 3) := by decide +kernel
theorem dX6_say_11 : decode cX6_say 11 = .ok (.bipush (-2), 2) := by decide +kernel
theorem dX6_say_13 : decode cX6_say 13 = .ok (.ireturn, 1) := by decide +kernel
theorem dX6_say_14 : decode cX6_say 14 = .ok (.aload_n 0, 1) := by decide +kernel
theorem dX6_say_15 : decode cX6_say 15 = .ok (.getfield 73, 3) := by decide +kernel
theorem dX6_say_18 : decode cX6_say 18 = .ok (.bipush 20, 2) := by decide +kernel
theorem dX6_say_20 : decode cX6_say 20 = .ok (.if_icmp .ne 6, 3) := by decide +kernel
theorem dX6_say_23 : decode cX6_say 23 = .ok (.bipush (-4), 2) := by decide +kernel
theorem dX6_say_25 : decode cX6_say 25 = .ok (.ireturn, 1) := by decide +kernel
theorem dX6_say_26 : decode cX6_say 26 = .ok (.aload_n 0, 1) := by decide +kernel
theorem dX6_say_27 : decode cX6_say 27 = .ok (.getfield 20, 3) := by decide +kernel
theorem dX6_say_30 : decode cX6_say 30 = .ok (.aload_n 0, 1) := by decide +kernel
theorem dX6_say_31 : decode cX6_say 31 = .ok (.getfield 73, 3) := by decide +kernel
theorem dX6_say_34 : decode cX6_say 34 = .ok (.iload_n 1, 1) := by decide +kernel
theorem dX6_say_35 : decode cX6_say 35 = .ok (.iastore, 1) := by decide +kernel
theorem dX6_say_36 : decode cX6_say 36 = .ok (.aload_n 0, 1) := by decide +kernel
theorem dX6_say_37 : decode cX6_say 37 = .ok (.dup, 1) := by decide +kernel
theorem dX6_say_38 : decode cX6_say 38 = .ok (.getfield 73, 3) := by decide +kernel
theorem dX6_say_41 : decode cX6_say 41 = .ok (.iconst 1, 1) := by decide +kernel
theorem dX6_say_42 : decode cX6_say 42 = .ok (.iadd, 1) := by decide +kernel
theorem dX6_say_43 : decode cX6_say 43 = .ok (.putfield 73, 3) := by decide +kernel
theorem dX6_say_46 : decode cX6_say 46 = .ok (.aload_n 0, 1) := by decide +kernel
theorem dX6_say_47 : decode cX6_say 47 = .ok (.getfield 73, 3) := by decide +kernel
theorem dX6_say_50 : decode cX6_say 50 = .ok (.ireturn, 1) := by decide +kernel
theorem dX6_wipe_0 : decode cX6_wipe 0 = .ok (.aload_n 0, 1) := by decide +kernel
theorem dX6_wipe_1 : decode cX6_wipe 1 = .ok (.getfield 73, 3) := by decide +kernel
theorem dX6_wipe_4 : decode cX6_wipe 4 = .ok (.istore_n 1, 1) := by decide +kernel
theorem dX6_wipe_5 : decode cX6_wipe 5 = .ok (.aload_n 0, 1) := by decide +kernel
theorem dX6_wipe_6 : decode cX6_wipe 6 = .ok (.iconst 0, 1) := by decide +kernel
theorem dX6_wipe_7 : decode cX6_wipe 7 = .ok (.putfield 73, 3) := by decide +kernel
theorem dX6_wipe_10 : decode cX6_wipe 10 = .ok (.iload_n 1, 1) := by decide +kernel
theorem dX6_wipe_11 : decode cX6_wipe 11 = .ok (.ireturn, 1) := by decide +kernel
theorem dX6_pick_0 : decode cX6_pick 0 = .ok (.iload_n 0, 1) := by decide +kernel
theorem dX6_pick_1 : decode cX6_pick 1 = .ok (.ifCond .ne 7, 3) := by decide +kernel
theorem dX6_pick_4 : decode cX6_pick 4 = .ok (.iload_n 1, 1) := by decide +kernel
theorem dX6_pick_5 : decode cX6_pick 5 = .ok (.goto 42, 3) := by decide +kernel
theorem dX6_pick_8 : decode cX6_pick 8 = .ok (.iload_n 0, 1) := by decide +kernel
theorem dX6_pick_9 : decode cX6_pick 9 = .ok (.iconst 1, 1) := by decide +kernel
theorem dX6_pick_10 : decode cX6_pick 10 = .ok (.if_icmp .ne 7, 3) := by decide +kernel
theorem dX6_pick_13 : decode cX6_pick 13 = .ok (.iload_n 2, 1) := by decide +kernel
theorem dX6_pick_14 : decode cX6_pick 14 = .ok (.goto 33, 3) := by decide +kernel
theorem dX6_pick_17 : decode cX6_pick 17 = .ok (.iload_n 0, 1) := by decide +kernel
theorem dX6_pick_18 : decode cX6_pick 18 = .ok (.iconst 2, 1) := by decide +kernel
theorem dX6_pick_19 : decode cX6_pick 19 = .ok (.if_icmp .ne 7, 3) := by decide +kernel
theorem dX6_pick_22 : decode cX6_pick 22 = .ok (.iload_n 3, 1) := by decide +kernel
theorem dX6_pick_23 : decode cX6_pick 23 = .ok (.goto 24, 3) := by decide +kernel
theorem dX6_pick_26 : decode cX6_pick 26 = .ok (.iload_n 0, 1) := by decide +kernel
theorem dX6_pick_27 : decode cX6_pick 27 = .ok (.iconst 3, 1) := by decide +kernel
theorem dX6_pick_28 : decode cX6_pick 28 = .ok (.if_icmp .ne 8, 3) := by decide +kernel
theorem dX6_pick_31 : decode cX6_pick 31 = .ok (.iload 4, 2) := by decide +kernel
theorem dX6_pick_33 : decode cX6_pick 33 = .ok (.goto 14, 3) := by decide +kernel
theorem dX6_pick_36 : decode cX6_pick 36 = .ok (.iload_n 0, 1) := by decide +kernel
theorem dX6_pick_37 : decode cX6_pick 37 = .ok (.iconst 4, 1) := by decide +kernel
theorem dX6_pick_38 : decode cX6_pick 38 = .ok (.if_icmp .ne 8, 3) := by decide +kernel
theorem dX6_pick_41 : decode cX6_pick 41 = .ok (.iload 5, 2) := by decide +kernel
theorem dX6_pick_43 : decode cX6_pick 43 = .ok (.goto 4, 3) := by decide +kernel
theorem dX6_pick_46 : decode cX6_pick 46 = .ok (.iconst 0, 1) := by decide +kernel
theorem dX6_pick_47 : decode cX6_pick 47 = .ok (.ireturn, 1) := by decide +kernel
theorem dX6_signOf_0 : decode cX6_signOf 0 = .ok (.iload_n 0, 1) := by decide +kernel
theorem dX6_signOf_1 : decode cX6_signOf 1 = .ok (.tableswitch 126 0 5 #[39, 54, 68, 83, 98, 112], 39) := by decide +kernel
theorem dX6_signOf_40 : decode cX6_signOf 40 = .ok (.iload_n 1, 1) := by decide +kernel
theorem dX6_signOf_41 : decode cX6_signOf 41 = .ok (.bipush 102, 2) := by decide +kernel
theorem dX6_signOf_43 : decode cX6_signOf 43 = .ok (.bipush 114, 2) := by decide +kernel
theorem dX6_signOf_45 : decode cX6_signOf 45 = .ok (.bipush 97, 2) := by decide +kernel
theorem dX6_signOf_47 : decode cX6_signOf 47 = .ok (.bipush 109, 2) := by decide +kernel
theorem dX6_signOf_49 : decode cX6_signOf 49 = .ok (.bipush 101, 2) := by decide +kernel
theorem dX6_signOf_51 : decode cX6_signOf 51 = .ok (.invokestatic 76, 3) := by decide +kernel
theorem dX6_signOf_54 : decode cX6_signOf 54 = .ok (.ireturn, 1) := by decide +kernel
theorem dX6_signOf_55 : decode cX6_signOf 55 = .ok (.iload_n 1, 1) := by decide +kernel
theorem dX6_signOf_56 : decode cX6_signOf 56 = .ok (.bipush 114, 2) := by decide +kernel
theorem dX6_signOf_58 : decode cX6_signOf 58 = .ok (.bipush 111, 2) := by decide +kernel
theorem dX6_signOf_60 : decode cX6_signOf 60 = .ok (.bipush 111, 2) := by decide +kernel
theorem dX6_signOf_62 : decode cX6_signOf 62 = .ok (.bipush 109, 2) := by decide +kernel
theorem dX6_signOf_64 : decode cX6_signOf 64 = .ok (.iconst 0, 1) := by decide +kernel
theorem dX6_signOf_65 : decode cX6_signOf 65 = .ok (.invokestatic 76, 3) := by decide +kernel
theorem dX6_signOf_68 : decode cX6_signOf 68 = .ok (.ireturn, 1) := by decide +kernel
theorem dX6_signOf_69 : decode cX6_signOf 69 = .ok (.iload_n 1, 1) := by decide +kernel
theorem dX6_signOf_70 : decode cX6_signOf 70 = .ok (.bipush 99, 2) := by decide +kernel
theorem dX6_signOf_72 : decode cX6_signOf 72 = .ok (.bipush 108, 2) := by decide +kernel
theorem dX6_signOf_74 : decode cX6_signOf 74 = .ok (.bipush 111, 2) := by decide +kernel
theorem dX6_signOf_76 : decode cX6_signOf 76 = .ok (.bipush 99, 2) := by decide +kernel
theorem dX6_signOf_78 : decode cX6_signOf 78 = .ok (.bipush 107, 2) := by decide +kernel
theorem dX6_signOf_80 : decode cX6_signOf 80 = .ok (.invokestatic 76, 3) := by decide +kernel
theorem dX6_signOf_83 : decode cX6_signOf 83 = .ok (.ireturn, 1) := by decide +kernel
theorem dX6_signOf_84 : decode cX6_signOf 84 = .ok (.iload_n 1, 1) := by decide +kernel
theorem dX6_signOf_85 : decode cX6_signOf 85 = .ok (.bipush 116, 2) := by decide +kernel
theorem dX6_signOf_87 : decode cX6_signOf 87 = .ok (.bipush 97, 2) := by decide +kernel
theorem dX6_signOf_89 : decode cX6_signOf 89 = .ok (.bipush 98, 2) := by decide +kernel
theorem dX6_signOf_91 : decode cX6_signOf 91 = .ok (.bipush 108, 2) := by decide +kernel
theorem dX6_signOf_93 : decode cX6_signOf 93 = .ok (.bipush 101, 2) := by decide +kernel
theorem dX6_signOf_95 : decode cX6_signOf 95 = .ok (.invokestatic 76, 3) := by decide +kernel
theorem dX6_signOf_98 : decode cX6_signOf 98 = .ok (.ireturn, 1) := by decide +kernel
theorem dX6_signOf_99 : decode cX6_signOf 99 = .ok (.iload_n 1, 1) := by decide +kernel
theorem dX6_signOf_100 : decode cX6_signOf 100 = .ok (.bipush 119, 2) := by decide +kernel
theorem dX6_signOf_102 : decode cX6_signOf 102 = .ok (.bipush 105, 2) := by decide +kernel
theorem dX6_signOf_104 : decode cX6_signOf 104 = .ok (.bipush 100, 2) := by decide +kernel
theorem dX6_signOf_106 : decode cX6_signOf 106 = .ok (.bipush 101, 2) := by decide +kernel
theorem dX6_signOf_108 : decode cX6_signOf 108 = .ok (.iconst 0, 1) := by decide +kernel
theorem dX6_signOf_109 : decode cX6_signOf 109 = .ok (.invokestatic 76, 3) := by decide +kernel
theorem dX6_signOf_112 : decode cX6_signOf 112 = .ok (.ireturn, 1) := by decide +kernel
theorem dX6_signOf_113 : decode cX6_signOf 113 = .ok (.iload_n 1, 1) := by decide +kernel
theorem dX6_signOf_114 : decode cX6_signOf 114 = .ok (.bipush 100, 2) := by decide +kernel
theorem dX6_signOf_116 : decode cX6_signOf 116 = .ok (.bipush 114, 2) := by decide +kernel
theorem dX6_signOf_118 : decode cX6_signOf 118 = .ok (.bipush 111, 2) := by decide +kernel
theorem dX6_signOf_120 : decode cX6_signOf 120 = .ok (.bipush 112, 2) := by decide +kernel
theorem dX6_signOf_122 : decode cX6_signOf 122 = .ok (.iconst 0, 1) := by decide +kernel
theorem dX6_signOf_123 : decode cX6_signOf 123 = .ok (.invokestatic 76, 3) := by decide +kernel
theorem dX6_signOf_126 : decode cX6_signOf 126 = .ok (.ireturn, 1) := by decide +kernel
theorem dX6_signOf_127 : decode cX6_signOf 127 = .ok (.iload_n 1, 1) := by decide +kernel
theorem dX6_signOf_128 : decode cX6_signOf 128 = .ok (.bipush 115, 2) := by decide +kernel
theorem dX6_signOf_130 : decode cX6_signOf 130 = .ok (.bipush 119, 2) := by decide +kernel
theorem dX6_signOf_132 : decode cX6_signOf 132 = .ok (.bipush 97, 2) := by decide +kernel
theorem dX6_signOf_134 : decode cX6_signOf 134 = .ok (.bipush 112, 2) := by decide +kernel
theorem dX6_signOf_136 : decode cX6_signOf 136 = .ok (.iconst 0, 1) := by decide +kernel
theorem dX6_signOf_137 : decode cX6_signOf 137 = .ok (.invokestatic 76, 3) := by decide +kernel
theorem dX6_signOf_140 : decode cX6_signOf 140 = .ok (.ireturn, 1) := by decide +kernel
theorem dX6_numbersOf_0 : decode cX6_numbersOf 0 = .ok (.iload_n 0, 1) := by decide +kernel
theorem dX6_numbersOf_1 : decode cX6_numbersOf 1 = .ok (.ifCond .eq 9, 3) := by decide +kernel
theorem dX6_numbersOf_4 : decode cX6_numbersOf 4 = .ok (.iload_n 0, 1) := by decide +kernel
theorem dX6_numbersOf_5 : decode cX6_numbersOf 5 = .ok (.bipush 6, 2) := by decide +kernel
theorem dX6_numbersOf_7 : decode cX6_numbersOf 7 = .ok (.if_icmp .ne 7, 3) := by decide +kernel
theorem dX6_numbersOf_10 : decode cX6_numbersOf 10 = .ok (.iconst 3, 1) := by decide +kernel
theorem dX6_numbersOf_11 : decode cX6_numbersOf 11 = .ok (.goto 18, 3) := by decide +kernel
theorem dX6_numbersOf_14 : decode cX6_numbersOf 14 = .ok (.iload_n 0, 1) := by decide +kernel
theorem dX6_numbersOf_15 : decode cX6_numbersOf 15 = .ok (.iconst 1, 1) := by decide +kernel
theorem dX6_numbersOf_16 : decode cX6_numbersOf 16 = .ok (.if_icmp .eq 8, 3) := by decide +kernel
theorem dX6_numbersOf_19 : decode cX6_numbersOf 19 = .ok (.iload_n 0, 1) := by decide +kernel
theorem dX6_numbersOf_20 : decode cX6_numbersOf 20 = .ok (.iconst 2, 1) := by decide +kernel
theorem dX6_numbersOf_21 : decode cX6_numbersOf 21 = .ok (.if_icmp .ne 7, 3) := by decide +kernel
theorem dX6_numbersOf_24 : decode cX6_numbersOf 24 = .ok (.iconst 2, 1) := by decide +kernel
theorem dX6_numbersOf_25 : decode cX6_numbersOf 25 = .ok (.goto 4, 3) := by decide +kernel
theorem dX6_numbersOf_28 : decode cX6_numbersOf 28 = .ok (.iconst 1, 1) := by decide +kernel
theorem dX6_numbersOf_29 : decode cX6_numbersOf 29 = .ok (.ireturn, 1) := by decide +kernel
theorem dX6_readAs_0 : decode cX6_readAs 0 = .ok (.aload_n 0, 1) := by decide +kernel
theorem dX6_readAs_1 : decode cX6_readAs 1 = .ok (.iconst 0, 1) := by decide +kernel
theorem dX6_readAs_2 : decode cX6_readAs 2 = .ok (.putfield 80, 3) := by decide +kernel
theorem dX6_readAs_5 : decode cX6_readAs 5 = .ok (.aload_n 0, 1) := by decide +kernel
theorem dX6_readAs_6 : decode cX6_readAs 6 = .ok (.iconst 0, 1) := by decide +kernel
theorem dX6_readAs_7 : decode cX6_readAs 7 = .ok (.putfield 83, 3) := by decide +kernel
theorem dX6_readAs_10 : decode cX6_readAs 10 = .ok (.iconst 0, 1) := by decide +kernel
theorem dX6_readAs_11 : decode cX6_readAs 11 = .ok (.istore_n 2, 1) := by decide +kernel
theorem dX6_readAs_12 : decode cX6_readAs 12 = .ok (.iload_n 1, 1) := by decide +kernel
theorem dX6_readAs_13 : decode cX6_readAs 13 = .ok (.iload_n 2, 1) := by decide +kernel
theorem dX6_readAs_14 : decode cX6_readAs 14 = .ok (.invokestatic 87, 3) := by decide +kernel
theorem dX6_readAs_17 : decode cX6_readAs 17 = .ok (.ifCond .eq 33, 3) := by decide +kernel
theorem dX6_readAs_20 : decode cX6_readAs 20 = .ok (.iload_n 2, 1) := by decide +kernel
theorem dX6_readAs_21 : decode cX6_readAs 21 = .ok (.aload_n 0, 1) := by decide +kernel
theorem dX6_readAs_22 : decode cX6_readAs 22 = .ok (.getfield 73, 3) := by decide +kernel
theorem dX6_readAs_25 : decode cX6_readAs 25 = .ok (.if_icmp .eq 17, 3) := by decide +kernel
theorem dX6_readAs_28 : decode cX6_readAs 28 = .ok (.aload_n 0, 1) := by decide +kernel
theorem dX6_readAs_29 : decode cX6_readAs 29 = .ok (.getfield 20, 3) := by decide +kernel
theorem dX6_readAs_32 : decode cX6_readAs 32 = .ok (.iload_n 2, 1) := by decide +kernel
theorem dX6_readAs_33 : decode cX6_readAs 33 = .ok (.iaload, 1) := by decide +kernel
theorem dX6_readAs_34 : decode cX6_readAs 34 = .ok (.iload_n 1, 1) := by decide +kernel
theorem dX6_readAs_35 : decode cX6_readAs 35 = .ok (.iload_n 2, 1) := by decide +kernel
theorem dX6_readAs_36 : decode cX6_readAs 36 = .ok (.invokestatic 87, 3) := by decide +kernel
theorem dX6_readAs_39 : decode cX6_readAs 39 = .ok (.if_icmp .eq 5, 3) := by decide +kernel
theorem dX6_readAs_42 : decode cX6_readAs 42 = .ok (.iload_n 2, 1) := by decide +kernel
theorem dX6_readAs_43 : decode cX6_readAs 43 = .ok (.ireturn, 1) := by decide +kernel
theorem dX6_readAs_44 : decode cX6_readAs 44 = .ok (.iinc 2 1, 3) := by decide +kernel
theorem dX6_readAs_47 : decode cX6_readAs 47 = .ok (.goto (-35), 3) := by decide +kernel
theorem dX6_readAs_50 : decode cX6_readAs 50 = .ok (.aload_n 0, 1) := by decide +kernel
theorem dX6_readAs_51 : decode cX6_readAs 51 = .ok (.getfield 80, 3) := by decide +kernel
theorem dX6_readAs_54 : decode cX6_readAs 54 = .ok (.iload_n 1, 1) := by decide +kernel
theorem dX6_readAs_55 : decode cX6_readAs 55 = .ok (.invokestatic 91, 3) := by decide +kernel
theorem dX6_readAs_58 : decode cX6_readAs 58 = .ok (.if_icmp .ge 145, 3) := by decide +kernel
theorem dX6_readAs_61 : decode cX6_readAs 61 = .ok (.iload_n 2, 1) := by decide +kernel
theorem dX6_readAs_62 : decode cX6_readAs 62 = .ok (.aload_n 0, 1) := by decide +kernel
theorem dX6_readAs_63 : decode cX6_readAs 63 = .ok (.getfield 73, 3) := by decide +kernel
theorem dX6_readAs_66 : decode cX6_readAs 66 = .ok (.if_icmp .eq 14, 3) := by decide +kernel
theorem dX6_readAs_69 : decode cX6_readAs 69 = .ok (.aload_n 0, 1) := by decide +kernel
theorem dX6_readAs_70 : decode cX6_readAs 70 = .ok (.getfield 20, 3) := by decide +kernel
theorem dX6_readAs_73 : decode cX6_readAs 73 = .ok (.iload_n 2, 1) := by decide +kernel
theorem dX6_readAs_74 : decode cX6_readAs 74 = .ok (.iaload, 1) := by decide +kernel
theorem dX6_readAs_75 : decode cX6_readAs 75 = .ok (.bipush 32, 2) := by decide +kernel
theorem dX6_readAs_77 : decode cX6_readAs 77 = .ok (.if_icmp .eq 5, 3) := by decide +kernel
theorem dX6_readAs_80 : decode cX6_readAs 80 = .ok (.iload_n 2, 1) := by decide +kernel
theorem dX6_readAs_81 : decode cX6_readAs 81 = .ok (.ireturn, 1) := by decide +kernel
theorem dX6_readAs_82 : decode cX6_readAs 82 = .ok (.iinc 2 1, 3) := by decide +kernel
theorem dX6_readAs_85 : decode cX6_readAs 85 = .ok (.iload_n 2, 1) := by decide +kernel
theorem dX6_readAs_86 : decode cX6_readAs 86 = .ok (.aload_n 0, 1) := by decide +kernel
theorem dX6_readAs_87 : decode cX6_readAs 87 = .ok (.getfield 73, 3) := by decide +kernel
theorem dX6_readAs_90 : decode cX6_readAs 90 = .ok (.if_icmp .eq 19, 3) := by decide +kernel
theorem dX6_readAs_93 : decode cX6_readAs 93 = .ok (.aload_n 0, 1) := by decide +kernel
theorem dX6_readAs_94 : decode cX6_readAs 94 = .ok (.getfield 20, 3) := by decide +kernel
theorem dX6_readAs_97 : decode cX6_readAs 97 = .ok (.iload_n 2, 1) := by decide +kernel
theorem dX6_readAs_98 : decode cX6_readAs 98 = .ok (.iaload, 1) := by decide +kernel
theorem dX6_readAs_99 : decode cX6_readAs 99 = .ok (.bipush 48, 2) := by decide +kernel
theorem dX6_readAs_101 : decode cX6_readAs 101 = .ok (.bipush 57, 2) := by decide +kernel
theorem dX6_readAs_103 : decode cX6_readAs 103 = .ok (.invokestatic 69, 3) := by decide +kernel
theorem dX6_readAs_106 : decode cX6_readAs 106 = .ok (.ifCond .ne 5, 3) := by decide +kernel
theorem dX6_readAs_109 : decode cX6_readAs 109 = .ok (.iload_n 2, 1) := by decide +kernel
theorem dX6_readAs_110 : decode cX6_readAs 110 = .ok (.ireturn, 1) := by decide +kernel
theorem dX6_readAs_111 : decode cX6_readAs 111 = .ok (.aload_n 0, 1) := by decide +kernel
theorem dX6_readAs_112 : decode cX6_readAs 112 = .ok (.getfield 23, 3) := by decide +kernel
theorem dX6_readAs_115 : decode cX6_readAs 115 = .ok (.aload_n 0, 1) := by decide +kernel
theorem dX6_readAs_116 : decode cX6_readAs 116 = .ok (.getfield 80, 3) := by decide +kernel
theorem dX6_readAs_119 : decode cX6_readAs 119 = .ok (.aload_n 0, 1) := by decide +kernel
theorem dX6_readAs_120 : decode cX6_readAs 120 = .ok (.getfield 20, 3) := by decide +kernel
theorem dX6_readAs_123 : decode cX6_readAs 123 = .ok (.iload_n 2, 1) := by decide +kernel
theorem dX6_readAs_124 : decode cX6_readAs 124 = .ok (.iaload, 1) := by decide +kernel
theorem dX6_readAs_125 : decode cX6_readAs 125 = .ok (.bipush 48, 2) := by decide +kernel
theorem dX6_readAs_127 : decode cX6_readAs 127 = .ok (.isub, 1) := by decide +kernel
theorem dX6_readAs_128 : decode cX6_readAs 128 = .ok (.iastore, 1) := by decide +kernel
theorem dX6_readAs_129 : decode cX6_readAs 129 = .ok (.iinc 2 1, 3) := by decide +kernel
theorem dX6_readAs_132 : decode cX6_readAs 132 = .ok (.iload_n 2, 1) := by decide +kernel
theorem dX6_readAs_133 : decode cX6_readAs 133 = .ok (.aload_n 0, 1) := by decide +kernel
theorem dX6_readAs_134 : decode cX6_readAs 134 = .ok (.getfield 73, 3) := by decide +kernel
theorem dX6_readAs_137 : decode cX6_readAs 137 = .ok (.if_icmp .ge 53, 3) := by decide +kernel
theorem dX6_readAs_140 : decode cX6_readAs 140 = .ok (.aload_n 0, 1) := by decide +kernel
theorem dX6_readAs_141 : decode cX6_readAs 141 = .ok (.getfield 20, 3) := by decide +kernel
theorem dX6_readAs_144 : decode cX6_readAs 144 = .ok (.iload_n 2, 1) := by decide +kernel
theorem dX6_readAs_145 : decode cX6_readAs 145 = .ok (.iaload, 1) := by decide +kernel
theorem dX6_readAs_146 : decode cX6_readAs 146 = .ok (.bipush 48, 2) := by decide +kernel
theorem dX6_readAs_148 : decode cX6_readAs 148 = .ok (.bipush 57, 2) := by decide +kernel
theorem dX6_readAs_150 : decode cX6_readAs 150 = .ok (.invokestatic 69, 3) := by decide +kernel
theorem dX6_readAs_153 : decode cX6_readAs 153 = .ok (.ifCond .eq 37, 3) := by decide +kernel
theorem dX6_readAs_156 : decode cX6_readAs 156 = .ok (.aload_n 0, 1) := by decide +kernel
theorem dX6_readAs_157 : decode cX6_readAs 157 = .ok (.getfield 23, 3) := by decide +kernel
theorem dX6_readAs_160 : decode cX6_readAs 160 = .ok (.aload_n 0, 1) := by decide +kernel
theorem dX6_readAs_161 : decode cX6_readAs 161 = .ok (.getfield 80, 3) := by decide +kernel
theorem dX6_readAs_164 : decode cX6_readAs 164 = .ok (.bipush 10, 2) := by decide +kernel
theorem dX6_readAs_166 : decode cX6_readAs 166 = .ok (.aload_n 0, 1) := by decide +kernel
theorem dX6_readAs_167 : decode cX6_readAs 167 = .ok (.getfield 23, 3) := by decide +kernel
theorem dX6_readAs_170 : decode cX6_readAs 170 = .ok (.aload_n 0, 1) := by decide +kernel
theorem dX6_readAs_171 : decode cX6_readAs 171 = .ok (.getfield 80, 3) := by decide +kernel
theorem dX6_readAs_174 : decode cX6_readAs 174 = .ok (.iaload, 1) := by decide +kernel
theorem dX6_readAs_175 : decode cX6_readAs 175 = .ok (.imul, 1) := by decide +kernel
theorem dX6_readAs_176 : decode cX6_readAs 176 = .ok (.aload_n 0, 1) := by decide +kernel
theorem dX6_readAs_177 : decode cX6_readAs 177 = .ok (.getfield 20, 3) := by decide +kernel
theorem dX6_readAs_180 : decode cX6_readAs 180 = .ok (.iload_n 2, 1) := by decide +kernel
theorem dX6_readAs_181 : decode cX6_readAs 181 = .ok (.iaload, 1) := by decide +kernel
theorem dX6_readAs_182 : decode cX6_readAs 182 = .ok (.iadd, 1) := by decide +kernel
theorem dX6_readAs_183 : decode cX6_readAs 183 = .ok (.bipush 48, 2) := by decide +kernel
theorem dX6_readAs_185 : decode cX6_readAs 185 = .ok (.isub, 1) := by decide +kernel
theorem dX6_readAs_186 : decode cX6_readAs 186 = .ok (.iastore, 1) := by decide +kernel
theorem dX6_readAs_187 : decode cX6_readAs 187 = .ok (.iinc 2 1, 3) := by decide +kernel
theorem dX6_readAs_190 : decode cX6_readAs 190 = .ok (.aload_n 0, 1) := by decide +kernel
theorem dX6_readAs_191 : decode cX6_readAs 191 = .ok (.dup, 1) := by decide +kernel
theorem dX6_readAs_192 : decode cX6_readAs 192 = .ok (.getfield 80, 3) := by decide +kernel
theorem dX6_readAs_195 : decode cX6_readAs 195 = .ok (.iconst 1, 1) := by decide +kernel
theorem dX6_readAs_196 : decode cX6_readAs 196 = .ok (.iadd, 1) := by decide +kernel
theorem dX6_readAs_197 : decode cX6_readAs 197 = .ok (.putfield 80, 3) := by decide +kernel
theorem dX6_readAs_200 : decode cX6_readAs 200 = .ok (.goto (-150), 3) := by decide +kernel
theorem dX6_readAs_203 : decode cX6_readAs 203 = .ok (.aload_n 0, 1) := by decide +kernel
theorem dX6_readAs_204 : decode cX6_readAs 204 = .ok (.iload_n 2, 1) := by decide +kernel
theorem dX6_readAs_205 : decode cX6_readAs 205 = .ok (.aload_n 0, 1) := by decide +kernel
theorem dX6_readAs_206 : decode cX6_readAs 206 = .ok (.getfield 73, 3) := by decide +kernel
theorem dX6_readAs_209 : decode cX6_readAs 209 = .ok (.if_icmp .ne 7, 3) := by decide +kernel
theorem dX6_readAs_212 : decode cX6_readAs 212 = .ok (.iconst 1, 1) := by decide +kernel
theorem dX6_readAs_213 : decode cX6_readAs 213 = .ok (.goto 4, 3) := by decide +kernel
theorem dX6_readAs_216 : decode cX6_readAs 216 = .ok (.iconst 0, 1) := by decide +kernel
theorem dX6_readAs_217 : decode cX6_readAs 217 = .ok (.putfield 83, 3) := by decide +kernel
theorem dX6_readAs_220 : decode cX6_readAs 220 = .ok (.iload_n 2, 1) := by decide +kernel
theorem dX6_readAs_221 : decode cX6_readAs 221 = .ok (.ireturn, 1) := by decide +kernel
theorem dX6_isLine_0 : decode cX6_isLine 0 = .ok (.aload_n 0, 1) := by decide +kernel
theorem dX6_isLine_1 : decode cX6_isLine 1 = .ok (.iconst 0, 1) := by decide +kernel
theorem dX6_isLine_2 : decode cX6_isLine 2 = .ok (.putfield 95, 3) := by decide +kernel
theorem dX6_isLine_5 : decode cX6_isLine 5 = .ok (.iconst 0, 1) := by decide +kernel
theorem dX6_isLine_6 : decode cX6_isLine 6 = .ok (.istore_n 1, 1) := by decide +kernel
theorem dX6_isLine_7 : decode cX6_isLine 7 = .ok (.iload_n 1, 1) := by decide +kernel
theorem dX6_isLine_8 : decode cX6_isLine 8 = .ok (.bipush 7, 2) := by decide +kernel
theorem dX6_isLine_10 : decode cX6_isLine 10 = .ok (.if_icmp .ge 49, 3) := by decide +kernel
theorem dX6_isLine_13 : decode cX6_isLine 13 = .ok (.aload_n 0, 1) := by decide +kernel
theorem dX6_isLine_14 : decode cX6_isLine 14 = .ok (.iload_n 1, 1) := by decide +kernel
theorem dX6_isLine_15 : decode cX6_isLine 15 = .ok (.invokevirtual 98, 3) := by decide +kernel
theorem dX6_isLine_18 : decode cX6_isLine 18 = .ok (.istore_n 2, 1) := by decide +kernel
theorem dX6_isLine_19 : decode cX6_isLine 19 = .ok (.aload_n 0, 1) := by decide +kernel
theorem dX6_isLine_20 : decode cX6_isLine 20 = .ok (.getfield 83, 3) := by decide +kernel
theorem dX6_isLine_23 : decode cX6_isLine 23 = .ok (.ifCond .eq 10, 3) := by decide +kernel
theorem dX6_isLine_26 : decode cX6_isLine 26 = .ok (.aload_n 0, 1) := by decide +kernel
theorem dX6_isLine_27 : decode cX6_isLine 27 = .ok (.iload_n 1, 1) := by decide +kernel
theorem dX6_isLine_28 : decode cX6_isLine 28 = .ok (.putfield 101, 3) := by decide +kernel
theorem dX6_isLine_31 : decode cX6_isLine 31 = .ok (.iconst 1, 1) := by decide +kernel
theorem dX6_isLine_32 : decode cX6_isLine 32 = .ok (.ireturn, 1) := by decide +kernel
theorem dX6_isLine_33 : decode cX6_isLine 33 = .ok (.aload_n 0, 1) := by decide +kernel
theorem dX6_isLine_34 : decode cX6_isLine 34 = .ok (.iload_n 2, 1) := by decide +kernel
theorem dX6_isLine_35 : decode cX6_isLine 35 = .ok (.aload_n 0, 1) := by decide +kernel
theorem dX6_isLine_36 : decode cX6_isLine 36 = .ok (.getfield 95, 3) := by decide +kernel
theorem dX6_isLine_39 : decode cX6_isLine 39 = .ok (.if_icmp .le 7, 3) := by decide +kernel
theorem dX6_isLine_42 : decode cX6_isLine 42 = .ok (.iload_n 2, 1) := by decide +kernel
theorem dX6_isLine_43 : decode cX6_isLine 43 = .ok (.goto 7, 3) := by decide +kernel
theorem dX6_isLine_46 : decode cX6_isLine 46 = .ok (.aload_n 0, 1) := by decide +kernel
theorem dX6_isLine_47 : decode cX6_isLine 47 = .ok (.getfield 95, 3) := by decide +kernel
theorem dX6_isLine_50 : decode cX6_isLine 50 = .ok (.putfield 95, 3) := by decide +kernel
theorem dX6_isLine_53 : decode cX6_isLine 53 = .ok (.iinc 1 1, 3) := by decide +kernel
theorem dX6_isLine_56 : decode cX6_isLine 56 = .ok (.goto (-49), 3) := by decide +kernel
theorem dX6_isLine_59 : decode cX6_isLine 59 = .ok (.iconst 0, 1) := by decide +kernel
theorem dX6_isLine_60 : decode cX6_isLine 60 = .ok (.ireturn, 1) := by decide +kernel
theorem dX6_fault_0 : decode cX6_fault 0 = .ok (.aload_n 0, 1) := by decide +kernel
theorem dX6_fault_1 : decode cX6_fault 1 = .ok (.invokevirtual 104, 3) := by decide +kernel
theorem dX6_fault_4 : decode cX6_fault 4 = .ok (.ifCond .eq 8, 3) := by decide +kernel
theorem dX6_fault_7 : decode cX6_fault 7 = .ok (.bipush (-6), 2) := by decide +kernel
theorem dX6_fault_9 : decode cX6_fault 9 = .ok (.goto 7, 3) := by decide +kernel
theorem dX6_fault_12 : decode cX6_fault 12 = .ok (.aload_n 0, 1) := by decide +kernel
theorem dX6_fault_13 : decode cX6_fault 13 = .ok (.getfield 95, 3) := by decide +kernel
theorem dX6_fault_16 : decode cX6_fault 16 = .ok (.ireturn, 1) := by decide +kernel
theorem dX6_frameMore_0 : decode cX6_frameMore 0 = .ok (.iload_n 2, 1) := by decide +kernel
theorem dX6_frameMore_1 : decode cX6_frameMore 1 = .ok (.iconst 1, 1) := by decide +kernel
theorem dX6_frameMore_2 : decode cX6_frameMore 2 = .ok (.bipush 9, 2) := by decide +kernel
theorem dX6_frameMore_4 : decode cX6_frameMore 4 = .ok (.invokestatic 69, 3) := by decide +kernel
theorem dX6_frameMore_7 : decode cX6_frameMore 7 = .ok (.ifCond .eq 13, 3) := by decide +kernel
theorem dX6_frameMore_10 : decode cX6_frameMore 10 = .ok (.iload_n 3, 1) := by decide +kernel
theorem dX6_frameMore_11 : decode cX6_frameMore 11 = .ok (.iconst 1, 1) := by decide +kernel
theorem dX6_frameMore_12 : decode cX6_frameMore 12 = .ok (.bipush 99, 2) := by decide +kernel
theorem dX6_frameMore_14 : decode cX6_frameMore 14 = .ok (.invokestatic 69, 3) := by decide +kernel
theorem dX6_frameMore_17 : decode cX6_frameMore 17 = .ok (.ifCond .ne 6, 3) := by decide +kernel
theorem dX6_frameMore_20 : decode cX6_frameMore 20 = .ok (.bipush (-2), 2) := by decide +kernel
theorem dX6_frameMore_22 : decode cX6_frameMore 22 = .ok (.ireturn, 1) := by decide +kernel
theorem dX6_frameMore_23 : decode cX6_frameMore 23 = .ok (.aload_n 0, 1) := by decide +kernel
theorem dX6_frameMore_24 : decode cX6_frameMore 24 = .ok (.getfield 7, 3) := by decide +kernel
theorem dX6_frameMore_27 : decode cX6_frameMore 27 = .ok (.bipush 8, 2) := by decide +kernel
theorem dX6_frameMore_29 : decode cX6_frameMore 29 = .ok (.iload_n 1, 1) := by decide +kernel
theorem dX6_frameMore_30 : decode cX6_frameMore 30 = .ok (.iadd, 1) := by decide +kernel
theorem dX6_frameMore_31 : decode cX6_frameMore 31 = .ok (.iaload, 1) := by decide +kernel
theorem dX6_frameMore_32 : decode cX6_frameMore 32 = .ok (.istore 4, 2) := by decide +kernel
theorem dX6_frameMore_34 : decode cX6_frameMore 34 = .ok (.iload 4, 2) := by decide +kernel
theorem dX6_frameMore_36 : decode cX6_frameMore 36 = .ok (.ifCond .le 19, 3) := by decide +kernel
theorem dX6_frameMore_39 : decode cX6_frameMore 39 = .ok (.iload_n 3, 1) := by decide +kernel
theorem dX6_frameMore_40 : decode cX6_frameMore 40 = .ok (.aload_n 0, 1) := by decide +kernel
theorem dX6_frameMore_41 : decode cX6_frameMore 41 = .ok (.iload_n 1, 1) := by decide +kernel
theorem dX6_frameMore_42 : decode cX6_frameMore 42 = .ok (.iload 4, 2) := by decide +kernel
theorem dX6_frameMore_44 : decode cX6_frameMore 44 = .ok (.iconst 1, 1) := by decide +kernel
theorem dX6_frameMore_45 : decode cX6_frameMore 45 = .ok (.isub, 1) := by decide +kernel
theorem dX6_frameMore_46 : decode cX6_frameMore 46 = .ok (.invokevirtual 108, 3) := by decide +kernel
theorem dX6_frameMore_49 : decode cX6_frameMore 49 = .ok (.if_icmp .gt 6, 3) := by decide +kernel
theorem dX6_frameMore_52 : decode cX6_frameMore 52 = .ok (.bipush (-3), 2) := by decide +kernel
theorem dX6_frameMore_54 : decode cX6_frameMore 54 = .ok (.ireturn, 1) := by decide +kernel
theorem dX6_frameMore_55 : decode cX6_frameMore 55 = .ok (.iload 4, 2) := by decide +kernel
theorem dX6_frameMore_57 : decode cX6_frameMore 57 = .ok (.bipush 10, 2) := by decide +kernel
theorem dX6_frameMore_59 : decode cX6_frameMore 59 = .ok (.if_icmp .ne 6, 3) := by decide +kernel
theorem dX6_frameMore_62 : decode cX6_frameMore 62 = .ok (.bipush (-4), 2) := by decide +kernel
theorem dX6_frameMore_64 : decode cX6_frameMore 64 = .ok (.ireturn, 1) := by decide +kernel
theorem dX6_frameMore_65 : decode cX6_frameMore 65 = .ok (.aload_n 0, 1) := by decide +kernel
theorem dX6_frameMore_66 : decode cX6_frameMore 66 = .ok (.getfield 7, 3) := by decide +kernel
theorem dX6_frameMore_69 : decode cX6_frameMore 69 = .ok (.bipush 12, 2) := by decide +kernel
theorem dX6_frameMore_71 : decode cX6_frameMore 71 = .ok (.bipush 10, 2) := by decide +kernel
theorem dX6_frameMore_73 : decode cX6_frameMore 73 = .ok (.iload_n 1, 1) := by decide +kernel
theorem dX6_frameMore_74 : decode cX6_frameMore 74 = .ok (.imul, 1) := by decide +kernel
theorem dX6_frameMore_75 : decode cX6_frameMore 75 = .ok (.iadd, 1) := by decide +kernel
theorem dX6_frameMore_76 : decode cX6_frameMore 76 = .ok (.iload 4, 2) := by decide +kernel
theorem dX6_frameMore_78 : decode cX6_frameMore 78 = .ok (.iadd, 1) := by decide +kernel
theorem dX6_frameMore_79 : decode cX6_frameMore 79 = .ok (.iload_n 2, 1) := by decide +kernel
theorem dX6_frameMore_80 : decode cX6_frameMore 80 = .ok (.iastore, 1) := by decide +kernel
theorem dX6_frameMore_81 : decode cX6_frameMore 81 = .ok (.aload_n 0, 1) := by decide +kernel
theorem dX6_frameMore_82 : decode cX6_frameMore 82 = .ok (.getfield 7, 3) := by decide +kernel
theorem dX6_frameMore_85 : decode cX6_frameMore 85 = .ok (.bipush 52, 2) := by decide +kernel
theorem dX6_frameMore_87 : decode cX6_frameMore 87 = .ok (.bipush 10, 2) := by decide +kernel
theorem dX6_frameMore_89 : decode cX6_frameMore 89 = .ok (.iload_n 1, 1) := by decide +kernel
theorem dX6_frameMore_90 : decode cX6_frameMore 90 = .ok (.imul, 1) := by decide +kernel
theorem dX6_frameMore_91 : decode cX6_frameMore 91 = .ok (.iadd, 1) := by decide +kernel
theorem dX6_frameMore_92 : decode cX6_frameMore 92 = .ok (.iload 4, 2) := by decide +kernel
theorem dX6_frameMore_94 : decode cX6_frameMore 94 = .ok (.iadd, 1) := by decide +kernel
theorem dX6_frameMore_95 : decode cX6_frameMore 95 = .ok (.iload_n 3, 1) := by decide +kernel
theorem dX6_frameMore_96 : decode cX6_frameMore 96 = .ok (.iastore, 1) := by decide +kernel
theorem dX6_frameMore_97 : decode cX6_frameMore 97 = .ok (.aload_n 0, 1) := by decide +kernel
theorem dX6_frameMore_98 : decode cX6_frameMore 98 = .ok (.getfield 7, 3) := by decide +kernel
theorem dX6_frameMore_101 : decode cX6_frameMore 101 = .ok (.bipush 8, 2) := by decide +kernel
theorem dX6_frameMore_103 : decode cX6_frameMore 103 = .ok (.iload_n 1, 1) := by decide +kernel
theorem dX6_frameMore_104 : decode cX6_frameMore 104 = .ok (.iadd, 1) := by decide +kernel
theorem dX6_frameMore_105 : decode cX6_frameMore 105 = .ok (.dup2, 1) := by decide +kernel
theorem dX6_frameMore_106 : decode cX6_frameMore 106 = .ok (.iaload, 1) := by decide +kernel
theorem dX6_frameMore_107 : decode cX6_frameMore 107 = .ok (.iconst 1, 1) := by decide +kernel
theorem dX6_frameMore_108 : decode cX6_frameMore 108 = .ok (.iadd, 1) := by decide +kernel
theorem dX6_frameMore_109 : decode cX6_frameMore 109 = .ok (.iastore, 1) := by decide +kernel
theorem dX6_frameMore_110 : decode cX6_frameMore 110 = .ok (.iload 4, 2) := by decide +kernel
theorem dX6_frameMore_112 : decode cX6_frameMore 112 = .ok (.ireturn, 1) := by decide +kernel
theorem dX6_setAt_0 : decode cX6_setAt 0 = .ok (.aload_n 0, 1) := by decide +kernel
theorem dX6_setAt_1 : decode cX6_setAt 1 = .ok (.getfield 7, 3) := by decide +kernel
theorem dX6_setAt_4 : decode cX6_setAt 4 = .ok (.iload_n 1, 1) := by decide +kernel
theorem dX6_setAt_5 : decode cX6_setAt 5 = .ok (.iaload, 1) := by decide +kernel
theorem dX6_setAt_6 : decode cX6_setAt 6 = .ok (.istore_n 3, 1) := by decide +kernel
theorem dX6_setAt_7 : decode cX6_setAt 7 = .ok (.aload_n 0, 1) := by decide +kernel
theorem dX6_setAt_8 : decode cX6_setAt 8 = .ok (.getfield 7, 3) := by decide +kernel
theorem dX6_setAt_11 : decode cX6_setAt 11 = .ok (.iload_n 1, 1) := by decide +kernel
theorem dX6_setAt_12 : decode cX6_setAt 12 = .ok (.iload_n 2, 1) := by decide +kernel
theorem dX6_setAt_13 : decode cX6_setAt 13 = .ok (.iastore, 1) := by decide +kernel
theorem dX6_setAt_14 : decode cX6_setAt 14 = .ok (.iload_n 3, 1) := by decide +kernel
theorem dX6_setAt_15 : decode cX6_setAt 15 = .ok (.ireturn, 1) := by decide +kernel
theorem dX6_before_0 : decode cX6_before 0 = .ok (.iconst 0, 1) := by decide +kernel
theorem dX6_before_1 : decode cX6_before 1 = .ok (.istore_n 3, 1) := by decide +kernel
theorem dX6_before_2 : decode cX6_before 2 = .ok (.iconst 0, 1) := by decide +kernel
theorem dX6_before_3 : decode cX6_before 3 = .ok (.istore 4, 2) := by decide +kernel
theorem dX6_before_5 : decode cX6_before 5 = .ok (.iload 4, 2) := by decide +kernel
theorem dX6_before_7 : decode cX6_before 7 = .ok (.aload_n 0, 1) := by decide +kernel
theorem dX6_before_8 : decode cX6_before 8 = .ok (.getfield 7, 3) := by decide +kernel
theorem dX6_before_11 : decode cX6_before 11 = .ok (.bipush 8, 2) := by decide +kernel
theorem dX6_before_13 : decode cX6_before 13 = .ok (.iload_n 1, 1) := by decide +kernel
theorem dX6_before_14 : decode cX6_before 14 = .ok (.iadd, 1) := by decide +kernel
theorem dX6_before_15 : decode cX6_before 15 = .ok (.iaload, 1) := by decide +kernel
theorem dX6_before_16 : decode cX6_before 16 = .ok (.if_icmp .ge 28, 3) := by decide +kernel
theorem dX6_before_19 : decode cX6_before 19 = .ok (.iload_n 3, 1) := by decide +kernel
theorem dX6_before_20 : decode cX6_before 20 = .ok (.aload_n 0, 1) := by decide +kernel
theorem dX6_before_21 : decode cX6_before 21 = .ok (.iload_n 1, 1) := by decide +kernel
theorem dX6_before_22 : decode cX6_before 22 = .ok (.iload 4, 2) := by decide +kernel
theorem dX6_before_24 : decode cX6_before 24 = .ok (.invokevirtual 108, 3) := by decide +kernel
theorem dX6_before_27 : decode cX6_before 27 = .ok (.iload_n 2, 1) := by decide +kernel
theorem dX6_before_28 : decode cX6_before 28 = .ok (.if_icmp .ge 7, 3) := by decide +kernel
theorem dX6_before_31 : decode cX6_before 31 = .ok (.iconst 1, 1) := by decide +kernel
theorem dX6_before_32 : decode cX6_before 32 = .ok (.goto 4, 3) := by decide +kernel
theorem dX6_before_35 : decode cX6_before 35 = .ok (.iconst 0, 1) := by decide +kernel
theorem dX6_before_36 : decode cX6_before 36 = .ok (.iadd, 1) := by decide +kernel
theorem dX6_before_37 : decode cX6_before 37 = .ok (.istore_n 3, 1) := by decide +kernel
theorem dX6_before_38 : decode cX6_before 38 = .ok (.iinc 4 1, 3) := by decide +kernel
theorem dX6_before_41 : decode cX6_before 41 = .ok (.goto (-36), 3) := by decide +kernel
theorem dX6_before_44 : decode cX6_before 44 = .ok (.iload_n 3, 1) := by decide +kernel
theorem dX6_before_45 : decode cX6_before 45 = .ok (.ireturn, 1) := by decide +kernel
theorem dX6_swap_0 : decode cX6_swap 0 = .ok (.iload_n 1, 1) := by decide +kernel
theorem dX6_swap_1 : decode cX6_swap 1 = .ok (.invokestatic 111, 3) := by decide +kernel
theorem dX6_swap_4 : decode cX6_swap 4 = .ok (.ifCond .eq 25, 3) := by decide +kernel
theorem dX6_swap_7 : decode cX6_swap 7 = .ok (.iload_n 2, 1) := by decide +kernel
theorem dX6_swap_8 : decode cX6_swap 8 = .ok (.invokestatic 111, 3) := by decide +kernel
theorem dX6_swap_11 : decode cX6_swap 11 = .ok (.ifCond .eq 18, 3) := by decide +kernel
theorem dX6_swap_14 : decode cX6_swap 14 = .ok (.iload_n 1, 1) := by decide +kernel
theorem dX6_swap_15 : decode cX6_swap 15 = .ok (.iload_n 2, 1) := by decide +kernel
theorem dX6_swap_16 : decode cX6_swap 16 = .ok (.if_icmp .eq 13, 3) := by decide +kernel
theorem dX6_swap_19 : decode cX6_swap 19 = .ok (.iload_n 3, 1) := by decide +kernel
theorem dX6_swap_20 : decode cX6_swap 20 = .ok (.iconst 1, 1) := by decide +kernel
theorem dX6_swap_21 : decode cX6_swap 21 = .ok (.bipush 99, 2) := by decide +kernel
theorem dX6_swap_23 : decode cX6_swap 23 = .ok (.invokestatic 69, 3) := by decide +kernel
theorem dX6_swap_26 : decode cX6_swap 26 = .ok (.ifCond .ne 6, 3) := by decide +kernel
theorem dX6_swap_29 : decode cX6_swap 29 = .ok (.bipush (-2), 2) := by decide +kernel
theorem dX6_swap_31 : decode cX6_swap 31 = .ok (.ireturn, 1) := by decide +kernel
theorem dX6_swap_32 : decode cX6_swap 32 = .ok (.aload_n 0, 1) := by decide +kernel
theorem dX6_swap_33 : decode cX6_swap 33 = .ok (.iload_n 1, 1) := by decide +kernel
theorem dX6_swap_34 : decode cX6_swap 34 = .ok (.iload_n 3, 1) := by decide +kernel
theorem dX6_swap_35 : decode cX6_swap 35 = .ok (.invokevirtual 115, 3) := by decide +kernel
theorem dX6_swap_38 : decode cX6_swap 38 = .ok (.istore 4, 2) := by decide +kernel
theorem dX6_swap_40 : decode cX6_swap 40 = .ok (.aload_n 0, 1) := by decide +kernel
theorem dX6_swap_41 : decode cX6_swap 41 = .ok (.iload_n 2, 1) := by decide +kernel
theorem dX6_swap_42 : decode cX6_swap 42 = .ok (.iload_n 3, 1) := by decide +kernel
theorem dX6_swap_43 : decode cX6_swap 43 = .ok (.invokevirtual 115, 3) := by decide +kernel
theorem dX6_swap_46 : decode cX6_swap 46 = .ok (.istore 5, 2) := by decide +kernel
theorem dX6_swap_48 : decode cX6_swap 48 = .ok (.aload_n 0, 1) := by decide +kernel
theorem dX6_swap_49 : decode cX6_swap 49 = .ok (.getfield 7, 3) := by decide +kernel
theorem dX6_swap_52 : decode cX6_swap 52 = .ok (.bipush 8, 2) := by decide +kernel
theorem dX6_swap_54 : decode cX6_swap 54 = .ok (.iload_n 2, 1) := by decide +kernel
theorem dX6_swap_55 : decode cX6_swap 55 = .ok (.iadd, 1) := by decide +kernel
theorem dX6_swap_56 : decode cX6_swap 56 = .ok (.iaload, 1) := by decide +kernel
theorem dX6_swap_57 : decode cX6_swap 57 = .ok (.iload 5, 2) := by decide +kernel
theorem dX6_swap_59 : decode cX6_swap 59 = .ok (.isub, 1) := by decide +kernel
theorem dX6_swap_60 : decode cX6_swap 60 = .ok (.istore 6, 2) := by decide +kernel
theorem dX6_swap_62 : decode cX6_swap 62 = .ok (.iload 4, 2) := by decide +kernel
theorem dX6_swap_64 : decode cX6_swap 64 = .ok (.iload 6, 2) := by decide +kernel
theorem dX6_swap_66 : decode cX6_swap 66 = .ok (.iadd, 1) := by decide +kernel
theorem dX6_swap_67 : decode cX6_swap 67 = .ok (.bipush 10, 2) := by decide +kernel
theorem dX6_swap_69 : decode cX6_swap 69 = .ok (.if_icmp .le 6, 3) := by decide +kernel
theorem dX6_swap_72 : decode cX6_swap 72 = .ok (.bipush (-4), 2) := by decide +kernel
theorem dX6_swap_74 : decode cX6_swap 74 = .ok (.ireturn, 1) := by decide +kernel
theorem dX6_swap_75 : decode cX6_swap 75 = .ok (.iconst 0, 1) := by decide +kernel
theorem dX6_swap_76 : decode cX6_swap 76 = .ok (.istore 7, 2) := by decide +kernel
theorem dX6_swap_78 : decode cX6_swap 78 = .ok (.iload 7, 2) := by decide +kernel
theorem dX6_swap_80 : decode cX6_swap 80 = .ok (.iload 6, 2) := by decide +kernel
theorem dX6_swap_82 : decode cX6_swap 82 = .ok (.if_icmp .ge 65, 3) := by decide +kernel
theorem dX6_swap_85 : decode cX6_swap 85 = .ok (.aload_n 0, 1) := by decide +kernel
theorem dX6_swap_86 : decode cX6_swap 86 = .ok (.getfield 7, 3) := by decide +kernel
theorem dX6_swap_89 : decode cX6_swap 89 = .ok (.bipush 12, 2) := by decide +kernel
theorem dX6_swap_91 : decode cX6_swap 91 = .ok (.bipush 10, 2) := by decide +kernel
theorem dX6_swap_93 : decode cX6_swap 93 = .ok (.iload_n 1, 1) := by decide +kernel
theorem dX6_swap_94 : decode cX6_swap 94 = .ok (.imul, 1) := by decide +kernel
theorem dX6_swap_95 : decode cX6_swap 95 = .ok (.iadd, 1) := by decide +kernel
theorem dX6_swap_96 : decode cX6_swap 96 = .ok (.iload 4, 2) := by decide +kernel
theorem dX6_swap_98 : decode cX6_swap 98 = .ok (.iadd, 1) := by decide +kernel
theorem dX6_swap_99 : decode cX6_swap 99 = .ok (.iload 7, 2) := by decide +kernel
theorem dX6_swap_101 : decode cX6_swap 101 = .ok (.iadd, 1) := by decide +kernel
theorem dX6_swap_102 : decode cX6_swap 102 = .ok (.aload_n 0, 1) := by decide +kernel
theorem dX6_swap_103 : decode cX6_swap 103 = .ok (.iload_n 2, 1) := by decide +kernel
theorem dX6_swap_104 : decode cX6_swap 104 = .ok (.iload 5, 2) := by decide +kernel
theorem dX6_swap_106 : decode cX6_swap 106 = .ok (.iload 7, 2) := by decide +kernel
theorem dX6_swap_108 : decode cX6_swap 108 = .ok (.iadd, 1) := by decide +kernel
theorem dX6_swap_109 : decode cX6_swap 109 = .ok (.invokevirtual 118, 3) := by decide +kernel
theorem dX6_swap_112 : decode cX6_swap 112 = .ok (.iastore, 1) := by decide +kernel
theorem dX6_swap_113 : decode cX6_swap 113 = .ok (.aload_n 0, 1) := by decide +kernel
theorem dX6_swap_114 : decode cX6_swap 114 = .ok (.getfield 7, 3) := by decide +kernel
theorem dX6_swap_117 : decode cX6_swap 117 = .ok (.bipush 52, 2) := by decide +kernel
theorem dX6_swap_119 : decode cX6_swap 119 = .ok (.bipush 10, 2) := by decide +kernel
theorem dX6_swap_121 : decode cX6_swap 121 = .ok (.iload_n 1, 1) := by decide +kernel
theorem dX6_swap_122 : decode cX6_swap 122 = .ok (.imul, 1) := by decide +kernel
theorem dX6_swap_123 : decode cX6_swap 123 = .ok (.iadd, 1) := by decide +kernel
theorem dX6_swap_124 : decode cX6_swap 124 = .ok (.iload 4, 2) := by decide +kernel
theorem dX6_swap_126 : decode cX6_swap 126 = .ok (.iadd, 1) := by decide +kernel
theorem dX6_swap_127 : decode cX6_swap 127 = .ok (.iload 7, 2) := by decide +kernel
theorem dX6_swap_129 : decode cX6_swap 129 = .ok (.iadd, 1) := by decide +kernel
theorem dX6_swap_130 : decode cX6_swap 130 = .ok (.aload_n 0, 1) := by decide +kernel
theorem dX6_swap_131 : decode cX6_swap 131 = .ok (.iload_n 2, 1) := by decide +kernel
theorem dX6_swap_132 : decode cX6_swap 132 = .ok (.iload 5, 2) := by decide +kernel
theorem dX6_swap_134 : decode cX6_swap 134 = .ok (.iload 7, 2) := by decide +kernel
theorem dX6_swap_136 : decode cX6_swap 136 = .ok (.iadd, 1) := by decide +kernel
theorem dX6_swap_137 : decode cX6_swap 137 = .ok (.invokevirtual 108, 3) := by decide +kernel
theorem dX6_swap_140 : decode cX6_swap 140 = .ok (.iastore, 1) := by decide +kernel
theorem dX6_swap_141 : decode cX6_swap 141 = .ok (.iinc 7 1, 3) := by decide +kernel
theorem dX6_swap_144 : decode cX6_swap 144 = .ok (.goto (-66), 3) := by decide +kernel
theorem dX6_swap_147 : decode cX6_swap 147 = .ok (.aload_n 0, 1) := by decide +kernel
theorem dX6_swap_148 : decode cX6_swap 148 = .ok (.getfield 7, 3) := by decide +kernel
theorem dX6_swap_151 : decode cX6_swap 151 = .ok (.bipush 8, 2) := by decide +kernel
theorem dX6_swap_153 : decode cX6_swap 153 = .ok (.iload_n 1, 1) := by decide +kernel
theorem dX6_swap_154 : decode cX6_swap 154 = .ok (.iadd, 1) := by decide +kernel
theorem dX6_swap_155 : decode cX6_swap 155 = .ok (.iload 4, 2) := by decide +kernel
theorem dX6_swap_157 : decode cX6_swap 157 = .ok (.iload 6, 2) := by decide +kernel
theorem dX6_swap_159 : decode cX6_swap 159 = .ok (.iadd, 1) := by decide +kernel
theorem dX6_swap_160 : decode cX6_swap 160 = .ok (.iastore, 1) := by decide +kernel
theorem dX6_swap_161 : decode cX6_swap 161 = .ok (.iload 4, 2) := by decide +kernel
theorem dX6_swap_163 : decode cX6_swap 163 = .ok (.iload 6, 2) := by decide +kernel
theorem dX6_swap_165 : decode cX6_swap 165 = .ok (.iadd, 1) := by decide +kernel
theorem dX6_swap_166 : decode cX6_swap 166 = .ok (.ireturn, 1) := by decide +kernel
theorem dX6_doLine_0 : decode cX6_doLine 0 = .ok (.aload_n 0, 1) := by decide +kernel
theorem dX6_doLine_1 : decode cX6_doLine 1 = .ok (.getfield 23, 3) := by decide +kernel
theorem dX6_doLine_4 : decode cX6_doLine 4 = .ok (.iconst 0, 1) := by decide +kernel
theorem dX6_doLine_5 : decode cX6_doLine 5 = .ok (.iaload, 1) := by decide +kernel
theorem dX6_doLine_6 : decode cX6_doLine 6 = .ok (.istore_n 1, 1) := by decide +kernel
theorem dX6_doLine_7 : decode cX6_doLine 7 = .ok (.aload_n 0, 1) := by decide +kernel
theorem dX6_doLine_8 : decode cX6_doLine 8 = .ok (.getfield 23, 3) := by decide +kernel
theorem dX6_doLine_11 : decode cX6_doLine 11 = .ok (.iconst 1, 1) := by decide +kernel
theorem dX6_doLine_12 : decode cX6_doLine 12 = .ok (.iaload, 1) := by decide +kernel
theorem dX6_doLine_13 : decode cX6_doLine 13 = .ok (.istore_n 2, 1) := by decide +kernel
theorem dX6_doLine_14 : decode cX6_doLine 14 = .ok (.aload_n 0, 1) := by decide +kernel
theorem dX6_doLine_15 : decode cX6_doLine 15 = .ok (.getfield 101, 3) := by decide +kernel
theorem dX6_doLine_18 : decode cX6_doLine 18 = .ok (.tableswitch 192 0 5 #[38, 63, 94, 125, 148, 170], 38) := by decide +kernel
theorem dX6_doLine_56 : decode cX6_doLine 56 = .ok (.iload_n 1, 1) := by decide +kernel
theorem dX6_doLine_57 : decode cX6_doLine 57 = .ok (.invokestatic 111, 3) := by decide +kernel
theorem dX6_doLine_60 : decode cX6_doLine 60 = .ok (.ifCond .eq 18, 3) := by decide +kernel
theorem dX6_doLine_63 : decode cX6_doLine 63 = .ok (.aload_n 0, 1) := by decide +kernel
theorem dX6_doLine_64 : decode cX6_doLine 64 = .ok (.iload_n 1, 1) := by decide +kernel
theorem dX6_doLine_65 : decode cX6_doLine 65 = .ok (.iload_n 2, 1) := by decide +kernel
theorem dX6_doLine_66 : decode cX6_doLine 66 = .ok (.aload_n 0, 1) := by decide +kernel
theorem dX6_doLine_67 : decode cX6_doLine 67 = .ok (.getfield 23, 3) := by decide +kernel
theorem dX6_doLine_70 : decode cX6_doLine 70 = .ok (.iconst 2, 1) := by decide +kernel
theorem dX6_doLine_71 : decode cX6_doLine 71 = .ok (.iaload, 1) := by decide +kernel
theorem dX6_doLine_72 : decode cX6_doLine 72 = .ok (.invokevirtual 121, 3) := by decide +kernel
theorem dX6_doLine_75 : decode cX6_doLine 75 = .ok (.goto 5, 3) := by decide +kernel
theorem dX6_doLine_78 : decode cX6_doLine 78 = .ok (.bipush (-2), 2) := by decide +kernel
theorem dX6_doLine_80 : decode cX6_doLine 80 = .ok (.ireturn, 1) := by decide +kernel
theorem dX6_doLine_81 : decode cX6_doLine 81 = .ok (.iload_n 1, 1) := by decide +kernel
theorem dX6_doLine_82 : decode cX6_doLine 82 = .ok (.invokestatic 111, 3) := by decide +kernel
theorem dX6_doLine_85 : decode cX6_doLine 85 = .ok (.ifCond .eq 24, 3) := by decide +kernel
theorem dX6_doLine_88 : decode cX6_doLine 88 = .ok (.iload_n 2, 1) := by decide +kernel
theorem dX6_doLine_89 : decode cX6_doLine 89 = .ok (.iconst 1, 1) := by decide +kernel
theorem dX6_doLine_90 : decode cX6_doLine 90 = .ok (.bipush 40, 2) := by decide +kernel
theorem dX6_doLine_92 : decode cX6_doLine 92 = .ok (.invokestatic 69, 3) := by decide +kernel
theorem dX6_doLine_95 : decode cX6_doLine 95 = .ok (.ifCond .eq 14, 3) := by decide +kernel
theorem dX6_doLine_98 : decode cX6_doLine 98 = .ok (.aload_n 0, 1) := by decide +kernel
theorem dX6_doLine_99 : decode cX6_doLine 99 = .ok (.iconst 0, 1) := by decide +kernel
theorem dX6_doLine_100 : decode cX6_doLine 100 = .ok (.iload_n 1, 1) := by decide +kernel
theorem dX6_doLine_101 : decode cX6_doLine 101 = .ok (.iadd, 1) := by decide +kernel
theorem dX6_doLine_102 : decode cX6_doLine 102 = .ok (.iload_n 2, 1) := by decide +kernel
theorem dX6_doLine_103 : decode cX6_doLine 103 = .ok (.invokevirtual 125, 3) := by decide +kernel
theorem dX6_doLine_106 : decode cX6_doLine 106 = .ok (.goto 5, 3) := by decide +kernel
theorem dX6_doLine_109 : decode cX6_doLine 109 = .ok (.bipush (-2), 2) := by decide +kernel
theorem dX6_doLine_111 : decode cX6_doLine 111 = .ok (.ireturn, 1) := by decide +kernel
theorem dX6_doLine_112 : decode cX6_doLine 112 = .ok (.iload_n 1, 1) := by decide +kernel
theorem dX6_doLine_113 : decode cX6_doLine 113 = .ok (.invokestatic 111, 3) := by decide +kernel
theorem dX6_doLine_116 : decode cX6_doLine 116 = .ok (.ifCond .eq 24, 3) := by decide +kernel
theorem dX6_doLine_119 : decode cX6_doLine 119 = .ok (.iload_n 2, 1) := by decide +kernel
theorem dX6_doLine_120 : decode cX6_doLine 120 = .ok (.iconst 0, 1) := by decide +kernel
theorem dX6_doLine_121 : decode cX6_doLine 121 = .ok (.bipush 50, 2) := by decide +kernel
theorem dX6_doLine_123 : decode cX6_doLine 123 = .ok (.invokestatic 69, 3) := by decide +kernel
theorem dX6_doLine_126 : decode cX6_doLine 126 = .ok (.ifCond .eq 14, 3) := by decide +kernel
theorem dX6_doLine_129 : decode cX6_doLine 129 = .ok (.aload_n 0, 1) := by decide +kernel
theorem dX6_doLine_130 : decode cX6_doLine 130 = .ok (.iconst 4, 1) := by decide +kernel
theorem dX6_doLine_131 : decode cX6_doLine 131 = .ok (.iload_n 1, 1) := by decide +kernel
theorem dX6_doLine_132 : decode cX6_doLine 132 = .ok (.iadd, 1) := by decide +kernel
theorem dX6_doLine_133 : decode cX6_doLine 133 = .ok (.iload_n 2, 1) := by decide +kernel
theorem dX6_doLine_134 : decode cX6_doLine 134 = .ok (.invokevirtual 125, 3) := by decide +kernel
theorem dX6_doLine_137 : decode cX6_doLine 137 = .ok (.goto 5, 3) := by decide +kernel
theorem dX6_doLine_140 : decode cX6_doLine 140 = .ok (.bipush (-2), 2) := by decide +kernel
theorem dX6_doLine_142 : decode cX6_doLine 142 = .ok (.ireturn, 1) := by decide +kernel
theorem dX6_doLine_143 : decode cX6_doLine 143 = .ok (.iload_n 1, 1) := by decide +kernel
theorem dX6_doLine_144 : decode cX6_doLine 144 = .ok (.iconst 0, 1) := by decide +kernel
theorem dX6_doLine_145 : decode cX6_doLine 145 = .ok (.bipush 50, 2) := by decide +kernel
theorem dX6_doLine_147 : decode cX6_doLine 147 = .ok (.invokestatic 69, 3) := by decide +kernel
theorem dX6_doLine_150 : decode cX6_doLine 150 = .ok (.ifCond .eq 13, 3) := by decide +kernel
theorem dX6_doLine_153 : decode cX6_doLine 153 = .ok (.aload_n 0, 1) := by decide +kernel
theorem dX6_doLine_154 : decode cX6_doLine 154 = .ok (.bipush 92, 2) := by decide +kernel
theorem dX6_doLine_156 : decode cX6_doLine 156 = .ok (.iload_n 1, 1) := by decide +kernel
theorem dX6_doLine_157 : decode cX6_doLine 157 = .ok (.invokevirtual 125, 3) := by decide +kernel
theorem dX6_doLine_160 : decode cX6_doLine 160 = .ok (.goto 5, 3) := by decide +kernel
theorem dX6_doLine_163 : decode cX6_doLine 163 = .ok (.bipush (-2), 2) := by decide +kernel
theorem dX6_doLine_165 : decode cX6_doLine 165 = .ok (.ireturn, 1) := by decide +kernel
theorem dX6_doLine_166 : decode cX6_doLine 166 = .ok (.iload_n 1, 1) := by decide +kernel
theorem dX6_doLine_167 : decode cX6_doLine 167 = .ok (.iconst 1, 1) := by decide +kernel
theorem dX6_doLine_168 : decode cX6_doLine 168 = .ok (.iconst 4, 1) := by decide +kernel
theorem dX6_doLine_169 : decode cX6_doLine 169 = .ok (.invokestatic 69, 3) := by decide +kernel
theorem dX6_doLine_172 : decode cX6_doLine 172 = .ok (.ifCond .eq 13, 3) := by decide +kernel
theorem dX6_doLine_175 : decode cX6_doLine 175 = .ok (.aload_n 0, 1) := by decide +kernel
theorem dX6_doLine_176 : decode cX6_doLine 176 = .ok (.bipush 93, 2) := by decide +kernel
theorem dX6_doLine_178 : decode cX6_doLine 178 = .ok (.iload_n 1, 1) := by decide +kernel
theorem dX6_doLine_179 : decode cX6_doLine 179 = .ok (.invokevirtual 125, 3) := by decide +kernel
theorem dX6_doLine_182 : decode cX6_doLine 182 = .ok (.goto 5, 3) := by decide +kernel
theorem dX6_doLine_185 : decode cX6_doLine 185 = .ok (.bipush (-2), 2) := by decide +kernel
theorem dX6_doLine_187 : decode cX6_doLine 187 = .ok (.ireturn, 1) := by decide +kernel
theorem dX6_doLine_188 : decode cX6_doLine 188 = .ok (.iload_n 1, 1) := by decide +kernel
theorem dX6_doLine_189 : decode cX6_doLine 189 = .ok (.invokestatic 111, 3) := by decide +kernel
theorem dX6_doLine_192 : decode cX6_doLine 192 = .ok (.ifCond .eq 15, 3) := by decide +kernel
theorem dX6_doLine_195 : decode cX6_doLine 195 = .ok (.aload_n 0, 1) := by decide +kernel
theorem dX6_doLine_196 : decode cX6_doLine 196 = .ok (.bipush 8, 2) := by decide +kernel
theorem dX6_doLine_198 : decode cX6_doLine 198 = .ok (.iload_n 1, 1) := by decide +kernel
theorem dX6_doLine_199 : decode cX6_doLine 199 = .ok (.iadd, 1) := by decide +kernel
theorem dX6_doLine_200 : decode cX6_doLine 200 = .ok (.iconst 0, 1) := by decide +kernel
theorem dX6_doLine_201 : decode cX6_doLine 201 = .ok (.invokevirtual 125, 3) := by decide +kernel
theorem dX6_doLine_204 : decode cX6_doLine 204 = .ok (.goto 5, 3) := by decide +kernel
theorem dX6_doLine_207 : decode cX6_doLine 207 = .ok (.bipush (-2), 2) := by decide +kernel
theorem dX6_doLine_209 : decode cX6_doLine 209 = .ok (.ireturn, 1) := by decide +kernel
theorem dX6_doLine_210 : decode cX6_doLine 210 = .ok (.aload_n 0, 1) := by decide +kernel
theorem dX6_doLine_211 : decode cX6_doLine 211 = .ok (.iload_n 1, 1) := by decide +kernel
theorem dX6_doLine_212 : decode cX6_doLine 212 = .ok (.iload_n 2, 1) := by decide +kernel
theorem dX6_doLine_213 : decode cX6_doLine 213 = .ok (.aload_n 0, 1) := by decide +kernel
theorem dX6_doLine_214 : decode cX6_doLine 214 = .ok (.getfield 23, 3) := by decide +kernel
theorem dX6_doLine_217 : decode cX6_doLine 217 = .ok (.iconst 2, 1) := by decide +kernel
theorem dX6_doLine_218 : decode cX6_doLine 218 = .ok (.iaload, 1) := by decide +kernel
theorem dX6_doLine_219 : decode cX6_doLine 219 = .ok (.invokevirtual 128, 3) := by decide +kernel
theorem dX6_doLine_222 : decode cX6_doLine 222 = .ok (.ireturn, 1) := by decide +kernel
theorem dX6_line_0 : decode cX6_line 0 = .ok (.aload_n 0, 1) := by decide +kernel
theorem dX6_line_1 : decode cX6_line 1 = .ok (.invokevirtual 104, 3) := by decide +kernel
theorem dX6_line_4 : decode cX6_line 4 = .ok (.ifCond .ne 17, 3) := by decide +kernel
theorem dX6_line_7 : decode cX6_line 7 = .ok (.aload_n 0, 1) := by decide +kernel
theorem dX6_line_8 : decode cX6_line 8 = .ok (.getfield 7, 3) := by decide +kernel
theorem dX6_line_11 : decode cX6_line 11 = .ok (.bipush 94, 2) := by decide +kernel
theorem dX6_line_13 : decode cX6_line 13 = .ok (.aload_n 0, 1) := by decide +kernel
theorem dX6_line_14 : decode cX6_line 14 = .ok (.getfield 95, 3) := by decide +kernel
theorem dX6_line_17 : decode cX6_line 17 = .ok (.iastore, 1) := by decide +kernel
theorem dX6_line_18 : decode cX6_line 18 = .ok (.bipush (-7), 2) := by decide +kernel
theorem dX6_line_20 : decode cX6_line 20 = .ok (.ireturn, 1) := by decide +kernel
theorem dX6_line_21 : decode cX6_line 21 = .ok (.aload_n 0, 1) := by decide +kernel
theorem dX6_line_22 : decode cX6_line 22 = .ok (.invokevirtual 131, 3) := by decide +kernel
theorem dX6_line_25 : decode cX6_line 25 = .ok (.istore_n 1, 1) := by decide +kernel
theorem dX6_line_26 : decode cX6_line 26 = .ok (.aload_n 0, 1) := by decide +kernel
theorem dX6_line_27 : decode cX6_line 27 = .ok (.iload_n 1, 1) := by decide +kernel
theorem dX6_line_28 : decode cX6_line 28 = .ok (.ifCond .lt 7, 3) := by decide +kernel
theorem dX6_line_31 : decode cX6_line 31 = .ok (.iconst 0, 1) := by decide +kernel
theorem dX6_line_32 : decode cX6_line 32 = .ok (.goto 7, 3) := by decide +kernel
theorem dX6_line_35 : decode cX6_line 35 = .ok (.aload_n 0, 1) := by decide +kernel
theorem dX6_line_36 : decode cX6_line 36 = .ok (.getfield 73, 3) := by decide +kernel
theorem dX6_line_39 : decode cX6_line 39 = .ok (.putfield 73, 3) := by decide +kernel
theorem dX6_line_42 : decode cX6_line 42 = .ok (.iload_n 1, 1) := by decide +kernel
theorem dX6_line_43 : decode cX6_line 43 = .ok (.ireturn, 1) := by decide +kernel
theorem dX6_writeNumber_0 : decode cX6_writeNumber 0 = .ok (.aload_n 0, 1) := by decide +kernel
theorem dX6_writeNumber_1 : decode cX6_writeNumber 1 = .ok (.getfield 26, 3) := by decide +kernel
theorem dX6_writeNumber_4 : decode cX6_writeNumber 4 = .ok (.aload_n 0, 1) := by decide +kernel
theorem dX6_writeNumber_5 : decode cX6_writeNumber 5 = .ok (.getfield 135, 3) := by decide +kernel
theorem dX6_writeNumber_8 : decode cX6_writeNumber 8 = .ok (.bipush 32, 2) := by decide +kernel
theorem dX6_writeNumber_10 : decode cX6_writeNumber 10 = .ok (.iastore, 1) := by decide +kernel
theorem dX6_writeNumber_11 : decode cX6_writeNumber 11 = .ok (.aload_n 0, 1) := by decide +kernel
theorem dX6_writeNumber_12 : decode cX6_writeNumber 12 = .ok (.dup, 1) := by decide +kernel
theorem dX6_writeNumber_13 : decode cX6_writeNumber 13 = .ok (.getfield 135, 3) := by decide +kernel
theorem dX6_writeNumber_16 : decode cX6_writeNumber 16 = .ok (.iconst 1, 1) := by decide +kernel
theorem dX6_writeNumber_17 : decode cX6_writeNumber 17 = .ok (.iadd, 1) := by decide +kernel
theorem dX6_writeNumber_18 : decode cX6_writeNumber 18 = .ok (.putfield 135, 3) := by decide +kernel
theorem dX6_writeNumber_21 : decode cX6_writeNumber 21 = .ok (.iload_n 1, 1) := by decide +kernel
theorem dX6_writeNumber_22 : decode cX6_writeNumber 22 = .ok (.bipush 9, 2) := by decide +kernel
theorem dX6_writeNumber_24 : decode cX6_writeNumber 24 = .ok (.if_icmp .le 29, 3) := by decide +kernel
theorem dX6_writeNumber_27 : decode cX6_writeNumber 27 = .ok (.aload_n 0, 1) := by decide +kernel
theorem dX6_writeNumber_28 : decode cX6_writeNumber 28 = .ok (.getfield 26, 3) := by decide +kernel
theorem dX6_writeNumber_31 : decode cX6_writeNumber 31 = .ok (.aload_n 0, 1) := by decide +kernel
theorem dX6_writeNumber_32 : decode cX6_writeNumber 32 = .ok (.getfield 135, 3) := by decide +kernel
theorem dX6_writeNumber_35 : decode cX6_writeNumber 35 = .ok (.bipush 48, 2) := by decide +kernel
theorem dX6_writeNumber_37 : decode cX6_writeNumber 37 = .ok (.iload_n 1, 1) := by decide +kernel
theorem dX6_writeNumber_38 : decode cX6_writeNumber 38 = .ok (.bipush 10, 2) := by decide +kernel
theorem dX6_writeNumber_40 : decode cX6_writeNumber 40 = .ok (.idiv, 1) := by decide +kernel
theorem dX6_writeNumber_41 : decode cX6_writeNumber 41 = .ok (.iadd, 1) := by decide +kernel
theorem dX6_writeNumber_42 : decode cX6_writeNumber 42 = .ok (.iastore, 1) := by decide +kernel
theorem dX6_writeNumber_43 : decode cX6_writeNumber 43 = .ok (.aload_n 0, 1) := by decide +kernel
theorem dX6_writeNumber_44 : decode cX6_writeNumber 44 = .ok (.dup, 1) := by decide +kernel
theorem dX6_writeNumber_45 : decode cX6_writeNumber 45 = .ok (.getfield 135, 3) := by decide +kernel
theorem dX6_writeNumber_48 : decode cX6_writeNumber 48 = .ok (.iconst 1, 1) := by decide +kernel
theorem dX6_writeNumber_49 : decode cX6_writeNumber 49 = .ok (.iadd, 1) := by decide +kernel
theorem dX6_writeNumber_50 : decode cX6_writeNumber 50 = .ok (.putfield 135, 3) := by decide +kernel
theorem dX6_writeNumber_53 : decode cX6_writeNumber 53 = .ok (.aload_n 0, 1) := by decide +kernel
theorem dX6_writeNumber_54 : decode cX6_writeNumber 54 = .ok (.getfield 26, 3) := by decide +kernel
theorem dX6_writeNumber_57 : decode cX6_writeNumber 57 = .ok (.aload_n 0, 1) := by decide +kernel
theorem dX6_writeNumber_58 : decode cX6_writeNumber 58 = .ok (.getfield 135, 3) := by decide +kernel
theorem dX6_writeNumber_61 : decode cX6_writeNumber 61 = .ok (.bipush 48, 2) := by decide +kernel
theorem dX6_writeNumber_63 : decode cX6_writeNumber 63 = .ok (.iload_n 1, 1) := by decide +kernel
theorem dX6_writeNumber_64 : decode cX6_writeNumber 64 = .ok (.bipush 10, 2) := by decide +kernel
theorem dX6_writeNumber_66 : decode cX6_writeNumber 66 = .ok (.irem, 1) := by decide +kernel
theorem dX6_writeNumber_67 : decode cX6_writeNumber 67 = .ok (.iadd, 1) := by decide +kernel
theorem dX6_writeNumber_68 : decode cX6_writeNumber 68 = .ok (.iastore, 1) := by decide +kernel
theorem dX6_writeNumber_69 : decode cX6_writeNumber 69 = .ok (.aload_n 0, 1) := by decide +kernel
theorem dX6_writeNumber_70 : decode cX6_writeNumber 70 = .ok (.dup, 1) := by decide +kernel
theorem dX6_writeNumber_71 : decode cX6_writeNumber 71 = .ok (.getfield 135, 3) := by decide +kernel
theorem dX6_writeNumber_74 : decode cX6_writeNumber 74 = .ok (.iconst 1, 1) := by decide +kernel
theorem dX6_writeNumber_75 : decode cX6_writeNumber 75 = .ok (.iadd, 1) := by decide +kernel
theorem dX6_writeNumber_76 : decode cX6_writeNumber 76 = .ok (.putfield 135, 3) := by decide +kernel
theorem dX6_writeNumber_79 : decode cX6_writeNumber 79 = .ok (.return_, 1) := by decide +kernel
theorem dX6_written_0 : decode cX6_written 0 = .ok (.iload_n 1, 1) := by decide +kernel
theorem dX6_written_1 : decode cX6_written 1 = .ok (.invokestatic 111, 3) := by decide +kernel
theorem dX6_written_4 : decode cX6_written 4 = .ok (.ifCond .eq 8, 3) := by decide +kernel
theorem dX6_written_7 : decode cX6_written 7 = .ok (.iload_n 3, 1) := by decide +kernel
theorem dX6_written_8 : decode cX6_written 8 = .ok (.iconst (-1), 1) := by decide +kernel
theorem dX6_written_9 : decode cX6_written 9 = .ok (.if_icmp .ge 6, 3) := by decide +kernel
theorem dX6_written_12 : decode cX6_written 12 = .ok (.bipush (-2), 2) := by decide +kernel
theorem dX6_written_14 : decode cX6_written 14 = .ok (.ireturn, 1) := by decide +kernel
theorem dX6_written_15 : decode cX6_written 15 = .ok (.aload_n 0, 1) := by decide +kernel
theorem dX6_written_16 : decode cX6_written 16 = .ok (.iload_n 1, 1) := by decide +kernel
theorem dX6_written_17 : decode cX6_written 17 = .ok (.iload_n 2, 1) := by decide +kernel
theorem dX6_written_18 : decode cX6_written 18 = .ok (.invokevirtual 138, 3) := by decide +kernel
theorem dX6_written_21 : decode cX6_written 21 = .ok (.ifCond .ne 6, 3) := by decide +kernel
theorem dX6_written_24 : decode cX6_written 24 = .ok (.bipush (-6), 2) := by decide +kernel
theorem dX6_written_26 : decode cX6_written 26 = .ok (.ireturn, 1) := by decide +kernel
theorem dX6_written_27 : decode cX6_written 27 = .ok (.aload_n 0, 1) := by decide +kernel
theorem dX6_written_28 : decode cX6_written 28 = .ok (.iconst 0, 1) := by decide +kernel
theorem dX6_written_29 : decode cX6_written 29 = .ok (.putfield 135, 3) := by decide +kernel
theorem dX6_written_32 : decode cX6_written 32 = .ok (.iconst 0, 1) := by decide +kernel
theorem dX6_written_33 : decode cX6_written 33 = .ok (.aload_n 0, 1) := by decide +kernel
theorem dX6_written_34 : decode cX6_written 34 = .ok (.getfield 135, 3) := by decide +kernel
theorem dX6_written_37 : decode cX6_written 37 = .ok (.invokestatic 87, 3) := by decide +kernel
theorem dX6_written_40 : decode cX6_written 40 = .ok (.ifCond .eq 33, 3) := by decide +kernel
theorem dX6_written_43 : decode cX6_written 43 = .ok (.aload_n 0, 1) := by decide +kernel
theorem dX6_written_44 : decode cX6_written 44 = .ok (.getfield 26, 3) := by decide +kernel
theorem dX6_written_47 : decode cX6_written 47 = .ok (.aload_n 0, 1) := by decide +kernel
theorem dX6_written_48 : decode cX6_written 48 = .ok (.getfield 135, 3) := by decide +kernel
theorem dX6_written_51 : decode cX6_written 51 = .ok (.iconst 0, 1) := by decide +kernel
theorem dX6_written_52 : decode cX6_written 52 = .ok (.aload_n 0, 1) := by decide +kernel
theorem dX6_written_53 : decode cX6_written 53 = .ok (.getfield 135, 3) := by decide +kernel
theorem dX6_written_56 : decode cX6_written 56 = .ok (.invokestatic 87, 3) := by decide +kernel
theorem dX6_written_59 : decode cX6_written 59 = .ok (.iastore, 1) := by decide +kernel
theorem dX6_written_60 : decode cX6_written 60 = .ok (.aload_n 0, 1) := by decide +kernel
theorem dX6_written_61 : decode cX6_written 61 = .ok (.dup, 1) := by decide +kernel
theorem dX6_written_62 : decode cX6_written 62 = .ok (.getfield 135, 3) := by decide +kernel
theorem dX6_written_65 : decode cX6_written 65 = .ok (.iconst 1, 1) := by decide +kernel
theorem dX6_written_66 : decode cX6_written 66 = .ok (.iadd, 1) := by decide +kernel
theorem dX6_written_67 : decode cX6_written 67 = .ok (.putfield 135, 3) := by decide +kernel
theorem dX6_written_70 : decode cX6_written 70 = .ok (.goto (-38), 3) := by decide +kernel
theorem dX6_written_73 : decode cX6_written 73 = .ok (.aload_n 0, 1) := by decide +kernel
theorem dX6_written_74 : decode cX6_written 74 = .ok (.iload_n 1, 1) := by decide +kernel
theorem dX6_written_75 : decode cX6_written 75 = .ok (.invokevirtual 142, 3) := by decide +kernel
theorem dX6_written_78 : decode cX6_written 78 = .ok (.aload_n 0, 1) := by decide +kernel
theorem dX6_written_79 : decode cX6_written 79 = .ok (.aload_n 0, 1) := by decide +kernel
theorem dX6_written_80 : decode cX6_written 80 = .ok (.iload_n 1, 1) := by decide +kernel
theorem dX6_written_81 : decode cX6_written 81 = .ok (.iload_n 2, 1) := by decide +kernel
theorem dX6_written_82 : decode cX6_written 82 = .ok (.invokevirtual 118, 3) := by decide +kernel
theorem dX6_written_85 : decode cX6_written 85 = .ok (.invokevirtual 142, 3) := by decide +kernel
theorem dX6_written_88 : decode cX6_written 88 = .ok (.aload_n 0, 1) := by decide +kernel
theorem dX6_written_89 : decode cX6_written 89 = .ok (.aload_n 0, 1) := by decide +kernel
theorem dX6_written_90 : decode cX6_written 90 = .ok (.iload_n 1, 1) := by decide +kernel
theorem dX6_written_91 : decode cX6_written 91 = .ok (.iload_n 2, 1) := by decide +kernel
theorem dX6_written_92 : decode cX6_written 92 = .ok (.invokevirtual 108, 3) := by decide +kernel
theorem dX6_written_95 : decode cX6_written 95 = .ok (.invokevirtual 142, 3) := by decide +kernel
theorem dX6_written_98 : decode cX6_written 98 = .ok (.iload_n 3, 1) := by decide +kernel
theorem dX6_written_99 : decode cX6_written 99 = .ok (.iconst (-1), 1) := by decide +kernel
theorem dX6_written_100 : decode cX6_written 100 = .ok (.if_icmp .ne 10, 3) := by decide +kernel
theorem dX6_written_103 : decode cX6_written 103 = .ok (.aload_n 0, 1) := by decide +kernel
theorem dX6_written_104 : decode cX6_written 104 = .ok (.getfield 135, 3) := by decide +kernel
theorem dX6_written_107 : decode cX6_written 107 = .ok (.goto 22, 3) := by decide +kernel
theorem dX6_written_110 : decode cX6_written 110 = .ok (.iload_n 3, 1) := by decide +kernel
theorem dX6_written_111 : decode cX6_written 111 = .ok (.aload_n 0, 1) := by decide +kernel
theorem dX6_written_112 : decode cX6_written 112 = .ok (.getfield 135, 3) := by decide +kernel
theorem dX6_written_115 : decode cX6_written 115 = .ok (.if_icmp .ge 12, 3) := by decide +kernel
theorem dX6_written_118 : decode cX6_written 118 = .ok (.aload_n 0, 1) := by decide +kernel
theorem dX6_written_119 : decode cX6_written 119 = .ok (.getfield 26, 3) := by decide +kernel
theorem dX6_written_122 : decode cX6_written 122 = .ok (.iload_n 3, 1) := by decide +kernel
theorem dX6_written_123 : decode cX6_written 123 = .ok (.iaload, 1) := by decide +kernel
theorem dX6_written_124 : decode cX6_written 124 = .ok (.goto 5, 3) := by decide +kernel
theorem dX6_written_127 : decode cX6_written 127 = .ok (.bipush (-6), 2) := by decide +kernel
theorem dX6_written_129 : decode cX6_written 129 = .ok (.ireturn, 1) := by decide +kernel
theorem dX6_packetsOf_0 : decode cX6_packetsOf 0 = .ok (.iconst 0, 1) := by decide +kernel
theorem dX6_packetsOf_1 : decode cX6_packetsOf 1 = .ok (.istore_n 2, 1) := by decide +kernel
theorem dX6_packetsOf_2 : decode cX6_packetsOf 2 = .ok (.iconst 0, 1) := by decide +kernel
theorem dX6_packetsOf_3 : decode cX6_packetsOf 3 = .ok (.istore_n 3, 1) := by decide +kernel
theorem dX6_packetsOf_4 : decode cX6_packetsOf 4 = .ok (.iload_n 3, 1) := by decide +kernel
theorem dX6_packetsOf_5 : decode cX6_packetsOf 5 = .ok (.aload_n 0, 1) := by decide +kernel
theorem dX6_packetsOf_6 : decode cX6_packetsOf 6 = .ok (.getfield 7, 3) := by decide +kernel
theorem dX6_packetsOf_9 : decode cX6_packetsOf 9 = .ok (.bipush 8, 2) := by decide +kernel
theorem dX6_packetsOf_11 : decode cX6_packetsOf 11 = .ok (.iload_n 1, 1) := by decide +kernel
theorem dX6_packetsOf_12 : decode cX6_packetsOf 12 = .ok (.iadd, 1) := by decide +kernel
theorem dX6_packetsOf_13 : decode cX6_packetsOf 13 = .ok (.iaload, 1) := by decide +kernel
theorem dX6_packetsOf_14 : decode cX6_packetsOf 14 = .ok (.if_icmp .ge 18, 3) := by decide +kernel
theorem dX6_packetsOf_17 : decode cX6_packetsOf 17 = .ok (.iload_n 2, 1) := by decide +kernel
theorem dX6_packetsOf_18 : decode cX6_packetsOf 18 = .ok (.aload_n 0, 1) := by decide +kernel
theorem dX6_packetsOf_19 : decode cX6_packetsOf 19 = .ok (.iload_n 1, 1) := by decide +kernel
theorem dX6_packetsOf_20 : decode cX6_packetsOf 20 = .ok (.iload_n 3, 1) := by decide +kernel
theorem dX6_packetsOf_21 : decode cX6_packetsOf 21 = .ok (.invokevirtual 118, 3) := by decide +kernel
theorem dX6_packetsOf_24 : decode cX6_packetsOf 24 = .ok (.iadd, 1) := by decide +kernel
theorem dX6_packetsOf_25 : decode cX6_packetsOf 25 = .ok (.istore_n 2, 1) := by decide +kernel
theorem dX6_packetsOf_26 : decode cX6_packetsOf 26 = .ok (.iinc 3 1, 3) := by decide +kernel
theorem dX6_packetsOf_29 : decode cX6_packetsOf 29 = .ok (.goto (-25), 3) := by decide +kernel
theorem dX6_packetsOf_32 : decode cX6_packetsOf 32 = .ok (.iload_n 2, 1) := by decide +kernel
theorem dX6_packetsOf_33 : decode cX6_packetsOf 33 = .ok (.ireturn, 1) := by decide +kernel
theorem dX6_told_0 : decode cX6_told 0 = .ok (.iload_n 1, 1) := by decide +kernel
theorem dX6_told_1 : decode cX6_told 1 = .ok (.invokestatic 111, 3) := by decide +kernel
theorem dX6_told_4 : decode cX6_told 4 = .ok (.ifCond .eq 12, 3) := by decide +kernel
theorem dX6_told_7 : decode cX6_told 7 = .ok (.iload_n 2, 1) := by decide +kernel
theorem dX6_told_8 : decode cX6_told 8 = .ok (.iconst 0, 1) := by decide +kernel
theorem dX6_told_9 : decode cX6_told 9 = .ok (.iconst 4, 1) := by decide +kernel
theorem dX6_told_10 : decode cX6_told 10 = .ok (.invokestatic 69, 3) := by decide +kernel
theorem dX6_told_13 : decode cX6_told 13 = .ok (.ifCond .ne 6, 3) := by decide +kernel
theorem dX6_told_16 : decode cX6_told 16 = .ok (.bipush (-2), 2) := by decide +kernel
theorem dX6_told_18 : decode cX6_told 18 = .ok (.ireturn, 1) := by decide +kernel
theorem dX6_told_19 : decode cX6_told 19 = .ok (.aload_n 0, 1) := by decide +kernel
theorem dX6_told_20 : decode cX6_told 20 = .ok (.getfield 7, 3) := by decide +kernel
theorem dX6_told_23 : decode cX6_told 23 = .ok (.bipush 8, 2) := by decide +kernel
theorem dX6_told_25 : decode cX6_told 25 = .ok (.iload_n 1, 1) := by decide +kernel
theorem dX6_told_26 : decode cX6_told 26 = .ok (.iadd, 1) := by decide +kernel
theorem dX6_told_27 : decode cX6_told 27 = .ok (.iaload, 1) := by decide +kernel
theorem dX6_told_28 : decode cX6_told 28 = .ok (.istore_n 3, 1) := by decide +kernel
theorem dX6_told_29 : decode cX6_told 29 = .ok (.iload_n 2, 1) := by decide +kernel
theorem dX6_told_30 : decode cX6_told 30 = .ok (.iconst 3, 1) := by decide +kernel
theorem dX6_told_31 : decode cX6_told 31 = .ok (.if_icmp .ne 23, 3) := by decide +kernel
theorem dX6_told_34 : decode cX6_told 34 = .ok (.iload_n 3, 1) := by decide +kernel
theorem dX6_told_35 : decode cX6_told 35 = .ok (.ifCond .ne 8, 3) := by decide +kernel
theorem dX6_told_38 : decode cX6_told 38 = .ok (.bipush (-6), 2) := by decide +kernel
theorem dX6_told_40 : decode cX6_told 40 = .ok (.goto 37, 3) := by decide +kernel
theorem dX6_told_43 : decode cX6_told 43 = .ok (.aload_n 0, 1) := by decide +kernel
theorem dX6_told_44 : decode cX6_told 44 = .ok (.iload_n 1, 1) := by decide +kernel
theorem dX6_told_45 : decode cX6_told 45 = .ok (.iload_n 3, 1) := by decide +kernel
theorem dX6_told_46 : decode cX6_told 46 = .ok (.iconst 1, 1) := by decide +kernel
theorem dX6_told_47 : decode cX6_told 47 = .ok (.isub, 1) := by decide +kernel
theorem dX6_told_48 : decode cX6_told 48 = .ok (.invokevirtual 108, 3) := by decide +kernel
theorem dX6_told_51 : decode cX6_told 51 = .ok (.goto 26, 3) := by decide +kernel
theorem dX6_told_54 : decode cX6_told 54 = .ok (.iload_n 2, 1) := by decide +kernel
theorem dX6_told_55 : decode cX6_told 55 = .ok (.iconst 4, 1) := by decide +kernel
theorem dX6_told_56 : decode cX6_told 56 = .ok (.if_icmp .ne 11, 3) := by decide +kernel
theorem dX6_told_59 : decode cX6_told 59 = .ok (.aload_n 0, 1) := by decide +kernel
theorem dX6_told_60 : decode cX6_told 60 = .ok (.iload_n 1, 1) := by decide +kernel
theorem dX6_told_61 : decode cX6_told 61 = .ok (.invokevirtual 146, 3) := by decide +kernel
theorem dX6_told_64 : decode cX6_told 64 = .ok (.goto 13, 3) := by decide +kernel
theorem dX6_told_67 : decode cX6_told 67 = .ok (.aload_n 0, 1) := by decide +kernel
theorem dX6_told_68 : decode cX6_told 68 = .ok (.getfield 7, 3) := by decide +kernel
theorem dX6_told_71 : decode cX6_told 71 = .ok (.iconst 4, 1) := by decide +kernel
theorem dX6_told_72 : decode cX6_told 72 = .ok (.iload_n 2, 1) := by decide +kernel
theorem dX6_told_73 : decode cX6_told 73 = .ok (.imul, 1) := by decide +kernel
theorem dX6_told_74 : decode cX6_told 74 = .ok (.iload_n 1, 1) := by decide +kernel
theorem dX6_told_75 : decode cX6_told 75 = .ok (.iadd, 1) := by decide +kernel
theorem dX6_told_76 : decode cX6_told 76 = .ok (.iaload, 1) := by decide +kernel
theorem dX6_told_77 : decode cX6_told 77 = .ok (.ireturn, 1) := by decide +kernel
theorem dX6_showDue_0 : decode cX6_showDue 0 = .ok (.iconst 0, 1) := by decide +kernel
theorem dX6_showDue_1 : decode cX6_showDue 1 = .ok (.istore_n 3, 1) := by decide +kernel
theorem dX6_showDue_2 : decode cX6_showDue 2 = .ok (.iload_n 3, 1) := by decide +kernel
theorem dX6_showDue_3 : decode cX6_showDue 3 = .ok (.aload_n 0, 1) := by decide +kernel
theorem dX6_showDue_4 : decode cX6_showDue 4 = .ok (.getfield 7, 3) := by decide +kernel
theorem dX6_showDue_7 : decode cX6_showDue 7 = .ok (.bipush 8, 2) := by decide +kernel
theorem dX6_showDue_9 : decode cX6_showDue 9 = .ok (.iload_n 1, 1) := by decide +kernel
theorem dX6_showDue_10 : decode cX6_showDue 10 = .ok (.iadd, 1) := by decide +kernel
theorem dX6_showDue_11 : decode cX6_showDue 11 = .ok (.iaload, 1) := by decide +kernel
theorem dX6_showDue_12 : decode cX6_showDue 12 = .ok (.if_icmp .ge 110, 3) := by decide +kernel
theorem dX6_showDue_15 : decode cX6_showDue 15 = .ok (.bipush 10, 2) := by decide +kernel
theorem dX6_showDue_17 : decode cX6_showDue 17 = .ok (.iload_n 1, 1) := by decide +kernel
theorem dX6_showDue_18 : decode cX6_showDue 18 = .ok (.imul, 1) := by decide +kernel
theorem dX6_showDue_19 : decode cX6_showDue 19 = .ok (.iload_n 3, 1) := by decide +kernel
theorem dX6_showDue_20 : decode cX6_showDue 20 = .ok (.iadd, 1) := by decide +kernel
theorem dX6_showDue_21 : decode cX6_showDue 21 = .ok (.istore 4, 2) := by decide +kernel
theorem dX6_showDue_23 : decode cX6_showDue 23 = .ok (.aload_n 0, 1) := by decide +kernel
theorem dX6_showDue_24 : decode cX6_showDue 24 = .ok (.iload_n 1, 1) := by decide +kernel
theorem dX6_showDue_25 : decode cX6_showDue 25 = .ok (.iload_n 3, 1) := by decide +kernel
theorem dX6_showDue_26 : decode cX6_showDue 26 = .ok (.invokevirtual 108, 3) := by decide +kernel
theorem dX6_showDue_29 : decode cX6_showDue 29 = .ok (.iload_n 2, 1) := by decide +kernel
theorem dX6_showDue_30 : decode cX6_showDue 30 = .ok (.if_icmp .ne 86, 3) := by decide +kernel
theorem dX6_showDue_33 : decode cX6_showDue 33 = .ok (.aload_n 0, 1) := by decide +kernel
theorem dX6_showDue_34 : decode cX6_showDue 34 = .ok (.getfield 50, 3) := by decide +kernel
theorem dX6_showDue_37 : decode cX6_showDue 37 = .ok (.iload 4, 2) := by decide +kernel
theorem dX6_showDue_39 : decode cX6_showDue 39 = .ok (.aload_n 0, 1) := by decide +kernel
theorem dX6_showDue_40 : decode cX6_showDue 40 = .ok (.getfield 41, 3) := by decide +kernel
theorem dX6_showDue_43 : decode cX6_showDue 43 = .ok (.iload 4, 2) := by decide +kernel
theorem dX6_showDue_45 : decode cX6_showDue 45 = .ok (.iaload, 1) := by decide +kernel
theorem dX6_showDue_46 : decode cX6_showDue 46 = .ok (.aload_n 0, 1) := by decide +kernel
theorem dX6_showDue_47 : decode cX6_showDue 47 = .ok (.iload_n 1, 1) := by decide +kernel
theorem dX6_showDue_48 : decode cX6_showDue 48 = .ok (.iload_n 3, 1) := by decide +kernel
theorem dX6_showDue_49 : decode cX6_showDue 49 = .ok (.invokevirtual 118, 3) := by decide +kernel
theorem dX6_showDue_52 : decode cX6_showDue 52 = .ok (.if_icmp .ne 7, 3) := by decide +kernel
theorem dX6_showDue_55 : decode cX6_showDue 55 = .ok (.iconst 1, 1) := by decide +kernel
theorem dX6_showDue_56 : decode cX6_showDue 56 = .ok (.goto 4, 3) := by decide +kernel
theorem dX6_showDue_59 : decode cX6_showDue 59 = .ok (.iconst 0, 1) := by decide +kernel
theorem dX6_showDue_60 : decode cX6_showDue 60 = .ok (.bastore, 1) := by decide +kernel
theorem dX6_showDue_61 : decode cX6_showDue 61 = .ok (.aload_n 0, 1) := by decide +kernel
theorem dX6_showDue_62 : decode cX6_showDue 62 = .ok (.getfield 56, 3) := by decide +kernel
theorem dX6_showDue_65 : decode cX6_showDue 65 = .ok (.iload_n 1, 1) := by decide +kernel
theorem dX6_showDue_66 : decode cX6_showDue 66 = .ok (.dup2, 1) := by decide +kernel
theorem dX6_showDue_67 : decode cX6_showDue 67 = .ok (.iaload, 1) := by decide +kernel
theorem dX6_showDue_68 : decode cX6_showDue 68 = .ok (.aload_n 0, 1) := by decide +kernel
theorem dX6_showDue_69 : decode cX6_showDue 69 = .ok (.getfield 41, 3) := by decide +kernel
theorem dX6_showDue_72 : decode cX6_showDue 72 = .ok (.iload 4, 2) := by decide +kernel
theorem dX6_showDue_74 : decode cX6_showDue 74 = .ok (.iaload, 1) := by decide +kernel
theorem dX6_showDue_75 : decode cX6_showDue 75 = .ok (.isub, 1) := by decide +kernel
theorem dX6_showDue_76 : decode cX6_showDue 76 = .ok (.iastore, 1) := by decide +kernel
theorem dX6_showDue_77 : decode cX6_showDue 77 = .ok (.aload_n 0, 1) := by decide +kernel
theorem dX6_showDue_78 : decode cX6_showDue 78 = .ok (.getfield 50, 3) := by decide +kernel
theorem dX6_showDue_81 : decode cX6_showDue 81 = .ok (.iload 4, 2) := by decide +kernel
theorem dX6_showDue_83 : decode cX6_showDue 83 = .ok (.baload, 1) := by decide +kernel
theorem dX6_showDue_84 : decode cX6_showDue 84 = .ok (.ifCond .ne 32, 3) := by decide +kernel
theorem dX6_showDue_87 : decode cX6_showDue 87 = .ok (.aload_n 0, 1) := by decide +kernel
theorem dX6_showDue_88 : decode cX6_showDue 88 = .ok (.dup, 1) := by decide +kernel
theorem dX6_showDue_89 : decode cX6_showDue 89 = .ok (.getfield 149, 3) := by decide +kernel
theorem dX6_showDue_92 : decode cX6_showDue 92 = .ok (.iconst 1, 1) := by decide +kernel
theorem dX6_showDue_93 : decode cX6_showDue 93 = .ok (.iadd, 1) := by decide +kernel
theorem dX6_showDue_94 : decode cX6_showDue 94 = .ok (.putfield 149, 3) := by decide +kernel
theorem dX6_showDue_97 : decode cX6_showDue 97 = .ok (.aload_n 0, 1) := by decide +kernel
theorem dX6_showDue_98 : decode cX6_showDue 98 = .ok (.aload_n 0, 1) := by decide +kernel
theorem dX6_showDue_99 : decode cX6_showDue 99 = .ok (.getfield 152, 3) := by decide +kernel
theorem dX6_showDue_102 : decode cX6_showDue 102 = .ok (.ifCond .ge 7, 3) := by decide +kernel
theorem dX6_showDue_105 : decode cX6_showDue 105 = .ok (.iload_n 2, 1) := by decide +kernel
theorem dX6_showDue_106 : decode cX6_showDue 106 = .ok (.goto 7, 3) := by decide +kernel
theorem dX6_showDue_109 : decode cX6_showDue 109 = .ok (.aload_n 0, 1) := by decide +kernel
theorem dX6_showDue_110 : decode cX6_showDue 110 = .ok (.getfield 152, 3) := by decide +kernel
theorem dX6_showDue_113 : decode cX6_showDue 113 = .ok (.putfield 152, 3) := by decide +kernel
theorem dX6_showDue_116 : decode cX6_showDue 116 = .ok (.iinc 3 1, 3) := by decide +kernel
theorem dX6_showDue_119 : decode cX6_showDue 119 = .ok (.goto (-117), 3) := by decide +kernel
theorem dX6_showDue_122 : decode cX6_showDue 122 = .ok (.return_, 1) := by decide +kernel
theorem dX6_isAgain_0 : decode cX6_isAgain 0 = .ok (.iload_n 0, 1) := by decide +kernel
theorem dX6_isAgain_1 : decode cX6_isAgain 1 = .ok (.ifCond .le 18, 3) := by decide +kernel
theorem dX6_isAgain_4 : decode cX6_isAgain 4 = .ok (.iload_n 1, 1) := by decide +kernel
theorem dX6_isAgain_5 : decode cX6_isAgain 5 = .ok (.ifCond .lt 10, 3) := by decide +kernel
theorem dX6_isAgain_8 : decode cX6_isAgain 8 = .ok (.iload_n 2, 1) := by decide +kernel
theorem dX6_isAgain_9 : decode cX6_isAgain 9 = .ok (.iload_n 1, 1) := by decide +kernel
theorem dX6_isAgain_10 : decode cX6_isAgain 10 = .ok (.isub, 1) := by decide +kernel
theorem dX6_isAgain_11 : decode cX6_isAgain 11 = .ok (.iload_n 0, 1) := by decide +kernel
theorem dX6_isAgain_12 : decode cX6_isAgain 12 = .ok (.if_icmp .lt 7, 3) := by decide +kernel
theorem dX6_isAgain_15 : decode cX6_isAgain 15 = .ok (.iconst 1, 1) := by decide +kernel
theorem dX6_isAgain_16 : decode cX6_isAgain 16 = .ok (.goto 4, 3) := by decide +kernel
theorem dX6_isAgain_19 : decode cX6_isAgain 19 = .ok (.iconst 0, 1) := by decide +kernel
theorem dX6_isAgain_20 : decode cX6_isAgain 20 = .ok (.ireturn, 1) := by decide +kernel
theorem dX6_clockNow_0 : decode cX6_clockNow 0 = .ok (.bipush (-6), 2) := by decide +kernel
theorem dX6_clockNow_2 : decode cX6_clockNow 2 = .ok (.istore_n 2, 1) := by decide +kernel
theorem dX6_clockNow_3 : decode cX6_clockNow 3 = .ok (.iconst 3, 1) := by decide +kernel
theorem dX6_clockNow_4 : decode cX6_clockNow 4 = .ok (.istore_n 3, 1) := by decide +kernel
theorem dX6_clockNow_5 : decode cX6_clockNow 5 = .ok (.iload_n 3, 1) := by decide +kernel
theorem dX6_clockNow_6 : decode cX6_clockNow 6 = .ok (.ifCond .lt 44, 3) := by decide +kernel
theorem dX6_clockNow_9 : decode cX6_clockNow 9 = .ok (.iload_n 3, 1) := by decide +kernel
theorem dX6_clockNow_10 : decode cX6_clockNow 10 = .ok (.aload_n 0, 1) := by decide +kernel
theorem dX6_clockNow_11 : decode cX6_clockNow 11 = .ok (.getfield 65, 3) := by decide +kernel
theorem dX6_clockNow_14 : decode cX6_clockNow 14 = .ok (.if_icmp .eq 28, 3) := by decide +kernel
theorem dX6_clockNow_17 : decode cX6_clockNow 17 = .ok (.aload_n 0, 1) := by decide +kernel
theorem dX6_clockNow_18 : decode cX6_clockNow 18 = .ok (.getfield 7, 3) := by decide +kernel
theorem dX6_clockNow_21 : decode cX6_clockNow 21 = .ok (.iconst 4, 1) := by decide +kernel
theorem dX6_clockNow_22 : decode cX6_clockNow 22 = .ok (.iload_n 3, 1) := by decide +kernel
theorem dX6_clockNow_23 : decode cX6_clockNow 23 = .ok (.iadd, 1) := by decide +kernel
theorem dX6_clockNow_24 : decode cX6_clockNow 24 = .ok (.iaload, 1) := by decide +kernel
theorem dX6_clockNow_25 : decode cX6_clockNow 25 = .ok (.aload_n 0, 1) := by decide +kernel
theorem dX6_clockNow_26 : decode cX6_clockNow 26 = .ok (.getfield 62, 3) := by decide +kernel
theorem dX6_clockNow_29 : decode cX6_clockNow 29 = .ok (.iload_n 3, 1) := by decide +kernel
theorem dX6_clockNow_30 : decode cX6_clockNow 30 = .ok (.iaload, 1) := by decide +kernel
theorem dX6_clockNow_31 : decode cX6_clockNow 31 = .ok (.iload_n 1, 1) := by decide +kernel
theorem dX6_clockNow_32 : decode cX6_clockNow 32 = .ok (.invokestatic 155, 3) := by decide +kernel
theorem dX6_clockNow_35 : decode cX6_clockNow 35 = .ok (.ifCond .eq 7, 3) := by decide +kernel
theorem dX6_clockNow_38 : decode cX6_clockNow 38 = .ok (.iload_n 3, 1) := by decide +kernel
theorem dX6_clockNow_39 : decode cX6_clockNow 39 = .ok (.goto 4, 3) := by decide +kernel
theorem dX6_clockNow_42 : decode cX6_clockNow 42 = .ok (.iload_n 2, 1) := by decide +kernel
theorem dX6_clockNow_43 : decode cX6_clockNow 43 = .ok (.istore_n 2, 1) := by decide +kernel
theorem dX6_clockNow_44 : decode cX6_clockNow 44 = .ok (.iinc 3 (-1), 3) := by decide +kernel
theorem dX6_clockNow_47 : decode cX6_clockNow 47 = .ok (.goto (-42), 3) := by decide +kernel
theorem dX6_clockNow_50 : decode cX6_clockNow 50 = .ok (.iload_n 2, 1) := by decide +kernel
theorem dX6_clockNow_51 : decode cX6_clockNow 51 = .ok (.ireturn, 1) := by decide +kernel
theorem dX6_frameOf_0 : decode cX6_frameOf 0 = .ok (.bipush (-6), 2) := by decide +kernel
theorem dX6_frameOf_2 : decode cX6_frameOf 2 = .ok (.istore_n 3, 1) := by decide +kernel
theorem dX6_frameOf_3 : decode cX6_frameOf 3 = .ok (.aload_n 0, 1) := by decide +kernel
theorem dX6_frameOf_4 : decode cX6_frameOf 4 = .ok (.getfield 7, 3) := by decide +kernel
theorem dX6_frameOf_7 : decode cX6_frameOf 7 = .ok (.bipush 8, 2) := by decide +kernel
theorem dX6_frameOf_9 : decode cX6_frameOf 9 = .ok (.iload_n 1, 1) := by decide +kernel
theorem dX6_frameOf_10 : decode cX6_frameOf 10 = .ok (.iadd, 1) := by decide +kernel
theorem dX6_frameOf_11 : decode cX6_frameOf 11 = .ok (.iaload, 1) := by decide +kernel
theorem dX6_frameOf_12 : decode cX6_frameOf 12 = .ok (.iconst 1, 1) := by decide +kernel
theorem dX6_frameOf_13 : decode cX6_frameOf 13 = .ok (.isub, 1) := by decide +kernel
theorem dX6_frameOf_14 : decode cX6_frameOf 14 = .ok (.istore 4, 2) := by decide +kernel
theorem dX6_frameOf_16 : decode cX6_frameOf 16 = .ok (.iload 4, 2) := by decide +kernel
theorem dX6_frameOf_18 : decode cX6_frameOf 18 = .ok (.ifCond .lt 49, 3) := by decide +kernel
theorem dX6_frameOf_21 : decode cX6_frameOf 21 = .ok (.aload_n 0, 1) := by decide +kernel
theorem dX6_frameOf_22 : decode cX6_frameOf 22 = .ok (.iload_n 1, 1) := by decide +kernel
theorem dX6_frameOf_23 : decode cX6_frameOf 23 = .ok (.iload 4, 2) := by decide +kernel
theorem dX6_frameOf_25 : decode cX6_frameOf 25 = .ok (.invokevirtual 108, 3) := by decide +kernel
theorem dX6_frameOf_28 : decode cX6_frameOf 28 = .ok (.iload_n 2, 1) := by decide +kernel
theorem dX6_frameOf_29 : decode cX6_frameOf 29 = .ok (.if_icmp .le 30, 3) := by decide +kernel
theorem dX6_frameOf_32 : decode cX6_frameOf 32 = .ok (.aload_n 0, 1) := by decide +kernel
theorem dX6_frameOf_33 : decode cX6_frameOf 33 = .ok (.getfield 41, 3) := by decide +kernel
theorem dX6_frameOf_36 : decode cX6_frameOf 36 = .ok (.bipush 10, 2) := by decide +kernel
theorem dX6_frameOf_38 : decode cX6_frameOf 38 = .ok (.iload_n 1, 1) := by decide +kernel
theorem dX6_frameOf_39 : decode cX6_frameOf 39 = .ok (.imul, 1) := by decide +kernel
theorem dX6_frameOf_40 : decode cX6_frameOf 40 = .ok (.iload 4, 2) := by decide +kernel
theorem dX6_frameOf_42 : decode cX6_frameOf 42 = .ok (.iadd, 1) := by decide +kernel
theorem dX6_frameOf_43 : decode cX6_frameOf 43 = .ok (.iaload, 1) := by decide +kernel
theorem dX6_frameOf_44 : decode cX6_frameOf 44 = .ok (.aload_n 0, 1) := by decide +kernel
theorem dX6_frameOf_45 : decode cX6_frameOf 45 = .ok (.iload_n 1, 1) := by decide +kernel
theorem dX6_frameOf_46 : decode cX6_frameOf 46 = .ok (.iload 4, 2) := by decide +kernel
theorem dX6_frameOf_48 : decode cX6_frameOf 48 = .ok (.invokevirtual 118, 3) := by decide +kernel
theorem dX6_frameOf_51 : decode cX6_frameOf 51 = .ok (.if_icmp .ge 8, 3) := by decide +kernel
theorem dX6_frameOf_54 : decode cX6_frameOf 54 = .ok (.iload 4, 2) := by decide +kernel
theorem dX6_frameOf_56 : decode cX6_frameOf 56 = .ok (.goto 4, 3) := by decide +kernel
theorem dX6_frameOf_59 : decode cX6_frameOf 59 = .ok (.iload_n 3, 1) := by decide +kernel
theorem dX6_frameOf_60 : decode cX6_frameOf 60 = .ok (.istore_n 3, 1) := by decide +kernel
theorem dX6_frameOf_61 : decode cX6_frameOf 61 = .ok (.iinc 4 (-1), 3) := by decide +kernel
theorem dX6_frameOf_64 : decode cX6_frameOf 64 = .ok (.goto (-48), 3) := by decide +kernel
theorem dX6_frameOf_67 : decode cX6_frameOf 67 = .ok (.iload_n 3, 1) := by decide +kernel
theorem dX6_frameOf_68 : decode cX6_frameOf 68 = .ok (.ireturn, 1) := by decide +kernel
theorem dX6_programmeNow_0 : decode cX6_programmeNow 0 = .ok (.bipush (-6), 2) := by decide +kernel
theorem dX6_programmeNow_2 : decode cX6_programmeNow 2 = .ok (.istore_n 2, 1) := by decide +kernel
theorem dX6_programmeNow_3 : decode cX6_programmeNow 3 = .ok (.iconst 0, 1) := by decide +kernel
theorem dX6_programmeNow_4 : decode cX6_programmeNow 4 = .ok (.istore_n 3, 1) := by decide +kernel
theorem dX6_programmeNow_5 : decode cX6_programmeNow 5 = .ok (.iconst 0, 1) := by decide +kernel
theorem dX6_programmeNow_6 : decode cX6_programmeNow 6 = .ok (.istore 4, 2) := by decide +kernel
theorem dX6_programmeNow_8 : decode cX6_programmeNow 8 = .ok (.iload 4, 2) := by decide +kernel
theorem dX6_programmeNow_10 : decode cX6_programmeNow 10 = .ok (.iconst 4, 1) := by decide +kernel
theorem dX6_programmeNow_11 : decode cX6_programmeNow 11 = .ok (.if_icmp .ge 84, 3) := by decide +kernel
theorem dX6_programmeNow_14 : decode cX6_programmeNow 14 = .ok (.iload 4, 2) := by decide +kernel
theorem dX6_programmeNow_16 : decode cX6_programmeNow 16 = .ok (.aload_n 0, 1) := by decide +kernel
theorem dX6_programmeNow_17 : decode cX6_programmeNow 17 = .ok (.getfield 65, 3) := by decide +kernel
theorem dX6_programmeNow_20 : decode cX6_programmeNow 20 = .ok (.if_icmp .eq 22, 3) := by decide +kernel
theorem dX6_programmeNow_23 : decode cX6_programmeNow 23 = .ok (.aload_n 0, 1) := by decide +kernel
theorem dX6_programmeNow_24 : decode cX6_programmeNow 24 = .ok (.getfield 56, 3) := by decide +kernel
theorem dX6_programmeNow_27 : decode cX6_programmeNow 27 = .ok (.iload 4, 2) := by decide +kernel
theorem dX6_programmeNow_29 : decode cX6_programmeNow 29 = .ok (.iaload, 1) := by decide +kernel
theorem dX6_programmeNow_30 : decode cX6_programmeNow 30 = .ok (.aload_n 0, 1) := by decide +kernel
theorem dX6_programmeNow_31 : decode cX6_programmeNow 31 = .ok (.getfield 7, 3) := by decide +kernel
theorem dX6_programmeNow_34 : decode cX6_programmeNow 34 = .ok (.iconst 0, 1) := by decide +kernel
theorem dX6_programmeNow_35 : decode cX6_programmeNow 35 = .ok (.iload 4, 2) := by decide +kernel
theorem dX6_programmeNow_37 : decode cX6_programmeNow 37 = .ok (.iadd, 1) := by decide +kernel
theorem dX6_programmeNow_38 : decode cX6_programmeNow 38 = .ok (.iaload, 1) := by decide +kernel
theorem dX6_programmeNow_39 : decode cX6_programmeNow 39 = .ok (.if_icmp .lt 8, 3) := by decide +kernel
theorem dX6_programmeNow_42 : decode cX6_programmeNow 42 = .ok (.bipush (-6), 2) := by decide +kernel
theorem dX6_programmeNow_44 : decode cX6_programmeNow 44 = .ok (.goto 10, 3) := by decide +kernel
theorem dX6_programmeNow_47 : decode cX6_programmeNow 47 = .ok (.aload_n 0, 1) := by decide +kernel
theorem dX6_programmeNow_48 : decode cX6_programmeNow 48 = .ok (.iload 4, 2) := by decide +kernel
theorem dX6_programmeNow_50 : decode cX6_programmeNow 50 = .ok (.iload_n 1, 1) := by decide +kernel
theorem dX6_programmeNow_51 : decode cX6_programmeNow 51 = .ok (.invokevirtual 158, 3) := by decide +kernel
theorem dX6_programmeNow_54 : decode cX6_programmeNow 54 = .ok (.istore 5, 2) := by decide +kernel
theorem dX6_programmeNow_56 : decode cX6_programmeNow 56 = .ok (.iload 5, 2) := by decide +kernel
theorem dX6_programmeNow_58 : decode cX6_programmeNow 58 = .ok (.ifCond .lt 31, 3) := by decide +kernel
theorem dX6_programmeNow_61 : decode cX6_programmeNow 61 = .ok (.iload_n 2, 1) := by decide +kernel
theorem dX6_programmeNow_62 : decode cX6_programmeNow 62 = .ok (.ifCond .lt 15, 3) := by decide +kernel
theorem dX6_programmeNow_65 : decode cX6_programmeNow 65 = .ok (.aload_n 0, 1) := by decide +kernel
theorem dX6_programmeNow_66 : decode cX6_programmeNow 66 = .ok (.iload 4, 2) := by decide +kernel
theorem dX6_programmeNow_68 : decode cX6_programmeNow 68 = .ok (.iload 5, 2) := by decide +kernel
theorem dX6_programmeNow_70 : decode cX6_programmeNow 70 = .ok (.invokevirtual 108, 3) := by decide +kernel
theorem dX6_programmeNow_73 : decode cX6_programmeNow 73 = .ok (.iload_n 3, 1) := by decide +kernel
theorem dX6_programmeNow_74 : decode cX6_programmeNow 74 = .ok (.if_icmp .ge 15, 3) := by decide +kernel
theorem dX6_programmeNow_77 : decode cX6_programmeNow 77 = .ok (.iload 4, 2) := by decide +kernel
theorem dX6_programmeNow_79 : decode cX6_programmeNow 79 = .ok (.istore_n 2, 1) := by decide +kernel
theorem dX6_programmeNow_80 : decode cX6_programmeNow 80 = .ok (.aload_n 0, 1) := by decide +kernel
theorem dX6_programmeNow_81 : decode cX6_programmeNow 81 = .ok (.iload 4, 2) := by decide +kernel
theorem dX6_programmeNow_83 : decode cX6_programmeNow 83 = .ok (.iload 5, 2) := by decide +kernel
theorem dX6_programmeNow_85 : decode cX6_programmeNow 85 = .ok (.invokevirtual 108, 3) := by decide +kernel
theorem dX6_programmeNow_88 : decode cX6_programmeNow 88 = .ok (.istore_n 3, 1) := by decide +kernel
theorem dX6_programmeNow_89 : decode cX6_programmeNow 89 = .ok (.iinc 4 1, 3) := by decide +kernel
theorem dX6_programmeNow_92 : decode cX6_programmeNow 92 = .ok (.goto (-84), 3) := by decide +kernel
theorem dX6_programmeNow_95 : decode cX6_programmeNow 95 = .ok (.iload_n 2, 1) := by decide +kernel
theorem dX6_programmeNow_96 : decode cX6_programmeNow 96 = .ok (.ireturn, 1) := by decide +kernel
theorem dX6_put_0 : decode cX6_put 0 = .ok (.iload_n 2, 1) := by decide +kernel
theorem dX6_put_1 : decode cX6_put 1 = .ok (.ifCond .ne 8, 3) := by decide +kernel
theorem dX6_put_4 : decode cX6_put 4 = .ok (.bipush (-6), 2) := by decide +kernel
theorem dX6_put_6 : decode cX6_put 6 = .ok (.goto 13, 3) := by decide +kernel
theorem dX6_put_9 : decode cX6_put 9 = .ok (.iload_n 2, 1) := by decide +kernel
theorem dX6_put_10 : decode cX6_put 10 = .ok (.iconst 1, 1) := by decide +kernel
theorem dX6_put_11 : decode cX6_put 11 = .ok (.if_icmp .ne 7, 3) := by decide +kernel
theorem dX6_put_14 : decode cX6_put 14 = .ok (.iconst 4, 1) := by decide +kernel
theorem dX6_put_15 : decode cX6_put 15 = .ok (.goto 4, 3) := by decide +kernel
theorem dX6_put_18 : decode cX6_put 18 = .ok (.iload_n 3, 1) := by decide +kernel
theorem dX6_put_19 : decode cX6_put 19 = .ok (.istore 5, 2) := by decide +kernel
theorem dX6_put_21 : decode cX6_put 21 = .ok (.aload_n 0, 1) := by decide +kernel
theorem dX6_put_22 : decode cX6_put 22 = .ok (.getfield 29, 3) := by decide +kernel
theorem dX6_put_25 : decode cX6_put 25 = .ok (.iload_n 1, 1) := by decide +kernel
theorem dX6_put_26 : decode cX6_put 26 = .ok (.iload_n 2, 1) := by decide +kernel
theorem dX6_put_27 : decode cX6_put 27 = .ok (.iastore, 1) := by decide +kernel
theorem dX6_put_28 : decode cX6_put 28 = .ok (.aload_n 0, 1) := by decide +kernel
theorem dX6_put_29 : decode cX6_put 29 = .ok (.getfield 32, 3) := by decide +kernel
theorem dX6_put_32 : decode cX6_put 32 = .ok (.iload_n 1, 1) := by decide +kernel
theorem dX6_put_33 : decode cX6_put 33 = .ok (.iload_n 3, 1) := by decide +kernel
theorem dX6_put_34 : decode cX6_put 34 = .ok (.iastore, 1) := by decide +kernel
theorem dX6_put_35 : decode cX6_put 35 = .ok (.aload_n 0, 1) := by decide +kernel
theorem dX6_put_36 : decode cX6_put 36 = .ok (.getfield 35, 3) := by decide +kernel
theorem dX6_put_39 : decode cX6_put 39 = .ok (.iload_n 1, 1) := by decide +kernel
theorem dX6_put_40 : decode cX6_put 40 = .ok (.iload 4, 2) := by decide +kernel
theorem dX6_put_42 : decode cX6_put 42 = .ok (.iastore, 1) := by decide +kernel
theorem dX6_put_43 : decode cX6_put 43 = .ok (.aload_n 0, 1) := by decide +kernel
theorem dX6_put_44 : decode cX6_put 44 = .ok (.getfield 38, 3) := by decide +kernel
theorem dX6_put_47 : decode cX6_put 47 = .ok (.iload_n 1, 1) := by decide +kernel
theorem dX6_put_48 : decode cX6_put 48 = .ok (.iload 5, 2) := by decide +kernel
theorem dX6_put_50 : decode cX6_put 50 = .ok (.ifCond .ge 7, 3) := by decide +kernel
theorem dX6_put_53 : decode cX6_put 53 = .ok (.iconst 0, 1) := by decide +kernel
theorem dX6_put_54 : decode cX6_put 54 = .ok (.goto 13, 3) := by decide +kernel
theorem dX6_put_57 : decode cX6_put 57 = .ok (.aload_n 0, 1) := by decide +kernel
theorem dX6_put_58 : decode cX6_put 58 = .ok (.getfield 59, 3) := by decide +kernel
theorem dX6_put_61 : decode cX6_put 61 = .ok (.iload 5, 2) := by decide +kernel
theorem dX6_put_63 : decode cX6_put 63 = .ok (.iaload, 1) := by decide +kernel
theorem dX6_put_64 : decode cX6_put 64 = .ok (.bipush 16, 2) := by decide +kernel
theorem dX6_put_66 : decode cX6_put 66 = .ok (.irem, 1) := by decide +kernel
theorem dX6_put_67 : decode cX6_put 67 = .ok (.iastore, 1) := by decide +kernel
theorem dX6_put_68 : decode cX6_put 68 = .ok (.iload 5, 2) := by decide +kernel
theorem dX6_put_70 : decode cX6_put 70 = .ok (.ifCond .lt 14, 3) := by decide +kernel
theorem dX6_put_73 : decode cX6_put 73 = .ok (.aload_n 0, 1) := by decide +kernel
theorem dX6_put_74 : decode cX6_put 74 = .ok (.getfield 59, 3) := by decide +kernel
theorem dX6_put_77 : decode cX6_put 77 = .ok (.iload 5, 2) := by decide +kernel
theorem dX6_put_79 : decode cX6_put 79 = .ok (.dup2, 1) := by decide +kernel
theorem dX6_put_80 : decode cX6_put 80 = .ok (.iaload, 1) := by decide +kernel
theorem dX6_put_81 : decode cX6_put 81 = .ok (.iconst 1, 1) := by decide +kernel
theorem dX6_put_82 : decode cX6_put 82 = .ok (.iadd, 1) := by decide +kernel
theorem dX6_put_83 : decode cX6_put 83 = .ok (.iastore, 1) := by decide +kernel
theorem dX6_put_84 : decode cX6_put 84 = .ok (.return_, 1) := by decide +kernel
theorem dX6_sendOne_0 : decode cX6_sendOne 0 = .ok (.aload_n 0, 1) := by decide +kernel
theorem dX6_sendOne_1 : decode cX6_sendOne 1 = .ok (.getfield 7, 3) := by decide +kernel
theorem dX6_sendOne_4 : decode cX6_sendOne 4 = .ok (.bipush 92, 2) := by decide +kernel
theorem dX6_sendOne_6 : decode cX6_sendOne 6 = .ok (.iaload, 1) := by decide +kernel
theorem dX6_sendOne_7 : decode cX6_sendOne 7 = .ok (.aload_n 0, 1) := by decide +kernel
theorem dX6_sendOne_8 : decode cX6_sendOne 8 = .ok (.getfield 161, 3) := by decide +kernel
theorem dX6_sendOne_11 : decode cX6_sendOne 11 = .ok (.iload_n 1, 1) := by decide +kernel
theorem dX6_sendOne_12 : decode cX6_sendOne 12 = .ok (.invokestatic 155, 3) := by decide +kernel
theorem dX6_sendOne_15 : decode cX6_sendOne 15 = .ok (.ifCond .eq 19, 3) := by decide +kernel
theorem dX6_sendOne_18 : decode cX6_sendOne 18 = .ok (.aload_n 0, 1) := by decide +kernel
theorem dX6_sendOne_19 : decode cX6_sendOne 19 = .ok (.iload_n 1, 1) := by decide +kernel
theorem dX6_sendOne_20 : decode cX6_sendOne 20 = .ok (.putfield 161, 3) := by decide +kernel
theorem dX6_sendOne_23 : decode cX6_sendOne 23 = .ok (.aload_n 0, 1) := by decide +kernel
theorem dX6_sendOne_24 : decode cX6_sendOne 24 = .ok (.iload_n 2, 1) := by decide +kernel
theorem dX6_sendOne_25 : decode cX6_sendOne 25 = .ok (.iconst 1, 1) := by decide +kernel
theorem dX6_sendOne_26 : decode cX6_sendOne 26 = .ok (.bipush (-6), 2) := by decide +kernel
theorem dX6_sendOne_28 : decode cX6_sendOne 28 = .ok (.bipush (-6), 2) := by decide +kernel
theorem dX6_sendOne_30 : decode cX6_sendOne 30 = .ok (.invokevirtual 164, 3) := by decide +kernel
theorem dX6_sendOne_33 : decode cX6_sendOne 33 = .ok (.return_, 1) := by decide +kernel
theorem dX6_sendOne_34 : decode cX6_sendOne 34 = .ok (.aload_n 0, 1) := by decide +kernel
theorem dX6_sendOne_35 : decode cX6_sendOne 35 = .ok (.iload_n 1, 1) := by decide +kernel
theorem dX6_sendOne_36 : decode cX6_sendOne 36 = .ok (.invokevirtual 168, 3) := by decide +kernel
theorem dX6_sendOne_39 : decode cX6_sendOne 39 = .ok (.istore_n 3, 1) := by decide +kernel
theorem dX6_sendOne_40 : decode cX6_sendOne 40 = .ok (.iload_n 3, 1) := by decide +kernel
theorem dX6_sendOne_41 : decode cX6_sendOne 41 = .ok (.ifCond .lt 20, 3) := by decide +kernel
theorem dX6_sendOne_44 : decode cX6_sendOne 44 = .ok (.aload_n 0, 1) := by decide +kernel
theorem dX6_sendOne_45 : decode cX6_sendOne 45 = .ok (.getfield 62, 3) := by decide +kernel
theorem dX6_sendOne_48 : decode cX6_sendOne 48 = .ok (.iload_n 3, 1) := by decide +kernel
theorem dX6_sendOne_49 : decode cX6_sendOne 49 = .ok (.iload_n 1, 1) := by decide +kernel
theorem dX6_sendOne_50 : decode cX6_sendOne 50 = .ok (.iastore, 1) := by decide +kernel
theorem dX6_sendOne_51 : decode cX6_sendOne 51 = .ok (.aload_n 0, 1) := by decide +kernel
theorem dX6_sendOne_52 : decode cX6_sendOne 52 = .ok (.iload_n 2, 1) := by decide +kernel
theorem dX6_sendOne_53 : decode cX6_sendOne 53 = .ok (.iconst 2, 1) := by decide +kernel
theorem dX6_sendOne_54 : decode cX6_sendOne 54 = .ok (.iload_n 3, 1) := by decide +kernel
theorem dX6_sendOne_55 : decode cX6_sendOne 55 = .ok (.bipush (-6), 2) := by decide +kernel
theorem dX6_sendOne_57 : decode cX6_sendOne 57 = .ok (.invokevirtual 164, 3) := by decide +kernel
theorem dX6_sendOne_60 : decode cX6_sendOne 60 = .ok (.return_, 1) := by decide +kernel
theorem dX6_sendOne_61 : decode cX6_sendOne 61 = .ok (.aload_n 0, 1) := by decide +kernel
theorem dX6_sendOne_62 : decode cX6_sendOne 62 = .ok (.iload_n 1, 1) := by decide +kernel
theorem dX6_sendOne_63 : decode cX6_sendOne 63 = .ok (.invokevirtual 171, 3) := by decide +kernel
theorem dX6_sendOne_66 : decode cX6_sendOne 66 = .ok (.istore_n 3, 1) := by decide +kernel
theorem dX6_sendOne_67 : decode cX6_sendOne 67 = .ok (.iload_n 3, 1) := by decide +kernel
theorem dX6_sendOne_68 : decode cX6_sendOne 68 = .ok (.ifCond .ge 14, 3) := by decide +kernel
theorem dX6_sendOne_71 : decode cX6_sendOne 71 = .ok (.aload_n 0, 1) := by decide +kernel
theorem dX6_sendOne_72 : decode cX6_sendOne 72 = .ok (.iload_n 2, 1) := by decide +kernel
theorem dX6_sendOne_73 : decode cX6_sendOne 73 = .ok (.iconst 0, 1) := by decide +kernel
theorem dX6_sendOne_74 : decode cX6_sendOne 74 = .ok (.bipush (-6), 2) := by decide +kernel
theorem dX6_sendOne_76 : decode cX6_sendOne 76 = .ok (.bipush (-6), 2) := by decide +kernel
theorem dX6_sendOne_78 : decode cX6_sendOne 78 = .ok (.invokevirtual 164, 3) := by decide +kernel
theorem dX6_sendOne_81 : decode cX6_sendOne 81 = .ok (.return_, 1) := by decide +kernel
theorem dX6_sendOne_82 : decode cX6_sendOne 82 = .ok (.aload_n 0, 1) := by decide +kernel
theorem dX6_sendOne_83 : decode cX6_sendOne 83 = .ok (.iload_n 3, 1) := by decide +kernel
theorem dX6_sendOne_84 : decode cX6_sendOne 84 = .ok (.iload_n 1, 1) := by decide +kernel
theorem dX6_sendOne_85 : decode cX6_sendOne 85 = .ok (.invokevirtual 158, 3) := by decide +kernel
theorem dX6_sendOne_88 : decode cX6_sendOne 88 = .ok (.istore 4, 2) := by decide +kernel
theorem dX6_sendOne_90 : decode cX6_sendOne 90 = .ok (.bipush 10, 2) := by decide +kernel
theorem dX6_sendOne_92 : decode cX6_sendOne 92 = .ok (.iload_n 3, 1) := by decide +kernel
theorem dX6_sendOne_93 : decode cX6_sendOne 93 = .ok (.imul, 1) := by decide +kernel
theorem dX6_sendOne_94 : decode cX6_sendOne 94 = .ok (.iload 4, 2) := by decide +kernel
theorem dX6_sendOne_96 : decode cX6_sendOne 96 = .ok (.iadd, 1) := by decide +kernel
theorem dX6_sendOne_97 : decode cX6_sendOne 97 = .ok (.istore 5, 2) := by decide +kernel
theorem dX6_sendOne_99 : decode cX6_sendOne 99 = .ok (.aload_n 0, 1) := by decide +kernel
theorem dX6_sendOne_100 : decode cX6_sendOne 100 = .ok (.getfield 44, 3) := by decide +kernel
theorem dX6_sendOne_103 : decode cX6_sendOne 103 = .ok (.iload 5, 2) := by decide +kernel
theorem dX6_sendOne_105 : decode cX6_sendOne 105 = .ok (.aload_n 0, 1) := by decide +kernel
theorem dX6_sendOne_106 : decode cX6_sendOne 106 = .ok (.getfield 44, 3) := by decide +kernel
theorem dX6_sendOne_109 : decode cX6_sendOne 109 = .ok (.iload 5, 2) := by decide +kernel
theorem dX6_sendOne_111 : decode cX6_sendOne 111 = .ok (.iaload, 1) := by decide +kernel
theorem dX6_sendOne_112 : decode cX6_sendOne 112 = .ok (.ifCond .ge 7, 3) := by decide +kernel
theorem dX6_sendOne_115 : decode cX6_sendOne 115 = .ok (.iload_n 1, 1) := by decide +kernel
theorem dX6_sendOne_116 : decode cX6_sendOne 116 = .ok (.goto 10, 3) := by decide +kernel
theorem dX6_sendOne_119 : decode cX6_sendOne 119 = .ok (.aload_n 0, 1) := by decide +kernel
theorem dX6_sendOne_120 : decode cX6_sendOne 120 = .ok (.getfield 44, 3) := by decide +kernel
theorem dX6_sendOne_123 : decode cX6_sendOne 123 = .ok (.iload 5, 2) := by decide +kernel
theorem dX6_sendOne_125 : decode cX6_sendOne 125 = .ok (.iaload, 1) := by decide +kernel
theorem dX6_sendOne_126 : decode cX6_sendOne 126 = .ok (.iastore, 1) := by decide +kernel
theorem dX6_sendOne_127 : decode cX6_sendOne 127 = .ok (.aload_n 0, 1) := by decide +kernel
theorem dX6_sendOne_128 : decode cX6_sendOne 128 = .ok (.getfield 47, 3) := by decide +kernel
theorem dX6_sendOne_131 : decode cX6_sendOne 131 = .ok (.iload 5, 2) := by decide +kernel
theorem dX6_sendOne_133 : decode cX6_sendOne 133 = .ok (.iload_n 1, 1) := by decide +kernel
theorem dX6_sendOne_134 : decode cX6_sendOne 134 = .ok (.iastore, 1) := by decide +kernel
theorem dX6_sendOne_135 : decode cX6_sendOne 135 = .ok (.aload_n 0, 1) := by decide +kernel
theorem dX6_sendOne_136 : decode cX6_sendOne 136 = .ok (.getfield 41, 3) := by decide +kernel
theorem dX6_sendOne_139 : decode cX6_sendOne 139 = .ok (.iload 5, 2) := by decide +kernel
theorem dX6_sendOne_141 : decode cX6_sendOne 141 = .ok (.dup2, 1) := by decide +kernel
theorem dX6_sendOne_142 : decode cX6_sendOne 142 = .ok (.iaload, 1) := by decide +kernel
theorem dX6_sendOne_143 : decode cX6_sendOne 143 = .ok (.iconst 1, 1) := by decide +kernel
theorem dX6_sendOne_144 : decode cX6_sendOne 144 = .ok (.iadd, 1) := by decide +kernel
theorem dX6_sendOne_145 : decode cX6_sendOne 145 = .ok (.iastore, 1) := by decide +kernel
theorem dX6_sendOne_146 : decode cX6_sendOne 146 = .ok (.aload_n 0, 1) := by decide +kernel
theorem dX6_sendOne_147 : decode cX6_sendOne 147 = .ok (.getfield 56, 3) := by decide +kernel
theorem dX6_sendOne_150 : decode cX6_sendOne 150 = .ok (.iload_n 3, 1) := by decide +kernel
theorem dX6_sendOne_151 : decode cX6_sendOne 151 = .ok (.dup2, 1) := by decide +kernel
theorem dX6_sendOne_152 : decode cX6_sendOne 152 = .ok (.iaload, 1) := by decide +kernel
theorem dX6_sendOne_153 : decode cX6_sendOne 153 = .ok (.iconst 1, 1) := by decide +kernel
theorem dX6_sendOne_154 : decode cX6_sendOne 154 = .ok (.iadd, 1) := by decide +kernel
theorem dX6_sendOne_155 : decode cX6_sendOne 155 = .ok (.iastore, 1) := by decide +kernel
theorem dX6_sendOne_156 : decode cX6_sendOne 156 = .ok (.aload_n 0, 1) := by decide +kernel
theorem dX6_sendOne_157 : decode cX6_sendOne 157 = .ok (.iload_n 2, 1) := by decide +kernel
theorem dX6_sendOne_158 : decode cX6_sendOne 158 = .ok (.iconst 3, 1) := by decide +kernel
theorem dX6_sendOne_159 : decode cX6_sendOne 159 = .ok (.iload_n 3, 1) := by decide +kernel
theorem dX6_sendOne_160 : decode cX6_sendOne 160 = .ok (.iload 4, 2) := by decide +kernel
theorem dX6_sendOne_162 : decode cX6_sendOne 162 = .ok (.invokevirtual 164, 3) := by decide +kernel
theorem dX6_sendOne_165 : decode cX6_sendOne 165 = .ok (.return_, 1) := by decide +kernel
theorem dX6_send_0 : decode cX6_send 0 = .ok (.aload_n 0, 1) := by decide +kernel
theorem dX6_send_1 : decode cX6_send 1 = .ok (.iconst 0, 1) := by decide +kernel
theorem dX6_send_2 : decode cX6_send 2 = .ok (.putfield 149, 3) := by decide +kernel
theorem dX6_send_5 : decode cX6_send 5 = .ok (.aload_n 0, 1) := by decide +kernel
theorem dX6_send_6 : decode cX6_send 6 = .ok (.bipush (-6), 2) := by decide +kernel
theorem dX6_send_8 : decode cX6_send 8 = .ok (.putfield 152, 3) := by decide +kernel
theorem dX6_send_11 : decode cX6_send 11 = .ok (.aload_n 0, 1) := by decide +kernel
theorem dX6_send_12 : decode cX6_send 12 = .ok (.bipush (-6), 2) := by decide +kernel
theorem dX6_send_14 : decode cX6_send 14 = .ok (.putfield 161, 3) := by decide +kernel
theorem dX6_send_17 : decode cX6_send 17 = .ok (.aload_n 0, 1) := by decide +kernel
theorem dX6_send_18 : decode cX6_send 18 = .ok (.getfield 59, 3) := by decide +kernel
theorem dX6_send_21 : decode cX6_send 21 = .ok (.iconst 4, 1) := by decide +kernel
theorem dX6_send_22 : decode cX6_send 22 = .ok (.iconst 0, 1) := by decide +kernel
theorem dX6_send_23 : decode cX6_send 23 = .ok (.iastore, 1) := by decide +kernel
theorem dX6_send_24 : decode cX6_send 24 = .ok (.iconst 0, 1) := by decide +kernel
theorem dX6_send_25 : decode cX6_send 25 = .ok (.istore_n 1, 1) := by decide +kernel
theorem dX6_send_26 : decode cX6_send 26 = .ok (.iload_n 1, 1) := by decide +kernel
theorem dX6_send_27 : decode cX6_send 27 = .ok (.iconst 4, 1) := by decide +kernel
theorem dX6_send_28 : decode cX6_send 28 = .ok (.if_icmp .ge 31, 3) := by decide +kernel
theorem dX6_send_31 : decode cX6_send 31 = .ok (.aload_n 0, 1) := by decide +kernel
theorem dX6_send_32 : decode cX6_send 32 = .ok (.getfield 56, 3) := by decide +kernel
theorem dX6_send_35 : decode cX6_send 35 = .ok (.iload_n 1, 1) := by decide +kernel
theorem dX6_send_36 : decode cX6_send 36 = .ok (.iconst 0, 1) := by decide +kernel
theorem dX6_send_37 : decode cX6_send 37 = .ok (.iastore, 1) := by decide +kernel
theorem dX6_send_38 : decode cX6_send 38 = .ok (.aload_n 0, 1) := by decide +kernel
theorem dX6_send_39 : decode cX6_send 39 = .ok (.getfield 59, 3) := by decide +kernel
theorem dX6_send_42 : decode cX6_send 42 = .ok (.iload_n 1, 1) := by decide +kernel
theorem dX6_send_43 : decode cX6_send 43 = .ok (.iconst 0, 1) := by decide +kernel
theorem dX6_send_44 : decode cX6_send 44 = .ok (.iastore, 1) := by decide +kernel
theorem dX6_send_45 : decode cX6_send 45 = .ok (.aload_n 0, 1) := by decide +kernel
theorem dX6_send_46 : decode cX6_send 46 = .ok (.getfield 62, 3) := by decide +kernel
theorem dX6_send_49 : decode cX6_send 49 = .ok (.iload_n 1, 1) := by decide +kernel
theorem dX6_send_50 : decode cX6_send 50 = .ok (.bipush (-6), 2) := by decide +kernel
theorem dX6_send_52 : decode cX6_send 52 = .ok (.iastore, 1) := by decide +kernel
theorem dX6_send_53 : decode cX6_send 53 = .ok (.iinc 1 1, 3) := by decide +kernel
theorem dX6_send_56 : decode cX6_send 56 = .ok (.goto (-30), 3) := by decide +kernel
theorem dX6_send_59 : decode cX6_send 59 = .ok (.iconst 0, 1) := by decide +kernel
theorem dX6_send_60 : decode cX6_send 60 = .ok (.istore_n 1, 1) := by decide +kernel
theorem dX6_send_61 : decode cX6_send 61 = .ok (.iload_n 1, 1) := by decide +kernel
theorem dX6_send_62 : decode cX6_send 62 = .ok (.bipush 40, 2) := by decide +kernel
theorem dX6_send_64 : decode cX6_send 64 = .ok (.if_icmp .ge 39, 3) := by decide +kernel
theorem dX6_send_67 : decode cX6_send 67 = .ok (.aload_n 0, 1) := by decide +kernel
theorem dX6_send_68 : decode cX6_send 68 = .ok (.getfield 41, 3) := by decide +kernel
theorem dX6_send_71 : decode cX6_send 71 = .ok (.iload_n 1, 1) := by decide +kernel
theorem dX6_send_72 : decode cX6_send 72 = .ok (.iconst 0, 1) := by decide +kernel
theorem dX6_send_73 : decode cX6_send 73 = .ok (.iastore, 1) := by decide +kernel
theorem dX6_send_74 : decode cX6_send 74 = .ok (.aload_n 0, 1) := by decide +kernel
theorem dX6_send_75 : decode cX6_send 75 = .ok (.getfield 44, 3) := by decide +kernel
theorem dX6_send_78 : decode cX6_send 78 = .ok (.iload_n 1, 1) := by decide +kernel
theorem dX6_send_79 : decode cX6_send 79 = .ok (.bipush (-6), 2) := by decide +kernel
theorem dX6_send_81 : decode cX6_send 81 = .ok (.iastore, 1) := by decide +kernel
theorem dX6_send_82 : decode cX6_send 82 = .ok (.aload_n 0, 1) := by decide +kernel
theorem dX6_send_83 : decode cX6_send 83 = .ok (.getfield 47, 3) := by decide +kernel
theorem dX6_send_86 : decode cX6_send 86 = .ok (.iload_n 1, 1) := by decide +kernel
theorem dX6_send_87 : decode cX6_send 87 = .ok (.bipush (-6), 2) := by decide +kernel
theorem dX6_send_89 : decode cX6_send 89 = .ok (.iastore, 1) := by decide +kernel
theorem dX6_send_90 : decode cX6_send 90 = .ok (.aload_n 0, 1) := by decide +kernel
theorem dX6_send_91 : decode cX6_send 91 = .ok (.getfield 50, 3) := by decide +kernel
theorem dX6_send_94 : decode cX6_send 94 = .ok (.iload_n 1, 1) := by decide +kernel
theorem dX6_send_95 : decode cX6_send 95 = .ok (.iconst 0, 1) := by decide +kernel
theorem dX6_send_96 : decode cX6_send 96 = .ok (.bastore, 1) := by decide +kernel
theorem dX6_send_97 : decode cX6_send 97 = .ok (.iinc 1 1, 3) := by decide +kernel
theorem dX6_send_100 : decode cX6_send 100 = .ok (.goto (-39), 3) := by decide +kernel
theorem dX6_send_103 : decode cX6_send 103 = .ok (.iconst 0, 1) := by decide +kernel
theorem dX6_send_104 : decode cX6_send 104 = .ok (.istore_n 1, 1) := by decide +kernel
theorem dX6_send_105 : decode cX6_send 105 = .ok (.iload_n 1, 1) := by decide +kernel
theorem dX6_send_106 : decode cX6_send 106 = .ok (.bipush 100, 2) := by decide +kernel
theorem dX6_send_108 : decode cX6_send 108 = .ok (.if_icmp .ge 94, 3) := by decide +kernel
theorem dX6_send_111 : decode cX6_send 111 = .ok (.iconst 0, 1) := by decide +kernel
theorem dX6_send_112 : decode cX6_send 112 = .ok (.istore_n 2, 1) := by decide +kernel
theorem dX6_send_113 : decode cX6_send 113 = .ok (.iload_n 2, 1) := by decide +kernel
theorem dX6_send_114 : decode cX6_send 114 = .ok (.iconst 4, 1) := by decide +kernel
theorem dX6_send_115 : decode cX6_send 115 = .ok (.if_icmp .ge 23, 3) := by decide +kernel
theorem dX6_send_118 : decode cX6_send 118 = .ok (.iload_n 2, 1) := by decide +kernel
theorem dX6_send_119 : decode cX6_send 119 = .ok (.aload_n 0, 1) := by decide +kernel
theorem dX6_send_120 : decode cX6_send 120 = .ok (.getfield 65, 3) := by decide +kernel
theorem dX6_send_123 : decode cX6_send 123 = .ok (.if_icmp .eq 9, 3) := by decide +kernel
theorem dX6_send_126 : decode cX6_send 126 = .ok (.aload_n 0, 1) := by decide +kernel
theorem dX6_send_127 : decode cX6_send 127 = .ok (.iload_n 2, 1) := by decide +kernel
theorem dX6_send_128 : decode cX6_send 128 = .ok (.iload_n 1, 1) := by decide +kernel
theorem dX6_send_129 : decode cX6_send 129 = .ok (.invokevirtual 174, 3) := by decide +kernel
theorem dX6_send_132 : decode cX6_send 132 = .ok (.iinc 2 1, 3) := by decide +kernel
theorem dX6_send_135 : decode cX6_send 135 = .ok (.goto (-22), 3) := by decide +kernel
theorem dX6_send_138 : decode cX6_send 138 = .ok (.iconst 0, 1) := by decide +kernel
theorem dX6_send_139 : decode cX6_send 139 = .ok (.istore_n 2, 1) := by decide +kernel
theorem dX6_send_140 : decode cX6_send 140 = .ok (.iload_n 2, 1) := by decide +kernel
theorem dX6_send_141 : decode cX6_send 141 = .ok (.aload_n 0, 1) := by decide +kernel
theorem dX6_send_142 : decode cX6_send 142 = .ok (.getfield 7, 3) := by decide +kernel
theorem dX6_send_145 : decode cX6_send 145 = .ok (.bipush 93, 2) := by decide +kernel
theorem dX6_send_147 : decode cX6_send 147 = .ok (.iaload, 1) := by decide +kernel
theorem dX6_send_148 : decode cX6_send 148 = .ok (.if_icmp .ge 19, 3) := by decide +kernel
theorem dX6_send_151 : decode cX6_send 151 = .ok (.aload_n 0, 1) := by decide +kernel
theorem dX6_send_152 : decode cX6_send 152 = .ok (.iload_n 1, 1) := by decide +kernel
theorem dX6_send_153 : decode cX6_send 153 = .ok (.iconst 4, 1) := by decide +kernel
theorem dX6_send_154 : decode cX6_send 154 = .ok (.iload_n 1, 1) := by decide +kernel
theorem dX6_send_155 : decode cX6_send 155 = .ok (.imul, 1) := by decide +kernel
theorem dX6_send_156 : decode cX6_send 156 = .ok (.iload_n 2, 1) := by decide +kernel
theorem dX6_send_157 : decode cX6_send 157 = .ok (.iadd, 1) := by decide +kernel
theorem dX6_send_158 : decode cX6_send 158 = .ok (.invokevirtual 178, 3) := by decide +kernel
theorem dX6_send_161 : decode cX6_send 161 = .ok (.iinc 2 1, 3) := by decide +kernel
theorem dX6_send_164 : decode cX6_send 164 = .ok (.goto (-24), 3) := by decide +kernel
theorem dX6_send_167 : decode cX6_send 167 = .ok (.iconst 0, 1) := by decide +kernel
theorem dX6_send_168 : decode cX6_send 168 = .ok (.istore_n 2, 1) := by decide +kernel
theorem dX6_send_169 : decode cX6_send 169 = .ok (.iload_n 2, 1) := by decide +kernel
theorem dX6_send_170 : decode cX6_send 170 = .ok (.iconst 4, 1) := by decide +kernel
theorem dX6_send_171 : decode cX6_send 171 = .ok (.if_icmp .ge 25, 3) := by decide +kernel
theorem dX6_send_174 : decode cX6_send 174 = .ok (.aload_n 0, 1) := by decide +kernel
theorem dX6_send_175 : decode cX6_send 175 = .ok (.getfield 53, 3) := by decide +kernel
theorem dX6_send_178 : decode cX6_send 178 = .ok (.iconst 4, 1) := by decide +kernel
theorem dX6_send_179 : decode cX6_send 179 = .ok (.iload_n 1, 1) := by decide +kernel
theorem dX6_send_180 : decode cX6_send 180 = .ok (.imul, 1) := by decide +kernel
theorem dX6_send_181 : decode cX6_send 181 = .ok (.iload_n 2, 1) := by decide +kernel
theorem dX6_send_182 : decode cX6_send 182 = .ok (.iadd, 1) := by decide +kernel
theorem dX6_send_183 : decode cX6_send 183 = .ok (.aload_n 0, 1) := by decide +kernel
theorem dX6_send_184 : decode cX6_send 184 = .ok (.getfield 56, 3) := by decide +kernel
theorem dX6_send_187 : decode cX6_send 187 = .ok (.iload_n 2, 1) := by decide +kernel
theorem dX6_send_188 : decode cX6_send 188 = .ok (.iaload, 1) := by decide +kernel
theorem dX6_send_189 : decode cX6_send 189 = .ok (.iastore, 1) := by decide +kernel
theorem dX6_send_190 : decode cX6_send 190 = .ok (.iinc 2 1, 3) := by decide +kernel
theorem dX6_send_193 : decode cX6_send 193 = .ok (.goto (-24), 3) := by decide +kernel
theorem dX6_send_196 : decode cX6_send 196 = .ok (.iinc 1 1, 3) := by decide +kernel
theorem dX6_send_199 : decode cX6_send 199 = .ok (.goto (-94), 3) := by decide +kernel
theorem dX6_send_202 : decode cX6_send 202 = .ok (.aload_n 0, 1) := by decide +kernel
theorem dX6_send_203 : decode cX6_send 203 = .ok (.getfield 149, 3) := by decide +kernel
theorem dX6_send_206 : decode cX6_send 206 = .ok (.ireturn, 1) := by decide +kernel
theorem dX6_packet_0 : decode cX6_packet 0 = .ok (.iload_n 1, 1) := by decide +kernel
theorem dX6_packet_1 : decode cX6_packet 1 = .ok (.iconst 0, 1) := by decide +kernel
theorem dX6_packet_2 : decode cX6_packet 2 = .ok (.bipush 99, 2) := by decide +kernel
theorem dX6_packet_4 : decode cX6_packet 4 = .ok (.invokestatic 69, 3) := by decide +kernel
theorem dX6_packet_7 : decode cX6_packet 7 = .ok (.ifCond .eq 29, 3) := by decide +kernel
theorem dX6_packet_10 : decode cX6_packet 10 = .ok (.iload_n 2, 1) := by decide +kernel
theorem dX6_packet_11 : decode cX6_packet 11 = .ok (.iconst 0, 1) := by decide +kernel
theorem dX6_packet_12 : decode cX6_packet 12 = .ok (.aload_n 0, 1) := by decide +kernel
theorem dX6_packet_13 : decode cX6_packet 13 = .ok (.getfield 7, 3) := by decide +kernel
theorem dX6_packet_16 : decode cX6_packet 16 = .ok (.bipush 93, 2) := by decide +kernel
theorem dX6_packet_18 : decode cX6_packet 18 = .ok (.iaload, 1) := by decide +kernel
theorem dX6_packet_19 : decode cX6_packet 19 = .ok (.iconst 1, 1) := by decide +kernel
theorem dX6_packet_20 : decode cX6_packet 20 = .ok (.isub, 1) := by decide +kernel
theorem dX6_packet_21 : decode cX6_packet 21 = .ok (.invokestatic 69, 3) := by decide +kernel
theorem dX6_packet_24 : decode cX6_packet 24 = .ok (.ifCond .eq 12, 3) := by decide +kernel
theorem dX6_packet_27 : decode cX6_packet 27 = .ok (.iload_n 3, 1) := by decide +kernel
theorem dX6_packet_28 : decode cX6_packet 28 = .ok (.iconst 0, 1) := by decide +kernel
theorem dX6_packet_29 : decode cX6_packet 29 = .ok (.iconst 3, 1) := by decide +kernel
theorem dX6_packet_30 : decode cX6_packet 30 = .ok (.invokestatic 69, 3) := by decide +kernel
theorem dX6_packet_33 : decode cX6_packet 33 = .ok (.ifCond .ne 6, 3) := by decide +kernel
theorem dX6_packet_36 : decode cX6_packet 36 = .ok (.bipush (-2), 2) := by decide +kernel
theorem dX6_packet_38 : decode cX6_packet 38 = .ok (.ireturn, 1) := by decide +kernel
theorem dX6_packet_39 : decode cX6_packet 39 = .ok (.aload_n 0, 1) := by decide +kernel
theorem dX6_packet_40 : decode cX6_packet 40 = .ok (.invokevirtual 181, 3) := by decide +kernel
theorem dX6_packet_43 : decode cX6_packet 43 = .ok (.pop, 1) := by decide +kernel
theorem dX6_packet_44 : decode cX6_packet 44 = .ok (.iconst 4, 1) := by decide +kernel
theorem dX6_packet_45 : decode cX6_packet 45 = .ok (.iload_n 1, 1) := by decide +kernel
theorem dX6_packet_46 : decode cX6_packet 46 = .ok (.imul, 1) := by decide +kernel
theorem dX6_packet_47 : decode cX6_packet 47 = .ok (.iload_n 2, 1) := by decide +kernel
theorem dX6_packet_48 : decode cX6_packet 48 = .ok (.iadd, 1) := by decide +kernel
theorem dX6_packet_49 : decode cX6_packet 49 = .ok (.istore 4, 2) := by decide +kernel
theorem dX6_packet_51 : decode cX6_packet 51 = .ok (.iload_n 3, 1) := by decide +kernel
theorem dX6_packet_52 : decode cX6_packet 52 = .ok (.ifCond .ne 13, 3) := by decide +kernel
theorem dX6_packet_55 : decode cX6_packet 55 = .ok (.aload_n 0, 1) := by decide +kernel
theorem dX6_packet_56 : decode cX6_packet 56 = .ok (.getfield 29, 3) := by decide +kernel
theorem dX6_packet_59 : decode cX6_packet 59 = .ok (.iload 4, 2) := by decide +kernel
theorem dX6_packet_61 : decode cX6_packet 61 = .ok (.iaload, 1) := by decide +kernel
theorem dX6_packet_62 : decode cX6_packet 62 = .ok (.goto 40, 3) := by decide +kernel
theorem dX6_packet_65 : decode cX6_packet 65 = .ok (.iload_n 3, 1) := by decide +kernel
theorem dX6_packet_66 : decode cX6_packet 66 = .ok (.iconst 1, 1) := by decide +kernel
theorem dX6_packet_67 : decode cX6_packet 67 = .ok (.if_icmp .ne 13, 3) := by decide +kernel
theorem dX6_packet_70 : decode cX6_packet 70 = .ok (.aload_n 0, 1) := by decide +kernel
theorem dX6_packet_71 : decode cX6_packet 71 = .ok (.getfield 32, 3) := by decide +kernel
theorem dX6_packet_74 : decode cX6_packet 74 = .ok (.iload 4, 2) := by decide +kernel
theorem dX6_packet_76 : decode cX6_packet 76 = .ok (.iaload, 1) := by decide +kernel
theorem dX6_packet_77 : decode cX6_packet 77 = .ok (.goto 25, 3) := by decide +kernel
theorem dX6_packet_80 : decode cX6_packet 80 = .ok (.iload_n 3, 1) := by decide +kernel
theorem dX6_packet_81 : decode cX6_packet 81 = .ok (.iconst 2, 1) := by decide +kernel
theorem dX6_packet_82 : decode cX6_packet 82 = .ok (.if_icmp .ne 13, 3) := by decide +kernel
theorem dX6_packet_85 : decode cX6_packet 85 = .ok (.aload_n 0, 1) := by decide +kernel
theorem dX6_packet_86 : decode cX6_packet 86 = .ok (.getfield 35, 3) := by decide +kernel
theorem dX6_packet_89 : decode cX6_packet 89 = .ok (.iload 4, 2) := by decide +kernel
theorem dX6_packet_91 : decode cX6_packet 91 = .ok (.iaload, 1) := by decide +kernel
theorem dX6_packet_92 : decode cX6_packet 92 = .ok (.goto 10, 3) := by decide +kernel
theorem dX6_packet_95 : decode cX6_packet 95 = .ok (.aload_n 0, 1) := by decide +kernel
theorem dX6_packet_96 : decode cX6_packet 96 = .ok (.getfield 38, 3) := by decide +kernel
theorem dX6_packet_99 : decode cX6_packet 99 = .ok (.iload 4, 2) := by decide +kernel
theorem dX6_packet_101 : decode cX6_packet 101 = .ok (.iaload, 1) := by decide +kernel
theorem dX6_packet_102 : decode cX6_packet 102 = .ok (.ireturn, 1) := by decide +kernel
theorem dX6_held_0 : decode cX6_held 0 = .ok (.iload_n 1, 1) := by decide +kernel
theorem dX6_held_1 : decode cX6_held 1 = .ok (.invokestatic 111, 3) := by decide +kernel
theorem dX6_held_4 : decode cX6_held 4 = .ok (.ifCond .eq 13, 3) := by decide +kernel
theorem dX6_held_7 : decode cX6_held 7 = .ok (.iload_n 2, 1) := by decide +kernel
theorem dX6_held_8 : decode cX6_held 8 = .ok (.iconst 0, 1) := by decide +kernel
theorem dX6_held_9 : decode cX6_held 9 = .ok (.bipush 99, 2) := by decide +kernel
theorem dX6_held_11 : decode cX6_held 11 = .ok (.invokestatic 69, 3) := by decide +kernel
theorem dX6_held_14 : decode cX6_held 14 = .ok (.ifCond .ne 6, 3) := by decide +kernel
theorem dX6_held_17 : decode cX6_held 17 = .ok (.bipush (-2), 2) := by decide +kernel
theorem dX6_held_19 : decode cX6_held 19 = .ok (.ireturn, 1) := by decide +kernel
theorem dX6_held_20 : decode cX6_held 20 = .ok (.aload_n 0, 1) := by decide +kernel
theorem dX6_held_21 : decode cX6_held 21 = .ok (.invokevirtual 181, 3) := by decide +kernel
theorem dX6_held_24 : decode cX6_held 24 = .ok (.pop, 1) := by decide +kernel
theorem dX6_held_25 : decode cX6_held 25 = .ok (.aload_n 0, 1) := by decide +kernel
theorem dX6_held_26 : decode cX6_held 26 = .ok (.getfield 53, 3) := by decide +kernel
theorem dX6_held_29 : decode cX6_held 29 = .ok (.iconst 4, 1) := by decide +kernel
theorem dX6_held_30 : decode cX6_held 30 = .ok (.iload_n 2, 1) := by decide +kernel
theorem dX6_held_31 : decode cX6_held 31 = .ok (.imul, 1) := by decide +kernel
theorem dX6_held_32 : decode cX6_held 32 = .ok (.iload_n 1, 1) := by decide +kernel
theorem dX6_held_33 : decode cX6_held 33 = .ok (.iadd, 1) := by decide +kernel
theorem dX6_held_34 : decode cX6_held 34 = .ok (.iaload, 1) := by decide +kernel
theorem dX6_held_35 : decode cX6_held 35 = .ok (.ireturn, 1) := by decide +kernel
theorem dX6_frame_0 : decode cX6_frame 0 = .ok (.iload_n 1, 1) := by decide +kernel
theorem dX6_frame_1 : decode cX6_frame 1 = .ok (.invokestatic 111, 3) := by decide +kernel
theorem dX6_frame_4 : decode cX6_frame 4 = .ok (.ifCond .eq 12, 3) := by decide +kernel
theorem dX6_frame_7 : decode cX6_frame 7 = .ok (.iload_n 3, 1) := by decide +kernel
theorem dX6_frame_8 : decode cX6_frame 8 = .ok (.iconst 0, 1) := by decide +kernel
theorem dX6_frame_9 : decode cX6_frame 9 = .ok (.iconst 5, 1) := by decide +kernel
theorem dX6_frame_10 : decode cX6_frame 10 = .ok (.invokestatic 69, 3) := by decide +kernel
theorem dX6_frame_13 : decode cX6_frame 13 = .ok (.ifCond .ne 6, 3) := by decide +kernel
theorem dX6_frame_16 : decode cX6_frame 16 = .ok (.bipush (-2), 2) := by decide +kernel
theorem dX6_frame_18 : decode cX6_frame 18 = .ok (.ireturn, 1) := by decide +kernel
theorem dX6_frame_19 : decode cX6_frame 19 = .ok (.aload_n 0, 1) := by decide +kernel
theorem dX6_frame_20 : decode cX6_frame 20 = .ok (.iload_n 1, 1) := by decide +kernel
theorem dX6_frame_21 : decode cX6_frame 21 = .ok (.iload_n 2, 1) := by decide +kernel
theorem dX6_frame_22 : decode cX6_frame 22 = .ok (.invokevirtual 138, 3) := by decide +kernel
theorem dX6_frame_25 : decode cX6_frame 25 = .ok (.ifCond .ne 6, 3) := by decide +kernel
theorem dX6_frame_28 : decode cX6_frame 28 = .ok (.bipush (-6), 2) := by decide +kernel
theorem dX6_frame_30 : decode cX6_frame 30 = .ok (.ireturn, 1) := by decide +kernel
theorem dX6_frame_31 : decode cX6_frame 31 = .ok (.aload_n 0, 1) := by decide +kernel
theorem dX6_frame_32 : decode cX6_frame 32 = .ok (.invokevirtual 181, 3) := by decide +kernel
theorem dX6_frame_35 : decode cX6_frame 35 = .ok (.pop, 1) := by decide +kernel
theorem dX6_frame_36 : decode cX6_frame 36 = .ok (.bipush 10, 2) := by decide +kernel
theorem dX6_frame_38 : decode cX6_frame 38 = .ok (.iload_n 1, 1) := by decide +kernel
theorem dX6_frame_39 : decode cX6_frame 39 = .ok (.imul, 1) := by decide +kernel
theorem dX6_frame_40 : decode cX6_frame 40 = .ok (.iload_n 2, 1) := by decide +kernel
theorem dX6_frame_41 : decode cX6_frame 41 = .ok (.iadd, 1) := by decide +kernel
theorem dX6_frame_42 : decode cX6_frame 42 = .ok (.istore 4, 2) := by decide +kernel
theorem dX6_frame_44 : decode cX6_frame 44 = .ok (.iload_n 3, 1) := by decide +kernel
theorem dX6_frame_45 : decode cX6_frame 45 = .ok (.tableswitch 73 0 4 #[35, 42, 49, 57, 65], 35) := by decide +kernel
theorem dX6_frame_80 : decode cX6_frame 80 = .ok (.aload_n 0, 1) := by decide +kernel
theorem dX6_frame_81 : decode cX6_frame 81 = .ok (.iload_n 1, 1) := by decide +kernel
theorem dX6_frame_82 : decode cX6_frame 82 = .ok (.iload_n 2, 1) := by decide +kernel
theorem dX6_frame_83 : decode cX6_frame 83 = .ok (.invokevirtual 118, 3) := by decide +kernel
theorem dX6_frame_86 : decode cX6_frame 86 = .ok (.ireturn, 1) := by decide +kernel
theorem dX6_frame_87 : decode cX6_frame 87 = .ok (.aload_n 0, 1) := by decide +kernel
theorem dX6_frame_88 : decode cX6_frame 88 = .ok (.iload_n 1, 1) := by decide +kernel
theorem dX6_frame_89 : decode cX6_frame 89 = .ok (.iload_n 2, 1) := by decide +kernel
theorem dX6_frame_90 : decode cX6_frame 90 = .ok (.invokevirtual 108, 3) := by decide +kernel
theorem dX6_frame_93 : decode cX6_frame 93 = .ok (.ireturn, 1) := by decide +kernel
theorem dX6_frame_94 : decode cX6_frame 94 = .ok (.aload_n 0, 1) := by decide +kernel
theorem dX6_frame_95 : decode cX6_frame 95 = .ok (.getfield 41, 3) := by decide +kernel
theorem dX6_frame_98 : decode cX6_frame 98 = .ok (.iload 4, 2) := by decide +kernel
theorem dX6_frame_100 : decode cX6_frame 100 = .ok (.iaload, 1) := by decide +kernel
theorem dX6_frame_101 : decode cX6_frame 101 = .ok (.ireturn, 1) := by decide +kernel
theorem dX6_frame_102 : decode cX6_frame 102 = .ok (.aload_n 0, 1) := by decide +kernel
theorem dX6_frame_103 : decode cX6_frame 103 = .ok (.getfield 44, 3) := by decide +kernel
theorem dX6_frame_106 : decode cX6_frame 106 = .ok (.iload 4, 2) := by decide +kernel
theorem dX6_frame_108 : decode cX6_frame 108 = .ok (.iaload, 1) := by decide +kernel
theorem dX6_frame_109 : decode cX6_frame 109 = .ok (.ireturn, 1) := by decide +kernel
theorem dX6_frame_110 : decode cX6_frame 110 = .ok (.aload_n 0, 1) := by decide +kernel
theorem dX6_frame_111 : decode cX6_frame 111 = .ok (.getfield 47, 3) := by decide +kernel
theorem dX6_frame_114 : decode cX6_frame 114 = .ok (.iload 4, 2) := by decide +kernel
theorem dX6_frame_116 : decode cX6_frame 116 = .ok (.iaload, 1) := by decide +kernel
theorem dX6_frame_117 : decode cX6_frame 117 = .ok (.ireturn, 1) := by decide +kernel
theorem dX6_frame_118 : decode cX6_frame 118 = .ok (.aload_n 0, 1) := by decide +kernel
theorem dX6_frame_119 : decode cX6_frame 119 = .ok (.getfield 50, 3) := by decide +kernel
theorem dX6_frame_122 : decode cX6_frame 122 = .ok (.iload 4, 2) := by decide +kernel
theorem dX6_frame_124 : decode cX6_frame 124 = .ok (.baload, 1) := by decide +kernel
theorem dX6_frame_125 : decode cX6_frame 125 = .ok (.ifCond .eq 7, 3) := by decide +kernel
theorem dX6_frame_128 : decode cX6_frame 128 = .ok (.iconst 1, 1) := by decide +kernel
theorem dX6_frame_129 : decode cX6_frame 129 = .ok (.goto 4, 3) := by decide +kernel
theorem dX6_frame_132 : decode cX6_frame 132 = .ok (.iconst 0, 1) := by decide +kernel
theorem dX6_frame_133 : decode cX6_frame 133 = .ok (.ireturn, 1) := by decide +kernel
theorem dX6_ofSort_0 : decode cX6_ofSort 0 = .ok (.iconst 0, 1) := by decide +kernel
theorem dX6_ofSort_1 : decode cX6_ofSort 1 = .ok (.istore_n 2, 1) := by decide +kernel
theorem dX6_ofSort_2 : decode cX6_ofSort 2 = .ok (.iconst 0, 1) := by decide +kernel
theorem dX6_ofSort_3 : decode cX6_ofSort 3 = .ok (.istore_n 3, 1) := by decide +kernel
theorem dX6_ofSort_4 : decode cX6_ofSort 4 = .ok (.iload_n 3, 1) := by decide +kernel
theorem dX6_ofSort_5 : decode cX6_ofSort 5 = .ok (.bipush 100, 2) := by decide +kernel
theorem dX6_ofSort_7 : decode cX6_ofSort 7 = .ok (.if_icmp .ge 53, 3) := by decide +kernel
theorem dX6_ofSort_10 : decode cX6_ofSort 10 = .ok (.iconst 0, 1) := by decide +kernel
theorem dX6_ofSort_11 : decode cX6_ofSort 11 = .ok (.istore 4, 2) := by decide +kernel
theorem dX6_ofSort_13 : decode cX6_ofSort 13 = .ok (.iload 4, 2) := by decide +kernel
theorem dX6_ofSort_15 : decode cX6_ofSort 15 = .ok (.aload_n 0, 1) := by decide +kernel
theorem dX6_ofSort_16 : decode cX6_ofSort 16 = .ok (.getfield 7, 3) := by decide +kernel
theorem dX6_ofSort_19 : decode cX6_ofSort 19 = .ok (.bipush 93, 2) := by decide +kernel
theorem dX6_ofSort_21 : decode cX6_ofSort 21 = .ok (.iaload, 1) := by decide +kernel
theorem dX6_ofSort_22 : decode cX6_ofSort 22 = .ok (.if_icmp .ge 32, 3) := by decide +kernel
theorem dX6_ofSort_25 : decode cX6_ofSort 25 = .ok (.iload_n 2, 1) := by decide +kernel
theorem dX6_ofSort_26 : decode cX6_ofSort 26 = .ok (.aload_n 0, 1) := by decide +kernel
theorem dX6_ofSort_27 : decode cX6_ofSort 27 = .ok (.getfield 29, 3) := by decide +kernel
theorem dX6_ofSort_30 : decode cX6_ofSort 30 = .ok (.iconst 4, 1) := by decide +kernel
theorem dX6_ofSort_31 : decode cX6_ofSort 31 = .ok (.iload_n 3, 1) := by decide +kernel
theorem dX6_ofSort_32 : decode cX6_ofSort 32 = .ok (.imul, 1) := by decide +kernel
theorem dX6_ofSort_33 : decode cX6_ofSort 33 = .ok (.iload 4, 2) := by decide +kernel
theorem dX6_ofSort_35 : decode cX6_ofSort 35 = .ok (.iadd, 1) := by decide +kernel
theorem dX6_ofSort_36 : decode cX6_ofSort 36 = .ok (.iaload, 1) := by decide +kernel
theorem dX6_ofSort_37 : decode cX6_ofSort 37 = .ok (.iload_n 1, 1) := by decide +kernel
theorem dX6_ofSort_38 : decode cX6_ofSort 38 = .ok (.if_icmp .ne 7, 3) := by decide +kernel
theorem dX6_ofSort_41 : decode cX6_ofSort 41 = .ok (.iconst 1, 1) := by decide +kernel
theorem dX6_ofSort_42 : decode cX6_ofSort 42 = .ok (.goto 4, 3) := by decide +kernel
theorem dX6_ofSort_45 : decode cX6_ofSort 45 = .ok (.iconst 0, 1) := by decide +kernel
theorem dX6_ofSort_46 : decode cX6_ofSort 46 = .ok (.iadd, 1) := by decide +kernel
theorem dX6_ofSort_47 : decode cX6_ofSort 47 = .ok (.istore_n 2, 1) := by decide +kernel
theorem dX6_ofSort_48 : decode cX6_ofSort 48 = .ok (.iinc 4 1, 3) := by decide +kernel
theorem dX6_ofSort_51 : decode cX6_ofSort 51 = .ok (.goto (-38), 3) := by decide +kernel
theorem dX6_ofSort_54 : decode cX6_ofSort 54 = .ok (.iinc 3 1, 3) := by decide +kernel
theorem dX6_ofSort_57 : decode cX6_ofSort 57 = .ok (.goto (-53), 3) := by decide +kernel
theorem dX6_ofSort_60 : decode cX6_ofSort 60 = .ok (.iload_n 2, 1) := by decide +kernel
theorem dX6_ofSort_61 : decode cX6_ofSort 61 = .ok (.ireturn, 1) := by decide +kernel
theorem dX6_allFrames_0 : decode cX6_allFrames 0 = .ok (.iconst 0, 1) := by decide +kernel
theorem dX6_allFrames_1 : decode cX6_allFrames 1 = .ok (.istore_n 1, 1) := by decide +kernel
theorem dX6_allFrames_2 : decode cX6_allFrames 2 = .ok (.iconst 0, 1) := by decide +kernel
theorem dX6_allFrames_3 : decode cX6_allFrames 3 = .ok (.istore_n 2, 1) := by decide +kernel
theorem dX6_allFrames_4 : decode cX6_allFrames 4 = .ok (.iload_n 2, 1) := by decide +kernel
theorem dX6_allFrames_5 : decode cX6_allFrames 5 = .ok (.iconst 4, 1) := by decide +kernel
theorem dX6_allFrames_6 : decode cX6_allFrames 6 = .ok (.if_icmp .ge 21, 3) := by decide +kernel
theorem dX6_allFrames_9 : decode cX6_allFrames 9 = .ok (.iload_n 1, 1) := by decide +kernel
theorem dX6_allFrames_10 : decode cX6_allFrames 10 = .ok (.aload_n 0, 1) := by decide +kernel
theorem dX6_allFrames_11 : decode cX6_allFrames 11 = .ok (.getfield 7, 3) := by decide +kernel
theorem dX6_allFrames_14 : decode cX6_allFrames 14 = .ok (.bipush 8, 2) := by decide +kernel
theorem dX6_allFrames_16 : decode cX6_allFrames 16 = .ok (.iload_n 2, 1) := by decide +kernel
theorem dX6_allFrames_17 : decode cX6_allFrames 17 = .ok (.iadd, 1) := by decide +kernel
theorem dX6_allFrames_18 : decode cX6_allFrames 18 = .ok (.iaload, 1) := by decide +kernel
theorem dX6_allFrames_19 : decode cX6_allFrames 19 = .ok (.iadd, 1) := by decide +kernel
theorem dX6_allFrames_20 : decode cX6_allFrames 20 = .ok (.istore_n 1, 1) := by decide +kernel
theorem dX6_allFrames_21 : decode cX6_allFrames 21 = .ok (.iinc 2 1, 3) := by decide +kernel
theorem dX6_allFrames_24 : decode cX6_allFrames 24 = .ok (.goto (-20), 3) := by decide +kernel
theorem dX6_allFrames_27 : decode cX6_allFrames 27 = .ok (.iload_n 1, 1) := by decide +kernel
theorem dX6_allFrames_28 : decode cX6_allFrames 28 = .ok (.ireturn, 1) := by decide +kernel
theorem dX6_allPackets_0 : decode cX6_allPackets 0 = .ok (.iconst 0, 1) := by decide +kernel
theorem dX6_allPackets_1 : decode cX6_allPackets 1 = .ok (.istore_n 1, 1) := by decide +kernel
theorem dX6_allPackets_2 : decode cX6_allPackets 2 = .ok (.iconst 0, 1) := by decide +kernel
theorem dX6_allPackets_3 : decode cX6_allPackets 3 = .ok (.istore_n 2, 1) := by decide +kernel
theorem dX6_allPackets_4 : decode cX6_allPackets 4 = .ok (.iload_n 2, 1) := by decide +kernel
theorem dX6_allPackets_5 : decode cX6_allPackets 5 = .ok (.iconst 4, 1) := by decide +kernel
theorem dX6_allPackets_6 : decode cX6_allPackets 6 = .ok (.if_icmp .ge 17, 3) := by decide +kernel
theorem dX6_allPackets_9 : decode cX6_allPackets 9 = .ok (.iload_n 1, 1) := by decide +kernel
theorem dX6_allPackets_10 : decode cX6_allPackets 10 = .ok (.aload_n 0, 1) := by decide +kernel
theorem dX6_allPackets_11 : decode cX6_allPackets 11 = .ok (.iload_n 2, 1) := by decide +kernel
theorem dX6_allPackets_12 : decode cX6_allPackets 12 = .ok (.invokevirtual 146, 3) := by decide +kernel
theorem dX6_allPackets_15 : decode cX6_allPackets 15 = .ok (.iadd, 1) := by decide +kernel
theorem dX6_allPackets_16 : decode cX6_allPackets 16 = .ok (.istore_n 1, 1) := by decide +kernel
theorem dX6_allPackets_17 : decode cX6_allPackets 17 = .ok (.iinc 2 1, 3) := by decide +kernel
theorem dX6_allPackets_20 : decode cX6_allPackets 20 = .ok (.goto (-16), 3) := by decide +kernel
theorem dX6_allPackets_23 : decode cX6_allPackets 23 = .ok (.iload_n 1, 1) := by decide +kernel
theorem dX6_allPackets_24 : decode cX6_allPackets 24 = .ok (.ireturn, 1) := by decide +kernel
theorem dX6_sent_0 : decode cX6_sent 0 = .ok (.iload_n 1, 1) := by decide +kernel
theorem dX6_sent_1 : decode cX6_sent 1 = .ok (.iconst 0, 1) := by decide +kernel
theorem dX6_sent_2 : decode cX6_sent 2 = .ok (.bipush 7, 2) := by decide +kernel
theorem dX6_sent_4 : decode cX6_sent 4 = .ok (.invokestatic 69, 3) := by decide +kernel
theorem dX6_sent_7 : decode cX6_sent 7 = .ok (.ifCond .ne 6, 3) := by decide +kernel
theorem dX6_sent_10 : decode cX6_sent 10 = .ok (.bipush (-2), 2) := by decide +kernel
theorem dX6_sent_12 : decode cX6_sent 12 = .ok (.ireturn, 1) := by decide +kernel
theorem dX6_sent_13 : decode cX6_sent 13 = .ok (.aload_n 0, 1) := by decide +kernel
theorem dX6_sent_14 : decode cX6_sent 14 = .ok (.invokevirtual 181, 3) := by decide +kernel
theorem dX6_sent_17 : decode cX6_sent 17 = .ok (.pop, 1) := by decide +kernel
theorem dX6_sent_18 : decode cX6_sent 18 = .ok (.iload_n 1, 1) := by decide +kernel
theorem dX6_sent_19 : decode cX6_sent 19 = .ok (.tableswitch 60 4 7 #[29, 39, 44, 55], 29) := by decide +kernel
theorem dX6_sent_48 : decode cX6_sent 48 = .ok (.aload_n 0, 1) := by decide +kernel
theorem dX6_sent_49 : decode cX6_sent 49 = .ok (.invokevirtual 184, 3) := by decide +kernel
theorem dX6_sent_52 : decode cX6_sent 52 = .ok (.aload_n 0, 1) := by decide +kernel
theorem dX6_sent_53 : decode cX6_sent 53 = .ok (.getfield 149, 3) := by decide +kernel
theorem dX6_sent_56 : decode cX6_sent 56 = .ok (.isub, 1) := by decide +kernel
theorem dX6_sent_57 : decode cX6_sent 57 = .ok (.ireturn, 1) := by decide +kernel
theorem dX6_sent_58 : decode cX6_sent 58 = .ok (.aload_n 0, 1) := by decide +kernel
theorem dX6_sent_59 : decode cX6_sent 59 = .ok (.getfield 149, 3) := by decide +kernel
theorem dX6_sent_62 : decode cX6_sent 62 = .ok (.ireturn, 1) := by decide +kernel
theorem dX6_sent_63 : decode cX6_sent 63 = .ok (.aload_n 0, 1) := by decide +kernel
theorem dX6_sent_64 : decode cX6_sent 64 = .ok (.invokevirtual 187, 3) := by decide +kernel
theorem dX6_sent_67 : decode cX6_sent 67 = .ok (.aload_n 0, 1) := by decide +kernel
theorem dX6_sent_68 : decode cX6_sent 68 = .ok (.iconst 3, 1) := by decide +kernel
theorem dX6_sent_69 : decode cX6_sent 69 = .ok (.invokevirtual 190, 3) := by decide +kernel
theorem dX6_sent_72 : decode cX6_sent 72 = .ok (.isub, 1) := by decide +kernel
theorem dX6_sent_73 : decode cX6_sent 73 = .ok (.ireturn, 1) := by decide +kernel
theorem dX6_sent_74 : decode cX6_sent 74 = .ok (.aload_n 0, 1) := by decide +kernel
theorem dX6_sent_75 : decode cX6_sent 75 = .ok (.getfield 152, 3) := by decide +kernel
theorem dX6_sent_78 : decode cX6_sent 78 = .ok (.ireturn, 1) := by decide +kernel
theorem dX6_sent_79 : decode cX6_sent 79 = .ok (.aload_n 0, 1) := by decide +kernel
theorem dX6_sent_80 : decode cX6_sent 80 = .ok (.iload_n 1, 1) := by decide +kernel
theorem dX6_sent_81 : decode cX6_sent 81 = .ok (.invokevirtual 190, 3) := by decide +kernel
theorem dX6_sent_84 : decode cX6_sent 84 = .ok (.ireturn, 1) := by decide +kernel
theorem dX6_most_0 : decode cX6_most 0 = .ok (.iload_n 1, 1) := by decide +kernel
theorem dX6_most_1 : decode cX6_most 1 = .ok (.invokestatic 111, 3) := by decide +kernel
theorem dX6_most_4 : decode cX6_most 4 = .ok (.ifCond .ne 6, 3) := by decide +kernel
theorem dX6_most_7 : decode cX6_most 7 = .ok (.bipush (-2), 2) := by decide +kernel
theorem dX6_most_9 : decode cX6_most 9 = .ok (.ireturn, 1) := by decide +kernel
theorem dX6_most_10 : decode cX6_most 10 = .ok (.aload_n 0, 1) := by decide +kernel
theorem dX6_most_11 : decode cX6_most 11 = .ok (.invokevirtual 181, 3) := by decide +kernel
theorem dX6_most_14 : decode cX6_most 14 = .ok (.pop, 1) := by decide +kernel
theorem dX6_most_15 : decode cX6_most 15 = .ok (.iconst 0, 1) := by decide +kernel
theorem dX6_most_16 : decode cX6_most 16 = .ok (.istore_n 2, 1) := by decide +kernel
theorem dX6_most_17 : decode cX6_most 17 = .ok (.iconst 0, 1) := by decide +kernel
theorem dX6_most_18 : decode cX6_most 18 = .ok (.istore_n 3, 1) := by decide +kernel
theorem dX6_most_19 : decode cX6_most 19 = .ok (.iload_n 3, 1) := by decide +kernel
theorem dX6_most_20 : decode cX6_most 20 = .ok (.bipush 100, 2) := by decide +kernel
theorem dX6_most_22 : decode cX6_most 22 = .ok (.if_icmp .ge 34, 3) := by decide +kernel
theorem dX6_most_25 : decode cX6_most 25 = .ok (.aload_n 0, 1) := by decide +kernel
theorem dX6_most_26 : decode cX6_most 26 = .ok (.getfield 53, 3) := by decide +kernel
theorem dX6_most_29 : decode cX6_most 29 = .ok (.iconst 4, 1) := by decide +kernel
theorem dX6_most_30 : decode cX6_most 30 = .ok (.iload_n 3, 1) := by decide +kernel
theorem dX6_most_31 : decode cX6_most 31 = .ok (.imul, 1) := by decide +kernel
theorem dX6_most_32 : decode cX6_most 32 = .ok (.iload_n 1, 1) := by decide +kernel
theorem dX6_most_33 : decode cX6_most 33 = .ok (.iadd, 1) := by decide +kernel
theorem dX6_most_34 : decode cX6_most 34 = .ok (.iaload, 1) := by decide +kernel
theorem dX6_most_35 : decode cX6_most 35 = .ok (.istore 4, 2) := by decide +kernel
theorem dX6_most_37 : decode cX6_most 37 = .ok (.iload 4, 2) := by decide +kernel
theorem dX6_most_39 : decode cX6_most 39 = .ok (.iload_n 2, 1) := by decide +kernel
theorem dX6_most_40 : decode cX6_most 40 = .ok (.if_icmp .le 8, 3) := by decide +kernel
theorem dX6_most_43 : decode cX6_most 43 = .ok (.iload 4, 2) := by decide +kernel
theorem dX6_most_45 : decode cX6_most 45 = .ok (.goto 4, 3) := by decide +kernel
theorem dX6_most_48 : decode cX6_most 48 = .ok (.iload_n 2, 1) := by decide +kernel
theorem dX6_most_49 : decode cX6_most 49 = .ok (.istore_n 2, 1) := by decide +kernel
theorem dX6_most_50 : decode cX6_most 50 = .ok (.iinc 3 1, 3) := by decide +kernel
theorem dX6_most_53 : decode cX6_most 53 = .ok (.goto (-34), 3) := by decide +kernel
theorem dX6_most_56 : decode cX6_most 56 = .ok (.iload_n 2, 1) := by decide +kernel
theorem dX6_most_57 : decode cX6_most 57 = .ok (.ireturn, 1) := by decide +kernel
theorem dX6_leastAt_0 : decode cX6_leastAt 0 = .ok (.aload_n 0, 1) := by decide +kernel
theorem dX6_leastAt_1 : decode cX6_leastAt 1 = .ok (.getfield 7, 3) := by decide +kernel
theorem dX6_leastAt_4 : decode cX6_leastAt 4 = .ok (.iload_n 1, 1) := by decide +kernel
theorem dX6_leastAt_5 : decode cX6_leastAt 5 = .ok (.iaload, 1) := by decide +kernel
theorem dX6_leastAt_6 : decode cX6_leastAt 6 = .ok (.istore_n 3, 1) := by decide +kernel
theorem dX6_leastAt_7 : decode cX6_leastAt 7 = .ok (.bipush (-6), 2) := by decide +kernel
theorem dX6_leastAt_9 : decode cX6_leastAt 9 = .ok (.istore 4, 2) := by decide +kernel
theorem dX6_leastAt_11 : decode cX6_leastAt 11 = .ok (.iload_n 2, 1) := by decide +kernel
theorem dX6_leastAt_12 : decode cX6_leastAt 12 = .ok (.istore 5, 2) := by decide +kernel
theorem dX6_leastAt_14 : decode cX6_leastAt 14 = .ok (.iload 5, 2) := by decide +kernel
theorem dX6_leastAt_16 : decode cX6_leastAt 16 = .ok (.ifCond .le 33, 3) := by decide +kernel
theorem dX6_leastAt_19 : decode cX6_leastAt 19 = .ok (.aload_n 0, 1) := by decide +kernel
theorem dX6_leastAt_20 : decode cX6_leastAt 20 = .ok (.getfield 7, 3) := by decide +kernel
theorem dX6_leastAt_23 : decode cX6_leastAt 23 = .ok (.iload_n 1, 1) := by decide +kernel
theorem dX6_leastAt_24 : decode cX6_leastAt 24 = .ok (.iload 5, 2) := by decide +kernel
theorem dX6_leastAt_26 : decode cX6_leastAt 26 = .ok (.iastore, 1) := by decide +kernel
theorem dX6_leastAt_27 : decode cX6_leastAt 27 = .ok (.aload_n 0, 1) := by decide +kernel
theorem dX6_leastAt_28 : decode cX6_leastAt 28 = .ok (.invokevirtual 181, 3) := by decide +kernel
theorem dX6_leastAt_31 : decode cX6_leastAt 31 = .ok (.ifCond .ne 8, 3) := by decide +kernel
theorem dX6_leastAt_34 : decode cX6_leastAt 34 = .ok (.iload 5, 2) := by decide +kernel
theorem dX6_leastAt_36 : decode cX6_leastAt 36 = .ok (.goto 5, 3) := by decide +kernel
theorem dX6_leastAt_39 : decode cX6_leastAt 39 = .ok (.iload 4, 2) := by decide +kernel
theorem dX6_leastAt_41 : decode cX6_leastAt 41 = .ok (.istore 4, 2) := by decide +kernel
theorem dX6_leastAt_43 : decode cX6_leastAt 43 = .ok (.iinc 5 (-1), 3) := by decide +kernel
theorem dX6_leastAt_46 : decode cX6_leastAt 46 = .ok (.goto (-32), 3) := by decide +kernel
theorem dX6_leastAt_49 : decode cX6_leastAt 49 = .ok (.aload_n 0, 1) := by decide +kernel
theorem dX6_leastAt_50 : decode cX6_leastAt 50 = .ok (.getfield 7, 3) := by decide +kernel
theorem dX6_leastAt_53 : decode cX6_leastAt 53 = .ok (.iload_n 1, 1) := by decide +kernel
theorem dX6_leastAt_54 : decode cX6_leastAt 54 = .ok (.iload_n 3, 1) := by decide +kernel
theorem dX6_leastAt_55 : decode cX6_leastAt 55 = .ok (.iastore, 1) := by decide +kernel
theorem dX6_leastAt_56 : decode cX6_leastAt 56 = .ok (.iload 4, 2) := by decide +kernel
theorem dX6_leastAt_58 : decode cX6_leastAt 58 = .ok (.ireturn, 1) := by decide +kernel
theorem dX6_needs_0 : decode cX6_needs 0 = .ok (.aload_n 0, 1) := by decide +kernel
theorem dX6_needs_1 : decode cX6_needs 1 = .ok (.bipush 93, 2) := by decide +kernel
theorem dX6_needs_3 : decode cX6_needs 3 = .ok (.iconst 4, 1) := by decide +kernel
theorem dX6_needs_4 : decode cX6_needs 4 = .ok (.invokevirtual 193, 3) := by decide +kernel
theorem dX6_needs_7 : decode cX6_needs 7 = .ok (.ireturn, 1) := by decide +kernel
theorem dX6_room_0 : decode cX6_room 0 = .ok (.iload_n 1, 1) := by decide +kernel
theorem dX6_room_1 : decode cX6_room 1 = .ok (.invokestatic 111, 3) := by decide +kernel
theorem dX6_room_4 : decode cX6_room 4 = .ok (.ifCond .eq 15, 3) := by decide +kernel
theorem dX6_room_7 : decode cX6_room 7 = .ok (.aload_n 0, 1) := by decide +kernel
theorem dX6_room_8 : decode cX6_room 8 = .ok (.iconst 0, 1) := by decide +kernel
theorem dX6_room_9 : decode cX6_room 9 = .ok (.iload_n 1, 1) := by decide +kernel
theorem dX6_room_10 : decode cX6_room 10 = .ok (.iadd, 1) := by decide +kernel
theorem dX6_room_11 : decode cX6_room 11 = .ok (.bipush 40, 2) := by decide +kernel
theorem dX6_room_13 : decode cX6_room 13 = .ok (.invokevirtual 193, 3) := by decide +kernel
theorem dX6_room_16 : decode cX6_room 16 = .ok (.goto 5, 3) := by decide +kernel
theorem dX6_room_19 : decode cX6_room 19 = .ok (.bipush (-2), 2) := by decide +kernel
theorem dX6_room_21 : decode cX6_room 21 = .ok (.ireturn, 1) := by decide +kernel
theorem dX6_without_0 : decode cX6_without 0 = .ok (.iload_n 1, 1) := by decide +kernel
theorem dX6_without_1 : decode cX6_without 1 = .ok (.invokestatic 111, 3) := by decide +kernel
theorem dX6_without_4 : decode cX6_without 4 = .ok (.ifCond .ne 6, 3) := by decide +kernel
theorem dX6_without_7 : decode cX6_without 7 = .ok (.bipush (-2), 2) := by decide +kernel
theorem dX6_without_9 : decode cX6_without 9 = .ok (.ireturn, 1) := by decide +kernel
theorem dX6_without_10 : decode cX6_without 10 = .ok (.aload_n 0, 1) := by decide +kernel
theorem dX6_without_11 : decode cX6_without 11 = .ok (.iload_n 1, 1) := by decide +kernel
theorem dX6_without_12 : decode cX6_without 12 = .ok (.putfield 65, 3) := by decide +kernel
theorem dX6_without_15 : decode cX6_without 15 = .ok (.aload_n 0, 1) := by decide +kernel
theorem dX6_without_16 : decode cX6_without 16 = .ok (.invokevirtual 181, 3) := by decide +kernel
theorem dX6_without_19 : decode cX6_without 19 = .ok (.istore_n 2, 1) := by decide +kernel
theorem dX6_without_20 : decode cX6_without 20 = .ok (.aload_n 0, 1) := by decide +kernel
theorem dX6_without_21 : decode cX6_without 21 = .ok (.bipush (-6), 2) := by decide +kernel
theorem dX6_without_23 : decode cX6_without 23 = .ok (.putfield 65, 3) := by decide +kernel
theorem dX6_without_26 : decode cX6_without 26 = .ok (.iload_n 2, 1) := by decide +kernel
theorem dX6_without_27 : decode cX6_without 27 = .ok (.ireturn, 1) := by decide +kernel
theorem dX6_image_0 : decode cX6_image 0 = .ok (.iload_n 1, 1) := by decide +kernel
theorem dX6_image_1 : decode cX6_image 1 = .ok (.iconst 0, 1) := by decide +kernel
theorem dX6_image_2 : decode cX6_image 2 = .ok (.iconst 1, 1) := by decide +kernel
theorem dX6_image_3 : decode cX6_image 3 = .ok (.invokestatic 69, 3) := by decide +kernel
theorem dX6_image_6 : decode cX6_image 6 = .ok (.ifCond .ne 6, 3) := by decide +kernel
theorem dX6_image_9 : decode cX6_image 9 = .ok (.bipush (-2), 2) := by decide +kernel
theorem dX6_image_11 : decode cX6_image 11 = .ok (.ireturn, 1) := by decide +kernel
theorem dX6_image_12 : decode cX6_image 12 = .ok (.iconst 0, 1) := by decide +kernel
theorem dX6_image_13 : decode cX6_image 13 = .ok (.istore_n 2, 1) := by decide +kernel
theorem dX6_image_14 : decode cX6_image 14 = .ok (.iload_n 2, 1) := by decide +kernel
theorem dX6_image_15 : decode cX6_image 15 = .ok (.bipush 94, 2) := by decide +kernel
theorem dX6_image_17 : decode cX6_image 17 = .ok (.if_icmp .ge 26, 3) := by decide +kernel
theorem dX6_image_20 : decode cX6_image 20 = .ok (.aload_n 0, 1) := by decide +kernel
theorem dX6_image_21 : decode cX6_image 21 = .ok (.getfield 13, 3) := by decide +kernel
theorem dX6_image_24 : decode cX6_image 24 = .ok (.bipush 95, 2) := by decide +kernel
theorem dX6_image_26 : decode cX6_image 26 = .ok (.iload_n 1, 1) := by decide +kernel
theorem dX6_image_27 : decode cX6_image 27 = .ok (.imul, 1) := by decide +kernel
theorem dX6_image_28 : decode cX6_image 28 = .ok (.iload_n 2, 1) := by decide +kernel
theorem dX6_image_29 : decode cX6_image 29 = .ok (.iadd, 1) := by decide +kernel
theorem dX6_image_30 : decode cX6_image 30 = .ok (.aload_n 0, 1) := by decide +kernel
theorem dX6_image_31 : decode cX6_image 31 = .ok (.getfield 7, 3) := by decide +kernel
theorem dX6_image_34 : decode cX6_image 34 = .ok (.iload_n 2, 1) := by decide +kernel
theorem dX6_image_35 : decode cX6_image 35 = .ok (.iaload, 1) := by decide +kernel
theorem dX6_image_36 : decode cX6_image 36 = .ok (.iastore, 1) := by decide +kernel
theorem dX6_image_37 : decode cX6_image 37 = .ok (.iinc 2 1, 3) := by decide +kernel
theorem dX6_image_40 : decode cX6_image 40 = .ok (.goto (-26), 3) := by decide +kernel
theorem dX6_image_43 : decode cX6_image 43 = .ok (.aload_n 0, 1) := by decide +kernel
theorem dX6_image_44 : decode cX6_image 44 = .ok (.getfield 16, 3) := by decide +kernel
theorem dX6_image_47 : decode cX6_image 47 = .ok (.iload_n 1, 1) := by decide +kernel
theorem dX6_image_48 : decode cX6_image 48 = .ok (.iconst 1, 1) := by decide +kernel
theorem dX6_image_49 : decode cX6_image 49 = .ok (.bastore, 1) := by decide +kernel
theorem dX6_image_50 : decode cX6_image 50 = .ok (.iconst 1, 1) := by decide +kernel
theorem dX6_image_51 : decode cX6_image 51 = .ok (.ireturn, 1) := by decide +kernel
theorem dX6_restore_0 : decode cX6_restore 0 = .ok (.iload_n 1, 1) := by decide +kernel
theorem dX6_restore_1 : decode cX6_restore 1 = .ok (.iconst 0, 1) := by decide +kernel
theorem dX6_restore_2 : decode cX6_restore 2 = .ok (.iconst 1, 1) := by decide +kernel
theorem dX6_restore_3 : decode cX6_restore 3 = .ok (.invokestatic 69, 3) := by decide +kernel
theorem dX6_restore_6 : decode cX6_restore 6 = .ok (.ifCond .ne 6, 3) := by decide +kernel
theorem dX6_restore_9 : decode cX6_restore 9 = .ok (.bipush (-2), 2) := by decide +kernel
theorem dX6_restore_11 : decode cX6_restore 11 = .ok (.ireturn, 1) := by decide +kernel
theorem dX6_restore_12 : decode cX6_restore 12 = .ok (.aload_n 0, 1) := by decide +kernel
theorem dX6_restore_13 : decode cX6_restore 13 = .ok (.getfield 16, 3) := by decide +kernel
theorem dX6_restore_16 : decode cX6_restore 16 = .ok (.iload_n 1, 1) := by decide +kernel
theorem dX6_restore_17 : decode cX6_restore 17 = .ok (.baload, 1) := by decide +kernel
theorem dX6_restore_18 : decode cX6_restore 18 = .ok (.ifCond .ne 6, 3) := by decide +kernel
theorem dX6_restore_21 : decode cX6_restore 21 = .ok (.bipush (-3), 2) := by decide +kernel
theorem dX6_restore_23 : decode cX6_restore 23 = .ok (.ireturn, 1) := by decide +kernel
theorem dX6_restore_24 : decode cX6_restore 24 = .ok (.iconst 0, 1) := by decide +kernel
theorem dX6_restore_25 : decode cX6_restore 25 = .ok (.istore_n 2, 1) := by decide +kernel
theorem dX6_restore_26 : decode cX6_restore 26 = .ok (.iload_n 2, 1) := by decide +kernel
theorem dX6_restore_27 : decode cX6_restore 27 = .ok (.bipush 94, 2) := by decide +kernel
theorem dX6_restore_29 : decode cX6_restore 29 = .ok (.if_icmp .ge 26, 3) := by decide +kernel
theorem dX6_restore_32 : decode cX6_restore 32 = .ok (.aload_n 0, 1) := by decide +kernel
theorem dX6_restore_33 : decode cX6_restore 33 = .ok (.getfield 7, 3) := by decide +kernel
theorem dX6_restore_36 : decode cX6_restore 36 = .ok (.iload_n 2, 1) := by decide +kernel
theorem dX6_restore_37 : decode cX6_restore 37 = .ok (.aload_n 0, 1) := by decide +kernel
theorem dX6_restore_38 : decode cX6_restore 38 = .ok (.getfield 13, 3) := by decide +kernel
theorem dX6_restore_41 : decode cX6_restore 41 = .ok (.bipush 95, 2) := by decide +kernel
theorem dX6_restore_43 : decode cX6_restore 43 = .ok (.iload_n 1, 1) := by decide +kernel
theorem dX6_restore_44 : decode cX6_restore 44 = .ok (.imul, 1) := by decide +kernel
theorem dX6_restore_45 : decode cX6_restore 45 = .ok (.iload_n 2, 1) := by decide +kernel
theorem dX6_restore_46 : decode cX6_restore 46 = .ok (.iadd, 1) := by decide +kernel
theorem dX6_restore_47 : decode cX6_restore 47 = .ok (.iaload, 1) := by decide +kernel
theorem dX6_restore_48 : decode cX6_restore 48 = .ok (.iastore, 1) := by decide +kernel
theorem dX6_restore_49 : decode cX6_restore 49 = .ok (.iinc 2 1, 3) := by decide +kernel
theorem dX6_restore_52 : decode cX6_restore 52 = .ok (.goto (-26), 3) := by decide +kernel
theorem dX6_restore_55 : decode cX6_restore 55 = .ok (.iconst 1, 1) := by decide +kernel
theorem dX6_restore_56 : decode cX6_restore 56 = .ok (.ireturn, 1) := by decide +kernel
theorem dX6_count_0 : decode cX6_count 0 = .ok (.iload_n 1, 1) := by decide +kernel
theorem dX6_count_1 : decode cX6_count 1 = .ok (.tableswitch 103 0 5 #[39, 47, 55, 60, 65, 73], 39) := by decide +kernel
theorem dX6_count_40 : decode cX6_count 40 = .ok (.aload_n 0, 1) := by decide +kernel
theorem dX6_count_41 : decode cX6_count 41 = .ok (.getfield 7, 3) := by decide +kernel
theorem dX6_count_44 : decode cX6_count 44 = .ok (.bipush 93, 2) := by decide +kernel
theorem dX6_count_46 : decode cX6_count 46 = .ok (.iaload, 1) := by decide +kernel
theorem dX6_count_47 : decode cX6_count 47 = .ok (.ireturn, 1) := by decide +kernel
theorem dX6_count_48 : decode cX6_count 48 = .ok (.aload_n 0, 1) := by decide +kernel
theorem dX6_count_49 : decode cX6_count 49 = .ok (.getfield 7, 3) := by decide +kernel
theorem dX6_count_52 : decode cX6_count 52 = .ok (.bipush 92, 2) := by decide +kernel
theorem dX6_count_54 : decode cX6_count 54 = .ok (.iaload, 1) := by decide +kernel
theorem dX6_count_55 : decode cX6_count 55 = .ok (.ireturn, 1) := by decide +kernel
theorem dX6_count_56 : decode cX6_count 56 = .ok (.aload_n 0, 1) := by decide +kernel
theorem dX6_count_57 : decode cX6_count 57 = .ok (.invokevirtual 184, 3) := by decide +kernel
theorem dX6_count_60 : decode cX6_count 60 = .ok (.ireturn, 1) := by decide +kernel
theorem dX6_count_61 : decode cX6_count 61 = .ok (.aload_n 0, 1) := by decide +kernel
theorem dX6_count_62 : decode cX6_count 62 = .ok (.getfield 73, 3) := by decide +kernel
theorem dX6_count_65 : decode cX6_count 65 = .ok (.ireturn, 1) := by decide +kernel
theorem dX6_count_66 : decode cX6_count 66 = .ok (.aload_n 0, 1) := by decide +kernel
theorem dX6_count_67 : decode cX6_count 67 = .ok (.getfield 7, 3) := by decide +kernel
theorem dX6_count_70 : decode cX6_count 70 = .ok (.bipush 94, 2) := by decide +kernel
theorem dX6_count_72 : decode cX6_count 72 = .ok (.iaload, 1) := by decide +kernel
theorem dX6_count_73 : decode cX6_count 73 = .ok (.ireturn, 1) := by decide +kernel
theorem dX6_count_74 : decode cX6_count 74 = .ok (.aload_n 0, 1) := by decide +kernel
theorem dX6_count_75 : decode cX6_count 75 = .ok (.getfield 16, 3) := by decide +kernel
theorem dX6_count_78 : decode cX6_count 78 = .ok (.iconst 0, 1) := by decide +kernel
theorem dX6_count_79 : decode cX6_count 79 = .ok (.baload, 1) := by decide +kernel
theorem dX6_count_80 : decode cX6_count 80 = .ok (.ifCond .eq 7, 3) := by decide +kernel
theorem dX6_count_83 : decode cX6_count 83 = .ok (.iconst 1, 1) := by decide +kernel
theorem dX6_count_84 : decode cX6_count 84 = .ok (.goto 4, 3) := by decide +kernel
theorem dX6_count_87 : decode cX6_count 87 = .ok (.iconst 0, 1) := by decide +kernel
theorem dX6_count_88 : decode cX6_count 88 = .ok (.aload_n 0, 1) := by decide +kernel
theorem dX6_count_89 : decode cX6_count 89 = .ok (.getfield 16, 3) := by decide +kernel
theorem dX6_count_92 : decode cX6_count 92 = .ok (.iconst 1, 1) := by decide +kernel
theorem dX6_count_93 : decode cX6_count 93 = .ok (.baload, 1) := by decide +kernel
theorem dX6_count_94 : decode cX6_count 94 = .ok (.ifCond .eq 7, 3) := by decide +kernel
theorem dX6_count_97 : decode cX6_count 97 = .ok (.iconst 2, 1) := by decide +kernel
theorem dX6_count_98 : decode cX6_count 98 = .ok (.goto 4, 3) := by decide +kernel
theorem dX6_count_101 : decode cX6_count 101 = .ok (.iconst 0, 1) := by decide +kernel
theorem dX6_count_102 : decode cX6_count 102 = .ok (.iadd, 1) := by decide +kernel
theorem dX6_count_103 : decode cX6_count 103 = .ok (.ireturn, 1) := by decide +kernel
theorem dX6_count_104 : decode cX6_count 104 = .ok (.bipush (-2), 2) := by decide +kernel
theorem dX6_count_106 : decode cX6_count 106 = .ok (.ireturn, 1) := by decide +kernel
end
section
/-! decode rows -/
theorem dJ5_init_d00df_0 : decode cJ5_init_d00df 0 = .ok (.aload_n 0, 1) := by decide +kernel
theorem dJ5_init_d00df_1 : decode cJ5_init_d00df 1 = .ok (.invokespecial 3, 3) := by decide +kernel
theorem dJ5_init_d00df_4 : decode cJ5_init_d00df 4 = .ok (.getstatic 18, 3) := by decide +kernel
theorem dJ5_init_d00df_7 : decode cJ5_init_d00df 7 = .ok (.ifCond .eq 18, 3) := by decide +kernel
theorem dJ5_init_d00df_10 : decode cJ5_init_d00df 10 = .ok (.aload_n 0, 1) := by decide +kernel
theorem dJ5_init_d00df_11 : decode cJ5_init_d00df 11 = .ok (.iload_n 1, 1) := by decide +kernel
theorem dJ5_init_d00df_12 : decode cJ5_init_d00df 12 = .ok (.newarray .byte, 2) := by decide +kernel
theorem dJ5_init_d00df_14 : decode cJ5_init_d00df 14 = .ok (.putfield 15, 3) := by decide +kernel
theorem dJ5_init_d00df_17 : decode cJ5_init_d00df 17 = .ok (.aload_n 0, 1) := by decide +kernel
theorem dJ5_init_d00df_18 : decode cJ5_init_d00df 18 = .ok (.iconst 0, 1) := by decide +kernel
theorem dJ5_init_d00df_19 : decode cJ5_init_d00df 19 = .ok (.putfield 22, 3) := by decide +kernel
theorem dJ5_init_d00df_22 : decode cJ5_init_d00df 22 = .ok (.goto 16, 3) := by decide +kernel
theorem dJ5_init_d00df_25 : decode cJ5_init_d00df 25 = .ok (.aload_n 0, 1) := by decide +kernel
theorem dJ5_init_d00df_26 : decode cJ5_init_d00df 26 = .ok (.iload_n 1, 1) := by decide +kernel
theorem dJ5_init_d00df_27 : decode cJ5_init_d00df 27 = .ok (.invokestatic 26, 3) := by decide +kernel
theorem dJ5_init_d00df_30 : decode cJ5_init_d00df 30 = .ok (.putfield 15, 3) := by decide +kernel
theorem dJ5_init_d00df_33 : decode cJ5_init_d00df 33 = .ok (.aload_n 0, 1) := by decide +kernel
theorem dJ5_init_d00df_34 : decode cJ5_init_d00df 34 = .ok (.iconst 1, 1) := by decide +kernel
theorem dJ5_init_d00df_35 : decode cJ5_init_d00df 35 = .ok (.putfield 22, 3) := by decide +kernel
theorem dJ5_init_d00df_38 : decode cJ5_init_d00df 38 = .ok (.return_, 1) := by decide +kernel
theorem dJ5_length_8abf5_0 : decode cJ5_length_8abf5 0 = .ok (.aload_n 0, 1) := by decide +kernel
theorem dJ5_length_8abf5_1 : decode cJ5_length_8abf5 1 = .ok (.getfield 79, 3) := by decide +kernel
theorem dJ5_length_8abf5_4 : decode cJ5_length_8abf5 4 = .ok (.ireturn, 1) := by decide +kernel
theorem dJ5_ensureCapacityInternal_d00df_0 : decode cJ5_ensureCapacityInternal_d00df 0 = .ok (.aload_n 0, 1) := by decide +kernel
theorem dJ5_ensureCapacityInternal_d00df_1 : decode cJ5_ensureCapacityInternal_d00df 1 = .ok (.getfield 15, 3) := by decide +kernel
theorem dJ5_ensureCapacityInternal_d00df_4 : decode cJ5_ensureCapacityInternal_d00df 4 = .ok (.arraylength, 1) := by decide +kernel
theorem dJ5_ensureCapacityInternal_d00df_5 : decode cJ5_ensureCapacityInternal_d00df 5 = .ok (.aload_n 0, 1) := by decide +kernel
theorem dJ5_ensureCapacityInternal_d00df_6 : decode cJ5_ensureCapacityInternal_d00df 6 = .ok (.getfield 22, 3) := by decide +kernel
theorem dJ5_ensureCapacityInternal_d00df_9 : decode cJ5_ensureCapacityInternal_d00df 9 = .ok (.ishr, 1) := by decide +kernel
theorem dJ5_ensureCapacityInternal_d00df_10 : decode cJ5_ensureCapacityInternal_d00df 10 = .ok (.istore_n 2, 1) := by decide +kernel
theorem dJ5_ensureCapacityInternal_d00df_11 : decode cJ5_ensureCapacityInternal_d00df 11 = .ok (.iload_n 1, 1) := by decide +kernel
theorem dJ5_ensureCapacityInternal_d00df_12 : decode cJ5_ensureCapacityInternal_d00df 12 = .ok (.iload_n 2, 1) := by decide +kernel
theorem dJ5_ensureCapacityInternal_d00df_13 : decode cJ5_ensureCapacityInternal_d00df 13 = .ok (.isub, 1) := by decide +kernel
theorem dJ5_ensureCapacityInternal_d00df_14 : decode cJ5_ensureCapacityInternal_d00df 14 = .ok (.ifCond .le 24, 3) := by decide +kernel
theorem dJ5_ensureCapacityInternal_d00df_17 : decode cJ5_ensureCapacityInternal_d00df 17 = .ok (.aload_n 0, 1) := by decide +kernel
theorem dJ5_ensureCapacityInternal_d00df_18 : decode cJ5_ensureCapacityInternal_d00df 18 = .ok (.aload_n 0, 1) := by decide +kernel
theorem dJ5_ensureCapacityInternal_d00df_19 : decode cJ5_ensureCapacityInternal_d00df 19 = .ok (.getfield 15, 3) := by decide +kernel
theorem dJ5_ensureCapacityInternal_d00df_22 : decode cJ5_ensureCapacityInternal_d00df 22 = .ok (.aload_n 0, 1) := by decide +kernel
theorem dJ5_ensureCapacityInternal_d00df_23 : decode cJ5_ensureCapacityInternal_d00df 23 = .ok (.iload_n 1, 1) := by decide +kernel
theorem dJ5_ensureCapacityInternal_d00df_24 : decode cJ5_ensureCapacityInternal_d00df 24 = .ok (.invokevirtual 104, 3) := by decide +kernel
theorem dJ5_ensureCapacityInternal_d00df_27 : decode cJ5_ensureCapacityInternal_d00df 27 = .ok (.aload_n 0, 1) := by decide +kernel
theorem dJ5_ensureCapacityInternal_d00df_28 : decode cJ5_ensureCapacityInternal_d00df 28 = .ok (.getfield 22, 3) := by decide +kernel
theorem dJ5_ensureCapacityInternal_d00df_31 : decode cJ5_ensureCapacityInternal_d00df 31 = .ok (.ishl, 1) := by decide +kernel
theorem dJ5_ensureCapacityInternal_d00df_32 : decode cJ5_ensureCapacityInternal_d00df 32 = .ok (.invokestatic 108, 3) := by decide +kernel
theorem dJ5_ensureCapacityInternal_d00df_35 : decode cJ5_ensureCapacityInternal_d00df 35 = .ok (.putfield 15, 3) := by decide +kernel
theorem dJ5_ensureCapacityInternal_d00df_38 : decode cJ5_ensureCapacityInternal_d00df 38 = .ok (.return_, 1) := by decide +kernel
theorem dJ5_newCapacity_0f7a4_0 : decode cJ5_newCapacity_0f7a4 0 = .ok (.aload_n 0, 1) := by decide +kernel
theorem dJ5_newCapacity_0f7a4_1 : decode cJ5_newCapacity_0f7a4 1 = .ok (.getfield 15, 3) := by decide +kernel
theorem dJ5_newCapacity_0f7a4_4 : decode cJ5_newCapacity_0f7a4 4 = .ok (.arraylength, 1) := by decide +kernel
theorem dJ5_newCapacity_0f7a4_5 : decode cJ5_newCapacity_0f7a4 5 = .ok (.istore_n 2, 1) := by decide +kernel
theorem dJ5_newCapacity_0f7a4_6 : decode cJ5_newCapacity_0f7a4 6 = .ok (.iload_n 1, 1) := by decide +kernel
theorem dJ5_newCapacity_0f7a4_7 : decode cJ5_newCapacity_0f7a4 7 = .ok (.aload_n 0, 1) := by decide +kernel
theorem dJ5_newCapacity_0f7a4_8 : decode cJ5_newCapacity_0f7a4 8 = .ok (.getfield 22, 3) := by decide +kernel
theorem dJ5_newCapacity_0f7a4_11 : decode cJ5_newCapacity_0f7a4 11 = .ok (.ishl, 1) := by decide +kernel
theorem dJ5_newCapacity_0f7a4_12 : decode cJ5_newCapacity_0f7a4 12 = .ok (.istore_n 3, 1) := by decide +kernel
theorem dJ5_newCapacity_0f7a4_13 : decode cJ5_newCapacity_0f7a4 13 = .ok (.iload_n 3, 1) := by decide +kernel
theorem dJ5_newCapacity_0f7a4_14 : decode cJ5_newCapacity_0f7a4 14 = .ok (.iload_n 2, 1) := by decide +kernel
theorem dJ5_newCapacity_0f7a4_15 : decode cJ5_newCapacity_0f7a4 15 = .ok (.isub, 1) := by decide +kernel
theorem dJ5_newCapacity_0f7a4_16 : decode cJ5_newCapacity_0f7a4 16 = .ok (.istore 4, 2) := by decide +kernel
theorem dJ5_newCapacity_0f7a4_18 : decode cJ5_newCapacity_0f7a4 18 = .ok (.iload_n 2, 1) := by decide +kernel
theorem dJ5_newCapacity_0f7a4_19 : decode cJ5_newCapacity_0f7a4 19 = .ok (.iload 4, 2) := by decide +kernel
theorem dJ5_newCapacity_0f7a4_21 : decode cJ5_newCapacity_0f7a4 21 = .ok (.iload_n 2, 1) := by decide +kernel
theorem dJ5_newCapacity_0f7a4_22 : decode cJ5_newCapacity_0f7a4 22 = .ok (.iconst 2, 1) := by decide +kernel
theorem dJ5_newCapacity_0f7a4_23 : decode cJ5_newCapacity_0f7a4 23 = .ok (.aload_n 0, 1) := by decide +kernel
theorem dJ5_newCapacity_0f7a4_24 : decode cJ5_newCapacity_0f7a4 24 = .ok (.getfield 22, 3) := by decide +kernel
theorem dJ5_newCapacity_0f7a4_27 : decode cJ5_newCapacity_0f7a4 27 = .ok (.ishl, 1) := by decide +kernel
theorem dJ5_newCapacity_0f7a4_28 : decode cJ5_newCapacity_0f7a4 28 = .ok (.iadd, 1) := by decide +kernel
theorem dJ5_newCapacity_0f7a4_29 : decode cJ5_newCapacity_0f7a4 29 = .ok (.invokestatic 114, 3) := by decide +kernel
theorem dJ5_newCapacity_0f7a4_32 : decode cJ5_newCapacity_0f7a4 32 = .ok (.istore 5, 2) := by decide +kernel
theorem dJ5_newCapacity_0f7a4_34 : decode cJ5_newCapacity_0f7a4 34 = .ok (.iload 5, 2) := by decide +kernel
theorem dJ5_newCapacity_0f7a4_36 : decode cJ5_newCapacity_0f7a4 36 = .ok (.ldc 39, 2) := by decide +kernel
theorem dJ5_newCapacity_0f7a4_38 : decode cJ5_newCapacity_0f7a4 38 = .ok (.if_icmp .ne 13, 3) := by decide +kernel
theorem dJ5_newCapacity_0f7a4_41 : decode cJ5_newCapacity_0f7a4 41 = .ok (.new 120, 3) := by decide +kernel
theorem dJ5_newCapacity_0f7a4_44 : decode cJ5_newCapacity_0f7a4 44 = .ok (.dup, 1) := by decide +kernel
theorem dJ5_newCapacity_0f7a4_45 : decode cJ5_newCapacity_0f7a4 45 = .ok (.ldc 122, 2) := by decide +kernel
theorem dJ5_newCapacity_0f7a4_47 : decode cJ5_newCapacity_0f7a4 47 = .ok (.invokespecial 124, 3) := by decide +kernel
theorem dJ5_newCapacity_0f7a4_50 : decode cJ5_newCapacity_0f7a4 50 = .ok (.athrow, 1) := by decide +kernel
theorem dJ5_newCapacity_0f7a4_51 : decode cJ5_newCapacity_0f7a4 51 = .ok (.iload 5, 2) := by decide +kernel
theorem dJ5_newCapacity_0f7a4_53 : decode cJ5_newCapacity_0f7a4 53 = .ok (.aload_n 0, 1) := by decide +kernel
theorem dJ5_newCapacity_0f7a4_54 : decode cJ5_newCapacity_0f7a4 54 = .ok (.getfield 22, 3) := by decide +kernel
theorem dJ5_newCapacity_0f7a4_57 : decode cJ5_newCapacity_0f7a4 57 = .ok (.ishr, 1) := by decide +kernel
theorem dJ5_newCapacity_0f7a4_58 : decode cJ5_newCapacity_0f7a4 58 = .ok (.ireturn, 1) := by decide +kernel
theorem dJ5_inflate_da8c8_0 : decode cJ5_inflate_da8c8 0 = .ok (.aload_n 0, 1) := by decide +kernel
theorem dJ5_inflate_da8c8_1 : decode cJ5_inflate_da8c8 1 = .ok (.invokevirtual 83, 3) := by decide +kernel
theorem dJ5_inflate_da8c8_4 : decode cJ5_inflate_da8c8 4 = .ok (.ifCond .ne 4, 3) := by decide +kernel
theorem dJ5_inflate_da8c8_7 : decode cJ5_inflate_da8c8 7 = .ok (.return_, 1) := by decide +kernel
theorem dJ5_inflate_da8c8_8 : decode cJ5_inflate_da8c8 8 = .ok (.aload_n 0, 1) := by decide +kernel
theorem dJ5_inflate_da8c8_9 : decode cJ5_inflate_da8c8 9 = .ok (.getfield 15, 3) := by decide +kernel
theorem dJ5_inflate_da8c8_12 : decode cJ5_inflate_da8c8 12 = .ok (.arraylength, 1) := by decide +kernel
theorem dJ5_inflate_da8c8_13 : decode cJ5_inflate_da8c8 13 = .ok (.invokestatic 26, 3) := by decide +kernel
theorem dJ5_inflate_da8c8_16 : decode cJ5_inflate_da8c8 16 = .ok (.astore_n 1, 1) := by decide +kernel
theorem dJ5_inflate_da8c8_17 : decode cJ5_inflate_da8c8 17 = .ok (.aload_n 0, 1) := by decide +kernel
theorem dJ5_inflate_da8c8_18 : decode cJ5_inflate_da8c8 18 = .ok (.getfield 15, 3) := by decide +kernel
theorem dJ5_inflate_da8c8_21 : decode cJ5_inflate_da8c8 21 = .ok (.iconst 0, 1) := by decide +kernel
theorem dJ5_inflate_da8c8_22 : decode cJ5_inflate_da8c8 22 = .ok (.aload_n 1, 1) := by decide +kernel
theorem dJ5_inflate_da8c8_23 : decode cJ5_inflate_da8c8 23 = .ok (.iconst 0, 1) := by decide +kernel
theorem dJ5_inflate_da8c8_24 : decode cJ5_inflate_da8c8 24 = .ok (.aload_n 0, 1) := by decide +kernel
theorem dJ5_inflate_da8c8_25 : decode cJ5_inflate_da8c8 25 = .ok (.getfield 79, 3) := by decide +kernel
theorem dJ5_inflate_da8c8_28 : decode cJ5_inflate_da8c8 28 = .ok (.invokestatic 125, 3) := by decide +kernel
theorem dJ5_inflate_da8c8_31 : decode cJ5_inflate_da8c8 31 = .ok (.aload_n 0, 1) := by decide +kernel
theorem dJ5_inflate_da8c8_32 : decode cJ5_inflate_da8c8 32 = .ok (.aload_n 1, 1) := by decide +kernel
theorem dJ5_inflate_da8c8_33 : decode cJ5_inflate_da8c8 33 = .ok (.putfield 15, 3) := by decide +kernel
theorem dJ5_inflate_da8c8_36 : decode cJ5_inflate_da8c8 36 = .ok (.aload_n 0, 1) := by decide +kernel
theorem dJ5_inflate_da8c8_37 : decode cJ5_inflate_da8c8 37 = .ok (.iconst 1, 1) := by decide +kernel
theorem dJ5_inflate_da8c8_38 : decode cJ5_inflate_da8c8 38 = .ok (.putfield 22, 3) := by decide +kernel
theorem dJ5_inflate_da8c8_41 : decode cJ5_inflate_da8c8 41 = .ok (.return_, 1) := by decide +kernel
theorem dJ5_charAt_5068e_0 : decode cJ5_charAt_5068e 0 = .ok (.aload_n 0, 1) := by decide +kernel
theorem dJ5_charAt_5068e_1 : decode cJ5_charAt_5068e 1 = .ok (.getfield 22, 3) := by decide +kernel
theorem dJ5_charAt_5068e_4 : decode cJ5_charAt_5068e 4 = .ok (.istore_n 2, 1) := by decide +kernel
theorem dJ5_charAt_5068e_5 : decode cJ5_charAt_5068e 5 = .ok (.aload_n 0, 1) := by decide +kernel
theorem dJ5_charAt_5068e_6 : decode cJ5_charAt_5068e 6 = .ok (.getfield 15, 3) := by decide +kernel
theorem dJ5_charAt_5068e_9 : decode cJ5_charAt_5068e 9 = .ok (.astore_n 3, 1) := by decide +kernel
theorem dJ5_charAt_5068e_10 : decode cJ5_charAt_5068e 10 = .ok (.aload_n 0, 1) := by decide +kernel
theorem dJ5_charAt_5068e_11 : decode cJ5_charAt_5068e 11 = .ok (.getfield 79, 3) := by decide +kernel
theorem dJ5_charAt_5068e_14 : decode cJ5_charAt_5068e 14 = .ok (.aload_n 3, 1) := by decide +kernel
theorem dJ5_charAt_5068e_15 : decode cJ5_charAt_5068e 15 = .ok (.arraylength, 1) := by decide +kernel
theorem dJ5_charAt_5068e_16 : decode cJ5_charAt_5068e 16 = .ok (.iload_n 2, 1) := by decide +kernel
theorem dJ5_charAt_5068e_17 : decode cJ5_charAt_5068e 17 = .ok (.ishr, 1) := by decide +kernel
theorem dJ5_charAt_5068e_18 : decode cJ5_charAt_5068e 18 = .ok (.invokestatic 138, 3) := by decide +kernel
theorem dJ5_charAt_5068e_21 : decode cJ5_charAt_5068e 21 = .ok (.istore 4, 2) := by decide +kernel
theorem dJ5_charAt_5068e_23 : decode cJ5_charAt_5068e 23 = .ok (.iload_n 1, 1) := by decide +kernel
theorem dJ5_charAt_5068e_24 : decode cJ5_charAt_5068e 24 = .ok (.iload 4, 2) := by decide +kernel
theorem dJ5_charAt_5068e_26 : decode cJ5_charAt_5068e 26 = .ok (.invokestatic 144, 3) := by decide +kernel
theorem dJ5_charAt_5068e_29 : decode cJ5_charAt_5068e 29 = .ok (.iload_n 2, 1) := by decide +kernel
theorem dJ5_charAt_5068e_30 : decode cJ5_charAt_5068e 30 = .ok (.ifCond .ne 12, 3) := by decide +kernel
theorem dJ5_charAt_5068e_33 : decode cJ5_charAt_5068e 33 = .ok (.aload_n 3, 1) := by decide +kernel
theorem dJ5_charAt_5068e_34 : decode cJ5_charAt_5068e 34 = .ok (.iload_n 1, 1) := by decide +kernel
theorem dJ5_charAt_5068e_35 : decode cJ5_charAt_5068e 35 = .ok (.baload, 1) := by decide +kernel
theorem dJ5_charAt_5068e_36 : decode cJ5_charAt_5068e 36 = .ok (.sipush 255, 3) := by decide +kernel
theorem dJ5_charAt_5068e_39 : decode cJ5_charAt_5068e 39 = .ok (.iand, 1) := by decide +kernel
theorem dJ5_charAt_5068e_40 : decode cJ5_charAt_5068e 40 = .ok (.i2c, 1) := by decide +kernel
theorem dJ5_charAt_5068e_41 : decode cJ5_charAt_5068e 41 = .ok (.ireturn, 1) := by decide +kernel
theorem dJ5_charAt_5068e_42 : decode cJ5_charAt_5068e 42 = .ok (.aload_n 3, 1) := by decide +kernel
theorem dJ5_charAt_5068e_43 : decode cJ5_charAt_5068e 43 = .ok (.iload_n 1, 1) := by decide +kernel
theorem dJ5_charAt_5068e_44 : decode cJ5_charAt_5068e 44 = .ok (.invokestatic 148, 3) := by decide +kernel
theorem dJ5_charAt_5068e_47 : decode cJ5_charAt_5068e 47 = .ok (.ireturn, 1) := by decide +kernel
theorem dJ5_append_cf1ce_0 : decode cJ5_append_cf1ce 0 = .ok (.aload_n 1, 1) := by decide +kernel
theorem dJ5_append_cf1ce_1 : decode cJ5_append_cf1ce 1 = .ok (.ifnonnull 8, 3) := by decide +kernel
theorem dJ5_append_cf1ce_4 : decode cJ5_append_cf1ce 4 = .ok (.aload_n 0, 1) := by decide +kernel
theorem dJ5_append_cf1ce_5 : decode cJ5_append_cf1ce 5 = .ok (.invokevirtual 204, 3) := by decide +kernel
theorem dJ5_append_cf1ce_8 : decode cJ5_append_cf1ce 8 = .ok (.areturn, 1) := by decide +kernel
theorem dJ5_append_cf1ce_9 : decode cJ5_append_cf1ce 9 = .ok (.aload_n 1, 1) := by decide +kernel
theorem dJ5_append_cf1ce_10 : decode cJ5_append_cf1ce 10 = .ok (.invokevirtual 32, 3) := by decide +kernel
theorem dJ5_append_cf1ce_13 : decode cJ5_append_cf1ce 13 = .ok (.istore_n 2, 1) := by decide +kernel
theorem dJ5_append_cf1ce_14 : decode cJ5_append_cf1ce 14 = .ok (.aload_n 0, 1) := by decide +kernel
theorem dJ5_append_cf1ce_15 : decode cJ5_append_cf1ce 15 = .ok (.aload_n 0, 1) := by decide +kernel
theorem dJ5_append_cf1ce_16 : decode cJ5_append_cf1ce 16 = .ok (.getfield 79, 3) := by decide +kernel
theorem dJ5_append_cf1ce_19 : decode cJ5_append_cf1ce 19 = .ok (.iload_n 2, 1) := by decide +kernel
theorem dJ5_append_cf1ce_20 : decode cJ5_append_cf1ce 20 = .ok (.iadd, 1) := by decide +kernel
theorem dJ5_append_cf1ce_21 : decode cJ5_append_cf1ce 21 = .ok (.invokevirtual 100, 3) := by decide +kernel
theorem dJ5_append_cf1ce_24 : decode cJ5_append_cf1ce 24 = .ok (.aload_n 0, 1) := by decide +kernel
theorem dJ5_append_cf1ce_25 : decode cJ5_append_cf1ce 25 = .ok (.aload_n 0, 1) := by decide +kernel
theorem dJ5_append_cf1ce_26 : decode cJ5_append_cf1ce 26 = .ok (.getfield 79, 3) := by decide +kernel
theorem dJ5_append_cf1ce_29 : decode cJ5_append_cf1ce 29 = .ok (.aload_n 1, 1) := by decide +kernel
theorem dJ5_append_cf1ce_30 : decode cJ5_append_cf1ce 30 = .ok (.invokevirtual 208, 3) := by decide +kernel
theorem dJ5_append_cf1ce_33 : decode cJ5_append_cf1ce 33 = .ok (.aload_n 0, 1) := by decide +kernel
theorem dJ5_append_cf1ce_34 : decode cJ5_append_cf1ce 34 = .ok (.dup, 1) := by decide +kernel
theorem dJ5_append_cf1ce_35 : decode cJ5_append_cf1ce 35 = .ok (.getfield 79, 3) := by decide +kernel
theorem dJ5_append_cf1ce_38 : decode cJ5_append_cf1ce 38 = .ok (.iload_n 2, 1) := by decide +kernel
theorem dJ5_append_cf1ce_39 : decode cJ5_append_cf1ce 39 = .ok (.iadd, 1) := by decide +kernel
theorem dJ5_append_cf1ce_40 : decode cJ5_append_cf1ce 40 = .ok (.putfield 79, 3) := by decide +kernel
theorem dJ5_append_cf1ce_43 : decode cJ5_append_cf1ce 43 = .ok (.aload_n 0, 1) := by decide +kernel
theorem dJ5_append_cf1ce_44 : decode cJ5_append_cf1ce 44 = .ok (.areturn, 1) := by decide +kernel
theorem dJ5_appendNull_278bc_0 : decode cJ5_appendNull_278bc 0 = .ok (.aload_n 0, 1) := by decide +kernel
theorem dJ5_appendNull_278bc_1 : decode cJ5_appendNull_278bc 1 = .ok (.aload_n 0, 1) := by decide +kernel
theorem dJ5_appendNull_278bc_2 : decode cJ5_appendNull_278bc 2 = .ok (.getfield 79, 3) := by decide +kernel
theorem dJ5_appendNull_278bc_5 : decode cJ5_appendNull_278bc 5 = .ok (.iconst 4, 1) := by decide +kernel
theorem dJ5_appendNull_278bc_6 : decode cJ5_appendNull_278bc 6 = .ok (.iadd, 1) := by decide +kernel
theorem dJ5_appendNull_278bc_7 : decode cJ5_appendNull_278bc 7 = .ok (.invokevirtual 100, 3) := by decide +kernel
theorem dJ5_appendNull_278bc_10 : decode cJ5_appendNull_278bc 10 = .ok (.aload_n 0, 1) := by decide +kernel
theorem dJ5_appendNull_278bc_11 : decode cJ5_appendNull_278bc 11 = .ok (.getfield 79, 3) := by decide +kernel
theorem dJ5_appendNull_278bc_14 : decode cJ5_appendNull_278bc 14 = .ok (.istore_n 1, 1) := by decide +kernel
theorem dJ5_appendNull_278bc_15 : decode cJ5_appendNull_278bc 15 = .ok (.aload_n 0, 1) := by decide +kernel
theorem dJ5_appendNull_278bc_16 : decode cJ5_appendNull_278bc 16 = .ok (.getfield 15, 3) := by decide +kernel
theorem dJ5_appendNull_278bc_19 : decode cJ5_appendNull_278bc 19 = .ok (.astore_n 2, 1) := by decide +kernel
theorem dJ5_appendNull_278bc_20 : decode cJ5_appendNull_278bc 20 = .ok (.aload_n 0, 1) := by decide +kernel
theorem dJ5_appendNull_278bc_21 : decode cJ5_appendNull_278bc 21 = .ok (.invokevirtual 83, 3) := by decide +kernel
theorem dJ5_appendNull_278bc_24 : decode cJ5_appendNull_278bc 24 = .ok (.ifCond .eq 38, 3) := by decide +kernel
theorem dJ5_appendNull_278bc_27 : decode cJ5_appendNull_278bc 27 = .ok (.aload_n 2, 1) := by decide +kernel
theorem dJ5_appendNull_278bc_28 : decode cJ5_appendNull_278bc 28 = .ok (.iload_n 1, 1) := by decide +kernel
theorem dJ5_appendNull_278bc_29 : decode cJ5_appendNull_278bc 29 = .ok (.iinc 1 1, 3) := by decide +kernel
theorem dJ5_appendNull_278bc_32 : decode cJ5_appendNull_278bc 32 = .ok (.bipush 110, 2) := by decide +kernel
theorem dJ5_appendNull_278bc_34 : decode cJ5_appendNull_278bc 34 = .ok (.bastore, 1) := by decide +kernel
theorem dJ5_appendNull_278bc_35 : decode cJ5_appendNull_278bc 35 = .ok (.aload_n 2, 1) := by decide +kernel
theorem dJ5_appendNull_278bc_36 : decode cJ5_appendNull_278bc 36 = .ok (.iload_n 1, 1) := by decide +kernel
theorem dJ5_appendNull_278bc_37 : decode cJ5_appendNull_278bc 37 = .ok (.iinc 1 1, 3) := by decide +kernel
theorem dJ5_appendNull_278bc_40 : decode cJ5_appendNull_278bc 40 = .ok (.bipush 117, 2) := by decide +kernel
theorem dJ5_appendNull_278bc_42 : decode cJ5_appendNull_278bc 42 = .ok (.bastore, 1) := by decide +kernel
theorem dJ5_appendNull_278bc_43 : decode cJ5_appendNull_278bc 43 = .ok (.aload_n 2, 1) := by decide +kernel
theorem dJ5_appendNull_278bc_44 : decode cJ5_appendNull_278bc 44 = .ok (.iload_n 1, 1) := by decide +kernel
theorem dJ5_appendNull_278bc_45 : decode cJ5_appendNull_278bc 45 = .ok (.iinc 1 1, 3) := by decide +kernel
theorem dJ5_appendNull_278bc_48 : decode cJ5_appendNull_278bc 48 = .ok (.bipush 108, 2) := by decide +kernel
theorem dJ5_appendNull_278bc_50 : decode cJ5_appendNull_278bc 50 = .ok (.bastore, 1) := by decide +kernel
theorem dJ5_appendNull_278bc_51 : decode cJ5_appendNull_278bc 51 = .ok (.aload_n 2, 1) := by decide +kernel
theorem dJ5_appendNull_278bc_52 : decode cJ5_appendNull_278bc 52 = .ok (.iload_n 1, 1) := by decide +kernel
theorem dJ5_appendNull_278bc_53 : decode cJ5_appendNull_278bc 53 = .ok (.iinc 1 1, 3) := by decide +kernel
theorem dJ5_appendNull_278bc_56 : decode cJ5_appendNull_278bc 56 = .ok (.bipush 108, 2) := by decide +kernel
theorem dJ5_appendNull_278bc_58 : decode cJ5_appendNull_278bc 58 = .ok (.bastore, 1) := by decide +kernel
theorem dJ5_appendNull_278bc_59 : decode cJ5_appendNull_278bc 59 = .ok (.goto 17, 3) := by decide +kernel
theorem dJ5_appendNull_278bc_62 : decode cJ5_appendNull_278bc 62 = .ok (.aload_n 2, 1) := by decide +kernel
theorem dJ5_appendNull_278bc_63 : decode cJ5_appendNull_278bc 63 = .ok (.iload_n 1, 1) := by decide +kernel
theorem dJ5_appendNull_278bc_64 : decode cJ5_appendNull_278bc 64 = .ok (.bipush 110, 2) := by decide +kernel
theorem dJ5_appendNull_278bc_66 : decode cJ5_appendNull_278bc 66 = .ok (.bipush 117, 2) := by decide +kernel
theorem dJ5_appendNull_278bc_68 : decode cJ5_appendNull_278bc 68 = .ok (.bipush 108, 2) := by decide +kernel
theorem dJ5_appendNull_278bc_70 : decode cJ5_appendNull_278bc 70 = .ok (.bipush 108, 2) := by decide +kernel
theorem dJ5_appendNull_278bc_72 : decode cJ5_appendNull_278bc 72 = .ok (.invokestatic 226, 3) := by decide +kernel
theorem dJ5_appendNull_278bc_75 : decode cJ5_appendNull_278bc 75 = .ok (.istore_n 1, 1) := by decide +kernel
theorem dJ5_appendNull_278bc_76 : decode cJ5_appendNull_278bc 76 = .ok (.aload_n 0, 1) := by decide +kernel
theorem dJ5_appendNull_278bc_77 : decode cJ5_appendNull_278bc 77 = .ok (.iload_n 1, 1) := by decide +kernel
theorem dJ5_appendNull_278bc_78 : decode cJ5_appendNull_278bc 78 = .ok (.putfield 79, 3) := by decide +kernel
theorem dJ5_appendNull_278bc_81 : decode cJ5_appendNull_278bc 81 = .ok (.aload_n 0, 1) := by decide +kernel
theorem dJ5_appendNull_278bc_82 : decode cJ5_appendNull_278bc 82 = .ok (.areturn, 1) := by decide +kernel
theorem dJ5_append_3fe6f_0 : decode cJ5_append_3fe6f 0 = .ok (.aload_n 0, 1) := by decide +kernel
theorem dJ5_append_3fe6f_1 : decode cJ5_append_3fe6f 1 = .ok (.aload_n 0, 1) := by decide +kernel
theorem dJ5_append_3fe6f_2 : decode cJ5_append_3fe6f 2 = .ok (.getfield 79, 3) := by decide +kernel
theorem dJ5_append_3fe6f_5 : decode cJ5_append_3fe6f 5 = .ok (.iconst 1, 1) := by decide +kernel
theorem dJ5_append_3fe6f_6 : decode cJ5_append_3fe6f 6 = .ok (.iadd, 1) := by decide +kernel
theorem dJ5_append_3fe6f_7 : decode cJ5_append_3fe6f 7 = .ok (.invokevirtual 100, 3) := by decide +kernel
theorem dJ5_append_3fe6f_10 : decode cJ5_append_3fe6f 10 = .ok (.aload_n 0, 1) := by decide +kernel
theorem dJ5_append_3fe6f_11 : decode cJ5_append_3fe6f 11 = .ok (.invokevirtual 83, 3) := by decide +kernel
theorem dJ5_append_3fe6f_14 : decode cJ5_append_3fe6f 14 = .ok (.ifCond .eq 31, 3) := by decide +kernel
theorem dJ5_append_3fe6f_17 : decode cJ5_append_3fe6f 17 = .ok (.iload_n 1, 1) := by decide +kernel
theorem dJ5_append_3fe6f_18 : decode cJ5_append_3fe6f 18 = .ok (.invokestatic 191, 3) := by decide +kernel
theorem dJ5_append_3fe6f_21 : decode cJ5_append_3fe6f 21 = .ok (.ifCond .eq 24, 3) := by decide +kernel
theorem dJ5_append_3fe6f_24 : decode cJ5_append_3fe6f 24 = .ok (.aload_n 0, 1) := by decide +kernel
theorem dJ5_append_3fe6f_25 : decode cJ5_append_3fe6f 25 = .ok (.getfield 15, 3) := by decide +kernel
theorem dJ5_append_3fe6f_28 : decode cJ5_append_3fe6f 28 = .ok (.aload_n 0, 1) := by decide +kernel
theorem dJ5_append_3fe6f_29 : decode cJ5_append_3fe6f 29 = .ok (.dup, 1) := by decide +kernel
theorem dJ5_append_3fe6f_30 : decode cJ5_append_3fe6f 30 = .ok (.getfield 79, 3) := by decide +kernel
theorem dJ5_append_3fe6f_33 : decode cJ5_append_3fe6f 33 = .ok (.dup_x1, 1) := by decide +kernel
theorem dJ5_append_3fe6f_34 : decode cJ5_append_3fe6f 34 = .ok (.iconst 1, 1) := by decide +kernel
theorem dJ5_append_3fe6f_35 : decode cJ5_append_3fe6f 35 = .ok (.iadd, 1) := by decide +kernel
theorem dJ5_append_3fe6f_36 : decode cJ5_append_3fe6f 36 = .ok (.putfield 79, 3) := by decide +kernel
theorem dJ5_append_3fe6f_39 : decode cJ5_append_3fe6f 39 = .ok (.iload_n 1, 1) := by decide +kernel
theorem dJ5_append_3fe6f_40 : decode cJ5_append_3fe6f 40 = .ok (.i2b, 1) := by decide +kernel
theorem dJ5_append_3fe6f_41 : decode cJ5_append_3fe6f 41 = .ok (.bastore, 1) := by decide +kernel
theorem dJ5_append_3fe6f_42 : decode cJ5_append_3fe6f 42 = .ok (.goto 33, 3) := by decide +kernel
theorem dJ5_append_3fe6f_45 : decode cJ5_append_3fe6f 45 = .ok (.aload_n 0, 1) := by decide +kernel
theorem dJ5_append_3fe6f_46 : decode cJ5_append_3fe6f 46 = .ok (.invokevirtual 83, 3) := by decide +kernel
theorem dJ5_append_3fe6f_49 : decode cJ5_append_3fe6f 49 = .ok (.ifCond .eq 7, 3) := by decide +kernel
theorem dJ5_append_3fe6f_52 : decode cJ5_append_3fe6f 52 = .ok (.aload_n 0, 1) := by decide +kernel
theorem dJ5_append_3fe6f_53 : decode cJ5_append_3fe6f 53 = .ok (.invokevirtual 195, 3) := by decide +kernel
theorem dJ5_append_3fe6f_56 : decode cJ5_append_3fe6f 56 = .ok (.aload_n 0, 1) := by decide +kernel
theorem dJ5_append_3fe6f_57 : decode cJ5_append_3fe6f 57 = .ok (.getfield 15, 3) := by decide +kernel
theorem dJ5_append_3fe6f_60 : decode cJ5_append_3fe6f 60 = .ok (.aload_n 0, 1) := by decide +kernel
theorem dJ5_append_3fe6f_61 : decode cJ5_append_3fe6f 61 = .ok (.dup, 1) := by decide +kernel
theorem dJ5_append_3fe6f_62 : decode cJ5_append_3fe6f 62 = .ok (.getfield 79, 3) := by decide +kernel
theorem dJ5_append_3fe6f_65 : decode cJ5_append_3fe6f 65 = .ok (.dup_x1, 1) := by decide +kernel
theorem dJ5_append_3fe6f_66 : decode cJ5_append_3fe6f 66 = .ok (.iconst 1, 1) := by decide +kernel
theorem dJ5_append_3fe6f_67 : decode cJ5_append_3fe6f 67 = .ok (.iadd, 1) := by decide +kernel
theorem dJ5_append_3fe6f_68 : decode cJ5_append_3fe6f 68 = .ok (.putfield 79, 3) := by decide +kernel
theorem dJ5_append_3fe6f_71 : decode cJ5_append_3fe6f 71 = .ok (.iload_n 1, 1) := by decide +kernel
theorem dJ5_append_3fe6f_72 : decode cJ5_append_3fe6f 72 = .ok (.invokestatic 197, 3) := by decide +kernel
theorem dJ5_append_3fe6f_75 : decode cJ5_append_3fe6f 75 = .ok (.aload_n 0, 1) := by decide +kernel
theorem dJ5_append_3fe6f_76 : decode cJ5_append_3fe6f 76 = .ok (.areturn, 1) := by decide +kernel
theorem dJ5_append_c97b9_0 : decode cJ5_append_c97b9 0 = .ok (.aload_n 0, 1) := by decide +kernel
theorem dJ5_append_c97b9_1 : decode cJ5_append_c97b9 1 = .ok (.getfield 79, 3) := by decide +kernel
theorem dJ5_append_c97b9_4 : decode cJ5_append_c97b9 4 = .ok (.istore_n 2, 1) := by decide +kernel
theorem dJ5_append_c97b9_5 : decode cJ5_append_c97b9 5 = .ok (.iload_n 2, 1) := by decide +kernel
theorem dJ5_append_c97b9_6 : decode cJ5_append_c97b9 6 = .ok (.iload_n 1, 1) := by decide +kernel
theorem dJ5_append_c97b9_7 : decode cJ5_append_c97b9 7 = .ok (.invokestatic 245, 3) := by decide +kernel
theorem dJ5_append_c97b9_10 : decode cJ5_append_c97b9 10 = .ok (.iadd, 1) := by decide +kernel
theorem dJ5_append_c97b9_11 : decode cJ5_append_c97b9 11 = .ok (.istore_n 3, 1) := by decide +kernel
theorem dJ5_append_c97b9_12 : decode cJ5_append_c97b9 12 = .ok (.aload_n 0, 1) := by decide +kernel
theorem dJ5_append_c97b9_13 : decode cJ5_append_c97b9 13 = .ok (.iload_n 3, 1) := by decide +kernel
theorem dJ5_append_c97b9_14 : decode cJ5_append_c97b9 14 = .ok (.invokevirtual 100, 3) := by decide +kernel
theorem dJ5_append_c97b9_17 : decode cJ5_append_c97b9 17 = .ok (.aload_n 0, 1) := by decide +kernel
theorem dJ5_append_c97b9_18 : decode cJ5_append_c97b9 18 = .ok (.invokevirtual 83, 3) := by decide +kernel
theorem dJ5_append_c97b9_21 : decode cJ5_append_c97b9 21 = .ok (.ifCond .eq 16, 3) := by decide +kernel
theorem dJ5_append_c97b9_24 : decode cJ5_append_c97b9 24 = .ok (.iload_n 1, 1) := by decide +kernel
theorem dJ5_append_c97b9_25 : decode cJ5_append_c97b9 25 = .ok (.iload_n 3, 1) := by decide +kernel
theorem dJ5_append_c97b9_26 : decode cJ5_append_c97b9 26 = .ok (.aload_n 0, 1) := by decide +kernel
theorem dJ5_append_c97b9_27 : decode cJ5_append_c97b9 27 = .ok (.getfield 15, 3) := by decide +kernel
theorem dJ5_append_c97b9_30 : decode cJ5_append_c97b9 30 = .ok (.invokestatic 248, 3) := by decide +kernel
theorem dJ5_append_c97b9_33 : decode cJ5_append_c97b9 33 = .ok (.pop, 1) := by decide +kernel
theorem dJ5_append_c97b9_34 : decode cJ5_append_c97b9 34 = .ok (.goto 14, 3) := by decide +kernel
theorem dJ5_append_c97b9_37 : decode cJ5_append_c97b9 37 = .ok (.iload_n 1, 1) := by decide +kernel
theorem dJ5_append_c97b9_38 : decode cJ5_append_c97b9 38 = .ok (.iload_n 2, 1) := by decide +kernel
theorem dJ5_append_c97b9_39 : decode cJ5_append_c97b9 39 = .ok (.iload_n 3, 1) := by decide +kernel
theorem dJ5_append_c97b9_40 : decode cJ5_append_c97b9 40 = .ok (.aload_n 0, 1) := by decide +kernel
theorem dJ5_append_c97b9_41 : decode cJ5_append_c97b9 41 = .ok (.getfield 15, 3) := by decide +kernel
theorem dJ5_append_c97b9_44 : decode cJ5_append_c97b9 44 = .ok (.invokestatic 251, 3) := by decide +kernel
theorem dJ5_append_c97b9_47 : decode cJ5_append_c97b9 47 = .ok (.pop, 1) := by decide +kernel
theorem dJ5_append_c97b9_48 : decode cJ5_append_c97b9 48 = .ok (.aload_n 0, 1) := by decide +kernel
theorem dJ5_append_c97b9_49 : decode cJ5_append_c97b9 49 = .ok (.iload_n 3, 1) := by decide +kernel
theorem dJ5_append_c97b9_50 : decode cJ5_append_c97b9 50 = .ok (.putfield 79, 3) := by decide +kernel
theorem dJ5_append_c97b9_53 : decode cJ5_append_c97b9 53 = .ok (.aload_n 0, 1) := by decide +kernel
theorem dJ5_append_c97b9_54 : decode cJ5_append_c97b9 54 = .ok (.areturn, 1) := by decide +kernel
theorem dJ5_isLatin1_aae02_0 : decode cJ5_isLatin1_aae02 0 = .ok (.getstatic 18, 3) := by decide +kernel
theorem dJ5_isLatin1_aae02_3 : decode cJ5_isLatin1_aae02 3 = .ok (.ifCond .eq 14, 3) := by decide +kernel
theorem dJ5_isLatin1_aae02_6 : decode cJ5_isLatin1_aae02 6 = .ok (.aload_n 0, 1) := by decide +kernel
theorem dJ5_isLatin1_aae02_7 : decode cJ5_isLatin1_aae02 7 = .ok (.getfield 22, 3) := by decide +kernel
theorem dJ5_isLatin1_aae02_10 : decode cJ5_isLatin1_aae02 10 = .ok (.ifCond .ne 7, 3) := by decide +kernel
theorem dJ5_isLatin1_aae02_13 : decode cJ5_isLatin1_aae02 13 = .ok (.iconst 1, 1) := by decide +kernel
theorem dJ5_isLatin1_aae02_14 : decode cJ5_isLatin1_aae02 14 = .ok (.goto 4, 3) := by decide +kernel
theorem dJ5_isLatin1_aae02_17 : decode cJ5_isLatin1_aae02 17 = .ok (.iconst 0, 1) := by decide +kernel
theorem dJ5_isLatin1_aae02_18 : decode cJ5_isLatin1_aae02 18 = .ok (.ireturn, 1) := by decide +kernel
theorem dJ5_inflateIfNeededFor_a7421_0 : decode cJ5_inflateIfNeededFor_a7421 0 = .ok (.getstatic 18, 3) := by decide +kernel
theorem dJ5_inflateIfNeededFor_a7421_3 : decode cJ5_inflateIfNeededFor_a7421 3 = .ok (.ifCond .eq 18, 3) := by decide +kernel
theorem dJ5_inflateIfNeededFor_a7421_6 : decode cJ5_inflateIfNeededFor_a7421 6 = .ok (.aload_n 0, 1) := by decide +kernel
theorem dJ5_inflateIfNeededFor_a7421_7 : decode cJ5_inflateIfNeededFor_a7421 7 = .ok (.getfield 22, 3) := by decide +kernel
theorem dJ5_inflateIfNeededFor_a7421_10 : decode cJ5_inflateIfNeededFor_a7421 10 = .ok (.aload_n 1, 1) := by decide +kernel
theorem dJ5_inflateIfNeededFor_a7421_11 : decode cJ5_inflateIfNeededFor_a7421 11 = .ok (.invokevirtual 40, 3) := by decide +kernel
theorem dJ5_inflateIfNeededFor_a7421_14 : decode cJ5_inflateIfNeededFor_a7421 14 = .ok (.if_icmp .eq 7, 3) := by decide +kernel
theorem dJ5_inflateIfNeededFor_a7421_17 : decode cJ5_inflateIfNeededFor_a7421 17 = .ok (.aload_n 0, 1) := by decide +kernel
theorem dJ5_inflateIfNeededFor_a7421_18 : decode cJ5_inflateIfNeededFor_a7421 18 = .ok (.invokevirtual 195, 3) := by decide +kernel
theorem dJ5_inflateIfNeededFor_a7421_21 : decode cJ5_inflateIfNeededFor_a7421 21 = .ok (.return_, 1) := by decide +kernel
theorem dJ5_putStringAt_47b60_0 : decode cJ5_putStringAt_47b60 0 = .ok (.aload_n 0, 1) := by decide +kernel
theorem dJ5_putStringAt_47b60_1 : decode cJ5_putStringAt_47b60 1 = .ok (.aload_n 2, 1) := by decide +kernel
theorem dJ5_putStringAt_47b60_2 : decode cJ5_putStringAt_47b60 2 = .ok (.invokevirtual 397, 3) := by decide +kernel
theorem dJ5_putStringAt_47b60_5 : decode cJ5_putStringAt_47b60 5 = .ok (.aload_n 2, 1) := by decide +kernel
theorem dJ5_putStringAt_47b60_6 : decode cJ5_putStringAt_47b60 6 = .ok (.aload_n 0, 1) := by decide +kernel
theorem dJ5_putStringAt_47b60_7 : decode cJ5_putStringAt_47b60 7 = .ok (.getfield 15, 3) := by decide +kernel
theorem dJ5_putStringAt_47b60_10 : decode cJ5_putStringAt_47b60 10 = .ok (.iload_n 1, 1) := by decide +kernel
theorem dJ5_putStringAt_47b60_11 : decode cJ5_putStringAt_47b60 11 = .ok (.aload_n 0, 1) := by decide +kernel
theorem dJ5_putStringAt_47b60_12 : decode cJ5_putStringAt_47b60 12 = .ok (.getfield 22, 3) := by decide +kernel
theorem dJ5_putStringAt_47b60_15 : decode cJ5_putStringAt_47b60 15 = .ok (.invokevirtual 399, 3) := by decide +kernel
theorem dJ5_putStringAt_47b60_18 : decode cJ5_putStringAt_47b60 18 = .ok (.return_, 1) := by decide +kernel
theorem dJ6_getChars_ba4f3_0 : decode cJ6_getChars_ba4f3 0 = .ok (.iload_n 1, 1) := by decide +kernel
theorem dJ6_getChars_ba4f3_1 : decode cJ6_getChars_ba4f3 1 = .ok (.istore 5, 2) := by decide +kernel
theorem dJ6_getChars_ba4f3_3 : decode cJ6_getChars_ba4f3 3 = .ok (.iload_n 0, 1) := by decide +kernel
theorem dJ6_getChars_ba4f3_4 : decode cJ6_getChars_ba4f3 4 = .ok (.ifCond .ge 7, 3) := by decide +kernel
theorem dJ6_getChars_ba4f3_7 : decode cJ6_getChars_ba4f3 7 = .ok (.iconst 1, 1) := by decide +kernel
theorem dJ6_getChars_ba4f3_8 : decode cJ6_getChars_ba4f3 8 = .ok (.goto 4, 3) := by decide +kernel
theorem dJ6_getChars_ba4f3_11 : decode cJ6_getChars_ba4f3 11 = .ok (.iconst 0, 1) := by decide +kernel
theorem dJ6_getChars_ba4f3_12 : decode cJ6_getChars_ba4f3 12 = .ok (.istore 6, 2) := by decide +kernel
theorem dJ6_getChars_ba4f3_14 : decode cJ6_getChars_ba4f3 14 = .ok (.iload 6, 2) := by decide +kernel
theorem dJ6_getChars_ba4f3_16 : decode cJ6_getChars_ba4f3 16 = .ok (.ifCond .ne 6, 3) := by decide +kernel
theorem dJ6_getChars_ba4f3_19 : decode cJ6_getChars_ba4f3 19 = .ok (.iload_n 0, 1) := by decide +kernel
theorem dJ6_getChars_ba4f3_20 : decode cJ6_getChars_ba4f3 20 = .ok (.ineg, 1) := by decide +kernel
theorem dJ6_getChars_ba4f3_21 : decode cJ6_getChars_ba4f3 21 = .ok (.istore_n 0, 1) := by decide +kernel
theorem dJ6_getChars_ba4f3_22 : decode cJ6_getChars_ba4f3 22 = .ok (.iload_n 0, 1) := by decide +kernel
theorem dJ6_getChars_ba4f3_23 : decode cJ6_getChars_ba4f3 23 = .ok (.bipush (-100), 2) := by decide +kernel
theorem dJ6_getChars_ba4f3_25 : decode cJ6_getChars_ba4f3 25 = .ok (.if_icmp .gt 47, 3) := by decide +kernel
theorem dJ6_getChars_ba4f3_28 : decode cJ6_getChars_ba4f3 28 = .ok (.iload_n 0, 1) := by decide +kernel
theorem dJ6_getChars_ba4f3_29 : decode cJ6_getChars_ba4f3 29 = .ok (.bipush 100, 2) := by decide +kernel
theorem dJ6_getChars_ba4f3_31 : decode cJ6_getChars_ba4f3 31 = .ok (.idiv, 1) := by decide +kernel
theorem dJ6_getChars_ba4f3_32 : decode cJ6_getChars_ba4f3 32 = .ok (.istore_n 3, 1) := by decide +kernel
theorem dJ6_getChars_ba4f3_33 : decode cJ6_getChars_ba4f3 33 = .ok (.iload_n 3, 1) := by decide +kernel
theorem dJ6_getChars_ba4f3_34 : decode cJ6_getChars_ba4f3 34 = .ok (.bipush 100, 2) := by decide +kernel
theorem dJ6_getChars_ba4f3_36 : decode cJ6_getChars_ba4f3 36 = .ok (.imul, 1) := by decide +kernel
theorem dJ6_getChars_ba4f3_37 : decode cJ6_getChars_ba4f3 37 = .ok (.iload_n 0, 1) := by decide +kernel
theorem dJ6_getChars_ba4f3_38 : decode cJ6_getChars_ba4f3 38 = .ok (.isub, 1) := by decide +kernel
theorem dJ6_getChars_ba4f3_39 : decode cJ6_getChars_ba4f3 39 = .ok (.istore 4, 2) := by decide +kernel
theorem dJ6_getChars_ba4f3_41 : decode cJ6_getChars_ba4f3 41 = .ok (.iload_n 3, 1) := by decide +kernel
theorem dJ6_getChars_ba4f3_42 : decode cJ6_getChars_ba4f3 42 = .ok (.istore_n 0, 1) := by decide +kernel
theorem dJ6_getChars_ba4f3_43 : decode cJ6_getChars_ba4f3 43 = .ok (.aload_n 2, 1) := by decide +kernel
theorem dJ6_getChars_ba4f3_44 : decode cJ6_getChars_ba4f3 44 = .ok (.iinc 5 (-1), 3) := by decide +kernel
theorem dJ6_getChars_ba4f3_47 : decode cJ6_getChars_ba4f3 47 = .ok (.iload 5, 2) := by decide +kernel
theorem dJ6_getChars_ba4f3_49 : decode cJ6_getChars_ba4f3 49 = .ok (.getstatic 83, 3) := by decide +kernel
theorem dJ6_getChars_ba4f3_52 : decode cJ6_getChars_ba4f3 52 = .ok (.iload 4, 2) := by decide +kernel
theorem dJ6_getChars_ba4f3_54 : decode cJ6_getChars_ba4f3 54 = .ok (.baload, 1) := by decide +kernel
theorem dJ6_getChars_ba4f3_55 : decode cJ6_getChars_ba4f3 55 = .ok (.bastore, 1) := by decide +kernel
theorem dJ6_getChars_ba4f3_56 : decode cJ6_getChars_ba4f3 56 = .ok (.aload_n 2, 1) := by decide +kernel
theorem dJ6_getChars_ba4f3_57 : decode cJ6_getChars_ba4f3 57 = .ok (.iinc 5 (-1), 3) := by decide +kernel
theorem dJ6_getChars_ba4f3_60 : decode cJ6_getChars_ba4f3 60 = .ok (.iload 5, 2) := by decide +kernel
theorem dJ6_getChars_ba4f3_62 : decode cJ6_getChars_ba4f3 62 = .ok (.getstatic 87, 3) := by decide +kernel
theorem dJ6_getChars_ba4f3_65 : decode cJ6_getChars_ba4f3 65 = .ok (.iload 4, 2) := by decide +kernel
theorem dJ6_getChars_ba4f3_67 : decode cJ6_getChars_ba4f3 67 = .ok (.baload, 1) := by decide +kernel
theorem dJ6_getChars_ba4f3_68 : decode cJ6_getChars_ba4f3 68 = .ok (.bastore, 1) := by decide +kernel
theorem dJ6_getChars_ba4f3_69 : decode cJ6_getChars_ba4f3 69 = .ok (.goto (-47), 3) := by decide +kernel
theorem dJ6_getChars_ba4f3_72 : decode cJ6_getChars_ba4f3 72 = .ok (.aload_n 2, 1) := by decide +kernel
theorem dJ6_getChars_ba4f3_73 : decode cJ6_getChars_ba4f3 73 = .ok (.iinc 5 (-1), 3) := by decide +kernel
theorem dJ6_getChars_ba4f3_76 : decode cJ6_getChars_ba4f3 76 = .ok (.iload 5, 2) := by decide +kernel
theorem dJ6_getChars_ba4f3_78 : decode cJ6_getChars_ba4f3 78 = .ok (.getstatic 83, 3) := by decide +kernel
theorem dJ6_getChars_ba4f3_81 : decode cJ6_getChars_ba4f3 81 = .ok (.iload_n 0, 1) := by decide +kernel
theorem dJ6_getChars_ba4f3_82 : decode cJ6_getChars_ba4f3 82 = .ok (.ineg, 1) := by decide +kernel
theorem dJ6_getChars_ba4f3_83 : decode cJ6_getChars_ba4f3 83 = .ok (.baload, 1) := by decide +kernel
theorem dJ6_getChars_ba4f3_84 : decode cJ6_getChars_ba4f3 84 = .ok (.bastore, 1) := by decide +kernel
theorem dJ6_getChars_ba4f3_85 : decode cJ6_getChars_ba4f3 85 = .ok (.iload_n 0, 1) := by decide +kernel
theorem dJ6_getChars_ba4f3_86 : decode cJ6_getChars_ba4f3 86 = .ok (.bipush (-9), 2) := by decide +kernel
theorem dJ6_getChars_ba4f3_88 : decode cJ6_getChars_ba4f3 88 = .ok (.if_icmp .ge 16, 3) := by decide +kernel
theorem dJ6_getChars_ba4f3_91 : decode cJ6_getChars_ba4f3 91 = .ok (.aload_n 2, 1) := by decide +kernel
theorem dJ6_getChars_ba4f3_92 : decode cJ6_getChars_ba4f3 92 = .ok (.iinc 5 (-1), 3) := by decide +kernel
theorem dJ6_getChars_ba4f3_95 : decode cJ6_getChars_ba4f3 95 = .ok (.iload 5, 2) := by decide +kernel
theorem dJ6_getChars_ba4f3_97 : decode cJ6_getChars_ba4f3 97 = .ok (.getstatic 87, 3) := by decide +kernel
theorem dJ6_getChars_ba4f3_100 : decode cJ6_getChars_ba4f3 100 = .ok (.iload_n 0, 1) := by decide +kernel
theorem dJ6_getChars_ba4f3_101 : decode cJ6_getChars_ba4f3 101 = .ok (.ineg, 1) := by decide +kernel
theorem dJ6_getChars_ba4f3_102 : decode cJ6_getChars_ba4f3 102 = .ok (.baload, 1) := by decide +kernel
theorem dJ6_getChars_ba4f3_103 : decode cJ6_getChars_ba4f3 103 = .ok (.bastore, 1) := by decide +kernel
theorem dJ6_getChars_ba4f3_104 : decode cJ6_getChars_ba4f3 104 = .ok (.iload 6, 2) := by decide +kernel
theorem dJ6_getChars_ba4f3_106 : decode cJ6_getChars_ba4f3 106 = .ok (.ifCond .eq 12, 3) := by decide +kernel
theorem dJ6_getChars_ba4f3_109 : decode cJ6_getChars_ba4f3 109 = .ok (.aload_n 2, 1) := by decide +kernel
theorem dJ6_getChars_ba4f3_110 : decode cJ6_getChars_ba4f3 110 = .ok (.iinc 5 (-1), 3) := by decide +kernel
theorem dJ6_getChars_ba4f3_113 : decode cJ6_getChars_ba4f3 113 = .ok (.iload 5, 2) := by decide +kernel
theorem dJ6_getChars_ba4f3_115 : decode cJ6_getChars_ba4f3 115 = .ok (.bipush 45, 2) := by decide +kernel
theorem dJ6_getChars_ba4f3_117 : decode cJ6_getChars_ba4f3 117 = .ok (.bastore, 1) := by decide +kernel
theorem dJ6_getChars_ba4f3_118 : decode cJ6_getChars_ba4f3 118 = .ok (.iload 5, 2) := by decide +kernel
theorem dJ6_getChars_ba4f3_120 : decode cJ6_getChars_ba4f3 120 = .ok (.ireturn, 1) := by decide +kernel
theorem dJ6_stringSize_0f7a4_0 : decode cJ6_stringSize_0f7a4 0 = .ok (.iconst 1, 1) := by decide +kernel
theorem dJ6_stringSize_0f7a4_1 : decode cJ6_stringSize_0f7a4 1 = .ok (.istore_n 1, 1) := by decide +kernel
theorem dJ6_stringSize_0f7a4_2 : decode cJ6_stringSize_0f7a4 2 = .ok (.iload_n 0, 1) := by decide +kernel
theorem dJ6_stringSize_0f7a4_3 : decode cJ6_stringSize_0f7a4 3 = .ok (.ifCond .lt 8, 3) := by decide +kernel
theorem dJ6_stringSize_0f7a4_6 : decode cJ6_stringSize_0f7a4 6 = .ok (.iconst 0, 1) := by decide +kernel
theorem dJ6_stringSize_0f7a4_7 : decode cJ6_stringSize_0f7a4 7 = .ok (.istore_n 1, 1) := by decide +kernel
theorem dJ6_stringSize_0f7a4_8 : decode cJ6_stringSize_0f7a4 8 = .ok (.iload_n 0, 1) := by decide +kernel
theorem dJ6_stringSize_0f7a4_9 : decode cJ6_stringSize_0f7a4 9 = .ok (.ineg, 1) := by decide +kernel
theorem dJ6_stringSize_0f7a4_10 : decode cJ6_stringSize_0f7a4 10 = .ok (.istore_n 0, 1) := by decide +kernel
theorem dJ6_stringSize_0f7a4_11 : decode cJ6_stringSize_0f7a4 11 = .ok (.bipush (-10), 2) := by decide +kernel
theorem dJ6_stringSize_0f7a4_13 : decode cJ6_stringSize_0f7a4 13 = .ok (.istore_n 2, 1) := by decide +kernel
theorem dJ6_stringSize_0f7a4_14 : decode cJ6_stringSize_0f7a4 14 = .ok (.iconst 1, 1) := by decide +kernel
theorem dJ6_stringSize_0f7a4_15 : decode cJ6_stringSize_0f7a4 15 = .ok (.istore_n 3, 1) := by decide +kernel
theorem dJ6_stringSize_0f7a4_16 : decode cJ6_stringSize_0f7a4 16 = .ok (.iload_n 3, 1) := by decide +kernel
theorem dJ6_stringSize_0f7a4_17 : decode cJ6_stringSize_0f7a4 17 = .ok (.bipush 10, 2) := by decide +kernel
theorem dJ6_stringSize_0f7a4_19 : decode cJ6_stringSize_0f7a4 19 = .ok (.if_icmp .ge 23, 3) := by decide +kernel
theorem dJ6_stringSize_0f7a4_22 : decode cJ6_stringSize_0f7a4 22 = .ok (.iload_n 0, 1) := by decide +kernel
theorem dJ6_stringSize_0f7a4_23 : decode cJ6_stringSize_0f7a4 23 = .ok (.iload_n 2, 1) := by decide +kernel
theorem dJ6_stringSize_0f7a4_24 : decode cJ6_stringSize_0f7a4 24 = .ok (.if_icmp .le 7, 3) := by decide +kernel
theorem dJ6_stringSize_0f7a4_27 : decode cJ6_stringSize_0f7a4 27 = .ok (.iload_n 3, 1) := by decide +kernel
theorem dJ6_stringSize_0f7a4_28 : decode cJ6_stringSize_0f7a4 28 = .ok (.iload_n 1, 1) := by decide +kernel
theorem dJ6_stringSize_0f7a4_29 : decode cJ6_stringSize_0f7a4 29 = .ok (.iadd, 1) := by decide +kernel
theorem dJ6_stringSize_0f7a4_30 : decode cJ6_stringSize_0f7a4 30 = .ok (.ireturn, 1) := by decide +kernel
theorem dJ6_stringSize_0f7a4_31 : decode cJ6_stringSize_0f7a4 31 = .ok (.bipush 10, 2) := by decide +kernel
theorem dJ6_stringSize_0f7a4_33 : decode cJ6_stringSize_0f7a4 33 = .ok (.iload_n 2, 1) := by decide +kernel
theorem dJ6_stringSize_0f7a4_34 : decode cJ6_stringSize_0f7a4 34 = .ok (.imul, 1) := by decide +kernel
theorem dJ6_stringSize_0f7a4_35 : decode cJ6_stringSize_0f7a4 35 = .ok (.istore_n 2, 1) := by decide +kernel
theorem dJ6_stringSize_0f7a4_36 : decode cJ6_stringSize_0f7a4 36 = .ok (.iinc 3 1, 3) := by decide +kernel
theorem dJ6_stringSize_0f7a4_39 : decode cJ6_stringSize_0f7a4 39 = .ok (.goto (-23), 3) := by decide +kernel
theorem dJ6_stringSize_0f7a4_42 : decode cJ6_stringSize_0f7a4 42 = .ok (.bipush 10, 2) := by decide +kernel
theorem dJ6_stringSize_0f7a4_44 : decode cJ6_stringSize_0f7a4 44 = .ok (.iload_n 1, 1) := by decide +kernel
theorem dJ6_stringSize_0f7a4_45 : decode cJ6_stringSize_0f7a4 45 = .ok (.iadd, 1) := by decide +kernel
theorem dJ6_stringSize_0f7a4_46 : decode cJ6_stringSize_0f7a4 46 = .ok (.ireturn, 1) := by decide +kernel
theorem dJ9_max_7cf53_0 : decode cJ9_max_7cf53 0 = .ok (.iload_n 0, 1) := by decide +kernel
theorem dJ9_max_7cf53_1 : decode cJ9_max_7cf53 1 = .ok (.iload_n 1, 1) := by decide +kernel
theorem dJ9_max_7cf53_2 : decode cJ9_max_7cf53 2 = .ok (.if_icmp .lt 7, 3) := by decide +kernel
theorem dJ9_max_7cf53_5 : decode cJ9_max_7cf53 5 = .ok (.iload_n 0, 1) := by decide +kernel
theorem dJ9_max_7cf53_6 : decode cJ9_max_7cf53 6 = .ok (.goto 4, 3) := by decide +kernel
theorem dJ9_max_7cf53_9 : decode cJ9_max_7cf53 9 = .ok (.iload_n 1, 1) := by decide +kernel
theorem dJ9_max_7cf53_10 : decode cJ9_max_7cf53 10 = .ok (.ireturn, 1) := by decide +kernel
theorem dJ9_min_7cf53_0 : decode cJ9_min_7cf53 0 = .ok (.iload_n 0, 1) := by decide +kernel
theorem dJ9_min_7cf53_1 : decode cJ9_min_7cf53 1 = .ok (.iload_n 1, 1) := by decide +kernel
theorem dJ9_min_7cf53_2 : decode cJ9_min_7cf53 2 = .ok (.if_icmp .gt 7, 3) := by decide +kernel
theorem dJ9_min_7cf53_5 : decode cJ9_min_7cf53 5 = .ok (.iload_n 0, 1) := by decide +kernel
theorem dJ9_min_7cf53_6 : decode cJ9_min_7cf53 6 = .ok (.goto 4, 3) := by decide +kernel
theorem dJ9_min_7cf53_9 : decode cJ9_min_7cf53 9 = .ok (.iload_n 1, 1) := by decide +kernel
theorem dJ9_min_7cf53_10 : decode cJ9_min_7cf53 10 = .ok (.ireturn, 1) := by decide +kernel
theorem dJ0_length_8abf5_0 : decode cJ0_length_8abf5 0 = .ok (.aload_n 0, 1) := by decide +kernel
theorem dJ0_length_8abf5_1 : decode cJ0_length_8abf5 1 = .ok (.getfield 9, 3) := by decide +kernel
theorem dJ0_length_8abf5_4 : decode cJ0_length_8abf5 4 = .ok (.arraylength, 1) := by decide +kernel
theorem dJ0_length_8abf5_5 : decode cJ0_length_8abf5 5 = .ok (.aload_n 0, 1) := by decide +kernel
theorem dJ0_length_8abf5_6 : decode cJ0_length_8abf5 6 = .ok (.invokevirtual 335, 3) := by decide +kernel
theorem dJ0_length_8abf5_9 : decode cJ0_length_8abf5 9 = .ok (.ishr, 1) := by decide +kernel
theorem dJ0_length_8abf5_10 : decode cJ0_length_8abf5 10 = .ok (.ireturn, 1) := by decide +kernel
theorem dJ0_charAt_5068e_0 : decode cJ0_charAt_5068e 0 = .ok (.aload_n 0, 1) := by decide +kernel
theorem dJ0_charAt_5068e_1 : decode cJ0_charAt_5068e 1 = .ok (.invokevirtual 492, 3) := by decide +kernel
theorem dJ0_charAt_5068e_4 : decode cJ0_charAt_5068e 4 = .ok (.ifCond .eq 12, 3) := by decide +kernel
theorem dJ0_charAt_5068e_7 : decode cJ0_charAt_5068e 7 = .ok (.aload_n 0, 1) := by decide +kernel
theorem dJ0_charAt_5068e_8 : decode cJ0_charAt_5068e 8 = .ok (.getfield 9, 3) := by decide +kernel
theorem dJ0_charAt_5068e_11 : decode cJ0_charAt_5068e 11 = .ok (.iload_n 1, 1) := by decide +kernel
theorem dJ0_charAt_5068e_12 : decode cJ0_charAt_5068e 12 = .ok (.invokestatic 495, 3) := by decide +kernel
theorem dJ0_charAt_5068e_15 : decode cJ0_charAt_5068e 15 = .ok (.ireturn, 1) := by decide +kernel
theorem dJ0_charAt_5068e_16 : decode cJ0_charAt_5068e 16 = .ok (.aload_n 0, 1) := by decide +kernel
theorem dJ0_charAt_5068e_17 : decode cJ0_charAt_5068e 17 = .ok (.getfield 9, 3) := by decide +kernel
theorem dJ0_charAt_5068e_20 : decode cJ0_charAt_5068e 20 = .ok (.iload_n 1, 1) := by decide +kernel
theorem dJ0_charAt_5068e_21 : decode cJ0_charAt_5068e 21 = .ok (.invokestatic 498, 3) := by decide +kernel
theorem dJ0_charAt_5068e_24 : decode cJ0_charAt_5068e 24 = .ok (.ireturn, 1) := by decide +kernel
theorem dJ0_getBytes_840e7_0 : decode cJ0_getBytes_840e7 0 = .ok (.aload_n 0, 1) := by decide +kernel
theorem dJ0_getBytes_840e7_1 : decode cJ0_getBytes_840e7 1 = .ok (.invokevirtual 335, 3) := by decide +kernel
theorem dJ0_getBytes_840e7_4 : decode cJ0_getBytes_840e7 4 = .ok (.iload_n 3, 1) := by decide +kernel
theorem dJ0_getBytes_840e7_5 : decode cJ0_getBytes_840e7 5 = .ok (.if_icmp .ne 23, 3) := by decide +kernel
theorem dJ0_getBytes_840e7_8 : decode cJ0_getBytes_840e7 8 = .ok (.aload_n 0, 1) := by decide +kernel
theorem dJ0_getBytes_840e7_9 : decode cJ0_getBytes_840e7 9 = .ok (.getfield 9, 3) := by decide +kernel
theorem dJ0_getBytes_840e7_12 : decode cJ0_getBytes_840e7 12 = .ok (.iconst 0, 1) := by decide +kernel
theorem dJ0_getBytes_840e7_13 : decode cJ0_getBytes_840e7 13 = .ok (.aload_n 1, 1) := by decide +kernel
theorem dJ0_getBytes_840e7_14 : decode cJ0_getBytes_840e7 14 = .ok (.iload_n 2, 1) := by decide +kernel
theorem dJ0_getBytes_840e7_15 : decode cJ0_getBytes_840e7 15 = .ok (.iload_n 3, 1) := by decide +kernel
theorem dJ0_getBytes_840e7_16 : decode cJ0_getBytes_840e7 16 = .ok (.ishl, 1) := by decide +kernel
theorem dJ0_getBytes_840e7_17 : decode cJ0_getBytes_840e7 17 = .ok (.aload_n 0, 1) := by decide +kernel
theorem dJ0_getBytes_840e7_18 : decode cJ0_getBytes_840e7 18 = .ok (.getfield 9, 3) := by decide +kernel
theorem dJ0_getBytes_840e7_21 : decode cJ0_getBytes_840e7 21 = .ok (.arraylength, 1) := by decide +kernel
theorem dJ0_getBytes_840e7_22 : decode cJ0_getBytes_840e7 22 = .ok (.invokestatic 212, 3) := by decide +kernel
theorem dJ0_getBytes_840e7_25 : decode cJ0_getBytes_840e7 25 = .ok (.goto 18, 3) := by decide +kernel
theorem dJ0_getBytes_840e7_28 : decode cJ0_getBytes_840e7 28 = .ok (.aload_n 0, 1) := by decide +kernel
theorem dJ0_getBytes_840e7_29 : decode cJ0_getBytes_840e7 29 = .ok (.getfield 9, 3) := by decide +kernel
theorem dJ0_getBytes_840e7_32 : decode cJ0_getBytes_840e7 32 = .ok (.iconst 0, 1) := by decide +kernel
theorem dJ0_getBytes_840e7_33 : decode cJ0_getBytes_840e7 33 = .ok (.aload_n 1, 1) := by decide +kernel
theorem dJ0_getBytes_840e7_34 : decode cJ0_getBytes_840e7 34 = .ok (.iload_n 2, 1) := by decide +kernel
theorem dJ0_getBytes_840e7_35 : decode cJ0_getBytes_840e7 35 = .ok (.aload_n 0, 1) := by decide +kernel
theorem dJ0_getBytes_840e7_36 : decode cJ0_getBytes_840e7 36 = .ok (.getfield 9, 3) := by decide +kernel
theorem dJ0_getBytes_840e7_39 : decode cJ0_getBytes_840e7 39 = .ok (.arraylength, 1) := by decide +kernel
theorem dJ0_getBytes_840e7_40 : decode cJ0_getBytes_840e7 40 = .ok (.invokestatic 106, 3) := by decide +kernel
theorem dJ0_getBytes_840e7_43 : decode cJ0_getBytes_840e7 43 = .ok (.return_, 1) := by decide +kernel
theorem dJ0_coder_7d493_0 : decode cJ0_coder_7d493 0 = .ok (.getstatic 38, 3) := by decide +kernel
theorem dJ0_coder_7d493_3 : decode cJ0_coder_7d493 3 = .ok (.ifCond .eq 10, 3) := by decide +kernel
theorem dJ0_coder_7d493_6 : decode cJ0_coder_7d493 6 = .ok (.aload_n 0, 1) := by decide +kernel
theorem dJ0_coder_7d493_7 : decode cJ0_coder_7d493 7 = .ok (.getfield 15, 3) := by decide +kernel
theorem dJ0_coder_7d493_10 : decode cJ0_coder_7d493 10 = .ok (.goto 4, 3) := by decide +kernel
theorem dJ0_coder_7d493_13 : decode cJ0_coder_7d493 13 = .ok (.iconst 1, 1) := by decide +kernel
theorem dJ0_coder_7d493_14 : decode cJ0_coder_7d493 14 = .ok (.ireturn, 1) := by decide +kernel
theorem dJ0_isLatin1_aae02_0 : decode cJ0_isLatin1_aae02 0 = .ok (.getstatic 38, 3) := by decide +kernel
theorem dJ0_isLatin1_aae02_3 : decode cJ0_isLatin1_aae02 3 = .ok (.ifCond .eq 14, 3) := by decide +kernel
theorem dJ0_isLatin1_aae02_6 : decode cJ0_isLatin1_aae02 6 = .ok (.aload_n 0, 1) := by decide +kernel
theorem dJ0_isLatin1_aae02_7 : decode cJ0_isLatin1_aae02 7 = .ok (.getfield 15, 3) := by decide +kernel
theorem dJ0_isLatin1_aae02_10 : decode cJ0_isLatin1_aae02 10 = .ok (.ifCond .ne 7, 3) := by decide +kernel
theorem dJ0_isLatin1_aae02_13 : decode cJ0_isLatin1_aae02 13 = .ok (.iconst 1, 1) := by decide +kernel
theorem dJ0_isLatin1_aae02_14 : decode cJ0_isLatin1_aae02 14 = .ok (.goto 4, 3) := by decide +kernel
theorem dJ0_isLatin1_aae02_17 : decode cJ0_isLatin1_aae02 17 = .ok (.iconst 0, 1) := by decide +kernel
theorem dJ0_isLatin1_aae02_18 : decode cJ0_isLatin1_aae02 18 = .ok (.ireturn, 1) := by decide +kernel
theorem dJ0_checkIndex_df160_0 : decode cJ0_checkIndex_df160 0 = .ok (.iload_n 0, 1) := by decide +kernel
theorem dJ0_checkIndex_df160_1 : decode cJ0_checkIndex_df160 1 = .ok (.iload_n 1, 1) := by decide +kernel
theorem dJ0_checkIndex_df160_2 : decode cJ0_checkIndex_df160 2 = .ok (.getstatic 1053, 3) := by decide +kernel
theorem dJ0_checkIndex_df160_5 : decode cJ0_checkIndex_df160 5 = .ok (.invokestatic 1059, 3) := by decide +kernel
theorem dJ0_checkIndex_df160_8 : decode cJ0_checkIndex_df160 8 = .ok (.pop, 1) := by decide +kernel
theorem dJ0_checkIndex_df160_9 : decode cJ0_checkIndex_df160 9 = .ok (.return_, 1) := by decide +kernel
theorem dJ0_checkBoundsOffCount_cabcc_0 : decode cJ0_checkBoundsOffCount_cabcc 0 = .ok (.iload_n 0, 1) := by decide +kernel
theorem dJ0_checkBoundsOffCount_cabcc_1 : decode cJ0_checkBoundsOffCount_cabcc 1 = .ok (.iload_n 1, 1) := by decide +kernel
theorem dJ0_checkBoundsOffCount_cabcc_2 : decode cJ0_checkBoundsOffCount_cabcc 2 = .ok (.iload_n 2, 1) := by decide +kernel
theorem dJ0_checkBoundsOffCount_cabcc_3 : decode cJ0_checkBoundsOffCount_cabcc 3 = .ok (.getstatic 1053, 3) := by decide +kernel
theorem dJ0_checkBoundsOffCount_cabcc_6 : decode cJ0_checkBoundsOffCount_cabcc 6 = .ok (.invokestatic 1065, 3) := by decide +kernel
theorem dJ0_checkBoundsOffCount_cabcc_9 : decode cJ0_checkBoundsOffCount_cabcc 9 = .ok (.ireturn, 1) := by decide +kernel
theorem dJ0_checkBoundsBeginEnd_23922_0 : decode cJ0_checkBoundsBeginEnd_23922 0 = .ok (.iload_n 0, 1) := by decide +kernel
theorem dJ0_checkBoundsBeginEnd_23922_1 : decode cJ0_checkBoundsBeginEnd_23922 1 = .ok (.iload_n 1, 1) := by decide +kernel
theorem dJ0_checkBoundsBeginEnd_23922_2 : decode cJ0_checkBoundsBeginEnd_23922 2 = .ok (.iload_n 2, 1) := by decide +kernel
theorem dJ0_checkBoundsBeginEnd_23922_3 : decode cJ0_checkBoundsBeginEnd_23922 3 = .ok (.getstatic 1053, 3) := by decide +kernel
theorem dJ0_checkBoundsBeginEnd_23922_6 : decode cJ0_checkBoundsBeginEnd_23922 6 = .ok (.invokestatic 1062, 3) := by decide +kernel
theorem dJ0_checkBoundsBeginEnd_23922_9 : decode cJ0_checkBoundsBeginEnd_23922 9 = .ok (.pop, 1) := by decide +kernel
theorem dJ0_checkBoundsBeginEnd_23922_10 : decode cJ0_checkBoundsBeginEnd_23922 10 = .ok (.return_, 1) := by decide +kernel
theorem dJ4_init_da8c8_0 : decode cJ4_init_da8c8 0 = .ok (.aload_n 0, 1) := by decide +kernel
theorem dJ4_init_da8c8_1 : decode cJ4_init_da8c8 1 = .ok (.bipush 16, 2) := by decide +kernel
theorem dJ4_init_da8c8_3 : decode cJ4_init_da8c8 3 = .ok (.invokespecial 1, 3) := by decide +kernel
theorem dJ4_init_da8c8_6 : decode cJ4_init_da8c8 6 = .ok (.return_, 1) := by decide +kernel
theorem dJ4_append_15ec4_0 : decode cJ4_append_15ec4 0 = .ok (.aload_n 0, 1) := by decide +kernel
theorem dJ4_append_15ec4_1 : decode cJ4_append_15ec4 1 = .ok (.aload_n 1, 1) := by decide +kernel
theorem dJ4_append_15ec4_2 : decode cJ4_append_15ec4 2 = .ok (.invokespecial 29, 3) := by decide +kernel
theorem dJ4_append_15ec4_5 : decode cJ4_append_15ec4 5 = .ok (.pop, 1) := by decide +kernel
theorem dJ4_append_15ec4_6 : decode cJ4_append_15ec4 6 = .ok (.aload_n 0, 1) := by decide +kernel
theorem dJ4_append_15ec4_7 : decode cJ4_append_15ec4 7 = .ok (.areturn, 1) := by decide +kernel
theorem dJ4_append_cf468_0 : decode cJ4_append_cf468 0 = .ok (.aload_n 0, 1) := by decide +kernel
theorem dJ4_append_cf468_1 : decode cJ4_append_cf468 1 = .ok (.iload_n 1, 1) := by decide +kernel
theorem dJ4_append_cf468_2 : decode cJ4_append_cf468 2 = .ok (.invokespecial 50, 3) := by decide +kernel
theorem dJ4_append_cf468_5 : decode cJ4_append_cf468 5 = .ok (.pop, 1) := by decide +kernel
theorem dJ4_append_cf468_6 : decode cJ4_append_cf468 6 = .ok (.aload_n 0, 1) := by decide +kernel
theorem dJ4_append_cf468_7 : decode cJ4_append_cf468 7 = .ok (.areturn, 1) := by decide +kernel
theorem dJ4_append_bf812_0 : decode cJ4_append_bf812 0 = .ok (.aload_n 0, 1) := by decide +kernel
theorem dJ4_append_bf812_1 : decode cJ4_append_bf812 1 = .ok (.iload_n 1, 1) := by decide +kernel
theorem dJ4_append_bf812_2 : decode cJ4_append_bf812 2 = .ok (.invokespecial 53, 3) := by decide +kernel
theorem dJ4_append_bf812_5 : decode cJ4_append_bf812 5 = .ok (.pop, 1) := by decide +kernel
theorem dJ4_append_bf812_6 : decode cJ4_append_bf812 6 = .ok (.aload_n 0, 1) := by decide +kernel
theorem dJ4_append_bf812_7 : decode cJ4_append_bf812 7 = .ok (.areturn, 1) := by decide +kernel
theorem dJ4_charAt_5068e_0 : decode cJ4_charAt_5068e 0 = .ok (.aload_n 0, 1) := by decide +kernel
theorem dJ4_charAt_5068e_1 : decode cJ4_charAt_5068e 1 = .ok (.iload_n 1, 1) := by decide +kernel
theorem dJ4_charAt_5068e_2 : decode cJ4_charAt_5068e 2 = .ok (.invokespecial 329, 3) := by decide +kernel
theorem dJ4_charAt_5068e_5 : decode cJ4_charAt_5068e 5 = .ok (.ireturn, 1) := by decide +kernel
theorem dJ4_length_8abf5_0 : decode cJ4_length_8abf5 0 = .ok (.aload_n 0, 1) := by decide +kernel
theorem dJ4_length_8abf5_1 : decode cJ4_length_8abf5 1 = .ok (.invokespecial 343, 3) := by decide +kernel
theorem dJ4_length_8abf5_4 : decode cJ4_length_8abf5 4 = .ok (.ireturn, 1) := by decide +kernel
theorem dJ1_charAt_3b067_0 : decode cJ1_charAt_3b067 0 = .ok (.iload_n 1, 1) := by decide +kernel
theorem dJ1_charAt_3b067_1 : decode cJ1_charAt_3b067 1 = .ok (.aload_n 0, 1) := by decide +kernel
theorem dJ1_charAt_3b067_2 : decode cJ1_charAt_3b067 2 = .ok (.arraylength, 1) := by decide +kernel
theorem dJ1_charAt_3b067_3 : decode cJ1_charAt_3b067 3 = .ok (.invokestatic 9, 3) := by decide +kernel
theorem dJ1_charAt_3b067_6 : decode cJ1_charAt_3b067 6 = .ok (.aload_n 0, 1) := by decide +kernel
theorem dJ1_charAt_3b067_7 : decode cJ1_charAt_3b067 7 = .ok (.iload_n 1, 1) := by decide +kernel
theorem dJ1_charAt_3b067_8 : decode cJ1_charAt_3b067 8 = .ok (.baload, 1) := by decide +kernel
theorem dJ1_charAt_3b067_9 : decode cJ1_charAt_3b067 9 = .ok (.sipush 255, 3) := by decide +kernel
theorem dJ1_charAt_3b067_12 : decode cJ1_charAt_3b067 12 = .ok (.iand, 1) := by decide +kernel
theorem dJ1_charAt_3b067_13 : decode cJ1_charAt_3b067 13 = .ok (.i2c, 1) := by decide +kernel
theorem dJ1_charAt_3b067_14 : decode cJ1_charAt_3b067 14 = .ok (.ireturn, 1) := by decide +kernel
theorem dJ1_canEncode_fc78d_0 : decode cJ1_canEncode_fc78d 0 = .ok (.iload_n 0, 1) := by decide +kernel
theorem dJ1_canEncode_fc78d_1 : decode cJ1_canEncode_fc78d 1 = .ok (.sipush 255, 3) := by decide +kernel
theorem dJ1_canEncode_fc78d_4 : decode cJ1_canEncode_fc78d 4 = .ok (.if_icmp .gt 7, 3) := by decide +kernel
theorem dJ1_canEncode_fc78d_7 : decode cJ1_canEncode_fc78d 7 = .ok (.iconst 1, 1) := by decide +kernel
theorem dJ1_canEncode_fc78d_8 : decode cJ1_canEncode_fc78d 8 = .ok (.goto 4, 3) := by decide +kernel
theorem dJ1_canEncode_fc78d_11 : decode cJ1_canEncode_fc78d 11 = .ok (.iconst 0, 1) := by decide +kernel
theorem dJ1_canEncode_fc78d_12 : decode cJ1_canEncode_fc78d 12 = .ok (.ireturn, 1) := by decide +kernel
theorem dJ1_inflate_0e8fd_0 : decode cJ1_inflate_0e8fd 0 = .ok (.aload_n 0, 1) := by decide +kernel
theorem dJ1_inflate_0e8fd_1 : decode cJ1_inflate_0e8fd 1 = .ok (.iload_n 1, 1) := by decide +kernel
theorem dJ1_inflate_0e8fd_2 : decode cJ1_inflate_0e8fd 2 = .ok (.aload_n 2, 1) := by decide +kernel
theorem dJ1_inflate_0e8fd_3 : decode cJ1_inflate_0e8fd 3 = .ok (.iload_n 3, 1) := by decide +kernel
theorem dJ1_inflate_0e8fd_4 : decode cJ1_inflate_0e8fd 4 = .ok (.iload 4, 2) := by decide +kernel
theorem dJ1_inflate_0e8fd_6 : decode cJ1_inflate_0e8fd 6 = .ok (.invokestatic 240, 3) := by decide +kernel
theorem dJ1_inflate_0e8fd_9 : decode cJ1_inflate_0e8fd 9 = .ok (.return_, 1) := by decide +kernel
theorem dJ2_newBytesFor_77867_0 : decode cJ2_newBytesFor_77867 0 = .ok (.iload_n 0, 1) := by decide +kernel
theorem dJ2_newBytesFor_77867_1 : decode cJ2_newBytesFor_77867 1 = .ok (.invokestatic 11, 3) := by decide +kernel
theorem dJ2_newBytesFor_77867_4 : decode cJ2_newBytesFor_77867 4 = .ok (.newarray .byte, 2) := by decide +kernel
theorem dJ2_newBytesFor_77867_6 : decode cJ2_newBytesFor_77867 6 = .ok (.areturn, 1) := by decide +kernel
theorem dJ2_newBytesLength_0f7a4_0 : decode cJ2_newBytesLength_0f7a4 0 = .ok (.iload_n 0, 1) := by decide +kernel
theorem dJ2_newBytesLength_0f7a4_1 : decode cJ2_newBytesLength_0f7a4 1 = .ok (.ifCond .ge 11, 3) := by decide +kernel
theorem dJ2_newBytesLength_0f7a4_4 : decode cJ2_newBytesLength_0f7a4 4 = .ok (.new 17, 3) := by decide +kernel
theorem dJ2_newBytesLength_0f7a4_7 : decode cJ2_newBytesLength_0f7a4 7 = .ok (.dup, 1) := by decide +kernel
theorem dJ2_newBytesLength_0f7a4_8 : decode cJ2_newBytesLength_0f7a4 8 = .ok (.invokespecial 19, 3) := by decide +kernel
theorem dJ2_newBytesLength_0f7a4_11 : decode cJ2_newBytesLength_0f7a4 11 = .ok (.athrow, 1) := by decide +kernel
theorem dJ2_newBytesLength_0f7a4_12 : decode cJ2_newBytesLength_0f7a4 12 = .ok (.iload_n 0, 1) := by decide +kernel
theorem dJ2_newBytesLength_0f7a4_13 : decode cJ2_newBytesLength_0f7a4 13 = .ok (.ldc 20, 2) := by decide +kernel
theorem dJ2_newBytesLength_0f7a4_15 : decode cJ2_newBytesLength_0f7a4 15 = .ok (.if_icmp .lt 40, 3) := by decide +kernel
theorem dJ2_newBytesLength_0f7a4_18 : decode cJ2_newBytesLength_0f7a4 18 = .ok (.new 21, 3) := by decide +kernel
theorem dJ2_newBytesLength_0f7a4_21 : decode cJ2_newBytesLength_0f7a4 21 = .ok (.dup, 1) := by decide +kernel
theorem dJ2_newBytesLength_0f7a4_22 : decode cJ2_newBytesLength_0f7a4 22 = .ok (.new 23, 3) := by decide +kernel
theorem dJ2_newBytesLength_0f7a4_25 : decode cJ2_newBytesLength_0f7a4 25 = .ok (.dup, 1) := by decide +kernel
theorem dJ2_newBytesLength_0f7a4_26 : decode cJ2_newBytesLength_0f7a4 26 = .ok (.invokespecial 25, 3) := by decide +kernel
theorem dJ2_newBytesLength_0f7a4_29 : decode cJ2_newBytesLength_0f7a4 29 = .ok (.ldc 26, 2) := by decide +kernel
theorem dJ2_newBytesLength_0f7a4_31 : decode cJ2_newBytesLength_0f7a4 31 = .ok (.invokevirtual 28, 3) := by decide +kernel
theorem dJ2_newBytesLength_0f7a4_34 : decode cJ2_newBytesLength_0f7a4 34 = .ok (.iload_n 0, 1) := by decide +kernel
theorem dJ2_newBytesLength_0f7a4_35 : decode cJ2_newBytesLength_0f7a4 35 = .ok (.invokevirtual 32, 3) := by decide +kernel
theorem dJ2_newBytesLength_0f7a4_38 : decode cJ2_newBytesLength_0f7a4 38 = .ok (.ldc 35, 2) := by decide +kernel
theorem dJ2_newBytesLength_0f7a4_40 : decode cJ2_newBytesLength_0f7a4 40 = .ok (.invokevirtual 28, 3) := by decide +kernel
theorem dJ2_newBytesLength_0f7a4_43 : decode cJ2_newBytesLength_0f7a4 43 = .ok (.ldc 20, 2) := by decide +kernel
theorem dJ2_newBytesLength_0f7a4_45 : decode cJ2_newBytesLength_0f7a4 45 = .ok (.invokevirtual 32, 3) := by decide +kernel
theorem dJ2_newBytesLength_0f7a4_48 : decode cJ2_newBytesLength_0f7a4 48 = .ok (.invokevirtual 37, 3) := by decide +kernel
theorem dJ2_newBytesLength_0f7a4_51 : decode cJ2_newBytesLength_0f7a4 51 = .ok (.invokespecial 41, 3) := by decide +kernel
theorem dJ2_newBytesLength_0f7a4_54 : decode cJ2_newBytesLength_0f7a4 54 = .ok (.athrow, 1) := by decide +kernel
theorem dJ2_newBytesLength_0f7a4_55 : decode cJ2_newBytesLength_0f7a4 55 = .ok (.iload_n 0, 1) := by decide +kernel
theorem dJ2_newBytesLength_0f7a4_56 : decode cJ2_newBytesLength_0f7a4 56 = .ok (.iconst 1, 1) := by decide +kernel
theorem dJ2_newBytesLength_0f7a4_57 : decode cJ2_newBytesLength_0f7a4 57 = .ok (.ishl, 1) := by decide +kernel
theorem dJ2_newBytesLength_0f7a4_58 : decode cJ2_newBytesLength_0f7a4 58 = .ok (.ireturn, 1) := by decide +kernel
theorem dJ2_putChar_b72d1_0 : decode cJ2_putChar_b72d1 0 = .ok (.getstatic 44, 3) := by decide +kernel
theorem dJ2_putChar_b72d1_3 : decode cJ2_putChar_b72d1 3 = .ok (.ifCond .ne 25, 3) := by decide +kernel
theorem dJ2_putChar_b72d1_6 : decode cJ2_putChar_b72d1 6 = .ok (.iload_n 1, 1) := by decide +kernel
theorem dJ2_putChar_b72d1_7 : decode cJ2_putChar_b72d1 7 = .ok (.ifCond .lt 11, 3) := by decide +kernel
theorem dJ2_putChar_b72d1_10 : decode cJ2_putChar_b72d1 10 = .ok (.iload_n 1, 1) := by decide +kernel
theorem dJ2_putChar_b72d1_11 : decode cJ2_putChar_b72d1 11 = .ok (.aload_n 0, 1) := by decide +kernel
theorem dJ2_putChar_b72d1_12 : decode cJ2_putChar_b72d1 12 = .ok (.invokestatic 48, 3) := by decide +kernel
theorem dJ2_putChar_b72d1_15 : decode cJ2_putChar_b72d1 15 = .ok (.if_icmp .lt 13, 3) := by decide +kernel
theorem dJ2_putChar_b72d1_18 : decode cJ2_putChar_b72d1 18 = .ok (.new 52, 3) := by decide +kernel
theorem dJ2_putChar_b72d1_21 : decode cJ2_putChar_b72d1 21 = .ok (.dup, 1) := by decide +kernel
theorem dJ2_putChar_b72d1_22 : decode cJ2_putChar_b72d1 22 = .ok (.ldc 54, 2) := by decide +kernel
theorem dJ2_putChar_b72d1_24 : decode cJ2_putChar_b72d1 24 = .ok (.invokespecial 56, 3) := by decide +kernel
theorem dJ2_putChar_b72d1_27 : decode cJ2_putChar_b72d1 27 = .ok (.athrow, 1) := by decide +kernel
theorem dJ2_putChar_b72d1_28 : decode cJ2_putChar_b72d1 28 = .ok (.iload_n 1, 1) := by decide +kernel
theorem dJ2_putChar_b72d1_29 : decode cJ2_putChar_b72d1 29 = .ok (.iconst 1, 1) := by decide +kernel
theorem dJ2_putChar_b72d1_30 : decode cJ2_putChar_b72d1 30 = .ok (.ishl, 1) := by decide +kernel
theorem dJ2_putChar_b72d1_31 : decode cJ2_putChar_b72d1 31 = .ok (.istore_n 1, 1) := by decide +kernel
theorem dJ2_putChar_b72d1_32 : decode cJ2_putChar_b72d1 32 = .ok (.aload_n 0, 1) := by decide +kernel
theorem dJ2_putChar_b72d1_33 : decode cJ2_putChar_b72d1 33 = .ok (.iload_n 1, 1) := by decide +kernel
theorem dJ2_putChar_b72d1_34 : decode cJ2_putChar_b72d1 34 = .ok (.iinc 1 1, 3) := by decide +kernel
theorem dJ2_putChar_b72d1_37 : decode cJ2_putChar_b72d1 37 = .ok (.iload_n 2, 1) := by decide +kernel
theorem dJ2_putChar_b72d1_38 : decode cJ2_putChar_b72d1 38 = .ok (.getstatic 59, 3) := by decide +kernel
theorem dJ2_putChar_b72d1_41 : decode cJ2_putChar_b72d1 41 = .ok (.ishr, 1) := by decide +kernel
theorem dJ2_putChar_b72d1_42 : decode cJ2_putChar_b72d1 42 = .ok (.i2b, 1) := by decide +kernel
theorem dJ2_putChar_b72d1_43 : decode cJ2_putChar_b72d1 43 = .ok (.bastore, 1) := by decide +kernel
theorem dJ2_putChar_b72d1_44 : decode cJ2_putChar_b72d1 44 = .ok (.aload_n 0, 1) := by decide +kernel
theorem dJ2_putChar_b72d1_45 : decode cJ2_putChar_b72d1 45 = .ok (.iload_n 1, 1) := by decide +kernel
theorem dJ2_putChar_b72d1_46 : decode cJ2_putChar_b72d1 46 = .ok (.iload_n 2, 1) := by decide +kernel
theorem dJ2_putChar_b72d1_47 : decode cJ2_putChar_b72d1 47 = .ok (.getstatic 63, 3) := by decide +kernel
theorem dJ2_putChar_b72d1_50 : decode cJ2_putChar_b72d1 50 = .ok (.ishr, 1) := by decide +kernel
theorem dJ2_putChar_b72d1_51 : decode cJ2_putChar_b72d1 51 = .ok (.i2b, 1) := by decide +kernel
theorem dJ2_putChar_b72d1_52 : decode cJ2_putChar_b72d1 52 = .ok (.bastore, 1) := by decide +kernel
theorem dJ2_putChar_b72d1_53 : decode cJ2_putChar_b72d1 53 = .ok (.return_, 1) := by decide +kernel
theorem dJ2_getChar_3b067_0 : decode cJ2_getChar_3b067 0 = .ok (.getstatic 44, 3) := by decide +kernel
theorem dJ2_getChar_3b067_3 : decode cJ2_getChar_3b067 3 = .ok (.ifCond .ne 25, 3) := by decide +kernel
theorem dJ2_getChar_3b067_6 : decode cJ2_getChar_3b067 6 = .ok (.iload_n 1, 1) := by decide +kernel
theorem dJ2_getChar_3b067_7 : decode cJ2_getChar_3b067 7 = .ok (.ifCond .lt 11, 3) := by decide +kernel
theorem dJ2_getChar_3b067_10 : decode cJ2_getChar_3b067 10 = .ok (.iload_n 1, 1) := by decide +kernel
theorem dJ2_getChar_3b067_11 : decode cJ2_getChar_3b067 11 = .ok (.aload_n 0, 1) := by decide +kernel
theorem dJ2_getChar_3b067_12 : decode cJ2_getChar_3b067 12 = .ok (.invokestatic 48, 3) := by decide +kernel
theorem dJ2_getChar_3b067_15 : decode cJ2_getChar_3b067 15 = .ok (.if_icmp .lt 13, 3) := by decide +kernel
theorem dJ2_getChar_3b067_18 : decode cJ2_getChar_3b067 18 = .ok (.new 52, 3) := by decide +kernel
theorem dJ2_getChar_3b067_21 : decode cJ2_getChar_3b067 21 = .ok (.dup, 1) := by decide +kernel
theorem dJ2_getChar_3b067_22 : decode cJ2_getChar_3b067 22 = .ok (.ldc 54, 2) := by decide +kernel
theorem dJ2_getChar_3b067_24 : decode cJ2_getChar_3b067 24 = .ok (.invokespecial 56, 3) := by decide +kernel
theorem dJ2_getChar_3b067_27 : decode cJ2_getChar_3b067 27 = .ok (.athrow, 1) := by decide +kernel
theorem dJ2_getChar_3b067_28 : decode cJ2_getChar_3b067 28 = .ok (.iload_n 1, 1) := by decide +kernel
theorem dJ2_getChar_3b067_29 : decode cJ2_getChar_3b067 29 = .ok (.iconst 1, 1) := by decide +kernel
theorem dJ2_getChar_3b067_30 : decode cJ2_getChar_3b067 30 = .ok (.ishl, 1) := by decide +kernel
theorem dJ2_getChar_3b067_31 : decode cJ2_getChar_3b067 31 = .ok (.istore_n 1, 1) := by decide +kernel
theorem dJ2_getChar_3b067_32 : decode cJ2_getChar_3b067 32 = .ok (.aload_n 0, 1) := by decide +kernel
theorem dJ2_getChar_3b067_33 : decode cJ2_getChar_3b067 33 = .ok (.iload_n 1, 1) := by decide +kernel
theorem dJ2_getChar_3b067_34 : decode cJ2_getChar_3b067 34 = .ok (.iinc 1 1, 3) := by decide +kernel
theorem dJ2_getChar_3b067_37 : decode cJ2_getChar_3b067 37 = .ok (.baload, 1) := by decide +kernel
theorem dJ2_getChar_3b067_38 : decode cJ2_getChar_3b067 38 = .ok (.sipush 255, 3) := by decide +kernel
theorem dJ2_getChar_3b067_41 : decode cJ2_getChar_3b067 41 = .ok (.iand, 1) := by decide +kernel
theorem dJ2_getChar_3b067_42 : decode cJ2_getChar_3b067 42 = .ok (.getstatic 59, 3) := by decide +kernel
theorem dJ2_getChar_3b067_45 : decode cJ2_getChar_3b067 45 = .ok (.ishl, 1) := by decide +kernel
theorem dJ2_getChar_3b067_46 : decode cJ2_getChar_3b067 46 = .ok (.aload_n 0, 1) := by decide +kernel
theorem dJ2_getChar_3b067_47 : decode cJ2_getChar_3b067 47 = .ok (.iload_n 1, 1) := by decide +kernel
theorem dJ2_getChar_3b067_48 : decode cJ2_getChar_3b067 48 = .ok (.baload, 1) := by decide +kernel
theorem dJ2_getChar_3b067_49 : decode cJ2_getChar_3b067 49 = .ok (.sipush 255, 3) := by decide +kernel
theorem dJ2_getChar_3b067_52 : decode cJ2_getChar_3b067 52 = .ok (.iand, 1) := by decide +kernel
theorem dJ2_getChar_3b067_53 : decode cJ2_getChar_3b067 53 = .ok (.getstatic 63, 3) := by decide +kernel
theorem dJ2_getChar_3b067_56 : decode cJ2_getChar_3b067 56 = .ok (.ishl, 1) := by decide +kernel
theorem dJ2_getChar_3b067_57 : decode cJ2_getChar_3b067 57 = .ok (.ior, 1) := by decide +kernel
theorem dJ2_getChar_3b067_58 : decode cJ2_getChar_3b067 58 = .ok (.i2c, 1) := by decide +kernel
theorem dJ2_getChar_3b067_59 : decode cJ2_getChar_3b067 59 = .ok (.ireturn, 1) := by decide +kernel
theorem dJ2_length_9d52b_0 : decode cJ2_length_9d52b 0 = .ok (.aload_n 0, 1) := by decide +kernel
theorem dJ2_length_9d52b_1 : decode cJ2_length_9d52b 1 = .ok (.arraylength, 1) := by decide +kernel
theorem dJ2_length_9d52b_2 : decode cJ2_length_9d52b 2 = .ok (.iconst 1, 1) := by decide +kernel
theorem dJ2_length_9d52b_3 : decode cJ2_length_9d52b 3 = .ok (.ishr, 1) := by decide +kernel
theorem dJ2_length_9d52b_4 : decode cJ2_length_9d52b 4 = .ok (.ireturn, 1) := by decide +kernel
theorem dJ2_putCharSB_b72d1_0 : decode cJ2_putCharSB_b72d1 0 = .ok (.iload_n 1, 1) := by decide +kernel
theorem dJ2_putCharSB_b72d1_1 : decode cJ2_putCharSB_b72d1 1 = .ok (.aload_n 0, 1) := by decide +kernel
theorem dJ2_putCharSB_b72d1_2 : decode cJ2_putCharSB_b72d1 2 = .ok (.invokestatic 67, 3) := by decide +kernel
theorem dJ2_putCharSB_b72d1_5 : decode cJ2_putCharSB_b72d1 5 = .ok (.aload_n 0, 1) := by decide +kernel
theorem dJ2_putCharSB_b72d1_6 : decode cJ2_putCharSB_b72d1 6 = .ok (.iload_n 1, 1) := by decide +kernel
theorem dJ2_putCharSB_b72d1_7 : decode cJ2_putCharSB_b72d1 7 = .ok (.iload_n 2, 1) := by decide +kernel
theorem dJ2_putCharSB_b72d1_8 : decode cJ2_putCharSB_b72d1 8 = .ok (.invokestatic 111, 3) := by decide +kernel
theorem dJ2_putCharSB_b72d1_11 : decode cJ2_putCharSB_b72d1 11 = .ok (.return_, 1) := by decide +kernel
theorem dJ2_getChars_46870_0 : decode cJ2_getChars_46870 0 = .ok (.iload_n 1, 1) := by decide +kernel
theorem dJ2_getChars_46870_1 : decode cJ2_getChars_46870 1 = .ok (.iload_n 2, 1) := by decide +kernel
theorem dJ2_getChars_46870_2 : decode cJ2_getChars_46870 2 = .ok (.aload_n 3, 1) := by decide +kernel
theorem dJ2_getChars_46870_3 : decode cJ2_getChars_46870 3 = .ok (.invokestatic 96, 3) := by decide +kernel
theorem dJ2_getChars_46870_6 : decode cJ2_getChars_46870 6 = .ok (.iload_n 0, 1) := by decide +kernel
theorem dJ2_getChars_46870_7 : decode cJ2_getChars_46870 7 = .ok (.iload_n 2, 1) := by decide +kernel
theorem dJ2_getChars_46870_8 : decode cJ2_getChars_46870 8 = .ok (.aload_n 3, 1) := by decide +kernel
theorem dJ2_getChars_46870_9 : decode cJ2_getChars_46870 9 = .ok (.invokestatic 393, 3) := by decide +kernel
theorem dJ2_getChars_46870_12 : decode cJ2_getChars_46870 12 = .ok (.istore 4, 2) := by decide +kernel
theorem dJ2_getChars_46870_14 : decode cJ2_getChars_46870 14 = .ok (.getstatic 44, 3) := by decide +kernel
theorem dJ2_getChars_46870_17 : decode cJ2_getChars_46870 17 = .ok (.ifCond .ne 17, 3) := by decide +kernel
theorem dJ2_getChars_46870_20 : decode cJ2_getChars_46870 20 = .ok (.iload_n 1, 1) := by decide +kernel
theorem dJ2_getChars_46870_21 : decode cJ2_getChars_46870 21 = .ok (.iload 4, 2) := by decide +kernel
theorem dJ2_getChars_46870_23 : decode cJ2_getChars_46870 23 = .ok (.if_icmp .eq 11, 3) := by decide +kernel
theorem dJ2_getChars_46870_26 : decode cJ2_getChars_46870 26 = .ok (.new 52, 3) := by decide +kernel
theorem dJ2_getChars_46870_29 : decode cJ2_getChars_46870 29 = .ok (.dup, 1) := by decide +kernel
theorem dJ2_getChars_46870_30 : decode cJ2_getChars_46870 30 = .ok (.invokespecial 66, 3) := by decide +kernel
theorem dJ2_getChars_46870_33 : decode cJ2_getChars_46870 33 = .ok (.athrow, 1) := by decide +kernel
theorem dJ2_getChars_46870_34 : decode cJ2_getChars_46870 34 = .ok (.iload 4, 2) := by decide +kernel
theorem dJ2_getChars_46870_36 : decode cJ2_getChars_46870 36 = .ok (.ireturn, 1) := by decide +kernel
theorem dJ2_putCharsAt_cd4e5_0 : decode cJ2_putCharsAt_cd4e5 0 = .ok (.iload_n 1, 1) := by decide +kernel
theorem dJ2_putCharsAt_cd4e5_1 : decode cJ2_putCharsAt_cd4e5 1 = .ok (.iconst 4, 1) := by decide +kernel
theorem dJ2_putCharsAt_cd4e5_2 : decode cJ2_putCharsAt_cd4e5 2 = .ok (.iadd, 1) := by decide +kernel
theorem dJ2_putCharsAt_cd4e5_3 : decode cJ2_putCharsAt_cd4e5 3 = .ok (.istore 6, 2) := by decide +kernel
theorem dJ2_putCharsAt_cd4e5_5 : decode cJ2_putCharsAt_cd4e5 5 = .ok (.iload_n 1, 1) := by decide +kernel
theorem dJ2_putCharsAt_cd4e5_6 : decode cJ2_putCharsAt_cd4e5 6 = .ok (.iload 6, 2) := by decide +kernel
theorem dJ2_putCharsAt_cd4e5_8 : decode cJ2_putCharsAt_cd4e5 8 = .ok (.aload_n 0, 1) := by decide +kernel
theorem dJ2_putCharsAt_cd4e5_9 : decode cJ2_putCharsAt_cd4e5 9 = .ok (.invokestatic 96, 3) := by decide +kernel
theorem dJ2_putCharsAt_cd4e5_12 : decode cJ2_putCharsAt_cd4e5 12 = .ok (.aload_n 0, 1) := by decide +kernel
theorem dJ2_putCharsAt_cd4e5_13 : decode cJ2_putCharsAt_cd4e5 13 = .ok (.iload_n 1, 1) := by decide +kernel
theorem dJ2_putCharsAt_cd4e5_14 : decode cJ2_putCharsAt_cd4e5 14 = .ok (.iinc 1 1, 3) := by decide +kernel
theorem dJ2_putCharsAt_cd4e5_17 : decode cJ2_putCharsAt_cd4e5 17 = .ok (.iload_n 2, 1) := by decide +kernel
theorem dJ2_putCharsAt_cd4e5_18 : decode cJ2_putCharsAt_cd4e5 18 = .ok (.invokestatic 111, 3) := by decide +kernel
theorem dJ2_putCharsAt_cd4e5_21 : decode cJ2_putCharsAt_cd4e5 21 = .ok (.aload_n 0, 1) := by decide +kernel
theorem dJ2_putCharsAt_cd4e5_22 : decode cJ2_putCharsAt_cd4e5 22 = .ok (.iload_n 1, 1) := by decide +kernel
theorem dJ2_putCharsAt_cd4e5_23 : decode cJ2_putCharsAt_cd4e5 23 = .ok (.iinc 1 1, 3) := by decide +kernel
theorem dJ2_putCharsAt_cd4e5_26 : decode cJ2_putCharsAt_cd4e5 26 = .ok (.iload_n 3, 1) := by decide +kernel
theorem dJ2_putCharsAt_cd4e5_27 : decode cJ2_putCharsAt_cd4e5 27 = .ok (.invokestatic 111, 3) := by decide +kernel
theorem dJ2_putCharsAt_cd4e5_30 : decode cJ2_putCharsAt_cd4e5 30 = .ok (.aload_n 0, 1) := by decide +kernel
theorem dJ2_putCharsAt_cd4e5_31 : decode cJ2_putCharsAt_cd4e5 31 = .ok (.iload_n 1, 1) := by decide +kernel
theorem dJ2_putCharsAt_cd4e5_32 : decode cJ2_putCharsAt_cd4e5 32 = .ok (.iinc 1 1, 3) := by decide +kernel
theorem dJ2_putCharsAt_cd4e5_35 : decode cJ2_putCharsAt_cd4e5 35 = .ok (.iload 4, 2) := by decide +kernel
theorem dJ2_putCharsAt_cd4e5_37 : decode cJ2_putCharsAt_cd4e5 37 = .ok (.invokestatic 111, 3) := by decide +kernel
theorem dJ2_putCharsAt_cd4e5_40 : decode cJ2_putCharsAt_cd4e5 40 = .ok (.aload_n 0, 1) := by decide +kernel
theorem dJ2_putCharsAt_cd4e5_41 : decode cJ2_putCharsAt_cd4e5 41 = .ok (.iload_n 1, 1) := by decide +kernel
theorem dJ2_putCharsAt_cd4e5_42 : decode cJ2_putCharsAt_cd4e5 42 = .ok (.iinc 1 1, 3) := by decide +kernel
theorem dJ2_putCharsAt_cd4e5_45 : decode cJ2_putCharsAt_cd4e5 45 = .ok (.iload 5, 2) := by decide +kernel
theorem dJ2_putCharsAt_cd4e5_47 : decode cJ2_putCharsAt_cd4e5 47 = .ok (.invokestatic 111, 3) := by decide +kernel
theorem dJ2_putCharsAt_cd4e5_50 : decode cJ2_putCharsAt_cd4e5 50 = .ok (.getstatic 44, 3) := by decide +kernel
theorem dJ2_putCharsAt_cd4e5_53 : decode cJ2_putCharsAt_cd4e5 53 = .ok (.ifCond .ne 17, 3) := by decide +kernel
theorem dJ2_putCharsAt_cd4e5_56 : decode cJ2_putCharsAt_cd4e5 56 = .ok (.iload_n 1, 1) := by decide +kernel
theorem dJ2_putCharsAt_cd4e5_57 : decode cJ2_putCharsAt_cd4e5 57 = .ok (.iload 6, 2) := by decide +kernel
theorem dJ2_putCharsAt_cd4e5_59 : decode cJ2_putCharsAt_cd4e5 59 = .ok (.if_icmp .eq 11, 3) := by decide +kernel
theorem dJ2_putCharsAt_cd4e5_62 : decode cJ2_putCharsAt_cd4e5 62 = .ok (.new 52, 3) := by decide +kernel
theorem dJ2_putCharsAt_cd4e5_65 : decode cJ2_putCharsAt_cd4e5 65 = .ok (.dup, 1) := by decide +kernel
theorem dJ2_putCharsAt_cd4e5_66 : decode cJ2_putCharsAt_cd4e5 66 = .ok (.invokespecial 66, 3) := by decide +kernel
theorem dJ2_putCharsAt_cd4e5_69 : decode cJ2_putCharsAt_cd4e5 69 = .ok (.athrow, 1) := by decide +kernel
theorem dJ2_putCharsAt_cd4e5_70 : decode cJ2_putCharsAt_cd4e5 70 = .ok (.iload 6, 2) := by decide +kernel
theorem dJ2_putCharsAt_cd4e5_72 : decode cJ2_putCharsAt_cd4e5 72 = .ok (.ireturn, 1) := by decide +kernel
theorem dJ2_charAt_3b067_0 : decode cJ2_charAt_3b067 0 = .ok (.iload_n 1, 1) := by decide +kernel
theorem dJ2_charAt_3b067_1 : decode cJ2_charAt_3b067 1 = .ok (.aload_n 0, 1) := by decide +kernel
theorem dJ2_charAt_3b067_2 : decode cJ2_charAt_3b067 2 = .ok (.invokestatic 67, 3) := by decide +kernel
theorem dJ2_charAt_3b067_5 : decode cJ2_charAt_3b067 5 = .ok (.aload_n 0, 1) := by decide +kernel
theorem dJ2_charAt_3b067_6 : decode cJ2_charAt_3b067 6 = .ok (.iload_n 1, 1) := by decide +kernel
theorem dJ2_charAt_3b067_7 : decode cJ2_charAt_3b067 7 = .ok (.invokestatic 71, 3) := by decide +kernel
theorem dJ2_charAt_3b067_10 : decode cJ2_charAt_3b067 10 = .ok (.ireturn, 1) := by decide +kernel
theorem dJ2_inflate_0e8fd_0 : decode cJ2_inflate_0e8fd 0 = .ok (.iload_n 3, 1) := by decide +kernel
theorem dJ2_inflate_0e8fd_1 : decode cJ2_inflate_0e8fd 1 = .ok (.iload 4, 2) := by decide +kernel
theorem dJ2_inflate_0e8fd_3 : decode cJ2_inflate_0e8fd 3 = .ok (.aload_n 2, 1) := by decide +kernel
theorem dJ2_inflate_0e8fd_4 : decode cJ2_inflate_0e8fd 4 = .ok (.invokestatic 173, 3) := by decide +kernel
theorem dJ2_inflate_0e8fd_7 : decode cJ2_inflate_0e8fd 7 = .ok (.iconst 0, 1) := by decide +kernel
theorem dJ2_inflate_0e8fd_8 : decode cJ2_inflate_0e8fd 8 = .ok (.istore 5, 2) := by decide +kernel
theorem dJ2_inflate_0e8fd_10 : decode cJ2_inflate_0e8fd 10 = .ok (.iload 5, 2) := by decide +kernel
theorem dJ2_inflate_0e8fd_12 : decode cJ2_inflate_0e8fd 12 = .ok (.iload 4, 2) := by decide +kernel
theorem dJ2_inflate_0e8fd_14 : decode cJ2_inflate_0e8fd 14 = .ok (.if_icmp .ge 27, 3) := by decide +kernel
theorem dJ2_inflate_0e8fd_17 : decode cJ2_inflate_0e8fd 17 = .ok (.aload_n 2, 1) := by decide +kernel
theorem dJ2_inflate_0e8fd_18 : decode cJ2_inflate_0e8fd 18 = .ok (.iload_n 3, 1) := by decide +kernel
theorem dJ2_inflate_0e8fd_19 : decode cJ2_inflate_0e8fd 19 = .ok (.iinc 3 1, 3) := by decide +kernel
theorem dJ2_inflate_0e8fd_22 : decode cJ2_inflate_0e8fd 22 = .ok (.aload_n 0, 1) := by decide +kernel
theorem dJ2_inflate_0e8fd_23 : decode cJ2_inflate_0e8fd 23 = .ok (.iload_n 1, 1) := by decide +kernel
theorem dJ2_inflate_0e8fd_24 : decode cJ2_inflate_0e8fd 24 = .ok (.iinc 1 1, 3) := by decide +kernel
theorem dJ2_inflate_0e8fd_27 : decode cJ2_inflate_0e8fd 27 = .ok (.baload, 1) := by decide +kernel
theorem dJ2_inflate_0e8fd_28 : decode cJ2_inflate_0e8fd 28 = .ok (.sipush 255, 3) := by decide +kernel
theorem dJ2_inflate_0e8fd_31 : decode cJ2_inflate_0e8fd 31 = .ok (.iand, 1) := by decide +kernel
theorem dJ2_inflate_0e8fd_32 : decode cJ2_inflate_0e8fd 32 = .ok (.invokestatic 111, 3) := by decide +kernel
theorem dJ2_inflate_0e8fd_35 : decode cJ2_inflate_0e8fd 35 = .ok (.iinc 5 1, 3) := by decide +kernel
theorem dJ2_inflate_0e8fd_38 : decode cJ2_inflate_0e8fd 38 = .ok (.goto (-28), 3) := by decide +kernel
theorem dJ2_inflate_0e8fd_41 : decode cJ2_inflate_0e8fd 41 = .ok (.return_, 1) := by decide +kernel
theorem dJ2_getChars_ba4f3_0 : decode cJ2_getChars_ba4f3 0 = .ok (.iload_n 1, 1) := by decide +kernel
theorem dJ2_getChars_ba4f3_1 : decode cJ2_getChars_ba4f3 1 = .ok (.istore 5, 2) := by decide +kernel
theorem dJ2_getChars_ba4f3_3 : decode cJ2_getChars_ba4f3 3 = .ok (.iload_n 0, 1) := by decide +kernel
theorem dJ2_getChars_ba4f3_4 : decode cJ2_getChars_ba4f3 4 = .ok (.ifCond .ge 7, 3) := by decide +kernel
theorem dJ2_getChars_ba4f3_7 : decode cJ2_getChars_ba4f3 7 = .ok (.iconst 1, 1) := by decide +kernel
theorem dJ2_getChars_ba4f3_8 : decode cJ2_getChars_ba4f3 8 = .ok (.goto 4, 3) := by decide +kernel
theorem dJ2_getChars_ba4f3_11 : decode cJ2_getChars_ba4f3 11 = .ok (.iconst 0, 1) := by decide +kernel
theorem dJ2_getChars_ba4f3_12 : decode cJ2_getChars_ba4f3 12 = .ok (.istore 6, 2) := by decide +kernel
theorem dJ2_getChars_ba4f3_14 : decode cJ2_getChars_ba4f3 14 = .ok (.iload 6, 2) := by decide +kernel
theorem dJ2_getChars_ba4f3_16 : decode cJ2_getChars_ba4f3 16 = .ok (.ifCond .ne 6, 3) := by decide +kernel
theorem dJ2_getChars_ba4f3_19 : decode cJ2_getChars_ba4f3 19 = .ok (.iload_n 0, 1) := by decide +kernel
theorem dJ2_getChars_ba4f3_20 : decode cJ2_getChars_ba4f3 20 = .ok (.ineg, 1) := by decide +kernel
theorem dJ2_getChars_ba4f3_21 : decode cJ2_getChars_ba4f3 21 = .ok (.istore_n 0, 1) := by decide +kernel
theorem dJ2_getChars_ba4f3_22 : decode cJ2_getChars_ba4f3 22 = .ok (.iload_n 0, 1) := by decide +kernel
theorem dJ2_getChars_ba4f3_23 : decode cJ2_getChars_ba4f3 23 = .ok (.bipush (-100), 2) := by decide +kernel
theorem dJ2_getChars_ba4f3_25 : decode cJ2_getChars_ba4f3 25 = .ok (.if_icmp .gt 51, 3) := by decide +kernel
theorem dJ2_getChars_ba4f3_28 : decode cJ2_getChars_ba4f3 28 = .ok (.iload_n 0, 1) := by decide +kernel
theorem dJ2_getChars_ba4f3_29 : decode cJ2_getChars_ba4f3 29 = .ok (.bipush 100, 2) := by decide +kernel
theorem dJ2_getChars_ba4f3_31 : decode cJ2_getChars_ba4f3 31 = .ok (.idiv, 1) := by decide +kernel
theorem dJ2_getChars_ba4f3_32 : decode cJ2_getChars_ba4f3 32 = .ok (.istore_n 3, 1) := by decide +kernel
theorem dJ2_getChars_ba4f3_33 : decode cJ2_getChars_ba4f3 33 = .ok (.iload_n 3, 1) := by decide +kernel
theorem dJ2_getChars_ba4f3_34 : decode cJ2_getChars_ba4f3 34 = .ok (.bipush 100, 2) := by decide +kernel
theorem dJ2_getChars_ba4f3_36 : decode cJ2_getChars_ba4f3 36 = .ok (.imul, 1) := by decide +kernel
theorem dJ2_getChars_ba4f3_37 : decode cJ2_getChars_ba4f3 37 = .ok (.iload_n 0, 1) := by decide +kernel
theorem dJ2_getChars_ba4f3_38 : decode cJ2_getChars_ba4f3 38 = .ok (.isub, 1) := by decide +kernel
theorem dJ2_getChars_ba4f3_39 : decode cJ2_getChars_ba4f3 39 = .ok (.istore 4, 2) := by decide +kernel
theorem dJ2_getChars_ba4f3_41 : decode cJ2_getChars_ba4f3 41 = .ok (.iload_n 3, 1) := by decide +kernel
theorem dJ2_getChars_ba4f3_42 : decode cJ2_getChars_ba4f3 42 = .ok (.istore_n 0, 1) := by decide +kernel
theorem dJ2_getChars_ba4f3_43 : decode cJ2_getChars_ba4f3 43 = .ok (.aload_n 2, 1) := by decide +kernel
theorem dJ2_getChars_ba4f3_44 : decode cJ2_getChars_ba4f3 44 = .ok (.iinc 5 (-1), 3) := by decide +kernel
theorem dJ2_getChars_ba4f3_47 : decode cJ2_getChars_ba4f3 47 = .ok (.iload 5, 2) := by decide +kernel
theorem dJ2_getChars_ba4f3_49 : decode cJ2_getChars_ba4f3 49 = .ok (.getstatic 403, 3) := by decide +kernel
theorem dJ2_getChars_ba4f3_52 : decode cJ2_getChars_ba4f3 52 = .ok (.iload 4, 2) := by decide +kernel
theorem dJ2_getChars_ba4f3_54 : decode cJ2_getChars_ba4f3 54 = .ok (.baload, 1) := by decide +kernel
theorem dJ2_getChars_ba4f3_55 : decode cJ2_getChars_ba4f3 55 = .ok (.invokestatic 111, 3) := by decide +kernel
theorem dJ2_getChars_ba4f3_58 : decode cJ2_getChars_ba4f3 58 = .ok (.aload_n 2, 1) := by decide +kernel
theorem dJ2_getChars_ba4f3_59 : decode cJ2_getChars_ba4f3 59 = .ok (.iinc 5 (-1), 3) := by decide +kernel
theorem dJ2_getChars_ba4f3_62 : decode cJ2_getChars_ba4f3 62 = .ok (.iload 5, 2) := by decide +kernel
theorem dJ2_getChars_ba4f3_64 : decode cJ2_getChars_ba4f3 64 = .ok (.getstatic 407, 3) := by decide +kernel
theorem dJ2_getChars_ba4f3_67 : decode cJ2_getChars_ba4f3 67 = .ok (.iload 4, 2) := by decide +kernel
theorem dJ2_getChars_ba4f3_69 : decode cJ2_getChars_ba4f3 69 = .ok (.baload, 1) := by decide +kernel
theorem dJ2_getChars_ba4f3_70 : decode cJ2_getChars_ba4f3 70 = .ok (.invokestatic 111, 3) := by decide +kernel
theorem dJ2_getChars_ba4f3_73 : decode cJ2_getChars_ba4f3 73 = .ok (.goto (-51), 3) := by decide +kernel
theorem dJ2_getChars_ba4f3_76 : decode cJ2_getChars_ba4f3 76 = .ok (.aload_n 2, 1) := by decide +kernel
theorem dJ2_getChars_ba4f3_77 : decode cJ2_getChars_ba4f3 77 = .ok (.iinc 5 (-1), 3) := by decide +kernel
theorem dJ2_getChars_ba4f3_80 : decode cJ2_getChars_ba4f3 80 = .ok (.iload 5, 2) := by decide +kernel
theorem dJ2_getChars_ba4f3_82 : decode cJ2_getChars_ba4f3 82 = .ok (.getstatic 403, 3) := by decide +kernel
theorem dJ2_getChars_ba4f3_85 : decode cJ2_getChars_ba4f3 85 = .ok (.iload_n 0, 1) := by decide +kernel
theorem dJ2_getChars_ba4f3_86 : decode cJ2_getChars_ba4f3 86 = .ok (.ineg, 1) := by decide +kernel
theorem dJ2_getChars_ba4f3_87 : decode cJ2_getChars_ba4f3 87 = .ok (.baload, 1) := by decide +kernel
theorem dJ2_getChars_ba4f3_88 : decode cJ2_getChars_ba4f3 88 = .ok (.invokestatic 111, 3) := by decide +kernel
theorem dJ2_getChars_ba4f3_91 : decode cJ2_getChars_ba4f3 91 = .ok (.iload_n 0, 1) := by decide +kernel
theorem dJ2_getChars_ba4f3_92 : decode cJ2_getChars_ba4f3 92 = .ok (.bipush (-9), 2) := by decide +kernel
theorem dJ2_getChars_ba4f3_94 : decode cJ2_getChars_ba4f3 94 = .ok (.if_icmp .ge 18, 3) := by decide +kernel
theorem dJ2_getChars_ba4f3_97 : decode cJ2_getChars_ba4f3 97 = .ok (.aload_n 2, 1) := by decide +kernel
theorem dJ2_getChars_ba4f3_98 : decode cJ2_getChars_ba4f3 98 = .ok (.iinc 5 (-1), 3) := by decide +kernel
theorem dJ2_getChars_ba4f3_101 : decode cJ2_getChars_ba4f3 101 = .ok (.iload 5, 2) := by decide +kernel
theorem dJ2_getChars_ba4f3_103 : decode cJ2_getChars_ba4f3 103 = .ok (.getstatic 407, 3) := by decide +kernel
theorem dJ2_getChars_ba4f3_106 : decode cJ2_getChars_ba4f3 106 = .ok (.iload_n 0, 1) := by decide +kernel
theorem dJ2_getChars_ba4f3_107 : decode cJ2_getChars_ba4f3 107 = .ok (.ineg, 1) := by decide +kernel
theorem dJ2_getChars_ba4f3_108 : decode cJ2_getChars_ba4f3 108 = .ok (.baload, 1) := by decide +kernel
theorem dJ2_getChars_ba4f3_109 : decode cJ2_getChars_ba4f3 109 = .ok (.invokestatic 111, 3) := by decide +kernel
theorem dJ2_getChars_ba4f3_112 : decode cJ2_getChars_ba4f3 112 = .ok (.iload 6, 2) := by decide +kernel
theorem dJ2_getChars_ba4f3_114 : decode cJ2_getChars_ba4f3 114 = .ok (.ifCond .eq 14, 3) := by decide +kernel
theorem dJ2_getChars_ba4f3_117 : decode cJ2_getChars_ba4f3 117 = .ok (.aload_n 2, 1) := by decide +kernel
theorem dJ2_getChars_ba4f3_118 : decode cJ2_getChars_ba4f3 118 = .ok (.iinc 5 (-1), 3) := by decide +kernel
theorem dJ2_getChars_ba4f3_121 : decode cJ2_getChars_ba4f3 121 = .ok (.iload 5, 2) := by decide +kernel
theorem dJ2_getChars_ba4f3_123 : decode cJ2_getChars_ba4f3 123 = .ok (.bipush 45, 2) := by decide +kernel
theorem dJ2_getChars_ba4f3_125 : decode cJ2_getChars_ba4f3 125 = .ok (.invokestatic 111, 3) := by decide +kernel
theorem dJ2_getChars_ba4f3_128 : decode cJ2_getChars_ba4f3 128 = .ok (.iload 5, 2) := by decide +kernel
theorem dJ2_getChars_ba4f3_130 : decode cJ2_getChars_ba4f3 130 = .ok (.ireturn, 1) := by decide +kernel
theorem dJ2_checkIndex_2214a_0 : decode cJ2_checkIndex_2214a 0 = .ok (.iload_n 0, 1) := by decide +kernel
theorem dJ2_checkIndex_2214a_1 : decode cJ2_checkIndex_2214a 1 = .ok (.aload_n 1, 1) := by decide +kernel
theorem dJ2_checkIndex_2214a_2 : decode cJ2_checkIndex_2214a 2 = .ok (.invokestatic 48, 3) := by decide +kernel
theorem dJ2_checkIndex_2214a_5 : decode cJ2_checkIndex_2214a 5 = .ok (.invokestatic 414, 3) := by decide +kernel
theorem dJ2_checkIndex_2214a_8 : decode cJ2_checkIndex_2214a 8 = .ok (.return_, 1) := by decide +kernel
theorem dJ2_checkBoundsBeginEnd_d044e_0 : decode cJ2_checkBoundsBeginEnd_d044e 0 = .ok (.iload_n 0, 1) := by decide +kernel
theorem dJ2_checkBoundsBeginEnd_d044e_1 : decode cJ2_checkBoundsBeginEnd_d044e 1 = .ok (.iload_n 1, 1) := by decide +kernel
theorem dJ2_checkBoundsBeginEnd_d044e_2 : decode cJ2_checkBoundsBeginEnd_d044e 2 = .ok (.aload_n 2, 1) := by decide +kernel
theorem dJ2_checkBoundsBeginEnd_d044e_3 : decode cJ2_checkBoundsBeginEnd_d044e 3 = .ok (.invokestatic 48, 3) := by decide +kernel
theorem dJ2_checkBoundsBeginEnd_d044e_6 : decode cJ2_checkBoundsBeginEnd_d044e 6 = .ok (.invokestatic 241, 3) := by decide +kernel
theorem dJ2_checkBoundsBeginEnd_d044e_9 : decode cJ2_checkBoundsBeginEnd_d044e 9 = .ok (.return_, 1) := by decide +kernel
theorem dJ2_checkBoundsOffCount_d044e_0 : decode cJ2_checkBoundsOffCount_d044e 0 = .ok (.iload_n 0, 1) := by decide +kernel
theorem dJ2_checkBoundsOffCount_d044e_1 : decode cJ2_checkBoundsOffCount_d044e 1 = .ok (.iload_n 1, 1) := by decide +kernel
theorem dJ2_checkBoundsOffCount_d044e_2 : decode cJ2_checkBoundsOffCount_d044e 2 = .ok (.aload_n 2, 1) := by decide +kernel
theorem dJ2_checkBoundsOffCount_d044e_3 : decode cJ2_checkBoundsOffCount_d044e 3 = .ok (.invokestatic 48, 3) := by decide +kernel
theorem dJ2_checkBoundsOffCount_d044e_6 : decode cJ2_checkBoundsOffCount_d044e 6 = .ok (.invokestatic 419, 3) := by decide +kernel
theorem dJ2_checkBoundsOffCount_d044e_9 : decode cJ2_checkBoundsOffCount_d044e 9 = .ok (.pop, 1) := by decide +kernel
theorem dJ2_checkBoundsOffCount_d044e_10 : decode cJ2_checkBoundsOffCount_d044e 10 = .ok (.return_, 1) := by decide +kernel
theorem dJ7_fill_53178_0 : decode cJ7_fill_53178 0 = .ok (.iconst 0, 1) := by decide +kernel
theorem dJ7_fill_53178_1 : decode cJ7_fill_53178 1 = .ok (.istore_n 2, 1) := by decide +kernel
theorem dJ7_fill_53178_2 : decode cJ7_fill_53178 2 = .ok (.aload_n 0, 1) := by decide +kernel
theorem dJ7_fill_53178_3 : decode cJ7_fill_53178 3 = .ok (.arraylength, 1) := by decide +kernel
theorem dJ7_fill_53178_4 : decode cJ7_fill_53178 4 = .ok (.istore_n 3, 1) := by decide +kernel
theorem dJ7_fill_53178_5 : decode cJ7_fill_53178 5 = .ok (.iload_n 2, 1) := by decide +kernel
theorem dJ7_fill_53178_6 : decode cJ7_fill_53178 6 = .ok (.iload_n 3, 1) := by decide +kernel
theorem dJ7_fill_53178_7 : decode cJ7_fill_53178 7 = .ok (.if_icmp .ge 13, 3) := by decide +kernel
theorem dJ7_fill_53178_10 : decode cJ7_fill_53178 10 = .ok (.aload_n 0, 1) := by decide +kernel
theorem dJ7_fill_53178_11 : decode cJ7_fill_53178 11 = .ok (.iload_n 2, 1) := by decide +kernel
theorem dJ7_fill_53178_12 : decode cJ7_fill_53178 12 = .ok (.iload_n 1, 1) := by decide +kernel
theorem dJ7_fill_53178_13 : decode cJ7_fill_53178 13 = .ok (.iastore, 1) := by decide +kernel
theorem dJ7_fill_53178_14 : decode cJ7_fill_53178 14 = .ok (.iinc 2 1, 3) := by decide +kernel
theorem dJ7_fill_53178_17 : decode cJ7_fill_53178 17 = .ok (.goto (-12), 3) := by decide +kernel
theorem dJ7_fill_53178_20 : decode cJ7_fill_53178 20 = .ok (.return_, 1) := by decide +kernel
theorem dJ7_copyOf_9075b_0 : decode cJ7_copyOf_9075b 0 = .ok (.iload_n 1, 1) := by decide +kernel
theorem dJ7_copyOf_9075b_1 : decode cJ7_copyOf_9075b 1 = .ok (.aload_n 0, 1) := by decide +kernel
theorem dJ7_copyOf_9075b_2 : decode cJ7_copyOf_9075b 2 = .ok (.arraylength, 1) := by decide +kernel
theorem dJ7_copyOf_9075b_3 : decode cJ7_copyOf_9075b 3 = .ok (.if_icmp .ne 11, 3) := by decide +kernel
theorem dJ7_copyOf_9075b_6 : decode cJ7_copyOf_9075b 6 = .ok (.aload_n 0, 1) := by decide +kernel
theorem dJ7_copyOf_9075b_7 : decode cJ7_copyOf_9075b 7 = .ok (.invokevirtual 310, 3) := by decide +kernel
theorem dJ7_copyOf_9075b_10 : decode cJ7_copyOf_9075b 10 = .ok (.checkcast 311, 3) := by decide +kernel
theorem dJ7_copyOf_9075b_13 : decode cJ7_copyOf_9075b 13 = .ok (.areturn, 1) := by decide +kernel
theorem dJ7_copyOf_9075b_14 : decode cJ7_copyOf_9075b 14 = .ok (.iload_n 1, 1) := by decide +kernel
theorem dJ7_copyOf_9075b_15 : decode cJ7_copyOf_9075b 15 = .ok (.newarray .byte, 2) := by decide +kernel
theorem dJ7_copyOf_9075b_17 : decode cJ7_copyOf_9075b 17 = .ok (.astore_n 2, 1) := by decide +kernel
theorem dJ7_copyOf_9075b_18 : decode cJ7_copyOf_9075b 18 = .ok (.aload_n 0, 1) := by decide +kernel
theorem dJ7_copyOf_9075b_19 : decode cJ7_copyOf_9075b 19 = .ok (.iconst 0, 1) := by decide +kernel
theorem dJ7_copyOf_9075b_20 : decode cJ7_copyOf_9075b 20 = .ok (.aload_n 2, 1) := by decide +kernel
theorem dJ7_copyOf_9075b_21 : decode cJ7_copyOf_9075b 21 = .ok (.iconst 0, 1) := by decide +kernel
theorem dJ7_copyOf_9075b_22 : decode cJ7_copyOf_9075b 22 = .ok (.aload_n 0, 1) := by decide +kernel
theorem dJ7_copyOf_9075b_23 : decode cJ7_copyOf_9075b 23 = .ok (.arraylength, 1) := by decide +kernel
theorem dJ7_copyOf_9075b_24 : decode cJ7_copyOf_9075b 24 = .ok (.iload_n 1, 1) := by decide +kernel
theorem dJ7_copyOf_9075b_25 : decode cJ7_copyOf_9075b 25 = .ok (.invokestatic 304, 3) := by decide +kernel
theorem dJ7_copyOf_9075b_28 : decode cJ7_copyOf_9075b 28 = .ok (.invokestatic 150, 3) := by decide +kernel
theorem dJ7_copyOf_9075b_31 : decode cJ7_copyOf_9075b 31 = .ok (.aload_n 2, 1) := by decide +kernel
theorem dJ7_copyOf_9075b_32 : decode cJ7_copyOf_9075b 32 = .ok (.areturn, 1) := by decide +kernel
theorem dJ8_newLength_cabcc_0 : decode cJ8_newLength_cabcc 0 = .ok (.iload_n 0, 1) := by decide +kernel
theorem dJ8_newLength_cabcc_1 : decode cJ8_newLength_cabcc 1 = .ok (.iload_n 1, 1) := by decide +kernel
theorem dJ8_newLength_cabcc_2 : decode cJ8_newLength_cabcc 2 = .ok (.iload_n 2, 1) := by decide +kernel
theorem dJ8_newLength_cabcc_3 : decode cJ8_newLength_cabcc 3 = .ok (.invokestatic 194, 3) := by decide +kernel
theorem dJ8_newLength_cabcc_6 : decode cJ8_newLength_cabcc 6 = .ok (.iadd, 1) := by decide +kernel
theorem dJ8_newLength_cabcc_7 : decode cJ8_newLength_cabcc 7 = .ok (.istore_n 3, 1) := by decide +kernel
theorem dJ8_newLength_cabcc_8 : decode cJ8_newLength_cabcc 8 = .ok (.iconst 0, 1) := by decide +kernel
theorem dJ8_newLength_cabcc_9 : decode cJ8_newLength_cabcc 9 = .ok (.iload_n 3, 1) := by decide +kernel
theorem dJ8_newLength_cabcc_10 : decode cJ8_newLength_cabcc 10 = .ok (.if_icmp .ge 11, 3) := by decide +kernel
theorem dJ8_newLength_cabcc_13 : decode cJ8_newLength_cabcc 13 = .ok (.iload_n 3, 1) := by decide +kernel
theorem dJ8_newLength_cabcc_14 : decode cJ8_newLength_cabcc 14 = .ok (.ldc 200, 2) := by decide +kernel
theorem dJ8_newLength_cabcc_16 : decode cJ8_newLength_cabcc 16 = .ok (.if_icmp .gt 5, 3) := by decide +kernel
theorem dJ8_newLength_cabcc_19 : decode cJ8_newLength_cabcc 19 = .ok (.iload_n 3, 1) := by decide +kernel
theorem dJ8_newLength_cabcc_20 : decode cJ8_newLength_cabcc 20 = .ok (.ireturn, 1) := by decide +kernel
theorem dJ8_newLength_cabcc_21 : decode cJ8_newLength_cabcc 21 = .ok (.iload_n 0, 1) := by decide +kernel
theorem dJ8_newLength_cabcc_22 : decode cJ8_newLength_cabcc 22 = .ok (.iload_n 1, 1) := by decide +kernel
theorem dJ8_newLength_cabcc_23 : decode cJ8_newLength_cabcc 23 = .ok (.invokestatic 201, 3) := by decide +kernel
theorem dJ8_newLength_cabcc_26 : decode cJ8_newLength_cabcc 26 = .ok (.ireturn, 1) := by decide +kernel
theorem dJ8_hugeLength_7cf53_0 : decode cJ8_hugeLength_7cf53 0 = .ok (.iload_n 0, 1) := by decide +kernel
theorem dJ8_hugeLength_7cf53_1 : decode cJ8_hugeLength_7cf53 1 = .ok (.iload_n 1, 1) := by decide +kernel
theorem dJ8_hugeLength_7cf53_2 : decode cJ8_hugeLength_7cf53 2 = .ok (.iadd, 1) := by decide +kernel
theorem dJ8_hugeLength_7cf53_3 : decode cJ8_hugeLength_7cf53 3 = .ok (.istore_n 2, 1) := by decide +kernel
theorem dJ8_hugeLength_7cf53_4 : decode cJ8_hugeLength_7cf53 4 = .ok (.iload_n 2, 1) := by decide +kernel
theorem dJ8_hugeLength_7cf53_5 : decode cJ8_hugeLength_7cf53 5 = .ok (.ifCond .ge 44, 3) := by decide +kernel
theorem dJ8_hugeLength_7cf53_8 : decode cJ8_hugeLength_7cf53 8 = .ok (.new 204, 3) := by decide +kernel
theorem dJ8_hugeLength_7cf53_11 : decode cJ8_hugeLength_7cf53 11 = .ok (.dup, 1) := by decide +kernel
theorem dJ8_hugeLength_7cf53_12 : decode cJ8_hugeLength_7cf53 12 = .ok (.new 89, 3) := by decide +kernel
theorem dJ8_hugeLength_7cf53_15 : decode cJ8_hugeLength_7cf53 15 = .ok (.dup, 1) := by decide +kernel
theorem dJ8_hugeLength_7cf53_16 : decode cJ8_hugeLength_7cf53 16 = .ok (.invokespecial 91, 3) := by decide +kernel
theorem dJ8_hugeLength_7cf53_19 : decode cJ8_hugeLength_7cf53 19 = .ok (.ldc 206, 2) := by decide +kernel
theorem dJ8_hugeLength_7cf53_21 : decode cJ8_hugeLength_7cf53 21 = .ok (.invokevirtual 94, 3) := by decide +kernel
theorem dJ8_hugeLength_7cf53_24 : decode cJ8_hugeLength_7cf53 24 = .ok (.iload_n 0, 1) := by decide +kernel
theorem dJ8_hugeLength_7cf53_25 : decode cJ8_hugeLength_7cf53 25 = .ok (.invokevirtual 98, 3) := by decide +kernel
theorem dJ8_hugeLength_7cf53_28 : decode cJ8_hugeLength_7cf53 28 = .ok (.ldc 208, 2) := by decide +kernel
theorem dJ8_hugeLength_7cf53_30 : decode cJ8_hugeLength_7cf53 30 = .ok (.invokevirtual 94, 3) := by decide +kernel
theorem dJ8_hugeLength_7cf53_33 : decode cJ8_hugeLength_7cf53 33 = .ok (.iload_n 1, 1) := by decide +kernel
theorem dJ8_hugeLength_7cf53_34 : decode cJ8_hugeLength_7cf53 34 = .ok (.invokevirtual 98, 3) := by decide +kernel
theorem dJ8_hugeLength_7cf53_37 : decode cJ8_hugeLength_7cf53 37 = .ok (.ldc 210, 2) := by decide +kernel
theorem dJ8_hugeLength_7cf53_39 : decode cJ8_hugeLength_7cf53 39 = .ok (.invokevirtual 94, 3) := by decide +kernel
theorem dJ8_hugeLength_7cf53_42 : decode cJ8_hugeLength_7cf53 42 = .ok (.invokevirtual 101, 3) := by decide +kernel
theorem dJ8_hugeLength_7cf53_45 : decode cJ8_hugeLength_7cf53 45 = .ok (.invokespecial 212, 3) := by decide +kernel
theorem dJ8_hugeLength_7cf53_48 : decode cJ8_hugeLength_7cf53 48 = .ok (.athrow, 1) := by decide +kernel
theorem dJ8_hugeLength_7cf53_49 : decode cJ8_hugeLength_7cf53 49 = .ok (.iload_n 2, 1) := by decide +kernel
theorem dJ8_hugeLength_7cf53_50 : decode cJ8_hugeLength_7cf53 50 = .ok (.ldc 200, 2) := by decide +kernel
theorem dJ8_hugeLength_7cf53_52 : decode cJ8_hugeLength_7cf53 52 = .ok (.if_icmp .gt 6, 3) := by decide +kernel
theorem dJ8_hugeLength_7cf53_55 : decode cJ8_hugeLength_7cf53 55 = .ok (.ldc 200, 2) := by decide +kernel
theorem dJ8_hugeLength_7cf53_57 : decode cJ8_hugeLength_7cf53 57 = .ok (.ireturn, 1) := by decide +kernel
theorem dJ8_hugeLength_7cf53_58 : decode cJ8_hugeLength_7cf53 58 = .ok (.iload_n 2, 1) := by decide +kernel
theorem dJ8_hugeLength_7cf53_59 : decode cJ8_hugeLength_7cf53 59 = .ok (.ireturn, 1) := by decide +kernel
theorem dJ3_checkIndex_8e157_0 : decode cJ3_checkIndex_8e157 0 = .ok (.iload_n 0, 1) := by decide +kernel
theorem dJ3_checkIndex_8e157_1 : decode cJ3_checkIndex_8e157 1 = .ok (.ifCond .lt 8, 3) := by decide +kernel
theorem dJ3_checkIndex_8e157_4 : decode cJ3_checkIndex_8e157 4 = .ok (.iload_n 0, 1) := by decide +kernel
theorem dJ3_checkIndex_8e157_5 : decode cJ3_checkIndex_8e157 5 = .ok (.iload_n 1, 1) := by decide +kernel
theorem dJ3_checkIndex_8e157_6 : decode cJ3_checkIndex_8e157 6 = .ok (.if_icmp .lt 10, 3) := by decide +kernel
theorem dJ3_checkIndex_8e157_9 : decode cJ3_checkIndex_8e157 9 = .ok (.aload_n 2, 1) := by decide +kernel
theorem dJ3_checkIndex_8e157_10 : decode cJ3_checkIndex_8e157 10 = .ok (.iload_n 0, 1) := by decide +kernel
theorem dJ3_checkIndex_8e157_11 : decode cJ3_checkIndex_8e157 11 = .ok (.iload_n 1, 1) := by decide +kernel
theorem dJ3_checkIndex_8e157_12 : decode cJ3_checkIndex_8e157 12 = .ok (.invokestatic 95, 3) := by decide +kernel
theorem dJ3_checkIndex_8e157_15 : decode cJ3_checkIndex_8e157 15 = .ok (.athrow, 1) := by decide +kernel
theorem dJ3_checkIndex_8e157_16 : decode cJ3_checkIndex_8e157 16 = .ok (.iload_n 0, 1) := by decide +kernel
theorem dJ3_checkIndex_8e157_17 : decode cJ3_checkIndex_8e157 17 = .ok (.ireturn, 1) := by decide +kernel
theorem dJ3_checkFromToIndex_8c36e_0 : decode cJ3_checkFromToIndex_8c36e 0 = .ok (.iload_n 0, 1) := by decide +kernel
theorem dJ3_checkFromToIndex_8c36e_1 : decode cJ3_checkFromToIndex_8c36e 1 = .ok (.ifCond .lt 13, 3) := by decide +kernel
theorem dJ3_checkFromToIndex_8c36e_4 : decode cJ3_checkFromToIndex_8c36e 4 = .ok (.iload_n 0, 1) := by decide +kernel
theorem dJ3_checkFromToIndex_8c36e_5 : decode cJ3_checkFromToIndex_8c36e 5 = .ok (.iload_n 1, 1) := by decide +kernel
theorem dJ3_checkFromToIndex_8c36e_6 : decode cJ3_checkFromToIndex_8c36e 6 = .ok (.if_icmp .gt 8, 3) := by decide +kernel
theorem dJ3_checkFromToIndex_8c36e_9 : decode cJ3_checkFromToIndex_8c36e 9 = .ok (.iload_n 1, 1) := by decide +kernel
theorem dJ3_checkFromToIndex_8c36e_10 : decode cJ3_checkFromToIndex_8c36e 10 = .ok (.iload_n 2, 1) := by decide +kernel
theorem dJ3_checkFromToIndex_8c36e_11 : decode cJ3_checkFromToIndex_8c36e 11 = .ok (.if_icmp .le 11, 3) := by decide +kernel
theorem dJ3_checkFromToIndex_8c36e_14 : decode cJ3_checkFromToIndex_8c36e 14 = .ok (.aload_n 3, 1) := by decide +kernel
theorem dJ3_checkFromToIndex_8c36e_15 : decode cJ3_checkFromToIndex_8c36e 15 = .ok (.iload_n 0, 1) := by decide +kernel
theorem dJ3_checkFromToIndex_8c36e_16 : decode cJ3_checkFromToIndex_8c36e 16 = .ok (.iload_n 1, 1) := by decide +kernel
theorem dJ3_checkFromToIndex_8c36e_17 : decode cJ3_checkFromToIndex_8c36e 17 = .ok (.iload_n 2, 1) := by decide +kernel
theorem dJ3_checkFromToIndex_8c36e_18 : decode cJ3_checkFromToIndex_8c36e 18 = .ok (.invokestatic 99, 3) := by decide +kernel
theorem dJ3_checkFromToIndex_8c36e_21 : decode cJ3_checkFromToIndex_8c36e 21 = .ok (.athrow, 1) := by decide +kernel
theorem dJ3_checkFromToIndex_8c36e_22 : decode cJ3_checkFromToIndex_8c36e 22 = .ok (.iload_n 0, 1) := by decide +kernel
theorem dJ3_checkFromToIndex_8c36e_23 : decode cJ3_checkFromToIndex_8c36e 23 = .ok (.ireturn, 1) := by decide +kernel
theorem dJ3_checkFromIndexSize_8c36e_0 : decode cJ3_checkFromIndexSize_8c36e 0 = .ok (.iload_n 2, 1) := by decide +kernel
theorem dJ3_checkFromIndexSize_8c36e_1 : decode cJ3_checkFromIndexSize_8c36e 1 = .ok (.iload_n 0, 1) := by decide +kernel
theorem dJ3_checkFromIndexSize_8c36e_2 : decode cJ3_checkFromIndexSize_8c36e 2 = .ok (.ior, 1) := by decide +kernel
theorem dJ3_checkFromIndexSize_8c36e_3 : decode cJ3_checkFromIndexSize_8c36e 3 = .ok (.iload_n 1, 1) := by decide +kernel
theorem dJ3_checkFromIndexSize_8c36e_4 : decode cJ3_checkFromIndexSize_8c36e 4 = .ok (.ior, 1) := by decide +kernel
theorem dJ3_checkFromIndexSize_8c36e_5 : decode cJ3_checkFromIndexSize_8c36e 5 = .ok (.ifCond .lt 10, 3) := by decide +kernel
theorem dJ3_checkFromIndexSize_8c36e_8 : decode cJ3_checkFromIndexSize_8c36e 8 = .ok (.iload_n 1, 1) := by decide +kernel
theorem dJ3_checkFromIndexSize_8c36e_9 : decode cJ3_checkFromIndexSize_8c36e 9 = .ok (.iload_n 2, 1) := by decide +kernel
theorem dJ3_checkFromIndexSize_8c36e_10 : decode cJ3_checkFromIndexSize_8c36e 10 = .ok (.iload_n 0, 1) := by decide +kernel
theorem dJ3_checkFromIndexSize_8c36e_11 : decode cJ3_checkFromIndexSize_8c36e 11 = .ok (.isub, 1) := by decide +kernel
theorem dJ3_checkFromIndexSize_8c36e_12 : decode cJ3_checkFromIndexSize_8c36e 12 = .ok (.if_icmp .le 11, 3) := by decide +kernel
theorem dJ3_checkFromIndexSize_8c36e_15 : decode cJ3_checkFromIndexSize_8c36e 15 = .ok (.aload_n 3, 1) := by decide +kernel
theorem dJ3_checkFromIndexSize_8c36e_16 : decode cJ3_checkFromIndexSize_8c36e 16 = .ok (.iload_n 0, 1) := by decide +kernel
theorem dJ3_checkFromIndexSize_8c36e_17 : decode cJ3_checkFromIndexSize_8c36e 17 = .ok (.iload_n 1, 1) := by decide +kernel
theorem dJ3_checkFromIndexSize_8c36e_18 : decode cJ3_checkFromIndexSize_8c36e 18 = .ok (.iload_n 2, 1) := by decide +kernel
theorem dJ3_checkFromIndexSize_8c36e_19 : decode cJ3_checkFromIndexSize_8c36e 19 = .ok (.invokestatic 103, 3) := by decide +kernel
theorem dJ3_checkFromIndexSize_8c36e_22 : decode cJ3_checkFromIndexSize_8c36e 22 = .ok (.athrow, 1) := by decide +kernel
theorem dJ3_checkFromIndexSize_8c36e_23 : decode cJ3_checkFromIndexSize_8c36e 23 = .ok (.iload_n 0, 1) := by decide +kernel
theorem dJ3_checkFromIndexSize_8c36e_24 : decode cJ3_checkFromIndexSize_8c36e 24 = .ok (.ireturn, 1) := by decide +kernel
end
section
/-! decode rows -/
theorem dL_law_0 : decode cL_law 0 = .ok (.new 7, 3) := by decide +kernel
theorem dL_law_3 : decode cL_law 3 = .ok (.dup, 1) := by decide +kernel
theorem dL_law_4 : decode cL_law 4 = .ok (.invokespecial 9, 3) := by decide +kernel
theorem dL_law_7 : decode cL_law 7 = .ok (.astore_n 1, 1) := by decide +kernel
theorem dL_law_8 : decode cL_law 8 = .ok (.new 10, 3) := by decide +kernel
theorem dL_law_11 : decode cL_law 11 = .ok (.dup, 1) := by decide +kernel
theorem dL_law_12 : decode cL_law 12 = .ok (.invokespecial 12, 3) := by decide +kernel
theorem dL_law_15 : decode cL_law 15 = .ok (.astore_n 2, 1) := by decide +kernel
theorem dL_law_16 : decode cL_law 16 = .ok (.iconst 0, 1) := by decide +kernel
theorem dL_law_17 : decode cL_law 17 = .ok (.istore_n 3, 1) := by decide +kernel
theorem dL_law_18 : decode cL_law 18 = .ok (.iload_n 3, 1) := by decide +kernel
theorem dL_law_19 : decode cL_law 19 = .ok (.aload_n 0, 1) := by decide +kernel
theorem dL_law_20 : decode cL_law 20 = .ok (.arraylength, 1) := by decide +kernel
theorem dL_law_21 : decode cL_law 21 = .ok (.iconst 4, 1) := by decide +kernel
theorem dL_law_22 : decode cL_law 22 = .ok (.isub, 1) := by decide +kernel
theorem dL_law_23 : decode cL_law 23 = .ok (.if_icmp .gt 530, 3) := by decide +kernel
theorem dL_law_26 : decode cL_law 26 = .ok (.aload_n 0, 1) := by decide +kernel
theorem dL_law_27 : decode cL_law 27 = .ok (.iload_n 3, 1) := by decide +kernel
theorem dL_law_28 : decode cL_law 28 = .ok (.iaload, 1) := by decide +kernel
theorem dL_law_29 : decode cL_law 29 = .ok (.bipush 31, 2) := by decide +kernel
theorem dL_law_31 : decode cL_law 31 = .ok (.iand, 1) := by decide +kernel
theorem dL_law_32 : decode cL_law 32 = .ok (.tableswitch 515 0 16 #[84, 107, 120, 133, 146, 189, 222, 265, 298, 341, 364, 387, 400, 423, 446, 469, 492], 84) := by decide +kernel
theorem dL_law_116 : decode cL_law 116 = .ok (.aload_n 1, 1) := by decide +kernel
theorem dL_law_117 : decode cL_law 117 = .ok (.aload_n 0, 1) := by decide +kernel
theorem dL_law_118 : decode cL_law 118 = .ok (.iload_n 3, 1) := by decide +kernel
theorem dL_law_119 : decode cL_law 119 = .ok (.iconst 1, 1) := by decide +kernel
theorem dL_law_120 : decode cL_law 120 = .ok (.iadd, 1) := by decide +kernel
theorem dL_law_121 : decode cL_law 121 = .ok (.iaload, 1) := by decide +kernel
theorem dL_law_122 : decode cL_law 122 = .ok (.invokevirtual 13, 3) := by decide +kernel
theorem dL_law_125 : decode cL_law 125 = .ok (.aload_n 2, 1) := by decide +kernel
theorem dL_law_126 : decode cL_law 126 = .ok (.aload_n 0, 1) := by decide +kernel
theorem dL_law_127 : decode cL_law 127 = .ok (.iload_n 3, 1) := by decide +kernel
theorem dL_law_128 : decode cL_law 128 = .ok (.iconst 1, 1) := by decide +kernel
theorem dL_law_129 : decode cL_law 129 = .ok (.iadd, 1) := by decide +kernel
theorem dL_law_130 : decode cL_law 130 = .ok (.iaload, 1) := by decide +kernel
theorem dL_law_131 : decode cL_law 131 = .ok (.invokevirtual 17, 3) := by decide +kernel
theorem dL_law_134 : decode cL_law 134 = .ok (.if_icmp .eq 413, 3) := by decide +kernel
theorem dL_law_137 : decode cL_law 137 = .ok (.iconst 0, 1) := by decide +kernel
theorem dL_law_138 : decode cL_law 138 = .ok (.ireturn, 1) := by decide +kernel
theorem dL_law_139 : decode cL_law 139 = .ok (.aload_n 1, 1) := by decide +kernel
theorem dL_law_140 : decode cL_law 140 = .ok (.invokevirtual 18, 3) := by decide +kernel
theorem dL_law_143 : decode cL_law 143 = .ok (.aload_n 2, 1) := by decide +kernel
theorem dL_law_144 : decode cL_law 144 = .ok (.invokevirtual 22, 3) := by decide +kernel
theorem dL_law_147 : decode cL_law 147 = .ok (.if_icmp .eq 400, 3) := by decide +kernel
theorem dL_law_150 : decode cL_law 150 = .ok (.iconst 0, 1) := by decide +kernel
theorem dL_law_151 : decode cL_law 151 = .ok (.ireturn, 1) := by decide +kernel
theorem dL_law_152 : decode cL_law 152 = .ok (.aload_n 1, 1) := by decide +kernel
theorem dL_law_153 : decode cL_law 153 = .ok (.invokevirtual 23, 3) := by decide +kernel
theorem dL_law_156 : decode cL_law 156 = .ok (.aload_n 2, 1) := by decide +kernel
theorem dL_law_157 : decode cL_law 157 = .ok (.invokevirtual 26, 3) := by decide +kernel
theorem dL_law_160 : decode cL_law 160 = .ok (.if_icmp .eq 387, 3) := by decide +kernel
theorem dL_law_163 : decode cL_law 163 = .ok (.iconst 0, 1) := by decide +kernel
theorem dL_law_164 : decode cL_law 164 = .ok (.ireturn, 1) := by decide +kernel
theorem dL_law_165 : decode cL_law 165 = .ok (.aload_n 1, 1) := by decide +kernel
theorem dL_law_166 : decode cL_law 166 = .ok (.invokevirtual 27, 3) := by decide +kernel
theorem dL_law_169 : decode cL_law 169 = .ok (.aload_n 2, 1) := by decide +kernel
theorem dL_law_170 : decode cL_law 170 = .ok (.invokevirtual 30, 3) := by decide +kernel
theorem dL_law_173 : decode cL_law 173 = .ok (.if_icmp .eq 374, 3) := by decide +kernel
theorem dL_law_176 : decode cL_law 176 = .ok (.iconst 0, 1) := by decide +kernel
theorem dL_law_177 : decode cL_law 177 = .ok (.ireturn, 1) := by decide +kernel
theorem dL_law_178 : decode cL_law 178 = .ok (.aload_n 1, 1) := by decide +kernel
theorem dL_law_179 : decode cL_law 179 = .ok (.aload_n 0, 1) := by decide +kernel
theorem dL_law_180 : decode cL_law 180 = .ok (.iload_n 3, 1) := by decide +kernel
theorem dL_law_181 : decode cL_law 181 = .ok (.iconst 1, 1) := by decide +kernel
theorem dL_law_182 : decode cL_law 182 = .ok (.iadd, 1) := by decide +kernel
theorem dL_law_183 : decode cL_law 183 = .ok (.iaload, 1) := by decide +kernel
theorem dL_law_184 : decode cL_law 184 = .ok (.aload_n 0, 1) := by decide +kernel
theorem dL_law_185 : decode cL_law 185 = .ok (.iload_n 3, 1) := by decide +kernel
theorem dL_law_186 : decode cL_law 186 = .ok (.iconst 2, 1) := by decide +kernel
theorem dL_law_187 : decode cL_law 187 = .ok (.iadd, 1) := by decide +kernel
theorem dL_law_188 : decode cL_law 188 = .ok (.iaload, 1) := by decide +kernel
theorem dL_law_189 : decode cL_law 189 = .ok (.aload_n 0, 1) := by decide +kernel
theorem dL_law_190 : decode cL_law 190 = .ok (.iload_n 3, 1) := by decide +kernel
theorem dL_law_191 : decode cL_law 191 = .ok (.iconst 3, 1) := by decide +kernel
theorem dL_law_192 : decode cL_law 192 = .ok (.iadd, 1) := by decide +kernel
theorem dL_law_193 : decode cL_law 193 = .ok (.iaload, 1) := by decide +kernel
theorem dL_law_194 : decode cL_law 194 = .ok (.invokevirtual 31, 3) := by decide +kernel
theorem dL_law_197 : decode cL_law 197 = .ok (.aload_n 2, 1) := by decide +kernel
theorem dL_law_198 : decode cL_law 198 = .ok (.aload_n 0, 1) := by decide +kernel
theorem dL_law_199 : decode cL_law 199 = .ok (.iload_n 3, 1) := by decide +kernel
theorem dL_law_200 : decode cL_law 200 = .ok (.iconst 1, 1) := by decide +kernel
theorem dL_law_201 : decode cL_law 201 = .ok (.iadd, 1) := by decide +kernel
theorem dL_law_202 : decode cL_law 202 = .ok (.iaload, 1) := by decide +kernel
theorem dL_law_203 : decode cL_law 203 = .ok (.aload_n 0, 1) := by decide +kernel
theorem dL_law_204 : decode cL_law 204 = .ok (.iload_n 3, 1) := by decide +kernel
theorem dL_law_205 : decode cL_law 205 = .ok (.iconst 2, 1) := by decide +kernel
theorem dL_law_206 : decode cL_law 206 = .ok (.iadd, 1) := by decide +kernel
theorem dL_law_207 : decode cL_law 207 = .ok (.iaload, 1) := by decide +kernel
theorem dL_law_208 : decode cL_law 208 = .ok (.aload_n 0, 1) := by decide +kernel
theorem dL_law_209 : decode cL_law 209 = .ok (.iload_n 3, 1) := by decide +kernel
theorem dL_law_210 : decode cL_law 210 = .ok (.iconst 3, 1) := by decide +kernel
theorem dL_law_211 : decode cL_law 211 = .ok (.iadd, 1) := by decide +kernel
theorem dL_law_212 : decode cL_law 212 = .ok (.iaload, 1) := by decide +kernel
theorem dL_law_213 : decode cL_law 213 = .ok (.invokevirtual 35, 3) := by decide +kernel
theorem dL_law_216 : decode cL_law 216 = .ok (.if_icmp .eq 331, 3) := by decide +kernel
theorem dL_law_219 : decode cL_law 219 = .ok (.iconst 0, 1) := by decide +kernel
theorem dL_law_220 : decode cL_law 220 = .ok (.ireturn, 1) := by decide +kernel
theorem dL_law_221 : decode cL_law 221 = .ok (.aload_n 1, 1) := by decide +kernel
theorem dL_law_222 : decode cL_law 222 = .ok (.aload_n 0, 1) := by decide +kernel
theorem dL_law_223 : decode cL_law 223 = .ok (.iload_n 3, 1) := by decide +kernel
theorem dL_law_224 : decode cL_law 224 = .ok (.iconst 1, 1) := by decide +kernel
theorem dL_law_225 : decode cL_law 225 = .ok (.iadd, 1) := by decide +kernel
theorem dL_law_226 : decode cL_law 226 = .ok (.iaload, 1) := by decide +kernel
theorem dL_law_227 : decode cL_law 227 = .ok (.aload_n 0, 1) := by decide +kernel
theorem dL_law_228 : decode cL_law 228 = .ok (.iload_n 3, 1) := by decide +kernel
theorem dL_law_229 : decode cL_law 229 = .ok (.iconst 2, 1) := by decide +kernel
theorem dL_law_230 : decode cL_law 230 = .ok (.iadd, 1) := by decide +kernel
theorem dL_law_231 : decode cL_law 231 = .ok (.iaload, 1) := by decide +kernel
theorem dL_law_232 : decode cL_law 232 = .ok (.invokevirtual 36, 3) := by decide +kernel
theorem dL_law_235 : decode cL_law 235 = .ok (.aload_n 2, 1) := by decide +kernel
theorem dL_law_236 : decode cL_law 236 = .ok (.aload_n 0, 1) := by decide +kernel
theorem dL_law_237 : decode cL_law 237 = .ok (.iload_n 3, 1) := by decide +kernel
theorem dL_law_238 : decode cL_law 238 = .ok (.iconst 1, 1) := by decide +kernel
theorem dL_law_239 : decode cL_law 239 = .ok (.iadd, 1) := by decide +kernel
theorem dL_law_240 : decode cL_law 240 = .ok (.iaload, 1) := by decide +kernel
theorem dL_law_241 : decode cL_law 241 = .ok (.aload_n 0, 1) := by decide +kernel
theorem dL_law_242 : decode cL_law 242 = .ok (.iload_n 3, 1) := by decide +kernel
theorem dL_law_243 : decode cL_law 243 = .ok (.iconst 2, 1) := by decide +kernel
theorem dL_law_244 : decode cL_law 244 = .ok (.iadd, 1) := by decide +kernel
theorem dL_law_245 : decode cL_law 245 = .ok (.iaload, 1) := by decide +kernel
theorem dL_law_246 : decode cL_law 246 = .ok (.invokevirtual 40, 3) := by decide +kernel
theorem dL_law_249 : decode cL_law 249 = .ok (.if_icmp .eq 298, 3) := by decide +kernel
theorem dL_law_252 : decode cL_law 252 = .ok (.iconst 0, 1) := by decide +kernel
theorem dL_law_253 : decode cL_law 253 = .ok (.ireturn, 1) := by decide +kernel
theorem dL_law_254 : decode cL_law 254 = .ok (.aload_n 1, 1) := by decide +kernel
theorem dL_law_255 : decode cL_law 255 = .ok (.aload_n 0, 1) := by decide +kernel
theorem dL_law_256 : decode cL_law 256 = .ok (.iload_n 3, 1) := by decide +kernel
theorem dL_law_257 : decode cL_law 257 = .ok (.iconst 1, 1) := by decide +kernel
theorem dL_law_258 : decode cL_law 258 = .ok (.iadd, 1) := by decide +kernel
theorem dL_law_259 : decode cL_law 259 = .ok (.iaload, 1) := by decide +kernel
theorem dL_law_260 : decode cL_law 260 = .ok (.aload_n 0, 1) := by decide +kernel
theorem dL_law_261 : decode cL_law 261 = .ok (.iload_n 3, 1) := by decide +kernel
theorem dL_law_262 : decode cL_law 262 = .ok (.iconst 2, 1) := by decide +kernel
theorem dL_law_263 : decode cL_law 263 = .ok (.iadd, 1) := by decide +kernel
theorem dL_law_264 : decode cL_law 264 = .ok (.iaload, 1) := by decide +kernel
theorem dL_law_265 : decode cL_law 265 = .ok (.aload_n 0, 1) := by decide +kernel
theorem dL_law_266 : decode cL_law 266 = .ok (.iload_n 3, 1) := by decide +kernel
theorem dL_law_267 : decode cL_law 267 = .ok (.iconst 3, 1) := by decide +kernel
theorem dL_law_268 : decode cL_law 268 = .ok (.iadd, 1) := by decide +kernel
theorem dL_law_269 : decode cL_law 269 = .ok (.iaload, 1) := by decide +kernel
theorem dL_law_270 : decode cL_law 270 = .ok (.invokevirtual 41, 3) := by decide +kernel
theorem dL_law_273 : decode cL_law 273 = .ok (.aload_n 2, 1) := by decide +kernel
theorem dL_law_274 : decode cL_law 274 = .ok (.aload_n 0, 1) := by decide +kernel
theorem dL_law_275 : decode cL_law 275 = .ok (.iload_n 3, 1) := by decide +kernel
theorem dL_law_276 : decode cL_law 276 = .ok (.iconst 1, 1) := by decide +kernel
theorem dL_law_277 : decode cL_law 277 = .ok (.iadd, 1) := by decide +kernel
theorem dL_law_278 : decode cL_law 278 = .ok (.iaload, 1) := by decide +kernel
theorem dL_law_279 : decode cL_law 279 = .ok (.aload_n 0, 1) := by decide +kernel
theorem dL_law_280 : decode cL_law 280 = .ok (.iload_n 3, 1) := by decide +kernel
theorem dL_law_281 : decode cL_law 281 = .ok (.iconst 2, 1) := by decide +kernel
theorem dL_law_282 : decode cL_law 282 = .ok (.iadd, 1) := by decide +kernel
theorem dL_law_283 : decode cL_law 283 = .ok (.iaload, 1) := by decide +kernel
theorem dL_law_284 : decode cL_law 284 = .ok (.aload_n 0, 1) := by decide +kernel
theorem dL_law_285 : decode cL_law 285 = .ok (.iload_n 3, 1) := by decide +kernel
theorem dL_law_286 : decode cL_law 286 = .ok (.iconst 3, 1) := by decide +kernel
theorem dL_law_287 : decode cL_law 287 = .ok (.iadd, 1) := by decide +kernel
theorem dL_law_288 : decode cL_law 288 = .ok (.iaload, 1) := by decide +kernel
theorem dL_law_289 : decode cL_law 289 = .ok (.invokevirtual 44, 3) := by decide +kernel
theorem dL_law_292 : decode cL_law 292 = .ok (.if_icmp .eq 255, 3) := by decide +kernel
theorem dL_law_295 : decode cL_law 295 = .ok (.iconst 0, 1) := by decide +kernel
theorem dL_law_296 : decode cL_law 296 = .ok (.ireturn, 1) := by decide +kernel
theorem dL_law_297 : decode cL_law 297 = .ok (.aload_n 1, 1) := by decide +kernel
theorem dL_law_298 : decode cL_law 298 = .ok (.aload_n 0, 1) := by decide +kernel
theorem dL_law_299 : decode cL_law 299 = .ok (.iload_n 3, 1) := by decide +kernel
theorem dL_law_300 : decode cL_law 300 = .ok (.iconst 1, 1) := by decide +kernel
theorem dL_law_301 : decode cL_law 301 = .ok (.iadd, 1) := by decide +kernel
theorem dL_law_302 : decode cL_law 302 = .ok (.iaload, 1) := by decide +kernel
theorem dL_law_303 : decode cL_law 303 = .ok (.aload_n 0, 1) := by decide +kernel
theorem dL_law_304 : decode cL_law 304 = .ok (.iload_n 3, 1) := by decide +kernel
theorem dL_law_305 : decode cL_law 305 = .ok (.iconst 2, 1) := by decide +kernel
theorem dL_law_306 : decode cL_law 306 = .ok (.iadd, 1) := by decide +kernel
theorem dL_law_307 : decode cL_law 307 = .ok (.iaload, 1) := by decide +kernel
theorem dL_law_308 : decode cL_law 308 = .ok (.invokevirtual 45, 3) := by decide +kernel
theorem dL_law_311 : decode cL_law 311 = .ok (.aload_n 2, 1) := by decide +kernel
theorem dL_law_312 : decode cL_law 312 = .ok (.aload_n 0, 1) := by decide +kernel
theorem dL_law_313 : decode cL_law 313 = .ok (.iload_n 3, 1) := by decide +kernel
theorem dL_law_314 : decode cL_law 314 = .ok (.iconst 1, 1) := by decide +kernel
theorem dL_law_315 : decode cL_law 315 = .ok (.iadd, 1) := by decide +kernel
theorem dL_law_316 : decode cL_law 316 = .ok (.iaload, 1) := by decide +kernel
theorem dL_law_317 : decode cL_law 317 = .ok (.aload_n 0, 1) := by decide +kernel
theorem dL_law_318 : decode cL_law 318 = .ok (.iload_n 3, 1) := by decide +kernel
theorem dL_law_319 : decode cL_law 319 = .ok (.iconst 2, 1) := by decide +kernel
theorem dL_law_320 : decode cL_law 320 = .ok (.iadd, 1) := by decide +kernel
theorem dL_law_321 : decode cL_law 321 = .ok (.iaload, 1) := by decide +kernel
theorem dL_law_322 : decode cL_law 322 = .ok (.invokevirtual 48, 3) := by decide +kernel
theorem dL_law_325 : decode cL_law 325 = .ok (.if_icmp .eq 222, 3) := by decide +kernel
theorem dL_law_328 : decode cL_law 328 = .ok (.iconst 0, 1) := by decide +kernel
theorem dL_law_329 : decode cL_law 329 = .ok (.ireturn, 1) := by decide +kernel
theorem dL_law_330 : decode cL_law 330 = .ok (.aload_n 1, 1) := by decide +kernel
theorem dL_law_331 : decode cL_law 331 = .ok (.aload_n 0, 1) := by decide +kernel
theorem dL_law_332 : decode cL_law 332 = .ok (.iload_n 3, 1) := by decide +kernel
theorem dL_law_333 : decode cL_law 333 = .ok (.iconst 1, 1) := by decide +kernel
theorem dL_law_334 : decode cL_law 334 = .ok (.iadd, 1) := by decide +kernel
theorem dL_law_335 : decode cL_law 335 = .ok (.iaload, 1) := by decide +kernel
theorem dL_law_336 : decode cL_law 336 = .ok (.aload_n 0, 1) := by decide +kernel
theorem dL_law_337 : decode cL_law 337 = .ok (.iload_n 3, 1) := by decide +kernel
theorem dL_law_338 : decode cL_law 338 = .ok (.iconst 2, 1) := by decide +kernel
theorem dL_law_339 : decode cL_law 339 = .ok (.iadd, 1) := by decide +kernel
theorem dL_law_340 : decode cL_law 340 = .ok (.iaload, 1) := by decide +kernel
theorem dL_law_341 : decode cL_law 341 = .ok (.aload_n 0, 1) := by decide +kernel
theorem dL_law_342 : decode cL_law 342 = .ok (.iload_n 3, 1) := by decide +kernel
theorem dL_law_343 : decode cL_law 343 = .ok (.iconst 3, 1) := by decide +kernel
theorem dL_law_344 : decode cL_law 344 = .ok (.iadd, 1) := by decide +kernel
theorem dL_law_345 : decode cL_law 345 = .ok (.iaload, 1) := by decide +kernel
theorem dL_law_346 : decode cL_law 346 = .ok (.invokevirtual 49, 3) := by decide +kernel
theorem dL_law_349 : decode cL_law 349 = .ok (.aload_n 2, 1) := by decide +kernel
theorem dL_law_350 : decode cL_law 350 = .ok (.aload_n 0, 1) := by decide +kernel
theorem dL_law_351 : decode cL_law 351 = .ok (.iload_n 3, 1) := by decide +kernel
theorem dL_law_352 : decode cL_law 352 = .ok (.iconst 1, 1) := by decide +kernel
theorem dL_law_353 : decode cL_law 353 = .ok (.iadd, 1) := by decide +kernel
theorem dL_law_354 : decode cL_law 354 = .ok (.iaload, 1) := by decide +kernel
theorem dL_law_355 : decode cL_law 355 = .ok (.aload_n 0, 1) := by decide +kernel
theorem dL_law_356 : decode cL_law 356 = .ok (.iload_n 3, 1) := by decide +kernel
theorem dL_law_357 : decode cL_law 357 = .ok (.iconst 2, 1) := by decide +kernel
theorem dL_law_358 : decode cL_law 358 = .ok (.iadd, 1) := by decide +kernel
theorem dL_law_359 : decode cL_law 359 = .ok (.iaload, 1) := by decide +kernel
theorem dL_law_360 : decode cL_law 360 = .ok (.aload_n 0, 1) := by decide +kernel
theorem dL_law_361 : decode cL_law 361 = .ok (.iload_n 3, 1) := by decide +kernel
theorem dL_law_362 : decode cL_law 362 = .ok (.iconst 3, 1) := by decide +kernel
theorem dL_law_363 : decode cL_law 363 = .ok (.iadd, 1) := by decide +kernel
theorem dL_law_364 : decode cL_law 364 = .ok (.iaload, 1) := by decide +kernel
theorem dL_law_365 : decode cL_law 365 = .ok (.invokevirtual 52, 3) := by decide +kernel
theorem dL_law_368 : decode cL_law 368 = .ok (.if_icmp .eq 179, 3) := by decide +kernel
theorem dL_law_371 : decode cL_law 371 = .ok (.iconst 0, 1) := by decide +kernel
theorem dL_law_372 : decode cL_law 372 = .ok (.ireturn, 1) := by decide +kernel
theorem dL_law_373 : decode cL_law 373 = .ok (.aload_n 1, 1) := by decide +kernel
theorem dL_law_374 : decode cL_law 374 = .ok (.aload_n 0, 1) := by decide +kernel
theorem dL_law_375 : decode cL_law 375 = .ok (.iload_n 3, 1) := by decide +kernel
theorem dL_law_376 : decode cL_law 376 = .ok (.iconst 1, 1) := by decide +kernel
theorem dL_law_377 : decode cL_law 377 = .ok (.iadd, 1) := by decide +kernel
theorem dL_law_378 : decode cL_law 378 = .ok (.iaload, 1) := by decide +kernel
theorem dL_law_379 : decode cL_law 379 = .ok (.invokevirtual 53, 3) := by decide +kernel
theorem dL_law_382 : decode cL_law 382 = .ok (.aload_n 2, 1) := by decide +kernel
theorem dL_law_383 : decode cL_law 383 = .ok (.aload_n 0, 1) := by decide +kernel
theorem dL_law_384 : decode cL_law 384 = .ok (.iload_n 3, 1) := by decide +kernel
theorem dL_law_385 : decode cL_law 385 = .ok (.iconst 1, 1) := by decide +kernel
theorem dL_law_386 : decode cL_law 386 = .ok (.iadd, 1) := by decide +kernel
theorem dL_law_387 : decode cL_law 387 = .ok (.iaload, 1) := by decide +kernel
theorem dL_law_388 : decode cL_law 388 = .ok (.invokevirtual 56, 3) := by decide +kernel
theorem dL_law_391 : decode cL_law 391 = .ok (.if_icmp .eq 156, 3) := by decide +kernel
theorem dL_law_394 : decode cL_law 394 = .ok (.iconst 0, 1) := by decide +kernel
theorem dL_law_395 : decode cL_law 395 = .ok (.ireturn, 1) := by decide +kernel
theorem dL_law_396 : decode cL_law 396 = .ok (.aload_n 1, 1) := by decide +kernel
theorem dL_law_397 : decode cL_law 397 = .ok (.aload_n 0, 1) := by decide +kernel
theorem dL_law_398 : decode cL_law 398 = .ok (.iload_n 3, 1) := by decide +kernel
theorem dL_law_399 : decode cL_law 399 = .ok (.iconst 1, 1) := by decide +kernel
theorem dL_law_400 : decode cL_law 400 = .ok (.iadd, 1) := by decide +kernel
theorem dL_law_401 : decode cL_law 401 = .ok (.iaload, 1) := by decide +kernel
theorem dL_law_402 : decode cL_law 402 = .ok (.invokevirtual 57, 3) := by decide +kernel
theorem dL_law_405 : decode cL_law 405 = .ok (.aload_n 2, 1) := by decide +kernel
theorem dL_law_406 : decode cL_law 406 = .ok (.aload_n 0, 1) := by decide +kernel
theorem dL_law_407 : decode cL_law 407 = .ok (.iload_n 3, 1) := by decide +kernel
theorem dL_law_408 : decode cL_law 408 = .ok (.iconst 1, 1) := by decide +kernel
theorem dL_law_409 : decode cL_law 409 = .ok (.iadd, 1) := by decide +kernel
theorem dL_law_410 : decode cL_law 410 = .ok (.iaload, 1) := by decide +kernel
theorem dL_law_411 : decode cL_law 411 = .ok (.invokevirtual 60, 3) := by decide +kernel
theorem dL_law_414 : decode cL_law 414 = .ok (.if_icmp .eq 133, 3) := by decide +kernel
theorem dL_law_417 : decode cL_law 417 = .ok (.iconst 0, 1) := by decide +kernel
theorem dL_law_418 : decode cL_law 418 = .ok (.ireturn, 1) := by decide +kernel
theorem dL_law_419 : decode cL_law 419 = .ok (.aload_n 1, 1) := by decide +kernel
theorem dL_law_420 : decode cL_law 420 = .ok (.invokevirtual 61, 3) := by decide +kernel
theorem dL_law_423 : decode cL_law 423 = .ok (.aload_n 2, 1) := by decide +kernel
theorem dL_law_424 : decode cL_law 424 = .ok (.invokevirtual 64, 3) := by decide +kernel
theorem dL_law_427 : decode cL_law 427 = .ok (.if_icmp .eq 120, 3) := by decide +kernel
theorem dL_law_430 : decode cL_law 430 = .ok (.iconst 0, 1) := by decide +kernel
theorem dL_law_431 : decode cL_law 431 = .ok (.ireturn, 1) := by decide +kernel
theorem dL_law_432 : decode cL_law 432 = .ok (.aload_n 1, 1) := by decide +kernel
theorem dL_law_433 : decode cL_law 433 = .ok (.aload_n 0, 1) := by decide +kernel
theorem dL_law_434 : decode cL_law 434 = .ok (.iload_n 3, 1) := by decide +kernel
theorem dL_law_435 : decode cL_law 435 = .ok (.iconst 1, 1) := by decide +kernel
theorem dL_law_436 : decode cL_law 436 = .ok (.iadd, 1) := by decide +kernel
theorem dL_law_437 : decode cL_law 437 = .ok (.iaload, 1) := by decide +kernel
theorem dL_law_438 : decode cL_law 438 = .ok (.invokevirtual 65, 3) := by decide +kernel
theorem dL_law_441 : decode cL_law 441 = .ok (.aload_n 2, 1) := by decide +kernel
theorem dL_law_442 : decode cL_law 442 = .ok (.aload_n 0, 1) := by decide +kernel
theorem dL_law_443 : decode cL_law 443 = .ok (.iload_n 3, 1) := by decide +kernel
theorem dL_law_444 : decode cL_law 444 = .ok (.iconst 1, 1) := by decide +kernel
theorem dL_law_445 : decode cL_law 445 = .ok (.iadd, 1) := by decide +kernel
theorem dL_law_446 : decode cL_law 446 = .ok (.iaload, 1) := by decide +kernel
theorem dL_law_447 : decode cL_law 447 = .ok (.invokevirtual 68, 3) := by decide +kernel
theorem dL_law_450 : decode cL_law 450 = .ok (.if_icmp .eq 97, 3) := by decide +kernel
theorem dL_law_453 : decode cL_law 453 = .ok (.iconst 0, 1) := by decide +kernel
theorem dL_law_454 : decode cL_law 454 = .ok (.ireturn, 1) := by decide +kernel
theorem dL_law_455 : decode cL_law 455 = .ok (.aload_n 1, 1) := by decide +kernel
theorem dL_law_456 : decode cL_law 456 = .ok (.aload_n 0, 1) := by decide +kernel
theorem dL_law_457 : decode cL_law 457 = .ok (.iload_n 3, 1) := by decide +kernel
theorem dL_law_458 : decode cL_law 458 = .ok (.iconst 1, 1) := by decide +kernel
theorem dL_law_459 : decode cL_law 459 = .ok (.iadd, 1) := by decide +kernel
theorem dL_law_460 : decode cL_law 460 = .ok (.iaload, 1) := by decide +kernel
theorem dL_law_461 : decode cL_law 461 = .ok (.invokevirtual 69, 3) := by decide +kernel
theorem dL_law_464 : decode cL_law 464 = .ok (.aload_n 2, 1) := by decide +kernel
theorem dL_law_465 : decode cL_law 465 = .ok (.aload_n 0, 1) := by decide +kernel
theorem dL_law_466 : decode cL_law 466 = .ok (.iload_n 3, 1) := by decide +kernel
theorem dL_law_467 : decode cL_law 467 = .ok (.iconst 1, 1) := by decide +kernel
theorem dL_law_468 : decode cL_law 468 = .ok (.iadd, 1) := by decide +kernel
theorem dL_law_469 : decode cL_law 469 = .ok (.iaload, 1) := by decide +kernel
theorem dL_law_470 : decode cL_law 470 = .ok (.invokevirtual 72, 3) := by decide +kernel
theorem dL_law_473 : decode cL_law 473 = .ok (.if_icmp .eq 74, 3) := by decide +kernel
theorem dL_law_476 : decode cL_law 476 = .ok (.iconst 0, 1) := by decide +kernel
theorem dL_law_477 : decode cL_law 477 = .ok (.ireturn, 1) := by decide +kernel
theorem dL_law_478 : decode cL_law 478 = .ok (.aload_n 1, 1) := by decide +kernel
theorem dL_law_479 : decode cL_law 479 = .ok (.aload_n 0, 1) := by decide +kernel
theorem dL_law_480 : decode cL_law 480 = .ok (.iload_n 3, 1) := by decide +kernel
theorem dL_law_481 : decode cL_law 481 = .ok (.iconst 1, 1) := by decide +kernel
theorem dL_law_482 : decode cL_law 482 = .ok (.iadd, 1) := by decide +kernel
theorem dL_law_483 : decode cL_law 483 = .ok (.iaload, 1) := by decide +kernel
theorem dL_law_484 : decode cL_law 484 = .ok (.invokevirtual 73, 3) := by decide +kernel
theorem dL_law_487 : decode cL_law 487 = .ok (.aload_n 2, 1) := by decide +kernel
theorem dL_law_488 : decode cL_law 488 = .ok (.aload_n 0, 1) := by decide +kernel
theorem dL_law_489 : decode cL_law 489 = .ok (.iload_n 3, 1) := by decide +kernel
theorem dL_law_490 : decode cL_law 490 = .ok (.iconst 1, 1) := by decide +kernel
theorem dL_law_491 : decode cL_law 491 = .ok (.iadd, 1) := by decide +kernel
theorem dL_law_492 : decode cL_law 492 = .ok (.iaload, 1) := by decide +kernel
theorem dL_law_493 : decode cL_law 493 = .ok (.invokevirtual 76, 3) := by decide +kernel
theorem dL_law_496 : decode cL_law 496 = .ok (.if_icmp .eq 51, 3) := by decide +kernel
theorem dL_law_499 : decode cL_law 499 = .ok (.iconst 0, 1) := by decide +kernel
theorem dL_law_500 : decode cL_law 500 = .ok (.ireturn, 1) := by decide +kernel
theorem dL_law_501 : decode cL_law 501 = .ok (.aload_n 1, 1) := by decide +kernel
theorem dL_law_502 : decode cL_law 502 = .ok (.aload_n 0, 1) := by decide +kernel
theorem dL_law_503 : decode cL_law 503 = .ok (.iload_n 3, 1) := by decide +kernel
theorem dL_law_504 : decode cL_law 504 = .ok (.iconst 1, 1) := by decide +kernel
theorem dL_law_505 : decode cL_law 505 = .ok (.iadd, 1) := by decide +kernel
theorem dL_law_506 : decode cL_law 506 = .ok (.iaload, 1) := by decide +kernel
theorem dL_law_507 : decode cL_law 507 = .ok (.invokevirtual 77, 3) := by decide +kernel
theorem dL_law_510 : decode cL_law 510 = .ok (.aload_n 2, 1) := by decide +kernel
theorem dL_law_511 : decode cL_law 511 = .ok (.aload_n 0, 1) := by decide +kernel
theorem dL_law_512 : decode cL_law 512 = .ok (.iload_n 3, 1) := by decide +kernel
theorem dL_law_513 : decode cL_law 513 = .ok (.iconst 1, 1) := by decide +kernel
theorem dL_law_514 : decode cL_law 514 = .ok (.iadd, 1) := by decide +kernel
theorem dL_law_515 : decode cL_law 515 = .ok (.iaload, 1) := by decide +kernel
theorem dL_law_516 : decode cL_law 516 = .ok (.invokevirtual 80, 3) := by decide +kernel
theorem dL_law_519 : decode cL_law 519 = .ok (.if_icmp .eq 28, 3) := by decide +kernel
theorem dL_law_522 : decode cL_law 522 = .ok (.iconst 0, 1) := by decide +kernel
theorem dL_law_523 : decode cL_law 523 = .ok (.ireturn, 1) := by decide +kernel
theorem dL_law_524 : decode cL_law 524 = .ok (.aload_n 1, 1) := by decide +kernel
theorem dL_law_525 : decode cL_law 525 = .ok (.aload_n 0, 1) := by decide +kernel
theorem dL_law_526 : decode cL_law 526 = .ok (.iload_n 3, 1) := by decide +kernel
theorem dL_law_527 : decode cL_law 527 = .ok (.iconst 1, 1) := by decide +kernel
theorem dL_law_528 : decode cL_law 528 = .ok (.iadd, 1) := by decide +kernel
theorem dL_law_529 : decode cL_law 529 = .ok (.iaload, 1) := by decide +kernel
theorem dL_law_530 : decode cL_law 530 = .ok (.invokevirtual 81, 3) := by decide +kernel
theorem dL_law_533 : decode cL_law 533 = .ok (.aload_n 2, 1) := by decide +kernel
theorem dL_law_534 : decode cL_law 534 = .ok (.aload_n 0, 1) := by decide +kernel
theorem dL_law_535 : decode cL_law 535 = .ok (.iload_n 3, 1) := by decide +kernel
theorem dL_law_536 : decode cL_law 536 = .ok (.iconst 1, 1) := by decide +kernel
theorem dL_law_537 : decode cL_law 537 = .ok (.iadd, 1) := by decide +kernel
theorem dL_law_538 : decode cL_law 538 = .ok (.iaload, 1) := by decide +kernel
theorem dL_law_539 : decode cL_law 539 = .ok (.invokevirtual 84, 3) := by decide +kernel
theorem dL_law_542 : decode cL_law 542 = .ok (.if_icmp .eq 5, 3) := by decide +kernel
theorem dL_law_545 : decode cL_law 545 = .ok (.iconst 0, 1) := by decide +kernel
theorem dL_law_546 : decode cL_law 546 = .ok (.ireturn, 1) := by decide +kernel
theorem dL_law_547 : decode cL_law 547 = .ok (.iinc 3 4, 3) := by decide +kernel
theorem dL_law_550 : decode cL_law 550 = .ok (.goto (-532), 3) := by decide +kernel
theorem dL_law_553 : decode cL_law 553 = .ok (.iconst 1, 1) := by decide +kernel
theorem dL_law_554 : decode cL_law 554 = .ok (.ireturn, 1) := by decide +kernel
end
section
/-! A small machine over a fixed graph of cells. A value is a number or a reference to the cell (kind, index); the memory gives the number at (kind, index, place). The shape says of each kind how many cells it has and what stands in them. WM: from here the method returns r with memory M'. Sp: a method's contract at given arguments and memory. -/
abbrev sw_V : Type := Int ⊕ Option (Nat × Int)
abbrev sI (a : Int) : sw_V := .inl a
abbrev sR (k : Nat) (i : Int) : sw_V := .inr (some (k, i))
abbrev sU : sw_V := .inr none
abbrev sw_M : Type := Nat → Int → Int → Int
def sw_ok (a : Int) : Prop := -2147483648 ≤ a ∧ a ≤ 2147483647
def sw_okV (v : sw_V) : Prop := match v with
  | .inl a => sw_ok a
  | .inr _ => True
def sw_okM (M : sw_M) : Prop := ∀ k i j, sw_ok (M k i j)
/-- the memory with v at (k, i, j) -/
def up (M : sw_M) (k : Nat) (i j v : Int) : sw_M := fun k' => if k' = k then (fun i' j' => if i' = i ∧ j' = j then v else M k' i' j') else M k'
theorem sw_okM_up {M : sw_M} (h : sw_okM M) {k : Nat} {i j v : Int} (hv : sw_ok v) : sw_okM (up M k i j v) := by
  intro k' i' j'
  unfold up
  by_cases hk : k' = k
  · rw [if_pos hk]
    by_cases hq : i' = i ∧ j' = j
    · simp only [hq, and_self, if_true]; exact hv
    · simp only [hq, if_false]; exact h _ _ _
  · rw [if_neg hk]; exact h _ _ _
/-- a field or an element: a number, or a reference to (kind, the function of the cell's index and the place) -/
abbrev sw_F : Type := Option (Nat × (Int → Int → Int))
/-- how many cells; an object (its number in vwCl, its fields) or an array (its elements' type, its length, what they are) -/
abbrev sw_K : Type := Int × ((Nat × List sw_F) ⊕ (FieldType × Nat × sw_F))
abbrev sw_Sh : Type := Nat → Option sw_K
/-- addresses, array classes by kind, the classes' numbers and slots -/
abbrev sw_E : Type := (Nat → Int → Nat) × (Nat → ClassId) × va_G
def sw_vl (E : sw_E) (v : sw_V) : Value := match v with
  | .inl a => .int (Int32.ofInt a)
  | .inr (some q) => .ref (E.1 q.1 q.2)
  | .inr none => .null
def sw_fv (E : sw_E) (M : sw_M) (k : Nat) (i j : Int) (f : sw_F) : Value := match f with
  | none => .int (Int32.ofInt (M k i j))
  | some q => .ref (E.1 q.1 (q.2 i j))
def sw_cell (E : sw_E) (M : sw_M) (k : Nat) (i : Int) (x : (Nat × List sw_F) ⊕ (FieldType × Nat × sw_F)) : va_E := match x with
  | .inl o => .inr (o.1, o.2.mapIdx (fun j f => sw_fv E M k i (j : Int) f))
  | .inr (_, n, none) => .inl (E.2.1 k, n, .inl (fun j => Int32.ofInt (M k i (j : Int))))
  | .inr (_, n, some q) => .inl (E.2.1 k, n, .inr (.inr (.inr (.inr (fun j => some (E.1 q.1 (q.2 i (j : Int))))))))
def sw_P (sh : sw_Sh) (E : sw_E) (M : sw_M) (H : Heap) : Prop := ∀ (k : Nat) (i : Int) (K : sw_K), sh k = some K → 0 ≤ i → i < K.1 → va_at E.2.2 vwCl (E.1 k i, sw_cell E M k i K.2) H
def sw_A (sh : sw_Sh) (E : sw_E) : Nat → Prop := fun q => ∃ (k : Nat) (i : Int) (K : sw_K), sh k = some K ∧ 0 ≤ i ∧ i < K.1 ∧ q = E.1 k i
def sw_J (sh : sw_Sh) (E : sw_E) : Prop := ∀ (k k' : Nat) (i i' : Int) (K K' : sw_K), sh k = some K → 0 ≤ i → i < K.1 → sh k' = some K' → 0 ≤ i' → i' < K'.1 → E.1 k i = E.1 k' i' → k = k' ∧ i = i'
def sw_T (sh : sw_Sh) (E : sw_E) (U : State) : Prop := ∀ (k : Nat) (c : Int) (ty : FieldType) (n : Nat) (f : sw_F), sh k = some (c, .inr (ty, n, f)) → ArrOfT U (E.2.1 k) ty ∧ va_RA U (E.2.1 k) ty
def sw_N (U : State) : Prop := ∀ q ∈ nsL, va_Nw (.methodLinkNest q.1 q.2.1 q.2.2.1 q.2.2.2) U
/-- the literals of StreamWeave$Line, in the order of the words: their entries, texts, bytes -/
def jsT : List (Nat × String) := [(25, "frame"), (27, "room"), (29, "clock"), (31, "table"), (33, "wide"), (35, "drop"), (37, "swap")]
def jsLen : List Nat := [5, 4, 5, 5, 4, 4, 4]
def jsB : List (List Int32) := [[102, 114, 97, 109, 101], [114, 111, 111, 109], [99, 108, 111, 99, 107], [116, 97, 98, 108, 101], [119, 105, 100, 101], [100, 114, 111, 112], [115, 119, 97, 112]]
/-- what the JDK's own cells hold: the literals (kind 100: the texts, 101: their bytes), the switch of compact strings, the formatter, the tables of figures (102, 103) -/
def sw_X (E : sw_E) (A : Nat → Prop) (U : State) (H : Heap) : Prop :=
  vk_S 7 jsLen jsB (fun i => E.1 100 (i : Int)) (fun i => E.1 101 (i : Int)) A U H ∧ va_Z "java/lang/String" "COMPACT_STRINGS" "Z" (.int 1) A U H ∧ va_Zq "jdk/internal/util/Preconditions" "SIOOBE_FORMATTER" "Ljava/util/function/BiFunction;" A U H ∧
  (va_Z "java/lang/Integer" "DigitOnes" "[B" (.ref (E.1 102 0)) A U H ∧ va_T .byte (E.1 102 0) 100 (fun j => .int (Int32.ofNat (48 + j % 10))) A U H) ∧
  (va_Z "java/lang/Integer" "DigitTens" "[B" (.ref (E.1 103 0)) A U H ∧ va_T .byte (E.1 103 0) 100 (fun j => .int (Int32.ofNat (48 + j / 10))) A U H) ∧
  ∀ (i : Nat) (q : Nat × String), jsT[i]? = some q → vk_R "StreamWeave$Line" q.1 q.2 (E.1 100 (i : Int)) U
theorem sw_Zq_kept {C n d : String} {A : Nat → Prop} {U : State} {H H1 : Heap} (h : va_Zq C n d A U H) (hq : ∀ a : Nat, a < H.size → ¬ A a → H1[a]? = H[a]?) : va_Zq C n d A U H1 := h.elim (fun z => Or.inl (z.kept hq)) (fun ⟨t, z⟩ => Or.inr ⟨t, z.kept hq⟩)
theorem sw_Zq_moved {C n d : String} {A : Nat → Prop} {u U : State} {H : Heap} (hvm : u.vm.Alike U.vm) (h : va_Zq C n d A u H) : va_Zq C n d A U H := h.elim (fun z => Or.inl (z.moved hvm)) (fun ⟨t, z⟩ => Or.inr ⟨t, z.moved hvm⟩)
theorem sw_Zq_narrow {C n d : String} {A B : Nat → Prop} {U : State} {H : Heap} (h : va_Zq C n d A U H) (hAB : ∀ q, B q → A q) : va_Zq C n d B U H := h.elim (fun z => Or.inl (z.narrow hAB)) (fun ⟨t, z⟩ => Or.inr ⟨t, z.narrow hAB⟩)
theorem sw_X.kept {E : sw_E} {A : Nat → Prop} {U : State} {H H1 : Heap} (h : sw_X E A U H) (hq : ∀ a : Nat, a < H.size → ¬ A a → H1[a]? = H[a]?) : sw_X E A U H1 :=
  ⟨h.1.kept hq, h.2.1.kept hq, sw_Zq_kept h.2.2.1 hq, ⟨h.2.2.2.1.1.kept hq, h.2.2.2.1.2.kept hq⟩, ⟨h.2.2.2.2.1.1.kept hq, h.2.2.2.2.1.2.kept hq⟩, h.2.2.2.2.2⟩
theorem sw_X.narrow {E : sw_E} {A B : Nat → Prop} {U : State} {H : Heap} (h : sw_X E A U H) (hAB : ∀ q, B q → A q) : sw_X E B U H :=
  ⟨h.1.narrow hAB, h.2.1.narrow hAB, sw_Zq_narrow h.2.2.1 hAB, ⟨h.2.2.2.1.1.narrow hAB, h.2.2.2.1.2.narrow hAB⟩, ⟨h.2.2.2.2.1.1.narrow hAB, h.2.2.2.2.1.2.narrow hAB⟩, h.2.2.2.2.2⟩
theorem sw_X.warm {E : sw_E} {A : Nat → Prop} {s U : State} {H : Heap} (hW : s.WarmedH U.vm) (h : sw_X E A s H) : sw_X E A U H :=
  ⟨h.1.moved hW.alike, h.2.1.moved hW.alike, sw_Zq_moved hW.alike h.2.2.1, ⟨h.2.2.2.1.1.moved hW.alike, h.2.2.2.1.2.moved hW.alike⟩, ⟨h.2.2.2.2.1.1.moved hW.alike, h.2.2.2.2.1.2.moved hW.alike⟩, fun i q hi => (h.2.2.2.2.2 i q hi).warm hW⟩
theorem sw_N.warm {s U : State} (hW : s.WarmedH U.vm) (h : sw_N s) : sw_N U := fun q hq => (h q hq).warmM hW
theorem sw_T.moved {sh : sw_Sh} {E : sw_E} {u U : State} (hvm : u.vm.Alike U.vm) (h : sw_T sh E u) : sw_T sh E U := fun k c ty n f hk => ⟨arrOfT_moved hvm (h k c ty n f hk).1, (h k c ty n f hk).2.moved hvm⟩
/-- a method: its code, its class, its locals, what it returns, its room -/
abbrev sw_D : Type := ByteArray × String × Nat × Option FieldType × Room
/-- the standing of a method's frame -/
def sw_C (sh : sw_Sh) (d : sw_D) (p : Program) (s : State) (m : MethodId) (args : Array Value) (meth : Method) (c : Code) (E : sw_E) : Prop :=
  p.tables.exec = Jvm.exec ∧ c.code = d.1 ∧ meth.sig.returnType = d.2.2.2.1 ∧ c.maxLocals = d.2.2.1 ∧ s.vm.findClass d.2.1 = some m.cls ∧ meth.locks = false ∧ (∀ w ∈ tbG, w.before args s = true) ∧ va_K E.2.2 vwCl [] s ∧ sw_T sh E s ∧ sw_J sh E ∧ sw_N s ∧ sw_X E (sw_A sh E) s s.heap
/-- what moves -/
def sw_G (sh : sw_Sh) (d : sw_D) (s : State) (E : sw_E) (H : Heap) (locs : List Loc) (lsA : Array Slot) (ls st : List sw_V) (M : sw_M) : Prop :=
  sw_P sh E M H ∧ sw_okM M ∧ (va_S (sw_A sh E) s.heap H locs ∧ H.size = s.heap.size) ∧ (lsA.size = d.2.2.1 ∧ lv_wf lsA ∧ (∀ (j : Nat) (v : sw_V), ls[j]? = some v → v ≠ sU → lsA[j]? = some (.val (sw_vl E v))) ∧ (∀ v ∈ ls, sw_okV v) ∧ ls.length ≤ d.2.2.1) ∧ ∀ v ∈ st, sw_okV v
/-- what a method leaves: its result and the memory -/
abbrev sw_R : Type := Option sw_V → sw_M → Prop
/-- just this result and this memory -/
def isr (r : Option sw_V) (M : sw_M) : sw_R := fun r1 M1 => r1 = r ∧ M1 = M
def sw_Q (sh : sw_Sh) (E : sw_E) (Q : sw_R) : Array Value → State → Outcome → State → Prop := fun _ st o t => ∃ (r : Option sw_V) (M' : sw_M), Q r M' ∧ o = .returned (r.map (sw_vl E)) ∧ sw_P sh E M' t.heap ∧ sw_okM M' ∧ (∀ v, r = some v → sw_okV v) ∧ va_F (sw_A sh E) st t ∧ t.heap.size = st.heap.size
def WM (sh : sw_Sh) (d : sw_D) (Q : sw_R) (pc : Nat) (ls st : List sw_V) (M : sw_M) : Prop :=
  ∀ (p : Program) (l : Launch) (e : Env) (s : State) (m : MethodId) (args : Array Value) (below : List Frame) (meth : Method) (c : Code) (E : sw_E) (H : Heap) (locs : List Loc) (lsA : Array Slot),
    sw_C sh d p s m args meth c E → sw_G sh d s E H locs lsA ls st M → W p l e d.2.2.2.2 s m args below meth c H locs 0 0 (MQ below (sw_Q sh E Q) args s 0 0 (sw_A sh E)) (F0 m pc lsA (st.map (sw_vl E)))
def sw_Pc (sh : sw_Sh) (E : sw_E) (as : List sw_V) (M : sw_M) : Array Value → State → Prop := fun v U => v = (as.map (sw_vl E)).toArray ∧ sw_P sh E M U.heap ∧ sw_okM M ∧ (∀ v ∈ as, sw_okV v) ∧ va_K E.2.2 vwCl [] U ∧ sw_T sh E U ∧ sw_J sh E ∧ sw_N U ∧ sw_X E (sw_A sh E) U U.heap
def Sp (sh : sw_Sh) (y : MethodName) (d : sw_D) (as : List sw_V) (M : sw_M) (Q : sw_R) : Prop :=
  ∀ (l : Launch) (E : sw_E), Met l y (Cond.code y d.1 d.2.2.1 d.2.2.2.1 :: tbG) d.2.2.2.2 (sw_Pc sh E as M) (sw_Q sh E Q) 0 0 (sw_A sh E)
theorem sw_G.st {sh : sw_Sh} {d : sw_D} {s : State} {E : sw_E} {H : Heap} {locs : List Loc} {lsA : Array Slot} {ls st st' : List sw_V} {M : sw_M} (G : sw_G sh d s E H locs lsA ls st M) (h : ∀ v ∈ st', sw_okV v) : sw_G sh d s E H locs lsA ls st' M := ⟨G.1, G.2.1, G.2.2.1, G.2.2.2.1, h⟩
-- numbers
theorem sw_toInt {a : Int} (h : sw_ok a) : (Int32.ofInt a).toInt = a := by
  rw [Int32.toInt_ofInt]
  apply Int.bmod_eq_of_le <;> (unfold sw_ok at h; simp only [Int32.size] at *; omega)
theorem sw_lt {a b : Int} (ha : sw_ok a) (hb : sw_ok b) : Int32.ofInt a < Int32.ofInt b ↔ a < b := by rw [Int32.lt_iff_toInt_lt, sw_toInt ha, sw_toInt hb]
theorem sw_le {a b : Int} (ha : sw_ok a) (hb : sw_ok b) : Int32.ofInt a ≤ Int32.ofInt b ↔ a ≤ b := by rw [Int32.le_iff_toInt_le, sw_toInt ha, sw_toInt hb]
theorem sw_eq {a b : Int} (ha : sw_ok a) (hb : sw_ok b) : Int32.ofInt a = Int32.ofInt b ↔ a = b := by
  constructor
  · intro h
    have := congrArg Int32.toInt h
    rwa [sw_toInt ha, sw_toInt hb] at this
  · intro h; rw [h]
theorem sw_cl {a : Int} (ha : sw_ok a) : (Int32.ofInt a).toNatClampNeg = a.toNat := by
  show (Int32.ofInt a).toInt.toNat = a.toNat
  rw [sw_toInt ha]
theorem sw_ok0 : sw_ok 0 := ⟨by decide, by decide⟩
theorem sw_vin {a : Int} {n : Nat} (ha : sw_ok a) (h0 : 0 ≤ a) (h1 : a < (n : Int)) : vp_in (Int32.ofInt a) n := by
  intro h
  rcases h with h | h
  · have : Int32.ofInt a < Int32.ofInt 0 := h
    rw [sw_lt ha sw_ok0] at this; omega
  · rw [sw_cl ha] at h; omega
-- what an instruction links to
def sw_fk (own : String) (ix ci j : Nat) : Prop := ∃ (C : String) (T : u_T) (N : Nat), vwCl[ci]? = some (C, T, N) ∧ j < N ∧ (∀ w ∈ u_ws C T N, w ∈ tbG) ∧ Cond.fieldLink own ix (T j).1 (T j).2.1 (T j).2.2.1 ∈ tbG
def sw_pk (own : String) (ix ci j : Nat) (ty : FieldType) : Prop := ∃ (C : String) (T : u_T) (N : Nat) (ty0 : Nat → FieldType), vwCl[ci]? = some (C, T, N) ∧ j < N ∧ (∀ w ∈ u_ws C T N, w ∈ tbG) ∧ Cond.fieldLink own ix (T j).1 (T j).2.1 (T j).2.2.1 ∈ tbG ∧ (∀ k, k < N → parseFieldDescriptor (T k).2.2.1 = some (ty0 k)) ∧ (∀ a, a < N → ∀ b, b < N → a ≠ b → (T a).2.1 ≠ (T b).2.1) ∧ (T j).2.2.2 = false ∧ ty0 j = ty
def sw_cb (y : MethodName) (dy : sw_D) (np : Nat) : Prop := (Cond.code y dy.1 dy.2.2.1 dy.2.2.2.1 ∈ tbG ∧ Cond.initialized y.cls ∈ tbG) ∧ (y.cls ≠ "java/lang/invoke/MethodHandle" ∧ y.cls ≠ "java/lang/invoke/VarHandle" ∧ (parseMethodDescriptor y.desc).map (fun d => d.parameters.length) = some np) ∧ dy.2.2.2.2.cells = 0 ∧ dy.2.2.2.2.slots = 0
def sw_cv (own : String) (ix : Nat) (y : MethodName) (dy : sw_D) (np : Nat) : Prop := sw_cb y dy np ∧ Cond.methodLink own ix y ∈ tbG ∧ Cond.instanceMethod y ∈ tbG ∧ Cond.selects y.cls y y ∈ tbG
def sw_cs (own : String) (ix : Nat) (y : MethodName) (dy : sw_D) (np : Nat) : Prop := sw_cb y dy np ∧ Cond.methodLink own ix y ∈ tbG ∧ Cond.static y ∈ tbG
def sw_cn1 (own : String) (ix : Nat) (y : MethodName) (dy : sw_D) (np : Nat) : Prop := sw_cb y dy np ∧ (∃ host, (own, ix, y, host) ∈ nsL) ∧ Cond.static y ∈ tbG
end
section
/-! links: the methods (code, class, locals, result, room), what their instructions link to, and the two shapes; written by wip/whole/mklinks.py -/
theorem glX0 : ∀ w ∈ u_ws RX0 TX0 9, w ∈ tbG := by
  intro w hw
  obtain ⟨k, hk, rfl⟩ := List.mem_map.mp hw
  have hk := List.mem_range.mp hk
  match k, hk with
  | 0, _ => exact tbG_at 174 (by decide +kernel) rfl
  | 1, _ => exact tbG_at 176 (by decide +kernel) rfl
  | 2, _ => exact tbG_at 178 (by decide +kernel) rfl
  | 3, _ => exact tbG_at 180 (by decide +kernel) rfl
  | 4, _ => exact tbG_at 182 (by decide +kernel) rfl
  | 5, _ => exact tbG_at 184 (by decide +kernel) rfl
  | 6, _ => exact tbG_at 186 (by decide +kernel) rfl
  | 7, _ => exact tbG_at 188 (by decide +kernel) rfl
  | 8, _ => exact tbG_at 190 (by decide +kernel) rfl
  | k + 9, hk => exact absurd hk (by omega)
theorem glX1 : ∀ w ∈ u_ws RX1 TX1 4, w ∈ tbG := by
  intro w hw
  obtain ⟨k, hk, rfl⟩ := List.mem_map.mp hw
  have hk := List.mem_range.mp hk
  match k, hk with
  | 0, _ => exact tbG_at 74 (by decide +kernel) rfl
  | 1, _ => exact tbG_at 76 (by decide +kernel) rfl
  | 2, _ => exact tbG_at 78 (by decide +kernel) rfl
  | 3, _ => exact tbG_at 80 (by decide +kernel) rfl
  | k + 4, hk => exact absurd hk (by omega)
theorem glX2 : ∀ w ∈ u_ws RX2 TX2 3, w ∈ tbG := by
  intro w hw
  obtain ⟨k, hk, rfl⟩ := List.mem_map.mp hw
  have hk := List.mem_range.mp hk
  match k, hk with
  | 0, _ => exact tbG_at 135 (by decide +kernel) rfl
  | 1, _ => exact tbG_at 137 (by decide +kernel) rfl
  | 2, _ => exact tbG_at 139 (by decide +kernel) rfl
  | k + 3, hk => exact absurd hk (by omega)
theorem glX3 : ∀ w ∈ u_ws RX3 TX3 5, w ∈ tbG := by
  intro w hw
  obtain ⟨k, hk, rfl⟩ := List.mem_map.mp hw
  have hk := List.mem_range.mp hk
  match k, hk with
  | 0, _ => exact tbG_at 115 (by decide +kernel) rfl
  | 1, _ => exact tbG_at 117 (by decide +kernel) rfl
  | 2, _ => exact tbG_at 119 (by decide +kernel) rfl
  | 3, _ => exact tbG_at 121 (by decide +kernel) rfl
  | 4, _ => exact tbG_at 123 (by decide +kernel) rfl
  | k + 5, hk => exact absurd hk (by omega)
theorem glX4 : ∀ w ∈ u_ws RX4 TX4 11, w ∈ tbG := by
  intro w hw
  obtain ⟨k, hk, rfl⟩ := List.mem_map.mp hw
  have hk := List.mem_range.mp hk
  match k, hk with
  | 0, _ => exact tbG_at 213 (by decide +kernel) rfl
  | 1, _ => exact tbG_at 215 (by decide +kernel) rfl
  | 2, _ => exact tbG_at 217 (by decide +kernel) rfl
  | 3, _ => exact tbG_at 219 (by decide +kernel) rfl
  | 4, _ => exact tbG_at 221 (by decide +kernel) rfl
  | 5, _ => exact tbG_at 223 (by decide +kernel) rfl
  | 6, _ => exact tbG_at 225 (by decide +kernel) rfl
  | 7, _ => exact tbG_at 227 (by decide +kernel) rfl
  | 8, _ => exact tbG_at 229 (by decide +kernel) rfl
  | 9, _ => exact tbG_at 231 (by decide +kernel) rfl
  | 10, _ => exact tbG_at 233 (by decide +kernel) rfl
  | k + 11, hk => exact absurd hk (by omega)
theorem glX5 : ∀ w ∈ u_ws RX5 TX5 8, w ∈ tbG := by
  intro w hw
  obtain ⟨k, hk, rfl⟩ := List.mem_map.mp hw
  have hk := List.mem_range.mp hk
  match k, hk with
  | 0, _ => exact tbG_at 244 (by decide +kernel) rfl
  | 1, _ => exact tbG_at 246 (by decide +kernel) rfl
  | 2, _ => exact tbG_at 248 (by decide +kernel) rfl
  | 3, _ => exact tbG_at 250 (by decide +kernel) rfl
  | 4, _ => exact tbG_at 252 (by decide +kernel) rfl
  | 5, _ => exact tbG_at 254 (by decide +kernel) rfl
  | 6, _ => exact tbG_at 256 (by decide +kernel) rfl
  | 7, _ => exact tbG_at 258 (by decide +kernel) rfl
  | k + 8, hk => exact absurd hk (by omega)
theorem glX6 : ∀ w ∈ u_ws RX6 TX6 28, w ∈ tbG := by
  intro w hw
  obtain ⟨k, hk, rfl⟩ := List.mem_map.mp hw
  have hk := List.mem_range.mp hk
  match k, hk with
  | 0, _ => exact tbG_at 806 (by decide +kernel) rfl
  | 1, _ => exact tbG_at 808 (by decide +kernel) rfl
  | 2, _ => exact tbG_at 810 (by decide +kernel) rfl
  | 3, _ => exact tbG_at 812 (by decide +kernel) rfl
  | 4, _ => exact tbG_at 814 (by decide +kernel) rfl
  | 5, _ => exact tbG_at 816 (by decide +kernel) rfl
  | 6, _ => exact tbG_at 818 (by decide +kernel) rfl
  | 7, _ => exact tbG_at 820 (by decide +kernel) rfl
  | 8, _ => exact tbG_at 822 (by decide +kernel) rfl
  | 9, _ => exact tbG_at 824 (by decide +kernel) rfl
  | 10, _ => exact tbG_at 826 (by decide +kernel) rfl
  | 11, _ => exact tbG_at 828 (by decide +kernel) rfl
  | 12, _ => exact tbG_at 830 (by decide +kernel) rfl
  | 13, _ => exact tbG_at 832 (by decide +kernel) rfl
  | 14, _ => exact tbG_at 834 (by decide +kernel) rfl
  | 15, _ => exact tbG_at 836 (by decide +kernel) rfl
  | 16, _ => exact tbG_at 838 (by decide +kernel) rfl
  | 17, _ => exact tbG_at 840 (by decide +kernel) rfl
  | 18, _ => exact tbG_at 842 (by decide +kernel) rfl
  | 19, _ => exact tbG_at 844 (by decide +kernel) rfl
  | 20, _ => exact tbG_at 846 (by decide +kernel) rfl
  | 21, _ => exact tbG_at 848 (by decide +kernel) rfl
  | 22, _ => exact tbG_at 850 (by decide +kernel) rfl
  | 23, _ => exact tbG_at 852 (by decide +kernel) rfl
  | 24, _ => exact tbG_at 854 (by decide +kernel) rfl
  | 25, _ => exact tbG_at 856 (by decide +kernel) rfl
  | 26, _ => exact tbG_at 858 (by decide +kernel) rfl
  | 27, _ => exact tbG_at 860 (by decide +kernel) rfl
  | k + 28, hk => exact absurd hk (by omega)
abbrev mX0_init : sw_D := (cX0_init, RX0, 1, none, { frames := 1, cells := 0, slots := 0, locals := 40 })
abbrev mX0_begin : sw_D := (cX0_begin, RX0, 1, none, { frames := 2, cells := 0, slots := 0, locals := 63 })
abbrev mX0_takeDue : sw_D := (cX0_takeDue, RX0, 4, (some .int), { frames := 1, cells := 0, slots := 0, locals := 40 })
abbrev mX0_openFrame : sw_D := (cX0_openFrame, RX0, 3, (some .int), { frames := 1, cells := 0, slots := 0, locals := 40 })
abbrev mX0_sendOf : sw_D := (cX0_sendOf, RX0, 3, none, { frames := 1, cells := 0, slots := 0, locals := 40 })
abbrev mX0_nextCounter : sw_D := (cX0_nextCounter, RX0, 2, (some .int), { frames := 1, cells := 0, slots := 0, locals := 40 })
abbrev mX0_mostHeld : sw_D := (cX0_mostHeld, RX0, 3, (some .int), { frames := 2, cells := 0, slots := 0, locals := 61 })
abbrev mX1_init : sw_D := (cX1_init, RX1, 1, none, { frames := 1, cells := 0, slots := 0, locals := 40 })
abbrev mX1_text : sw_D := (cX1_text, RX1, 1, (some (.object "java/lang/String")), { frames := 1, cells := 0, slots := 0, locals := 40 })
abbrev mX1_numbersBehind : sw_D := (cX1_numbersBehind, RX1, 1, (some .int), { frames := 1, cells := 0, slots := 0, locals := 40 })
abbrev mX1_add : sw_D := (cX1_add, RX1, 2, (some .boolean), { frames := 1, cells := 0, slots := 0, locals := 40 })
abbrev mX1_read : sw_D := (cX1_read, RX1, 4, (some .int), { frames := 7, cells := 0, slots := 0, locals := 169 })
abbrev mX1_commonSigns : sw_D := (cX1_commonSigns, RX1, 4, (some .int), { frames := 6, cells := 0, slots := 0, locals := 146 })
abbrev mX1_readNumbers : sw_D := (cX1_readNumbers, RX1, 5, (some .int), { frames := 3, cells := 0, slots := 0, locals := 83 })
abbrev mX1_isSign : sw_D := (cX1_isSign, RX1, 3, (some .boolean), { frames := 1, cells := 0, slots := 0, locals := 40 })
abbrev mX1_isFigure : sw_D := (cX1_isFigure, RX1, 2, (some .boolean), { frames := 2, cells := 0, slots := 0, locals := 62 })
abbrev mX2_init : sw_D := (cX2_init, RX2, 2, none, { frames := 2, cells := 0, slots := 0, locals := 60 })
abbrev mX2_framesInAll : sw_D := (cX2_framesInAll, RX2, 3, (some .int), { frames := 1, cells := 0, slots := 0, locals := 40 })
abbrev mX2_copyFrom : sw_D := (cX2_copyFrom, RX2, 3, none, { frames := 2, cells := 0, slots := 0, locals := 61 })
abbrev mX3_init : sw_D := (cX3_init, RX3, 1, none, { frames := 1, cells := 0, slots := 0, locals := 40 })
abbrev mX3_hasFrame : sw_D := (cX3_hasFrame, RX3, 2, (some .boolean), { frames := 2, cells := 0, slots := 0, locals := 62 })
abbrev mX3_add : sw_D := (cX3_add, RX3, 3, (some .boolean), { frames := 1, cells := 0, slots := 0, locals := 40 })
abbrev mX3_lastDue : sw_D := (cX3_lastDue, RX3, 1, (some .int), { frames := 1, cells := 0, slots := 0, locals := 40 })
abbrev mX3_packets : sw_D := (cX3_packets, RX3, 3, (some .int), { frames := 1, cells := 0, slots := 0, locals := 40 })
abbrev mX3_framesBefore : sw_D := (cX3_framesBefore, RX3, 3, (some .int), { frames := 1, cells := 0, slots := 0, locals := 40 })
abbrev mX3_copyFrom : sw_D := (cX3_copyFrom, RX3, 2, none, { frames := 1, cells := 0, slots := 0, locals := 40 })
abbrev mX4_init : sw_D := (cX4_init, RX4, 2, none, { frames := 2, cells := 0, slots := 0, locals := 60 })
abbrev mX4_slot : sw_D := (cX4_slot, RX4, 2, (some .int), { frames := 1, cells := 0, slots := 0, locals := 40 })
abbrev mX4_sentOfKind : sw_D := (cX4_sentOfKind, RX4, 2, (some .int), { frames := 2, cells := 0, slots := 0, locals := 62 })
abbrev mX4_weaveWhole : sw_D := (cX4_weaveWhole, RX4, 3, none, { frames := 5, cells := 0, slots := 0, locals := 136 })
abbrev mX4_showsAll : sw_D := (cX4_showsAll, RX4, 3, (some .boolean), { frames := 5, cells := 0, slots := 0, locals := 136 })
abbrev mX4_begin : sw_D := (cX4_begin, RX4, 2, none, { frames := 3, cells := 0, slots := 0, locals := 83 })
abbrev mX4_weaveTick : sw_D := (cX4_weaveTick, RX4, 4, none, { frames := 4, cells := 0, slots := 0, locals := 113 })
abbrev mX4_showDue : sw_D := (cX4_showDue, RX4, 6, none, { frames := 2, cells := 0, slots := 0, locals := 63 })
abbrev mX4_sendOne : sw_D := (cX4_sendOne, RX4, 6, none, { frames := 3, cells := 0, slots := 0, locals := 88 })
abbrev mX4_sendTable : sw_D := (cX4_sendTable, RX4, 3, none, { frames := 2, cells := 0, slots := 0, locals := 65 })
abbrev mX4_note : sw_D := (cX4_note, RX4, 6, none, { frames := 1, cells := 0, slots := 0, locals := 40 })
abbrev mX4_clockProgramme : sw_D := (cX4_clockProgramme, RX4, 4, (some .int), { frames := 2, cells := 0, slots := 0, locals := 62 })
abbrev mX4_frameProgramme : sw_D := (cX4_frameProgramme, RX4, 7, (some .int), { frames := 2, cells := 0, slots := 0, locals := 62 })
abbrev mX4_comesAgain : sw_D := (cX4_comesAgain, RX4, 3, (some .boolean), { frames := 1, cells := 0, slots := 0, locals := 40 })
abbrev mX5_init : sw_D := (cX5_init, RX5, 2, none, { frames := 3, cells := 0, slots := 0, locals := 81 })
abbrev mX5_say : sw_D := (cX5_say, RX5, 2, (some .int), { frames := 2, cells := 0, slots := 0, locals := 62 })
abbrev mX5_wipe : sw_D := (cX5_wipe, RX5, 2, (some .int), { frames := 1, cells := 0, slots := 0, locals := 40 })
abbrev mX5_line : sw_D := (cX5_line, RX5, 3, (some .int), { frames := 8, cells := 0, slots := 0, locals := 192 })
abbrev mX5_fault : sw_D := (cX5_fault, RX5, 1, (some .int), { frames := 8, cells := 0, slots := 0, locals := 192 })
abbrev mX5_written : sw_D := (cX5_written, RX5, 6, (some .int), { frames := 11, cells := 0, slots := 0, locals := 263 })
abbrev mX5_told : sw_D := (cX5_told, RX5, 4, (some .int), { frames := 3, cells := 0, slots := 0, locals := 82 })
abbrev mX5_packet : sw_D := (cX5_packet, RX5, 5, (some .int), { frames := 7, cells := 0, slots := 0, locals := 178 })
abbrev mX5_held : sw_D := (cX5_held, RX5, 3, (some .int), { frames := 7, cells := 0, slots := 0, locals := 178 })
abbrev mX5_frame : sw_D := (cX5_frame, RX5, 6, (some .int), { frames := 7, cells := 0, slots := 0, locals := 178 })
abbrev mX5_sent : sw_D := (cX5_sent, RX5, 2, (some .int), { frames := 7, cells := 0, slots := 0, locals := 178 })
abbrev mX5_most : sw_D := (cX5_most, RX5, 2, (some .int), { frames := 7, cells := 0, slots := 0, locals := 178 })
abbrev mX5_needs : sw_D := (cX5_needs, RX5, 2, (some .int), { frames := 7, cells := 0, slots := 0, locals := 178 })
abbrev mX5_room : sw_D := (cX5_room, RX5, 5, (some .int), { frames := 7, cells := 0, slots := 0, locals := 178 })
abbrev mX5_without : sw_D := (cX5_without, RX5, 2, (some .int), { frames := 6, cells := 0, slots := 0, locals := 158 })
abbrev mX5_image : sw_D := (cX5_image, RX5, 2, (some .int), { frames := 3, cells := 0, slots := 0, locals := 83 })
abbrev mX5_restore : sw_D := (cX5_restore, RX5, 2, (some .int), { frames := 3, cells := 0, slots := 0, locals := 83 })
abbrev mX5_count : sw_D := (cX5_count, RX5, 2, (some .int), { frames := 2, cells := 0, slots := 0, locals := 62 })
abbrev mX5_obey : sw_D := (cX5_obey, RX5, 5, (some .int), { frames := 4, cells := 0, slots := 0, locals := 110 })
abbrev mX5_addFrame : sw_D := (cX5_addFrame, RX5, 5, (some .int), { frames := 3, cells := 0, slots := 0, locals := 82 })
abbrev mX5_setRoom : sw_D := (cX5_setRoom, RX5, 4, (some .int), { frames := 3, cells := 0, slots := 0, locals := 82 })
abbrev mX5_setClock : sw_D := (cX5_setClock, RX5, 4, (some .int), { frames := 3, cells := 0, slots := 0, locals := 82 })
abbrev mX5_setTable : sw_D := (cX5_setTable, RX5, 3, (some .int), { frames := 2, cells := 0, slots := 0, locals := 62 })
abbrev mX5_setWide : sw_D := (cX5_setWide, RX5, 3, (some .int), { frames := 2, cells := 0, slots := 0, locals := 62 })
abbrev mX5_dropFrames : sw_D := (cX5_dropFrames, RX5, 3, (some .int), { frames := 3, cells := 0, slots := 0, locals := 82 })
abbrev mX5_swapFrames : sw_D := (cX5_swapFrames, RX5, 9, (some .int), { frames := 3, cells := 0, slots := 0, locals := 82 })
abbrev mX5_weave : sw_D := (cX5_weave, RX5, 1, none, { frames := 6, cells := 0, slots := 0, locals := 158 })
abbrev mX5_trialShowsAll : sw_D := (cX5_trialShowsAll, RX5, 1, (some .boolean), { frames := 6, cells := 0, slots := 0, locals := 158 })
abbrev mX5_isWithin : sw_D := (cX5_isWithin, RX5, 3, (some .boolean), { frames := 1, cells := 0, slots := 0, locals := 40 })
abbrev mX5_isProgramme : sw_D := (cX5_isProgramme, RX5, 1, (some .boolean), { frames := 2, cells := 0, slots := 0, locals := 62 })
abbrev mX5_isTick : sw_D := (cX5_isTick, RX5, 1, (some .boolean), { frames := 2, cells := 0, slots := 0, locals := 62 })
abbrev mX5_isDue : sw_D := (cX5_isDue, RX5, 1, (some .boolean), { frames := 2, cells := 0, slots := 0, locals := 62 })
abbrev mX6_init : sw_D := (cX6_init, RX6, 2, none, { frames := 1, cells := 0, slots := 0, locals := 40 })
abbrev mX6_in : sw_D := (cX6_in, RX6, 3, (some .boolean), { frames := 1, cells := 0, slots := 0, locals := 40 })
abbrev mX6_isProgramme : sw_D := (cX6_isProgramme, RX6, 1, (some .boolean), { frames := 2, cells := 0, slots := 0, locals := 62 })
abbrev mX6_isFrame : sw_D := (cX6_isFrame, RX6, 3, (some .boolean), { frames := 2, cells := 0, slots := 0, locals := 62 })
abbrev mX6_sizeOf : sw_D := (cX6_sizeOf, RX6, 3, (some .int), { frames := 1, cells := 0, slots := 0, locals := 40 })
abbrev mX6_dueOf : sw_D := (cX6_dueOf, RX6, 3, (some .int), { frames := 1, cells := 0, slots := 0, locals := 40 })
abbrev mX6_say : sw_D := (cX6_say, RX6, 2, (some .int), { frames := 2, cells := 0, slots := 0, locals := 62 })
abbrev mX6_wipe : sw_D := (cX6_wipe, RX6, 2, (some .int), { frames := 1, cells := 0, slots := 0, locals := 40 })
abbrev mX6_pick : sw_D := (cX6_pick, RX6, 6, (some .int), { frames := 1, cells := 0, slots := 0, locals := 40 })
abbrev mX6_signOf : sw_D := (cX6_signOf, RX6, 2, (some .int), { frames := 2, cells := 0, slots := 0, locals := 65 })
abbrev mX6_numbersOf : sw_D := (cX6_numbersOf, RX6, 1, (some .int), { frames := 1, cells := 0, slots := 0, locals := 40 })
abbrev mX6_readAs : sw_D := (cX6_readAs, RX6, 3, (some .int), { frames := 3, cells := 0, slots := 0, locals := 86 })
abbrev mX6_isLine : sw_D := (cX6_isLine, RX6, 3, (some .boolean), { frames := 4, cells := 0, slots := 0, locals := 108 })
abbrev mX6_fault : sw_D := (cX6_fault, RX6, 1, (some .int), { frames := 5, cells := 0, slots := 0, locals := 130 })
abbrev mX6_frameMore : sw_D := (cX6_frameMore, RX6, 5, (some .int), { frames := 2, cells := 0, slots := 0, locals := 62 })
abbrev mX6_setAt : sw_D := (cX6_setAt, RX6, 4, (some .int), { frames := 1, cells := 0, slots := 0, locals := 40 })
abbrev mX6_before : sw_D := (cX6_before, RX6, 5, (some .int), { frames := 2, cells := 0, slots := 0, locals := 62 })
abbrev mX6_swap : sw_D := (cX6_swap, RX6, 8, (some .int), { frames := 3, cells := 0, slots := 0, locals := 86 })
abbrev mX6_doLine : sw_D := (cX6_doLine, RX6, 3, (some .int), { frames := 4, cells := 0, slots := 0, locals := 113 })
abbrev mX6_line : sw_D := (cX6_line, RX6, 2, (some .int), { frames := 5, cells := 0, slots := 0, locals := 135 })
abbrev mX6_writeNumber : sw_D := (cX6_writeNumber, RX6, 2, none, { frames := 1, cells := 0, slots := 0, locals := 40 })
abbrev mX6_written : sw_D := (cX6_written, RX6, 4, (some .int), { frames := 3, cells := 0, slots := 0, locals := 86 })
abbrev mX6_packetsOf : sw_D := (cX6_packetsOf, RX6, 4, (some .int), { frames := 2, cells := 0, slots := 0, locals := 62 })
abbrev mX6_told : sw_D := (cX6_told, RX6, 4, (some .int), { frames := 3, cells := 0, slots := 0, locals := 85 })
abbrev mX6_showDue : sw_D := (cX6_showDue, RX6, 5, none, { frames := 2, cells := 0, slots := 0, locals := 62 })
abbrev mX6_isAgain : sw_D := (cX6_isAgain, RX6, 3, (some .boolean), { frames := 1, cells := 0, slots := 0, locals := 40 })
abbrev mX6_clockNow : sw_D := (cX6_clockNow, RX6, 4, (some .int), { frames := 2, cells := 0, slots := 0, locals := 62 })
abbrev mX6_frameOf : sw_D := (cX6_frameOf, RX6, 5, (some .int), { frames := 2, cells := 0, slots := 0, locals := 62 })
abbrev mX6_programmeNow : sw_D := (cX6_programmeNow, RX6, 6, (some .int), { frames := 3, cells := 0, slots := 0, locals := 86 })
abbrev mX6_put : sw_D := (cX6_put, RX6, 6, none, { frames := 1, cells := 0, slots := 0, locals := 40 })
abbrev mX6_sendOne : sw_D := (cX6_sendOne, RX6, 6, none, { frames := 4, cells := 0, slots := 0, locals := 111 })
abbrev mX6_send : sw_D := (cX6_send, RX6, 3, (some .int), { frames := 5, cells := 0, slots := 0, locals := 136 })
abbrev mX6_packet : sw_D := (cX6_packet, RX6, 5, (some .int), { frames := 6, cells := 0, slots := 0, locals := 158 })
abbrev mX6_held : sw_D := (cX6_held, RX6, 3, (some .int), { frames := 6, cells := 0, slots := 0, locals := 158 })
abbrev mX6_frame : sw_D := (cX6_frame, RX6, 5, (some .int), { frames := 6, cells := 0, slots := 0, locals := 158 })
abbrev mX6_ofSort : sw_D := (cX6_ofSort, RX6, 5, (some .int), { frames := 1, cells := 0, slots := 0, locals := 40 })
abbrev mX6_allFrames : sw_D := (cX6_allFrames, RX6, 3, (some .int), { frames := 1, cells := 0, slots := 0, locals := 40 })
abbrev mX6_allPackets : sw_D := (cX6_allPackets, RX6, 3, (some .int), { frames := 3, cells := 0, slots := 0, locals := 85 })
abbrev mX6_sent : sw_D := (cX6_sent, RX6, 2, (some .int), { frames := 6, cells := 0, slots := 0, locals := 158 })
abbrev mX6_most : sw_D := (cX6_most, RX6, 5, (some .int), { frames := 6, cells := 0, slots := 0, locals := 158 })
abbrev mX6_leastAt : sw_D := (cX6_leastAt, RX6, 6, (some .int), { frames := 6, cells := 0, slots := 0, locals := 158 })
abbrev mX6_needs : sw_D := (cX6_needs, RX6, 1, (some .int), { frames := 7, cells := 0, slots := 0, locals := 183 })
abbrev mX6_room : sw_D := (cX6_room, RX6, 2, (some .int), { frames := 7, cells := 0, slots := 0, locals := 183 })
abbrev mX6_without : sw_D := (cX6_without, RX6, 3, (some .int), { frames := 6, cells := 0, slots := 0, locals := 158 })
abbrev mX6_image : sw_D := (cX6_image, RX6, 3, (some .int), { frames := 2, cells := 0, slots := 0, locals := 62 })
abbrev mX6_restore : sw_D := (cX6_restore, RX6, 3, (some .int), { frames := 2, cells := 0, slots := 0, locals := 62 })
abbrev mX6_count : sw_D := (cX6_count, RX6, 2, (some .int), { frames := 2, cells := 0, slots := 0, locals := 62 })
abbrev mJ7_fill_53178 : sw_D := (cJ7_fill_53178, RJ7, 4, none, { frames := 1, cells := 0, slots := 0, locals := 40 })
abbrev mJ2_length_9d52b : sw_D := (cJ2_length_9d52b, RJ2, 1, (some .int), { frames := 1, cells := 0, slots := 0, locals := 40 })
abbrev mJ0_length_8abf5 : sw_D := (cJ0_length_8abf5, RJ0, 1, (some .int), { frames := 2, cells := 0, slots := 0, locals := 60 })
abbrev mJ2_charAt_3b067 : sw_D := (cJ2_charAt_3b067, RJ2, 2, (some .char), { frames := 4, cells := 0, slots := 0, locals := 104 })
abbrev mJ0_isLatin1_aae02 : sw_D := (cJ0_isLatin1_aae02, RJ0, 1, (some .boolean), { frames := 1, cells := 0, slots := 0, locals := 40 })
abbrev mJ3_checkIndex_8e157 : sw_D := (cJ3_checkIndex_8e157, RJ3, 3, (some .int), { frames := 1, cells := 0, slots := 0, locals := 40 })
abbrev mJ0_checkIndex_df160 : sw_D := (cJ0_checkIndex_df160, RJ0, 2, none, { frames := 2, cells := 0, slots := 0, locals := 62 })
abbrev mJ0_coder_7d493 : sw_D := (cJ0_coder_7d493, RJ0, 1, (some .byte), { frames := 1, cells := 0, slots := 0, locals := 40 })
abbrev mJ2_getChar_3b067 : sw_D := (cJ2_getChar_3b067, RJ2, 2, (some .char), { frames := 2, cells := 0, slots := 0, locals := 60 })
abbrev mJ9_min_7cf53 : sw_D := (cJ9_min_7cf53, RJ9, 2, (some .int), { frames := 1, cells := 0, slots := 0, locals := 40 })
abbrev mJ0_charAt_5068e : sw_D := (cJ0_charAt_5068e, RJ0, 2, (some .char), { frames := 5, cells := 0, slots := 0, locals := 125 })
abbrev mJ1_charAt_3b067 : sw_D := (cJ1_charAt_3b067, RJ1, 2, (some .char), { frames := 3, cells := 0, slots := 0, locals := 83 })
abbrev mJ2_checkIndex_2214a : sw_D := (cJ2_checkIndex_2214a, RJ2, 2, none, { frames := 3, cells := 0, slots := 0, locals := 83 })
theorem cbX0_begin : sw_cb yX0_begin mX0_begin 0 := ⟨⟨tbG_at 643 (by decide +kernel) rfl, tbG_at 39 (by decide +kernel) rfl⟩, ⟨by decide, by decide, by decide +kernel⟩, rfl, rfl⟩
theorem cbX0_takeDue : sw_cb yX0_takeDue mX0_takeDue 2 := ⟨⟨tbG_at 659 (by decide +kernel) rfl, tbG_at 39 (by decide +kernel) rfl⟩, ⟨by decide, by decide, by decide +kernel⟩, rfl, rfl⟩
theorem cbX0_openFrame : sw_cb yX0_openFrame mX0_openFrame 2 := ⟨⟨tbG_at 693 (by decide +kernel) rfl, tbG_at 39 (by decide +kernel) rfl⟩, ⟨by decide, by decide, by decide +kernel⟩, rfl, rfl⟩
theorem cbX0_sendOf : sw_cb yX0_sendOf mX0_sendOf 2 := ⟨⟨tbG_at 697 (by decide +kernel) rfl, tbG_at 39 (by decide +kernel) rfl⟩, ⟨by decide, by decide, by decide +kernel⟩, rfl, rfl⟩
theorem cbX0_nextCounter : sw_cb yX0_nextCounter mX0_nextCounter 0 := ⟨⟨tbG_at 685 (by decide +kernel) rfl, tbG_at 39 (by decide +kernel) rfl⟩, ⟨by decide, by decide, by decide +kernel⟩, rfl, rfl⟩
theorem cbX0_mostHeld : sw_cb yX0_mostHeld mX0_mostHeld 0 := ⟨⟨tbG_at 723 (by decide +kernel) rfl, tbG_at 39 (by decide +kernel) rfl⟩, ⟨by decide, by decide, by decide +kernel⟩, rfl, rfl⟩
theorem cbX1_text : sw_cb yX1_text mX1_text 1 := ⟨⟨tbG_at 286 (by decide +kernel) rfl, tbG_at 35 (by decide +kernel) rfl⟩, ⟨by decide, by decide, by decide +kernel⟩, rfl, rfl⟩
theorem cbX1_numbersBehind : sw_cb yX1_numbersBehind mX1_numbersBehind 1 := ⟨⟨tbG_at 355 (by decide +kernel) rfl, tbG_at 35 (by decide +kernel) rfl⟩, ⟨by decide, by decide, by decide +kernel⟩, rfl, rfl⟩
theorem cbX1_add : sw_cb yX1_add mX1_add 1 := ⟨⟨tbG_at 271 (by decide +kernel) rfl, tbG_at 35 (by decide +kernel) rfl⟩, ⟨by decide, by decide, by decide +kernel⟩, rfl, rfl⟩
theorem cbX1_read : sw_cb yX1_read mX1_read 0 := ⟨⟨tbG_at 283 (by decide +kernel) rfl, tbG_at 35 (by decide +kernel) rfl⟩, ⟨by decide, by decide, by decide +kernel⟩, rfl, rfl⟩
theorem cbX1_commonSigns : sw_cb yX1_commonSigns mX1_commonSigns 1 := ⟨⟨tbG_at 297 (by decide +kernel) rfl, tbG_at 35 (by decide +kernel) rfl⟩, ⟨by decide, by decide, by decide +kernel⟩, rfl, rfl⟩
theorem cbX1_readNumbers : sw_cb yX1_readNumbers mX1_readNumbers 1 := ⟨⟨tbG_at 352 (by decide +kernel) rfl, tbG_at 35 (by decide +kernel) rfl⟩, ⟨by decide, by decide, by decide +kernel⟩, rfl, rfl⟩
theorem cbX1_isSign : sw_cb yX1_isSign mX1_isSign 2 := ⟨⟨tbG_at 359 (by decide +kernel) rfl, tbG_at 35 (by decide +kernel) rfl⟩, ⟨by decide, by decide, by decide +kernel⟩, rfl, rfl⟩
theorem cbX1_isFigure : sw_cb yX1_isFigure mX1_isFigure 1 := ⟨⟨tbG_at 363 (by decide +kernel) rfl, tbG_at 35 (by decide +kernel) rfl⟩, ⟨by decide, by decide, by decide +kernel⟩, rfl, rfl⟩
theorem cbX2_framesInAll : sw_cb yX2_framesInAll mX2_framesInAll 0 := ⟨⟨tbG_at 771 (by decide +kernel) rfl, tbG_at 36 (by decide +kernel) rfl⟩, ⟨by decide, by decide, by decide +kernel⟩, rfl, rfl⟩
theorem cbX2_copyFrom : sw_cb yX2_copyFrom mX2_copyFrom 1 := ⟨⟨tbG_at 732 (by decide +kernel) rfl, tbG_at 36 (by decide +kernel) rfl⟩, ⟨by decide, by decide, by decide +kernel⟩, rfl, rfl⟩
theorem cbX3_hasFrame : sw_cb yX3_hasFrame mX3_hasFrame 1 := ⟨⟨tbG_at 427 (by decide +kernel) rfl, tbG_at 37 (by decide +kernel) rfl⟩, ⟨by decide, by decide, by decide +kernel⟩, rfl, rfl⟩
theorem cbX3_add : sw_cb yX3_add mX3_add 2 := ⟨⟨tbG_at 386 (by decide +kernel) rfl, tbG_at 37 (by decide +kernel) rfl⟩, ⟨by decide, by decide, by decide +kernel⟩, rfl, rfl⟩
theorem cbX3_lastDue : sw_cb yX3_lastDue mX3_lastDue 0 := ⟨⟨tbG_at 382 (by decide +kernel) rfl, tbG_at 37 (by decide +kernel) rfl⟩, ⟨by decide, by decide, by decide +kernel⟩, rfl, rfl⟩
theorem cbX3_packets : sw_cb yX3_packets mX3_packets 0 := ⟨⟨tbG_at 620 (by decide +kernel) rfl, tbG_at 37 (by decide +kernel) rfl⟩, ⟨by decide, by decide, by decide +kernel⟩, rfl, rfl⟩
theorem cbX3_framesBefore : sw_cb yX3_framesBefore mX3_framesBefore 1 := ⟨⟨tbG_at 414 (by decide +kernel) rfl, tbG_at 37 (by decide +kernel) rfl⟩, ⟨by decide, by decide, by decide +kernel⟩, rfl, rfl⟩
theorem cbX3_copyFrom : sw_cb yX3_copyFrom mX3_copyFrom 1 := ⟨⟨tbG_at 736 (by decide +kernel) rfl, tbG_at 37 (by decide +kernel) rfl⟩, ⟨by decide, by decide, by decide +kernel⟩, rfl, rfl⟩
theorem cbX4_slot : sw_cb yX4_slot mX4_slot 2 := ⟨⟨tbG_at 662 (by decide +kernel) rfl, tbG_at 38 (by decide +kernel) rfl⟩, ⟨by decide, by decide, by decide +kernel⟩, rfl, rfl⟩
theorem cbX4_sentOfKind : sw_cb yX4_sentOfKind mX4_sentOfKind 1 := ⟨⟨tbG_at 714 (by decide +kernel) rfl, tbG_at 38 (by decide +kernel) rfl⟩, ⟨by decide, by decide, by decide +kernel⟩, rfl, rfl⟩
theorem cbX4_weaveWhole : sw_cb yX4_weaveWhole mX4_weaveWhole 1 := ⟨⟨tbG_at 635 (by decide +kernel) rfl, tbG_at 38 (by decide +kernel) rfl⟩, ⟨by decide, by decide, by decide +kernel⟩, rfl, rfl⟩
theorem cbX4_showsAll : sw_cb yX4_showsAll mX4_showsAll 1 := ⟨⟨tbG_at 745 (by decide +kernel) rfl, tbG_at 38 (by decide +kernel) rfl⟩, ⟨by decide, by decide, by decide +kernel⟩, rfl, rfl⟩
theorem cbX4_begin : sw_cb yX4_begin mX4_begin 0 := ⟨⟨tbG_at 639 (by decide +kernel) rfl, tbG_at 38 (by decide +kernel) rfl⟩, ⟨by decide, by decide, by decide +kernel⟩, rfl, rfl⟩
theorem cbX4_weaveTick : sw_cb yX4_weaveTick mX4_weaveTick 2 := ⟨⟨tbG_at 651 (by decide +kernel) rfl, tbG_at 38 (by decide +kernel) rfl⟩, ⟨by decide, by decide, by decide +kernel⟩, rfl, rfl⟩
theorem cbX4_showDue : sw_cb yX4_showDue mX4_showDue 3 := ⟨⟨tbG_at 655 (by decide +kernel) rfl, tbG_at 38 (by decide +kernel) rfl⟩, ⟨by decide, by decide, by decide +kernel⟩, rfl, rfl⟩
theorem cbX4_sendOne : sw_cb yX4_sendOne mX4_sendOne 3 := ⟨⟨tbG_at 666 (by decide +kernel) rfl, tbG_at 38 (by decide +kernel) rfl⟩, ⟨by decide, by decide, by decide +kernel⟩, rfl, rfl⟩
theorem cbX4_sendTable : sw_cb yX4_sendTable mX4_sendTable 2 := ⟨⟨tbG_at 673 (by decide +kernel) rfl, tbG_at 38 (by decide +kernel) rfl⟩, ⟨by decide, by decide, by decide +kernel⟩, rfl, rfl⟩
theorem cbX4_note : sw_cb yX4_note mX4_note 5 := ⟨⟨tbG_at 677 (by decide +kernel) rfl, tbG_at 38 (by decide +kernel) rfl⟩, ⟨by decide, by decide, by decide +kernel⟩, rfl, rfl⟩
theorem cbX4_clockProgramme : sw_cb yX4_clockProgramme mX4_clockProgramme 2 := ⟨⟨tbG_at 681 (by decide +kernel) rfl, tbG_at 38 (by decide +kernel) rfl⟩, ⟨by decide, by decide, by decide +kernel⟩, rfl, rfl⟩
theorem cbX4_frameProgramme : sw_cb yX4_frameProgramme mX4_frameProgramme 2 := ⟨⟨tbG_at 689 (by decide +kernel) rfl, tbG_at 38 (by decide +kernel) rfl⟩, ⟨by decide, by decide, by decide +kernel⟩, rfl, rfl⟩
theorem cbX4_comesAgain : sw_cb yX4_comesAgain mX4_comesAgain 3 := ⟨⟨tbG_at 669 (by decide +kernel) rfl, tbG_at 38 (by decide +kernel) rfl⟩, ⟨by decide, by decide, by decide +kernel⟩, rfl, rfl⟩
theorem cbX5_say : sw_cb yX5_say mX5_say 1 := ⟨⟨tbG_at 264 (by decide +kernel) rfl, tbG_at 34 (by decide +kernel) rfl⟩, ⟨by decide, by decide, by decide +kernel⟩, rfl, rfl⟩
theorem cbX5_wipe : sw_cb yX5_wipe mX5_wipe 0 := ⟨⟨tbG_at 275 (by decide +kernel) rfl, tbG_at 34 (by decide +kernel) rfl⟩, ⟨by decide, by decide, by decide +kernel⟩, rfl, rfl⟩
theorem cbX5_line : sw_cb yX5_line mX5_line 0 := ⟨⟨tbG_at 279 (by decide +kernel) rfl, tbG_at 34 (by decide +kernel) rfl⟩, ⟨by decide, by decide, by decide +kernel⟩, rfl, rfl⟩
theorem cbX5_fault : sw_cb yX5_fault mX5_fault 0 := ⟨⟨tbG_at 419 (by decide +kernel) rfl, tbG_at 34 (by decide +kernel) rfl⟩, ⟨by decide, by decide, by decide +kernel⟩, rfl, rfl⟩
theorem cbX5_written : sw_cb yX5_written mX5_written 3 := ⟨⟨tbG_at 423 (by decide +kernel) rfl, tbG_at 34 (by decide +kernel) rfl⟩, ⟨by decide, by decide, by decide +kernel⟩, rfl, rfl⟩
theorem cbX5_told : sw_cb yX5_told mX5_told 2 := ⟨⟨tbG_at 616 (by decide +kernel) rfl, tbG_at 34 (by decide +kernel) rfl⟩, ⟨by decide, by decide, by decide +kernel⟩, rfl, rfl⟩
theorem cbX5_packet : sw_cb yX5_packet mX5_packet 3 := ⟨⟨tbG_at 624 (by decide +kernel) rfl, tbG_at 34 (by decide +kernel) rfl⟩, ⟨by decide, by decide, by decide +kernel⟩, rfl, rfl⟩
theorem cbX5_held : sw_cb yX5_held mX5_held 2 := ⟨⟨tbG_at 702 (by decide +kernel) rfl, tbG_at 34 (by decide +kernel) rfl⟩, ⟨by decide, by decide, by decide +kernel⟩, rfl, rfl⟩
theorem cbX5_frame : sw_cb yX5_frame mX5_frame 3 := ⟨⟨tbG_at 706 (by decide +kernel) rfl, tbG_at 34 (by decide +kernel) rfl⟩, ⟨by decide, by decide, by decide +kernel⟩, rfl, rfl⟩
theorem cbX5_sent : sw_cb yX5_sent mX5_sent 1 := ⟨⟨tbG_at 710 (by decide +kernel) rfl, tbG_at 34 (by decide +kernel) rfl⟩, ⟨by decide, by decide, by decide +kernel⟩, rfl, rfl⟩
theorem cbX5_most : sw_cb yX5_most mX5_most 1 := ⟨⟨tbG_at 719 (by decide +kernel) rfl, tbG_at 34 (by decide +kernel) rfl⟩, ⟨by decide, by decide, by decide +kernel⟩, rfl, rfl⟩
theorem cbX5_needs : sw_cb yX5_needs mX5_needs 0 := ⟨⟨tbG_at 728 (by decide +kernel) rfl, tbG_at 34 (by decide +kernel) rfl⟩, ⟨by decide, by decide, by decide +kernel⟩, rfl, rfl⟩
theorem cbX5_room : sw_cb yX5_room mX5_room 1 := ⟨⟨tbG_at 749 (by decide +kernel) rfl, tbG_at 34 (by decide +kernel) rfl⟩, ⟨by decide, by decide, by decide +kernel⟩, rfl, rfl⟩
theorem cbX5_without : sw_cb yX5_without mX5_without 1 := ⟨⟨tbG_at 755 (by decide +kernel) rfl, tbG_at 34 (by decide +kernel) rfl⟩, ⟨by decide, by decide, by decide +kernel⟩, rfl, rfl⟩
theorem cbX5_image : sw_cb yX5_image mX5_image 1 := ⟨⟨tbG_at 759 (by decide +kernel) rfl, tbG_at 34 (by decide +kernel) rfl⟩, ⟨by decide, by decide, by decide +kernel⟩, rfl, rfl⟩
theorem cbX5_restore : sw_cb yX5_restore mX5_restore 1 := ⟨⟨tbG_at 763 (by decide +kernel) rfl, tbG_at 34 (by decide +kernel) rfl⟩, ⟨by decide, by decide, by decide +kernel⟩, rfl, rfl⟩
theorem cbX5_count : sw_cb yX5_count mX5_count 1 := ⟨⟨tbG_at 767 (by decide +kernel) rfl, tbG_at 34 (by decide +kernel) rfl⟩, ⟨by decide, by decide, by decide +kernel⟩, rfl, rfl⟩
theorem cbX5_obey : sw_cb yX5_obey mX5_obey 1 := ⟨⟨tbG_at 368 (by decide +kernel) rfl, tbG_at 34 (by decide +kernel) rfl⟩, ⟨by decide, by decide, by decide +kernel⟩, rfl, rfl⟩
theorem cbX5_addFrame : sw_cb yX5_addFrame mX5_addFrame 3 := ⟨⟨tbG_at 372 (by decide +kernel) rfl, tbG_at 34 (by decide +kernel) rfl⟩, ⟨by decide, by decide, by decide +kernel⟩, rfl, rfl⟩
theorem cbX5_setRoom : sw_cb yX5_setRoom mX5_setRoom 2 := ⟨⟨tbG_at 390 (by decide +kernel) rfl, tbG_at 34 (by decide +kernel) rfl⟩, ⟨by decide, by decide, by decide +kernel⟩, rfl, rfl⟩
theorem cbX5_setClock : sw_cb yX5_setClock mX5_setClock 2 := ⟨⟨tbG_at 394 (by decide +kernel) rfl, tbG_at 34 (by decide +kernel) rfl⟩, ⟨by decide, by decide, by decide +kernel⟩, rfl, rfl⟩
theorem cbX5_setTable : sw_cb yX5_setTable mX5_setTable 1 := ⟨⟨tbG_at 398 (by decide +kernel) rfl, tbG_at 34 (by decide +kernel) rfl⟩, ⟨by decide, by decide, by decide +kernel⟩, rfl, rfl⟩
theorem cbX5_setWide : sw_cb yX5_setWide mX5_setWide 1 := ⟨⟨tbG_at 402 (by decide +kernel) rfl, tbG_at 34 (by decide +kernel) rfl⟩, ⟨by decide, by decide, by decide +kernel⟩, rfl, rfl⟩
theorem cbX5_dropFrames : sw_cb yX5_dropFrames mX5_dropFrames 1 := ⟨⟨tbG_at 406 (by decide +kernel) rfl, tbG_at 34 (by decide +kernel) rfl⟩, ⟨by decide, by decide, by decide +kernel⟩, rfl, rfl⟩
theorem cbX5_swapFrames : sw_cb yX5_swapFrames mX5_swapFrames 3 := ⟨⟨tbG_at 410 (by decide +kernel) rfl, tbG_at 34 (by decide +kernel) rfl⟩, ⟨by decide, by decide, by decide +kernel⟩, rfl, rfl⟩
theorem cbX5_weave : sw_cb yX5_weave mX5_weave 0 := ⟨⟨tbG_at 631 (by decide +kernel) rfl, tbG_at 34 (by decide +kernel) rfl⟩, ⟨by decide, by decide, by decide +kernel⟩, rfl, rfl⟩
theorem cbX5_trialShowsAll : sw_cb yX5_trialShowsAll mX5_trialShowsAll 0 := ⟨⟨tbG_at 741 (by decide +kernel) rfl, tbG_at 34 (by decide +kernel) rfl⟩, ⟨by decide, by decide, by decide +kernel⟩, rfl, rfl⟩
theorem cbX5_isWithin : sw_cb yX5_isWithin mX5_isWithin 3 := ⟨⟨tbG_at 267 (by decide +kernel) rfl, tbG_at 34 (by decide +kernel) rfl⟩, ⟨by decide, by decide, by decide +kernel⟩, rfl, rfl⟩
theorem cbX5_isProgramme : sw_cb yX5_isProgramme mX5_isProgramme 1 := ⟨⟨tbG_at 375 (by decide +kernel) rfl, tbG_at 34 (by decide +kernel) rfl⟩, ⟨by decide, by decide, by decide +kernel⟩, rfl, rfl⟩
theorem cbX5_isTick : sw_cb yX5_isTick mX5_isTick 1 := ⟨⟨tbG_at 627 (by decide +kernel) rfl, tbG_at 34 (by decide +kernel) rfl⟩, ⟨by decide, by decide, by decide +kernel⟩, rfl, rfl⟩
theorem cbX5_isDue : sw_cb yX5_isDue mX5_isDue 1 := ⟨⟨tbG_at 378 (by decide +kernel) rfl, tbG_at 34 (by decide +kernel) rfl⟩, ⟨by decide, by decide, by decide +kernel⟩, rfl, rfl⟩
theorem cbX6_in : sw_cb yX6_in mX6_in 3 := ⟨⟨tbG_at 870 (by decide +kernel) rfl, tbG_at 40 (by decide +kernel) rfl⟩, ⟨by decide, by decide, by decide +kernel⟩, rfl, rfl⟩
theorem cbX6_isProgramme : sw_cb yX6_isProgramme mX6_isProgramme 1 := ⟨⟨tbG_at 906 (by decide +kernel) rfl, tbG_at 40 (by decide +kernel) rfl⟩, ⟨by decide, by decide, by decide +kernel⟩, rfl, rfl⟩
theorem cbX6_isFrame : sw_cb yX6_isFrame mX6_isFrame 2 := ⟨⟨tbG_at 938 (by decide +kernel) rfl, tbG_at 40 (by decide +kernel) rfl⟩, ⟨by decide, by decide, by decide +kernel⟩, rfl, rfl⟩
theorem cbX6_sizeOf : sw_cb yX6_sizeOf mX6_sizeOf 2 := ⟨⟨tbG_at 930 (by decide +kernel) rfl, tbG_at 40 (by decide +kernel) rfl⟩, ⟨by decide, by decide, by decide +kernel⟩, rfl, rfl⟩
theorem cbX6_dueOf : sw_cb yX6_dueOf mX6_dueOf 2 := ⟨⟨tbG_at 914 (by decide +kernel) rfl, tbG_at 40 (by decide +kernel) rfl⟩, ⟨by decide, by decide, by decide +kernel⟩, rfl, rfl⟩
theorem cbX6_say : sw_cb yX6_say mX6_say 1 := ⟨⟨tbG_at 867 (by decide +kernel) rfl, tbG_at 40 (by decide +kernel) rfl⟩, ⟨by decide, by decide, by decide +kernel⟩, rfl, rfl⟩
theorem cbX6_wipe : sw_cb yX6_wipe mX6_wipe 0 := ⟨⟨tbG_at 874 (by decide +kernel) rfl, tbG_at 40 (by decide +kernel) rfl⟩, ⟨by decide, by decide, by decide +kernel⟩, rfl, rfl⟩
theorem cbX6_pick : sw_cb yX6_pick mX6_pick 6 := ⟨⟨tbG_at 892 (by decide +kernel) rfl, tbG_at 40 (by decide +kernel) rfl⟩, ⟨by decide, by decide, by decide +kernel⟩, rfl, rfl⟩
theorem cbX6_signOf : sw_cb yX6_signOf mX6_signOf 2 := ⟨⟨tbG_at 889 (by decide +kernel) rfl, tbG_at 40 (by decide +kernel) rfl⟩, ⟨by decide, by decide, by decide +kernel⟩, rfl, rfl⟩
theorem cbX6_numbersOf : sw_cb yX6_numbersOf mX6_numbersOf 1 := ⟨⟨tbG_at 895 (by decide +kernel) rfl, tbG_at 40 (by decide +kernel) rfl⟩, ⟨by decide, by decide, by decide +kernel⟩, rfl, rfl⟩
theorem cbX6_readAs : sw_cb yX6_readAs mX6_readAs 1 := ⟨⟨tbG_at 886 (by decide +kernel) rfl, tbG_at 40 (by decide +kernel) rfl⟩, ⟨by decide, by decide, by decide +kernel⟩, rfl, rfl⟩
theorem cbX6_isLine : sw_cb yX6_isLine mX6_isLine 0 := ⟨⟨tbG_at 882 (by decide +kernel) rfl, tbG_at 40 (by decide +kernel) rfl⟩, ⟨by decide, by decide, by decide +kernel⟩, rfl, rfl⟩
theorem cbX6_fault : sw_cb yX6_fault mX6_fault 0 := ⟨⟨tbG_at 878 (by decide +kernel) rfl, tbG_at 40 (by decide +kernel) rfl⟩, ⟨by decide, by decide, by decide +kernel⟩, rfl, rfl⟩
theorem cbX6_frameMore : sw_cb yX6_frameMore mX6_frameMore 3 := ⟨⟨tbG_at 910 (by decide +kernel) rfl, tbG_at 40 (by decide +kernel) rfl⟩, ⟨by decide, by decide, by decide +kernel⟩, rfl, rfl⟩
theorem cbX6_setAt : sw_cb yX6_setAt mX6_setAt 2 := ⟨⟨tbG_at 918 (by decide +kernel) rfl, tbG_at 40 (by decide +kernel) rfl⟩, ⟨by decide, by decide, by decide +kernel⟩, rfl, rfl⟩
theorem cbX6_before : sw_cb yX6_before mX6_before 2 := ⟨⟨tbG_at 926 (by decide +kernel) rfl, tbG_at 40 (by decide +kernel) rfl⟩, ⟨by decide, by decide, by decide +kernel⟩, rfl, rfl⟩
theorem cbX6_swap : sw_cb yX6_swap mX6_swap 3 := ⟨⟨tbG_at 922 (by decide +kernel) rfl, tbG_at 40 (by decide +kernel) rfl⟩, ⟨by decide, by decide, by decide +kernel⟩, rfl, rfl⟩
theorem cbX6_doLine : sw_cb yX6_doLine mX6_doLine 0 := ⟨⟨tbG_at 903 (by decide +kernel) rfl, tbG_at 40 (by decide +kernel) rfl⟩, ⟨by decide, by decide, by decide +kernel⟩, rfl, rfl⟩
theorem cbX6_line : sw_cb yX6_line mX6_line 0 := ⟨⟨tbG_at 899 (by decide +kernel) rfl, tbG_at 40 (by decide +kernel) rfl⟩, ⟨by decide, by decide, by decide +kernel⟩, rfl, rfl⟩
theorem cbX6_writeNumber : sw_cb yX6_writeNumber mX6_writeNumber 1 := ⟨⟨tbG_at 942 (by decide +kernel) rfl, tbG_at 40 (by decide +kernel) rfl⟩, ⟨by decide, by decide, by decide +kernel⟩, rfl, rfl⟩
theorem cbX6_written : sw_cb yX6_written mX6_written 3 := ⟨⟨tbG_at 934 (by decide +kernel) rfl, tbG_at 40 (by decide +kernel) rfl⟩, ⟨by decide, by decide, by decide +kernel⟩, rfl, rfl⟩
theorem cbX6_packetsOf : sw_cb yX6_packetsOf mX6_packetsOf 1 := ⟨⟨tbG_at 950 (by decide +kernel) rfl, tbG_at 40 (by decide +kernel) rfl⟩, ⟨by decide, by decide, by decide +kernel⟩, rfl, rfl⟩
theorem cbX6_told : sw_cb yX6_told mX6_told 2 := ⟨⟨tbG_at 946 (by decide +kernel) rfl, tbG_at 40 (by decide +kernel) rfl⟩, ⟨by decide, by decide, by decide +kernel⟩, rfl, rfl⟩
theorem cbX6_showDue : sw_cb yX6_showDue mX6_showDue 2 := ⟨⟨tbG_at 962 (by decide +kernel) rfl, tbG_at 40 (by decide +kernel) rfl⟩, ⟨by decide, by decide, by decide +kernel⟩, rfl, rfl⟩
theorem cbX6_isAgain : sw_cb yX6_isAgain mX6_isAgain 3 := ⟨⟨tbG_at 969 (by decide +kernel) rfl, tbG_at 40 (by decide +kernel) rfl⟩, ⟨by decide, by decide, by decide +kernel⟩, rfl, rfl⟩
theorem cbX6_clockNow : sw_cb yX6_clockNow mX6_clockNow 1 := ⟨⟨tbG_at 977 (by decide +kernel) rfl, tbG_at 40 (by decide +kernel) rfl⟩, ⟨by decide, by decide, by decide +kernel⟩, rfl, rfl⟩
theorem cbX6_frameOf : sw_cb yX6_frameOf mX6_frameOf 2 := ⟨⟨tbG_at 985 (by decide +kernel) rfl, tbG_at 40 (by decide +kernel) rfl⟩, ⟨by decide, by decide, by decide +kernel⟩, rfl, rfl⟩
theorem cbX6_programmeNow : sw_cb yX6_programmeNow mX6_programmeNow 1 := ⟨⟨tbG_at 981 (by decide +kernel) rfl, tbG_at 40 (by decide +kernel) rfl⟩, ⟨by decide, by decide, by decide +kernel⟩, rfl, rfl⟩
theorem cbX6_put : sw_cb yX6_put mX6_put 4 := ⟨⟨tbG_at 973 (by decide +kernel) rfl, tbG_at 40 (by decide +kernel) rfl⟩, ⟨by decide, by decide, by decide +kernel⟩, rfl, rfl⟩
theorem cbX6_sendOne : sw_cb yX6_sendOne mX6_sendOne 2 := ⟨⟨tbG_at 966 (by decide +kernel) rfl, tbG_at 40 (by decide +kernel) rfl⟩, ⟨by decide, by decide, by decide +kernel⟩, rfl, rfl⟩
theorem cbX6_send : sw_cb yX6_send mX6_send 0 := ⟨⟨tbG_at 958 (by decide +kernel) rfl, tbG_at 40 (by decide +kernel) rfl⟩, ⟨by decide, by decide, by decide +kernel⟩, rfl, rfl⟩
theorem cbX6_packet : sw_cb yX6_packet mX6_packet 3 := ⟨⟨tbG_at 954 (by decide +kernel) rfl, tbG_at 40 (by decide +kernel) rfl⟩, ⟨by decide, by decide, by decide +kernel⟩, rfl, rfl⟩
theorem cbX6_held : sw_cb yX6_held mX6_held 2 := ⟨⟨tbG_at 989 (by decide +kernel) rfl, tbG_at 40 (by decide +kernel) rfl⟩, ⟨by decide, by decide, by decide +kernel⟩, rfl, rfl⟩
theorem cbX6_frame : sw_cb yX6_frame mX6_frame 3 := ⟨⟨tbG_at 993 (by decide +kernel) rfl, tbG_at 40 (by decide +kernel) rfl⟩, ⟨by decide, by decide, by decide +kernel⟩, rfl, rfl⟩
theorem cbX6_ofSort : sw_cb yX6_ofSort mX6_ofSort 1 := ⟨⟨tbG_at 1009 (by decide +kernel) rfl, tbG_at 40 (by decide +kernel) rfl⟩, ⟨by decide, by decide, by decide +kernel⟩, rfl, rfl⟩
theorem cbX6_allFrames : sw_cb yX6_allFrames mX6_allFrames 0 := ⟨⟨tbG_at 1001 (by decide +kernel) rfl, tbG_at 40 (by decide +kernel) rfl⟩, ⟨by decide, by decide, by decide +kernel⟩, rfl, rfl⟩
theorem cbX6_allPackets : sw_cb yX6_allPackets mX6_allPackets 0 := ⟨⟨tbG_at 1005 (by decide +kernel) rfl, tbG_at 40 (by decide +kernel) rfl⟩, ⟨by decide, by decide, by decide +kernel⟩, rfl, rfl⟩
theorem cbX6_sent : sw_cb yX6_sent mX6_sent 1 := ⟨⟨tbG_at 997 (by decide +kernel) rfl, tbG_at 40 (by decide +kernel) rfl⟩, ⟨by decide, by decide, by decide +kernel⟩, rfl, rfl⟩
theorem cbX6_most : sw_cb yX6_most mX6_most 1 := ⟨⟨tbG_at 1013 (by decide +kernel) rfl, tbG_at 40 (by decide +kernel) rfl⟩, ⟨by decide, by decide, by decide +kernel⟩, rfl, rfl⟩
theorem cbX6_leastAt : sw_cb yX6_leastAt mX6_leastAt 2 := ⟨⟨tbG_at 1021 (by decide +kernel) rfl, tbG_at 40 (by decide +kernel) rfl⟩, ⟨by decide, by decide, by decide +kernel⟩, rfl, rfl⟩
theorem cbX6_needs : sw_cb yX6_needs mX6_needs 0 := ⟨⟨tbG_at 1017 (by decide +kernel) rfl, tbG_at 40 (by decide +kernel) rfl⟩, ⟨by decide, by decide, by decide +kernel⟩, rfl, rfl⟩
theorem cbX6_room : sw_cb yX6_room mX6_room 1 := ⟨⟨tbG_at 1025 (by decide +kernel) rfl, tbG_at 40 (by decide +kernel) rfl⟩, ⟨by decide, by decide, by decide +kernel⟩, rfl, rfl⟩
theorem cbX6_without : sw_cb yX6_without mX6_without 1 := ⟨⟨tbG_at 1029 (by decide +kernel) rfl, tbG_at 40 (by decide +kernel) rfl⟩, ⟨by decide, by decide, by decide +kernel⟩, rfl, rfl⟩
theorem cbX6_image : sw_cb yX6_image mX6_image 1 := ⟨⟨tbG_at 1033 (by decide +kernel) rfl, tbG_at 40 (by decide +kernel) rfl⟩, ⟨by decide, by decide, by decide +kernel⟩, rfl, rfl⟩
theorem cbX6_restore : sw_cb yX6_restore mX6_restore 1 := ⟨⟨tbG_at 1037 (by decide +kernel) rfl, tbG_at 40 (by decide +kernel) rfl⟩, ⟨by decide, by decide, by decide +kernel⟩, rfl, rfl⟩
theorem cbX6_count : sw_cb yX6_count mX6_count 1 := ⟨⟨tbG_at 1041 (by decide +kernel) rfl, tbG_at 40 (by decide +kernel) rfl⟩, ⟨by decide, by decide, by decide +kernel⟩, rfl, rfl⟩
theorem cbJ7_fill_53178 : sw_cb yJ7_fill_53178 mJ7_fill_53178 2 := ⟨⟨tbG_at 646 (by decide +kernel) rfl, tbG_at 49 (by decide +kernel) rfl⟩, ⟨by decide, by decide, by decide +kernel⟩, rfl, rfl⟩
theorem cbJ2_length_9d52b : sw_cb yJ2_length_9d52b mJ2_length_9d52b 1 := ⟨⟨tbG_at 338 (by decide +kernel) rfl, tbG_at 45 (by decide +kernel) rfl⟩, ⟨by decide, by decide, by decide +kernel⟩, rfl, rfl⟩
theorem cbJ0_length_8abf5 : sw_cb yJ0_length_8abf5 mJ0_length_8abf5 0 := ⟨⟨tbG_at 301 (by decide +kernel) rfl, tbG_at 41 (by decide +kernel) rfl⟩, ⟨by decide, by decide, by decide +kernel⟩, rfl, rfl⟩
theorem cbJ2_charAt_3b067 : sw_cb yJ2_charAt_3b067 mJ2_charAt_3b067 2 := ⟨⟨tbG_at 332 (by decide +kernel) rfl, tbG_at 45 (by decide +kernel) rfl⟩, ⟨by decide, by decide, by decide +kernel⟩, rfl, rfl⟩
theorem cbJ0_isLatin1_aae02 : sw_cb yJ0_isLatin1_aae02 mJ0_isLatin1_aae02 0 := ⟨⟨tbG_at 318 (by decide +kernel) rfl, tbG_at 41 (by decide +kernel) rfl⟩, ⟨by decide, by decide, by decide +kernel⟩, rfl, rfl⟩
theorem cbJ3_checkIndex_8e157 : sw_cb yJ3_checkIndex_8e157 mJ3_checkIndex_8e157 3 := ⟨⟨tbG_at 329 (by decide +kernel) rfl, tbG_at 44 (by decide +kernel) rfl⟩, ⟨by decide, by decide, by decide +kernel⟩, rfl, rfl⟩
theorem cbJ0_checkIndex_df160 : sw_cb yJ0_checkIndex_df160 mJ0_checkIndex_df160 2 := ⟨⟨tbG_at 324 (by decide +kernel) rfl, tbG_at 41 (by decide +kernel) rfl⟩, ⟨by decide, by decide, by decide +kernel⟩, rfl, rfl⟩
theorem cbJ0_coder_7d493 : sw_cb yJ0_coder_7d493 mJ0_coder_7d493 0 := ⟨⟨tbG_at 305 (by decide +kernel) rfl, tbG_at 41 (by decide +kernel) rfl⟩, ⟨by decide, by decide, by decide +kernel⟩, rfl, rfl⟩
theorem cbJ2_getChar_3b067 : sw_cb yJ2_getChar_3b067 mJ2_getChar_3b067 2 := ⟨⟨tbG_at 342 (by decide +kernel) rfl, tbG_at 45 (by decide +kernel) rfl⟩, ⟨by decide, by decide, by decide +kernel⟩, rfl, rfl⟩
theorem cbJ9_min_7cf53 : sw_cb yJ9_min_7cf53 mJ9_min_7cf53 2 := ⟨⟨tbG_at 310 (by decide +kernel) rfl, tbG_at 42 (by decide +kernel) rfl⟩, ⟨by decide, by decide, by decide +kernel⟩, rfl, rfl⟩
theorem cbJ0_charAt_5068e : sw_cb yJ0_charAt_5068e mJ0_charAt_5068e 1 := ⟨⟨tbG_at 314 (by decide +kernel) rfl, tbG_at 41 (by decide +kernel) rfl⟩, ⟨by decide, by decide, by decide +kernel⟩, rfl, rfl⟩
theorem cbJ1_charAt_3b067 : sw_cb yJ1_charAt_3b067 mJ1_charAt_3b067 2 := ⟨⟨tbG_at 321 (by decide +kernel) rfl, tbG_at 43 (by decide +kernel) rfl⟩, ⟨by decide, by decide, by decide +kernel⟩, rfl, rfl⟩
theorem cbJ2_checkIndex_2214a : sw_cb yJ2_checkIndex_2214a mJ2_checkIndex_2214a 2 := ⟨⟨tbG_at 335 (by decide +kernel) rfl, tbG_at 45 (by decide +kernel) rfl⟩, ⟨by decide, by decide, by decide +kernel⟩, rfl, rfl⟩
theorem csX0_40 : sw_cs RX0 40 yJ7_fill_53178 mJ7_fill_53178 2 := ⟨cbJ7_fill_53178, tbG_at 644 (by decide +kernel) rfl, tbG_at 645 (by decide +kernel) rfl⟩
theorem csX1_39 : sw_cs RX1 39 yX1_text mX1_text 1 := ⟨cbX1_text, tbG_at 284 (by decide +kernel) rfl, tbG_at 285 (by decide +kernel) rfl⟩
theorem cvX1_43 : sw_cv RX1 43 yX1_commonSigns mX1_commonSigns 1 := ⟨cbX1_commonSigns, tbG_at 294 (by decide +kernel) rfl, tbG_at 295 (by decide +kernel) rfl, tbG_at 296 (by decide +kernel) rfl⟩
theorem cvX1_47 : sw_cv RX1 47 yJ0_length_8abf5 mJ0_length_8abf5 0 := ⟨cbJ0_length_8abf5, tbG_at 298 (by decide +kernel) rfl, tbG_at 299 (by decide +kernel) rfl, tbG_at 300 (by decide +kernel) rfl⟩
theorem cvX1_52 : sw_cv RX1 52 yX1_readNumbers mX1_readNumbers 1 := ⟨cbX1_readNumbers, tbG_at 349 (by decide +kernel) rfl, tbG_at 350 (by decide +kernel) rfl, tbG_at 351 (by decide +kernel) rfl⟩
theorem csX1_56 : sw_cs RX1 56 yJ9_min_7cf53 mJ9_min_7cf53 2 := ⟨cbJ9_min_7cf53, tbG_at 308 (by decide +kernel) rfl, tbG_at 309 (by decide +kernel) rfl⟩
theorem cvX1_62 : sw_cv RX1 62 yJ0_charAt_5068e mJ0_charAt_5068e 1 := ⟨cbJ0_charAt_5068e, tbG_at 311 (by decide +kernel) rfl, tbG_at 312 (by decide +kernel) rfl, tbG_at 313 (by decide +kernel) rfl⟩
theorem csX1_66 : sw_cs RX1 66 yX1_numbersBehind mX1_numbersBehind 1 := ⟨cbX1_numbersBehind, tbG_at 353 (by decide +kernel) rfl, tbG_at 354 (by decide +kernel) rfl⟩
theorem cvX1_69 : sw_cv RX1 69 yX1_isSign mX1_isSign 2 := ⟨cbX1_isSign, tbG_at 356 (by decide +kernel) rfl, tbG_at 357 (by decide +kernel) rfl, tbG_at 358 (by decide +kernel) rfl⟩
theorem cvX1_73 : sw_cv RX1 73 yX1_isFigure mX1_isFigure 1 := ⟨cbX1_isFigure, tbG_at 360 (by decide +kernel) rfl, tbG_at 361 (by decide +kernel) rfl, tbG_at 362 (by decide +kernel) rfl⟩
theorem cnX1_77 : sw_cn1 RX1 77 yX5_isWithin mX5_isWithin 3 := ⟨cbX5_isWithin, ⟨"StreamWeave", by decide +kernel⟩, tbG_at 266 (by decide +kernel) rfl⟩
theorem cvX2_28 : sw_cv RX2 28 yX3_copyFrom mX3_copyFrom 1 := ⟨cbX3_copyFrom, tbG_at 733 (by decide +kernel) rfl, tbG_at 734 (by decide +kernel) rfl, tbG_at 735 (by decide +kernel) rfl⟩
theorem cnX3_28 : sw_cn1 RX3 28 yX5_isWithin mX5_isWithin 3 := ⟨cbX5_isWithin, ⟨"StreamWeave", by decide +kernel⟩, tbG_at 266 (by decide +kernel) rfl⟩
theorem cnX4_50 : sw_cn1 RX4 50 yX5_isWithin mX5_isWithin 3 := ⟨cbX5_isWithin, ⟨"StreamWeave", by decide +kernel⟩, tbG_at 266 (by decide +kernel) rfl⟩
theorem cvX4_54 : sw_cv RX4 54 yX4_begin mX4_begin 0 := ⟨cbX4_begin, tbG_at 636 (by decide +kernel) rfl, tbG_at 637 (by decide +kernel) rfl, tbG_at 638 (by decide +kernel) rfl⟩
theorem cvX4_57 : sw_cv RX4 57 yX4_weaveTick mX4_weaveTick 2 := ⟨cbX4_weaveTick, tbG_at 648 (by decide +kernel) rfl, tbG_at 649 (by decide +kernel) rfl, tbG_at 650 (by decide +kernel) rfl⟩
theorem cvX4_61 : sw_cv RX4 61 yX0_begin mX0_begin 0 := ⟨cbX0_begin, tbG_at 640 (by decide +kernel) rfl, tbG_at 641 (by decide +kernel) rfl, tbG_at 642 (by decide +kernel) rfl⟩
theorem csX4_62 : sw_cs RX4 62 yJ7_fill_53178 mJ7_fill_53178 2 := ⟨cbJ7_fill_53178, tbG_at 647 (by decide +kernel) rfl, tbG_at 645 (by decide +kernel) rfl⟩
theorem cvX4_74 : sw_cv RX4 74 yX4_showDue mX4_showDue 3 := ⟨cbX4_showDue, tbG_at 652 (by decide +kernel) rfl, tbG_at 653 (by decide +kernel) rfl, tbG_at 654 (by decide +kernel) rfl⟩
theorem csX4_81 : sw_cs RX4 81 yX4_slot mX4_slot 2 := ⟨cbX4_slot, tbG_at 660 (by decide +kernel) rfl, tbG_at 661 (by decide +kernel) rfl⟩
theorem cvX4_85 : sw_cv RX4 85 yX4_sendOne mX4_sendOne 3 := ⟨cbX4_sendOne, tbG_at 663 (by decide +kernel) rfl, tbG_at 664 (by decide +kernel) rfl, tbG_at 665 (by decide +kernel) rfl⟩
theorem cvX4_95 : sw_cv RX4 95 yX0_takeDue mX0_takeDue 2 := ⟨cbX0_takeDue, tbG_at 656 (by decide +kernel) rfl, tbG_at 657 (by decide +kernel) rfl, tbG_at 658 (by decide +kernel) rfl⟩
theorem csX4_110 : sw_cs RX4 110 yX4_comesAgain mX4_comesAgain 3 := ⟨cbX4_comesAgain, tbG_at 667 (by decide +kernel) rfl, tbG_at 668 (by decide +kernel) rfl⟩
theorem cvX4_113 : sw_cv RX4 113 yX4_sendTable mX4_sendTable 2 := ⟨cbX4_sendTable, tbG_at 670 (by decide +kernel) rfl, tbG_at 671 (by decide +kernel) rfl, tbG_at 672 (by decide +kernel) rfl⟩
theorem cvX4_117 : sw_cv RX4 117 yX4_clockProgramme mX4_clockProgramme 2 := ⟨cbX4_clockProgramme, tbG_at 678 (by decide +kernel) rfl, tbG_at 679 (by decide +kernel) rfl, tbG_at 680 (by decide +kernel) rfl⟩
theorem cvX4_124 : sw_cv RX4 124 yX0_nextCounter mX0_nextCounter 0 := ⟨cbX0_nextCounter, tbG_at 682 (by decide +kernel) rfl, tbG_at 683 (by decide +kernel) rfl, tbG_at 684 (by decide +kernel) rfl⟩
theorem cvX4_128 : sw_cv RX4 128 yX4_note mX4_note 5 := ⟨cbX4_note, tbG_at 674 (by decide +kernel) rfl, tbG_at 675 (by decide +kernel) rfl, tbG_at 676 (by decide +kernel) rfl⟩
theorem cvX4_132 : sw_cv RX4 132 yX4_frameProgramme mX4_frameProgramme 2 := ⟨cbX4_frameProgramme, tbG_at 686 (by decide +kernel) rfl, tbG_at 687 (by decide +kernel) rfl, tbG_at 688 (by decide +kernel) rfl⟩
theorem cvX4_138 : sw_cv RX4 138 yX0_sendOf mX0_sendOf 2 := ⟨cbX0_sendOf, tbG_at 694 (by decide +kernel) rfl, tbG_at 695 (by decide +kernel) rfl, tbG_at 696 (by decide +kernel) rfl⟩
theorem cvX4_144 : sw_cv RX4 144 yX0_openFrame mX0_openFrame 2 := ⟨cbX0_openFrame, tbG_at 690 (by decide +kernel) rfl, tbG_at 691 (by decide +kernel) rfl, tbG_at 692 (by decide +kernel) rfl⟩
theorem csX5_48 : sw_cs RX5 48 yX5_isWithin mX5_isWithin 3 := ⟨cbX5_isWithin, tbG_at 265 (by decide +kernel) rfl, tbG_at 266 (by decide +kernel) rfl⟩
theorem cvX5_52 : sw_cv RX5 52 yX1_add mX1_add 1 := ⟨cbX1_add, tbG_at 268 (by decide +kernel) rfl, tbG_at 269 (by decide +kernel) rfl, tbG_at 270 (by decide +kernel) rfl⟩
theorem cvX5_59 : sw_cv RX5 59 yX1_read mX1_read 0 := ⟨cbX1_read, tbG_at 280 (by decide +kernel) rfl, tbG_at 281 (by decide +kernel) rfl, tbG_at 282 (by decide +kernel) rfl⟩
theorem cvX5_67 : sw_cv RX5 67 yX5_obey mX5_obey 1 := ⟨cbX5_obey, tbG_at 365 (by decide +kernel) rfl, tbG_at 367 (by decide +kernel) rfl, tbG_at 0 (by decide +kernel) rfl⟩
theorem csX5_71 : sw_cs RX5 71 yX5_isProgramme mX5_isProgramme 1 := ⟨cbX5_isProgramme, tbG_at 373 (by decide +kernel) rfl, tbG_at 374 (by decide +kernel) rfl⟩
theorem cvX5_78 : sw_cv RX5 78 yX3_hasFrame mX3_hasFrame 1 := ⟨cbX3_hasFrame, tbG_at 424 (by decide +kernel) rfl, tbG_at 425 (by decide +kernel) rfl, tbG_at 426 (by decide +kernel) rfl⟩
theorem csX5_86 : sw_cs RX5 86 yX1_text mX1_text 1 := ⟨cbX1_text, tbG_at 458 (by decide +kernel) rfl, tbG_at 285 (by decide +kernel) rfl⟩
theorem cvX5_121 : sw_cv RX5 121 yX3_lastDue mX3_lastDue 0 := ⟨cbX3_lastDue, tbG_at 379 (by decide +kernel) rfl, tbG_at 380 (by decide +kernel) rfl, tbG_at 381 (by decide +kernel) rfl⟩
theorem cvX5_124 : sw_cv RX5 124 yX3_packets mX3_packets 0 := ⟨cbX3_packets, tbG_at 617 (by decide +kernel) rfl, tbG_at 618 (by decide +kernel) rfl, tbG_at 619 (by decide +kernel) rfl⟩
theorem csX5_127 : sw_cs RX5 127 yX5_isTick mX5_isTick 1 := ⟨cbX5_isTick, tbG_at 625 (by decide +kernel) rfl, tbG_at 626 (by decide +kernel) rfl⟩
theorem cvX5_133 : sw_cv RX5 133 yX5_weave mX5_weave 0 := ⟨cbX5_weave, tbG_at 628 (by decide +kernel) rfl, tbG_at 630 (by decide +kernel) rfl, tbG_at 8 (by decide +kernel) rfl⟩
theorem csX5_136 : sw_cs RX5 136 yX4_slot mX4_slot 2 := ⟨cbX4_slot, tbG_at 698 (by decide +kernel) rfl, tbG_at 661 (by decide +kernel) rfl⟩
theorem cvX5_182 : sw_cv RX5 182 yX4_sentOfKind mX4_sentOfKind 1 := ⟨cbX4_sentOfKind, tbG_at 711 (by decide +kernel) rfl, tbG_at 712 (by decide +kernel) rfl, tbG_at 713 (by decide +kernel) rfl⟩
theorem cvX5_186 : sw_cv RX5 186 yX0_mostHeld mX0_mostHeld 0 := ⟨cbX0_mostHeld, tbG_at 720 (by decide +kernel) rfl, tbG_at 721 (by decide +kernel) rfl, tbG_at 722 (by decide +kernel) rfl⟩
theorem cvX5_189 : sw_cv RX5 189 yX2_copyFrom mX2_copyFrom 1 := ⟨cbX2_copyFrom, tbG_at 729 (by decide +kernel) rfl, tbG_at 730 (by decide +kernel) rfl, tbG_at 731 (by decide +kernel) rfl⟩
theorem cvX5_193 : sw_cv RX5 193 yX5_trialShowsAll mX5_trialShowsAll 0 := ⟨cbX5_trialShowsAll, tbG_at 738 (by decide +kernel) rfl, tbG_at 740 (by decide +kernel) rfl, tbG_at 9 (by decide +kernel) rfl⟩
theorem csX5_197 : sw_cs RX5 197 yJ9_min_7cf53 mJ9_min_7cf53 2 := ⟨cbJ9_min_7cf53, tbG_at 750 (by decide +kernel) rfl, tbG_at 309 (by decide +kernel) rfl⟩
theorem cvX5_205 : sw_cv RX5 205 yX4_weaveWhole mX4_weaveWhole 1 := ⟨cbX4_weaveWhole, tbG_at 632 (by decide +kernel) rfl, tbG_at 633 (by decide +kernel) rfl, tbG_at 634 (by decide +kernel) rfl⟩
theorem cvX5_211 : sw_cv RX5 211 yX2_framesInAll mX2_framesInAll 0 := ⟨cbX2_framesInAll, tbG_at 768 (by decide +kernel) rfl, tbG_at 769 (by decide +kernel) rfl, tbG_at 770 (by decide +kernel) rfl⟩
theorem cvX5_217 : sw_cv RX5 217 yX5_addFrame mX5_addFrame 3 := ⟨cbX5_addFrame, tbG_at 369 (by decide +kernel) rfl, tbG_at 371 (by decide +kernel) rfl, tbG_at 1 (by decide +kernel) rfl⟩
theorem cvX5_221 : sw_cv RX5 221 yX5_setRoom mX5_setRoom 2 := ⟨cbX5_setRoom, tbG_at 387 (by decide +kernel) rfl, tbG_at 389 (by decide +kernel) rfl, tbG_at 2 (by decide +kernel) rfl⟩
theorem cvX5_224 : sw_cv RX5 224 yX5_setClock mX5_setClock 2 := ⟨cbX5_setClock, tbG_at 391 (by decide +kernel) rfl, tbG_at 393 (by decide +kernel) rfl, tbG_at 3 (by decide +kernel) rfl⟩
theorem cvX5_227 : sw_cv RX5 227 yX5_setTable mX5_setTable 1 := ⟨cbX5_setTable, tbG_at 395 (by decide +kernel) rfl, tbG_at 397 (by decide +kernel) rfl, tbG_at 4 (by decide +kernel) rfl⟩
theorem cvX5_230 : sw_cv RX5 230 yX5_setWide mX5_setWide 1 := ⟨cbX5_setWide, tbG_at 399 (by decide +kernel) rfl, tbG_at 401 (by decide +kernel) rfl, tbG_at 5 (by decide +kernel) rfl⟩
theorem cvX5_233 : sw_cv RX5 233 yX5_dropFrames mX5_dropFrames 1 := ⟨cbX5_dropFrames, tbG_at 403 (by decide +kernel) rfl, tbG_at 405 (by decide +kernel) rfl, tbG_at 6 (by decide +kernel) rfl⟩
theorem cvX5_236 : sw_cv RX5 236 yX5_swapFrames mX5_swapFrames 3 := ⟨cbX5_swapFrames, tbG_at 407 (by decide +kernel) rfl, tbG_at 409 (by decide +kernel) rfl, tbG_at 7 (by decide +kernel) rfl⟩
theorem csX5_239 : sw_cs RX5 239 yX5_isDue mX5_isDue 1 := ⟨cbX5_isDue, tbG_at 376 (by decide +kernel) rfl, tbG_at 377 (by decide +kernel) rfl⟩
theorem cvX5_242 : sw_cv RX5 242 yX3_add mX3_add 2 := ⟨cbX3_add, tbG_at 383 (by decide +kernel) rfl, tbG_at 384 (by decide +kernel) rfl, tbG_at 385 (by decide +kernel) rfl⟩
theorem cvX5_245 : sw_cv RX5 245 yX3_framesBefore mX3_framesBefore 1 := ⟨cbX3_framesBefore, tbG_at 411 (by decide +kernel) rfl, tbG_at 412 (by decide +kernel) rfl, tbG_at 413 (by decide +kernel) rfl⟩
theorem cvX5_248 : sw_cv RX5 248 yX4_showsAll mX4_showsAll 1 := ⟨cbX4_showsAll, tbG_at 742 (by decide +kernel) rfl, tbG_at 743 (by decide +kernel) rfl, tbG_at 744 (by decide +kernel) rfl⟩
theorem csX6_69 : sw_cs RX6 69 yX6_in mX6_in 3 := ⟨cbX6_in, tbG_at 868 (by decide +kernel) rfl, tbG_at 869 (by decide +kernel) rfl⟩
theorem csX6_76 : sw_cs RX6 76 yX6_pick mX6_pick 6 := ⟨cbX6_pick, tbG_at 890 (by decide +kernel) rfl, tbG_at 891 (by decide +kernel) rfl⟩
theorem csX6_87 : sw_cs RX6 87 yX6_signOf mX6_signOf 2 := ⟨cbX6_signOf, tbG_at 887 (by decide +kernel) rfl, tbG_at 888 (by decide +kernel) rfl⟩
theorem csX6_91 : sw_cs RX6 91 yX6_numbersOf mX6_numbersOf 1 := ⟨cbX6_numbersOf, tbG_at 893 (by decide +kernel) rfl, tbG_at 894 (by decide +kernel) rfl⟩
theorem cvX6_98 : sw_cv RX6 98 yX6_readAs mX6_readAs 1 := ⟨cbX6_readAs, tbG_at 883 (by decide +kernel) rfl, tbG_at 885 (by decide +kernel) rfl, tbG_at 11 (by decide +kernel) rfl⟩
theorem cvX6_104 : sw_cv RX6 104 yX6_isLine mX6_isLine 0 := ⟨cbX6_isLine, tbG_at 879 (by decide +kernel) rfl, tbG_at 881 (by decide +kernel) rfl, tbG_at 10 (by decide +kernel) rfl⟩
theorem cvX6_108 : sw_cv RX6 108 yX6_dueOf mX6_dueOf 2 := ⟨cbX6_dueOf, tbG_at 911 (by decide +kernel) rfl, tbG_at 913 (by decide +kernel) rfl, tbG_at 14 (by decide +kernel) rfl⟩
theorem csX6_111 : sw_cs RX6 111 yX6_isProgramme mX6_isProgramme 1 := ⟨cbX6_isProgramme, tbG_at 904 (by decide +kernel) rfl, tbG_at 905 (by decide +kernel) rfl⟩
theorem cvX6_115 : sw_cv RX6 115 yX6_before mX6_before 2 := ⟨cbX6_before, tbG_at 923 (by decide +kernel) rfl, tbG_at 925 (by decide +kernel) rfl, tbG_at 17 (by decide +kernel) rfl⟩
theorem cvX6_118 : sw_cv RX6 118 yX6_sizeOf mX6_sizeOf 2 := ⟨cbX6_sizeOf, tbG_at 927 (by decide +kernel) rfl, tbG_at 929 (by decide +kernel) rfl, tbG_at 18 (by decide +kernel) rfl⟩
theorem cvX6_121 : sw_cv RX6 121 yX6_frameMore mX6_frameMore 3 := ⟨cbX6_frameMore, tbG_at 907 (by decide +kernel) rfl, tbG_at 909 (by decide +kernel) rfl, tbG_at 13 (by decide +kernel) rfl⟩
theorem cvX6_125 : sw_cv RX6 125 yX6_setAt mX6_setAt 2 := ⟨cbX6_setAt, tbG_at 915 (by decide +kernel) rfl, tbG_at 917 (by decide +kernel) rfl, tbG_at 15 (by decide +kernel) rfl⟩
theorem cvX6_128 : sw_cv RX6 128 yX6_swap mX6_swap 3 := ⟨cbX6_swap, tbG_at 919 (by decide +kernel) rfl, tbG_at 921 (by decide +kernel) rfl, tbG_at 16 (by decide +kernel) rfl⟩
theorem cvX6_131 : sw_cv RX6 131 yX6_doLine mX6_doLine 0 := ⟨cbX6_doLine, tbG_at 900 (by decide +kernel) rfl, tbG_at 902 (by decide +kernel) rfl, tbG_at 12 (by decide +kernel) rfl⟩
theorem cvX6_138 : sw_cv RX6 138 yX6_isFrame mX6_isFrame 2 := ⟨cbX6_isFrame, tbG_at 935 (by decide +kernel) rfl, tbG_at 937 (by decide +kernel) rfl, tbG_at 19 (by decide +kernel) rfl⟩
theorem cvX6_142 : sw_cv RX6 142 yX6_writeNumber mX6_writeNumber 1 := ⟨cbX6_writeNumber, tbG_at 939 (by decide +kernel) rfl, tbG_at 941 (by decide +kernel) rfl, tbG_at 20 (by decide +kernel) rfl⟩
theorem cvX6_146 : sw_cv RX6 146 yX6_packetsOf mX6_packetsOf 1 := ⟨cbX6_packetsOf, tbG_at 947 (by decide +kernel) rfl, tbG_at 949 (by decide +kernel) rfl, tbG_at 21 (by decide +kernel) rfl⟩
theorem csX6_155 : sw_cs RX6 155 yX6_isAgain mX6_isAgain 3 := ⟨cbX6_isAgain, tbG_at 967 (by decide +kernel) rfl, tbG_at 968 (by decide +kernel) rfl⟩
theorem cvX6_158 : sw_cv RX6 158 yX6_frameOf mX6_frameOf 2 := ⟨cbX6_frameOf, tbG_at 982 (by decide +kernel) rfl, tbG_at 984 (by decide +kernel) rfl, tbG_at 28 (by decide +kernel) rfl⟩
theorem cvX6_164 : sw_cv RX6 164 yX6_put mX6_put 4 := ⟨cbX6_put, tbG_at 970 (by decide +kernel) rfl, tbG_at 972 (by decide +kernel) rfl, tbG_at 25 (by decide +kernel) rfl⟩
theorem cvX6_168 : sw_cv RX6 168 yX6_clockNow mX6_clockNow 1 := ⟨cbX6_clockNow, tbG_at 974 (by decide +kernel) rfl, tbG_at 976 (by decide +kernel) rfl, tbG_at 26 (by decide +kernel) rfl⟩
theorem cvX6_171 : sw_cv RX6 171 yX6_programmeNow mX6_programmeNow 1 := ⟨cbX6_programmeNow, tbG_at 978 (by decide +kernel) rfl, tbG_at 980 (by decide +kernel) rfl, tbG_at 27 (by decide +kernel) rfl⟩
theorem cvX6_174 : sw_cv RX6 174 yX6_showDue mX6_showDue 2 := ⟨cbX6_showDue, tbG_at 959 (by decide +kernel) rfl, tbG_at 961 (by decide +kernel) rfl, tbG_at 23 (by decide +kernel) rfl⟩
theorem cvX6_178 : sw_cv RX6 178 yX6_sendOne mX6_sendOne 2 := ⟨cbX6_sendOne, tbG_at 963 (by decide +kernel) rfl, tbG_at 965 (by decide +kernel) rfl, tbG_at 24 (by decide +kernel) rfl⟩
theorem cvX6_181 : sw_cv RX6 181 yX6_send mX6_send 0 := ⟨cbX6_send, tbG_at 955 (by decide +kernel) rfl, tbG_at 957 (by decide +kernel) rfl, tbG_at 22 (by decide +kernel) rfl⟩
theorem cvX6_184 : sw_cv RX6 184 yX6_allFrames mX6_allFrames 0 := ⟨cbX6_allFrames, tbG_at 998 (by decide +kernel) rfl, tbG_at 1000 (by decide +kernel) rfl, tbG_at 29 (by decide +kernel) rfl⟩
theorem cvX6_187 : sw_cv RX6 187 yX6_allPackets mX6_allPackets 0 := ⟨cbX6_allPackets, tbG_at 1002 (by decide +kernel) rfl, tbG_at 1004 (by decide +kernel) rfl, tbG_at 30 (by decide +kernel) rfl⟩
theorem cvX6_190 : sw_cv RX6 190 yX6_ofSort mX6_ofSort 1 := ⟨cbX6_ofSort, tbG_at 1006 (by decide +kernel) rfl, tbG_at 1008 (by decide +kernel) rfl, tbG_at 31 (by decide +kernel) rfl⟩
theorem cvX6_193 : sw_cv RX6 193 yX6_leastAt mX6_leastAt 2 := ⟨cbX6_leastAt, tbG_at 1018 (by decide +kernel) rfl, tbG_at 1020 (by decide +kernel) rfl, tbG_at 32 (by decide +kernel) rfl⟩
theorem cvJ0_335 : sw_cv RJ0 335 yJ0_coder_7d493 mJ0_coder_7d493 0 := ⟨cbJ0_coder_7d493, tbG_at 302 (by decide +kernel) rfl, tbG_at 303 (by decide +kernel) rfl, tbG_at 304 (by decide +kernel) rfl⟩
theorem csJ2_67 : sw_cs RJ2 67 yJ2_checkIndex_2214a mJ2_checkIndex_2214a 2 := ⟨cbJ2_checkIndex_2214a, tbG_at 333 (by decide +kernel) rfl, tbG_at 334 (by decide +kernel) rfl⟩
theorem csJ2_71 : sw_cs RJ2 71 yJ2_getChar_3b067 mJ2_getChar_3b067 2 := ⟨cbJ2_getChar_3b067, tbG_at 340 (by decide +kernel) rfl, tbG_at 341 (by decide +kernel) rfl⟩
theorem csJ0_1059 : sw_cs RJ0 1059 yJ3_checkIndex_8e157 mJ3_checkIndex_8e157 3 := ⟨cbJ3_checkIndex_8e157, tbG_at 327 (by decide +kernel) rfl, tbG_at 328 (by decide +kernel) rfl⟩
theorem csJ2_48 : sw_cs RJ2 48 yJ2_length_9d52b mJ2_length_9d52b 1 := ⟨cbJ2_length_9d52b, tbG_at 336 (by decide +kernel) rfl, tbG_at 337 (by decide +kernel) rfl⟩
theorem cvJ0_492 : sw_cv RJ0 492 yJ0_isLatin1_aae02 mJ0_isLatin1_aae02 0 := ⟨cbJ0_isLatin1_aae02, tbG_at 315 (by decide +kernel) rfl, tbG_at 316 (by decide +kernel) rfl, tbG_at 317 (by decide +kernel) rfl⟩
theorem csJ0_495 : sw_cs RJ0 495 yJ1_charAt_3b067 mJ1_charAt_3b067 2 := ⟨cbJ1_charAt_3b067, tbG_at 319 (by decide +kernel) rfl, tbG_at 320 (by decide +kernel) rfl⟩
theorem csJ0_498 : sw_cs RJ0 498 yJ2_charAt_3b067 mJ2_charAt_3b067 2 := ⟨cbJ2_charAt_3b067, tbG_at 330 (by decide +kernel) rfl, tbG_at 331 (by decide +kernel) rfl⟩
theorem csJ1_9 : sw_cs RJ1 9 yJ0_checkIndex_df160 mJ0_checkIndex_df160 2 := ⟨cbJ0_checkIndex_df160, tbG_at 322 (by decide +kernel) rfl, tbG_at 323 (by decide +kernel) rfl⟩
theorem csJ2_414 : sw_cs RJ2 414 yJ0_checkIndex_df160 mJ0_checkIndex_df160 2 := ⟨cbJ0_checkIndex_df160, tbG_at 339 (by decide +kernel) rfl, tbG_at 323 (by decide +kernel) rfl⟩
theorem fkX0_9 : sw_fk RX0 9 1 0 := ⟨RX0, TX0, 9, rfl, by decide, glX0, tbG_at 156 (by decide +kernel) rfl⟩
theorem fkX0_15 : sw_fk RX0 15 1 1 := ⟨RX0, TX0, 9, rfl, by decide, glX0, tbG_at 159 (by decide +kernel) rfl⟩
theorem fkX0_18 : sw_fk RX0 18 1 2 := ⟨RX0, TX0, 9, rfl, by decide, glX0, tbG_at 161 (by decide +kernel) rfl⟩
theorem pkX0_24 : sw_pk RX0 24 1 4 .int := ⟨RX0, TX0, 9, tyX0, rfl, by decide, glX0, tbG_at 166 (by decide +kernel) rfl, tyX0_ok, nmX0, rfl, rfl⟩
theorem pkX0_28 : sw_pk RX0 28 1 5 .int := ⟨RX0, TX0, 9, tyX0, rfl, by decide, glX0, tbG_at 168 (by decide +kernel) rfl, tyX0_ok, nmX0, rfl, rfl⟩
theorem pkX0_31 : sw_pk RX0 31 1 6 .int := ⟨RX0, TX0, 9, tyX0, rfl, by decide, glX0, tbG_at 169 (by decide +kernel) rfl, tyX0_ok, nmX0, rfl, rfl⟩
theorem pkX0_34 : sw_pk RX0 34 1 7 .int := ⟨RX0, TX0, 9, tyX0, rfl, by decide, glX0, tbG_at 171 (by decide +kernel) rfl, tyX0_ok, nmX0, rfl, rfl⟩
theorem pkX0_37 : sw_pk RX0 37 1 8 .int := ⟨RX0, TX0, 9, tyX0, rfl, by decide, glX0, tbG_at 172 (by decide +kernel) rfl, tyX0_ok, nmX0, rfl, rfl⟩
theorem fkX0_34 : sw_fk RX0 34 1 7 := ⟨RX0, TX0, 9, rfl, by decide, glX0, tbG_at 171 (by decide +kernel) rfl⟩
theorem fkX0_46 : sw_fk RX0 46 4 2 := ⟨RX3, TX3, 5, rfl, by decide, glX3, tbG_at 107 (by decide +kernel) rfl⟩
theorem fkX0_51 : sw_fk RX0 51 4 1 := ⟨RX3, TX3, 5, rfl, by decide, glX3, tbG_at 102 (by decide +kernel) rfl⟩
theorem fkX0_24 : sw_fk RX0 24 1 4 := ⟨RX0, TX0, 9, rfl, by decide, glX0, tbG_at 166 (by decide +kernel) rfl⟩
theorem fkX0_37 : sw_fk RX0 37 1 8 := ⟨RX0, TX0, 9, rfl, by decide, glX0, tbG_at 172 (by decide +kernel) rfl⟩
theorem fkX0_54 : sw_fk RX0 54 4 0 := ⟨RX3, TX3, 5, rfl, by decide, glX3, tbG_at 98 (by decide +kernel) rfl⟩
theorem fkX0_57 : sw_fk RX0 57 4 3 := ⟨RX3, TX3, 5, rfl, by decide, glX3, tbG_at 110 (by decide +kernel) rfl⟩
theorem fkX0_28 : sw_fk RX0 28 1 5 := ⟨RX0, TX0, 9, rfl, by decide, glX0, tbG_at 168 (by decide +kernel) rfl⟩
theorem fkX0_21 : sw_fk RX0 21 1 3 := ⟨RX0, TX0, 9, rfl, by decide, glX0, tbG_at 163 (by decide +kernel) rfl⟩
theorem fkX1_18 : sw_fk RX1 18 2 2 := ⟨RX1, TX1, 4, rfl, by decide, glX1, tbG_at 70 (by decide +kernel) rfl⟩
theorem fkX1_9 : sw_fk RX1 9 2 0 := ⟨RX1, TX1, 4, rfl, by decide, glX1, tbG_at 67 (by decide +kernel) rfl⟩
theorem pkX1_18 : sw_pk RX1 18 2 2 .int := ⟨RX1, TX1, 4, tyX1, rfl, by decide, glX1, tbG_at 70 (by decide +kernel) rfl, tyX1_ok, nmX1, rfl, rfl⟩
theorem pkX1_22 : sw_pk RX1 22 2 3 .int := ⟨RX1, TX1, 4, tyX1, rfl, by decide, glX1, tbG_at 72 (by decide +kernel) rfl, tyX1_ok, nmX1, rfl, rfl⟩
theorem fkX1_22 : sw_fk RX1 22 2 3 := ⟨RX1, TX1, 4, rfl, by decide, glX1, tbG_at 72 (by decide +kernel) rfl⟩
theorem fkX1_15 : sw_fk RX1 15 2 1 := ⟨RX1, TX1, 4, rfl, by decide, glX1, tbG_at 68 (by decide +kernel) rfl⟩
theorem fkX2_11 : sw_fk RX2 11 3 0 := ⟨RX2, TX2, 3, rfl, by decide, glX2, tbG_at 126 (by decide +kernel) rfl⟩
theorem fkX2_25 : sw_fk RX2 25 4 2 := ⟨RX3, TX3, 5, rfl, by decide, glX3, tbG_at 106 (by decide +kernel) rfl⟩
theorem fkX2_17 : sw_fk RX2 17 3 1 := ⟨RX2, TX2, 3, rfl, by decide, glX2, tbG_at 129 (by decide +kernel) rfl⟩
theorem pkX2_17 : sw_pk RX2 17 3 1 .int := ⟨RX2, TX2, 3, tyX2, rfl, by decide, glX2, tbG_at 129 (by decide +kernel) rfl, tyX2_ok, nmX2, rfl, rfl⟩
theorem fkX2_21 : sw_fk RX2 21 3 2 := ⟨RX2, TX2, 3, rfl, by decide, glX2, tbG_at 132 (by decide +kernel) rfl⟩
theorem pkX2_21 : sw_pk RX2 21 3 2 .int := ⟨RX2, TX2, 3, tyX2, rfl, by decide, glX2, tbG_at 132 (by decide +kernel) rfl, tyX2_ok, nmX2, rfl, rfl⟩
theorem fkX3_18 : sw_fk RX3 18 4 2 := ⟨RX3, TX3, 5, rfl, by decide, glX3, tbG_at 105 (by decide +kernel) rfl⟩
theorem fkX3_9 : sw_fk RX3 9 4 0 := ⟨RX3, TX3, 5, rfl, by decide, glX3, tbG_at 97 (by decide +kernel) rfl⟩
theorem fkX3_15 : sw_fk RX3 15 4 1 := ⟨RX3, TX3, 5, rfl, by decide, glX3, tbG_at 101 (by decide +kernel) rfl⟩
theorem pkX3_18 : sw_pk RX3 18 4 2 .int := ⟨RX3, TX3, 5, tyX3, rfl, by decide, glX3, tbG_at 105 (by decide +kernel) rfl, tyX3_ok, nmX3, rfl, rfl⟩
theorem fkX3_22 : sw_fk RX3 22 4 3 := ⟨RX3, TX3, 5, rfl, by decide, glX3, tbG_at 109 (by decide +kernel) rfl⟩
theorem pkX3_22 : sw_pk RX3 22 4 3 .int := ⟨RX3, TX3, 5, tyX3, rfl, by decide, glX3, tbG_at 109 (by decide +kernel) rfl, tyX3_ok, nmX3, rfl, rfl⟩
theorem fkX3_25 : sw_fk RX3 25 4 4 := ⟨RX3, TX3, 5, rfl, by decide, glX3, tbG_at 112 (by decide +kernel) rfl⟩
theorem pkX3_25 : sw_pk RX3 25 4 4 .int := ⟨RX3, TX3, 5, tyX3, rfl, by decide, glX3, tbG_at 112 (by decide +kernel) rfl, tyX3_ok, nmX3, rfl, rfl⟩
theorem fkX4_30 : sw_fk RX4 30 5 5 := ⟨RX4, TX4, 11, rfl, by decide, glX4, tbG_at 203 (by decide +kernel) rfl⟩
theorem fkX4_40 : sw_fk RX4 40 5 8 := ⟨RX4, TX4, 11, rfl, by decide, glX4, tbG_at 207 (by decide +kernel) rfl⟩
theorem fkX4_26 : sw_fk RX4 26 5 4 := ⟨RX4, TX4, 11, rfl, by decide, glX4, tbG_at 201 (by decide +kernel) rfl⟩
theorem pkX4_33 : sw_pk RX4 33 5 6 .int := ⟨RX4, TX4, 11, tyX4, rfl, by decide, glX4, tbG_at 204 (by decide +kernel) rfl, tyX4_ok, nmX4, rfl, rfl⟩
theorem pkX4_37 : sw_pk RX4 37 5 7 .int := ⟨RX4, TX4, 11, tyX4, rfl, by decide, glX4, tbG_at 205 (by decide +kernel) rfl, tyX4_ok, nmX4, rfl, rfl⟩
theorem pkX4_40 : sw_pk RX4 40 5 8 .int := ⟨RX4, TX4, 11, tyX4, rfl, by decide, glX4, tbG_at 207 (by decide +kernel) rfl, tyX4_ok, nmX4, rfl, rfl⟩
theorem pkX4_43 : sw_pk RX4 43 5 9 .int := ⟨RX4, TX4, 11, tyX4, rfl, by decide, glX4, tbG_at 209 (by decide +kernel) rfl, tyX4_ok, nmX4, rfl, rfl⟩
theorem pkX4_46 : sw_pk RX4 46 5 10 .int := ⟨RX4, TX4, 11, tyX4, rfl, by decide, glX4, tbG_at 211 (by decide +kernel) rfl, tyX4_ok, nmX4, rfl, rfl⟩
theorem fkX4_68 : sw_fk RX4 68 3 0 := ⟨RX2, TX2, 3, rfl, by decide, glX2, tbG_at 128 (by decide +kernel) rfl⟩
theorem fkX4_78 : sw_fk RX4 78 3 2 := ⟨RX2, TX2, 3, rfl, by decide, glX2, tbG_at 133 (by decide +kernel) rfl⟩
theorem fkX4_89 : sw_fk RX4 89 1 3 := ⟨RX0, TX0, 9, rfl, by decide, glX0, tbG_at 164 (by decide +kernel) rfl⟩
theorem fkX4_92 : sw_fk RX4 92 1 4 := ⟨RX0, TX0, 9, rfl, by decide, glX0, tbG_at 167 (by decide +kernel) rfl⟩
theorem fkX4_99 : sw_fk RX4 99 4 0 := ⟨RX3, TX3, 5, rfl, by decide, glX3, tbG_at 100 (by decide +kernel) rfl⟩
theorem fkX4_104 : sw_fk RX4 104 1 0 := ⟨RX0, TX0, 9, rfl, by decide, glX0, tbG_at 157 (by decide +kernel) rfl⟩
theorem fkX4_37 : sw_fk RX4 37 5 7 := ⟨RX4, TX4, 11, rfl, by decide, glX4, tbG_at 205 (by decide +kernel) rfl⟩
theorem fkX4_43 : sw_fk RX4 43 5 9 := ⟨RX4, TX4, 11, rfl, by decide, glX4, tbG_at 209 (by decide +kernel) rfl⟩
theorem fkX4_46 : sw_fk RX4 46 5 10 := ⟨RX4, TX4, 11, rfl, by decide, glX4, tbG_at 211 (by decide +kernel) rfl⟩
theorem fkX4_107 : sw_fk RX4 107 3 1 := ⟨RX2, TX2, 3, rfl, by decide, glX2, tbG_at 130 (by decide +kernel) rfl⟩
theorem fkX4_33 : sw_fk RX4 33 5 6 := ⟨RX4, TX4, 11, rfl, by decide, glX4, tbG_at 204 (by decide +kernel) rfl⟩
theorem pkX4_121 : sw_pk RX4 121 1 6 .int := ⟨RX0, TX0, 9, tyX0, rfl, by decide, glX0, tbG_at 170 (by decide +kernel) rfl, tyX0_ok, nmX0, rfl, rfl⟩
theorem fkX4_135 : sw_fk RX4 135 1 8 := ⟨RX0, TX0, 9, rfl, by decide, glX0, tbG_at 173 (by decide +kernel) rfl⟩
theorem fkX4_9 : sw_fk RX4 9 5 0 := ⟨RX4, TX4, 11, rfl, by decide, glX4, tbG_at 193 (by decide +kernel) rfl⟩
theorem fkX4_15 : sw_fk RX4 15 5 1 := ⟨RX4, TX4, 11, rfl, by decide, glX4, tbG_at 195 (by decide +kernel) rfl⟩
theorem fkX4_18 : sw_fk RX4 18 5 2 := ⟨RX4, TX4, 11, rfl, by decide, glX4, tbG_at 197 (by decide +kernel) rfl⟩
theorem fkX4_21 : sw_fk RX4 21 5 3 := ⟨RX4, TX4, 11, rfl, by decide, glX4, tbG_at 199 (by decide +kernel) rfl⟩
theorem fkX4_141 : sw_fk RX4 141 4 4 := ⟨RX3, TX3, 5, rfl, by decide, glX3, tbG_at 114 (by decide +kernel) rfl⟩
theorem fkX4_121 : sw_fk RX4 121 1 6 := ⟨RX0, TX0, 9, rfl, by decide, glX0, tbG_at 170 (by decide +kernel) rfl⟩
theorem fkX4_147 : sw_fk RX4 147 4 1 := ⟨RX3, TX3, 5, rfl, by decide, glX3, tbG_at 104 (by decide +kernel) rfl⟩
theorem fkX5_10 : sw_fk RX5 10 6 0 := ⟨RX5, TX5, 8, rfl, by decide, glX5, tbG_at 236 (by decide +kernel) rfl⟩
theorem fkX5_56 : sw_fk RX5 56 2 2 := ⟨RX1, TX1, 4, rfl, by decide, glX1, tbG_at 71 (by decide +kernel) rfl⟩
theorem pkX5_56 : sw_pk RX5 56 2 2 .int := ⟨RX1, TX1, 4, tyX1, rfl, by decide, glX1, tbG_at 71 (by decide +kernel) rfl, tyX1_ok, nmX1, rfl, rfl⟩
theorem pkX5_41 : sw_pk RX5 41 6 6 .int := ⟨RX5, TX5, 8, tyX5, rfl, by decide, glX5, tbG_at 242 (by decide +kernel) rfl, tyX5_ok, nmX5, rfl, rfl⟩
theorem fkX5_63 : sw_fk RX5 63 2 1 := ⟨RX1, TX1, 4, rfl, by decide, glX1, tbG_at 69 (by decide +kernel) rfl⟩
theorem pkX5_44 : sw_pk RX5 44 6 7 .boolean := ⟨RX5, TX5, 8, tyX5, rfl, by decide, glX5, tbG_at 243 (by decide +kernel) rfl, tyX5_ok, nmX5, rfl, rfl⟩
theorem fkX5_19 : sw_fk RX5 19 6 1 := ⟨RX5, TX5, 8, rfl, by decide, glX5, tbG_at 237 (by decide +kernel) rfl⟩
theorem fkX5_74 : sw_fk RX5 74 3 0 := ⟨RX2, TX2, 3, rfl, by decide, glX2, tbG_at 127 (by decide +kernel) rfl⟩
theorem fkX5_100 : sw_fk RX5 100 4 0 := ⟨RX3, TX3, 5, rfl, by decide, glX3, tbG_at 99 (by decide +kernel) rfl⟩
theorem fkX5_103 : sw_fk RX5 103 4 1 := ⟨RX3, TX3, 5, rfl, by decide, glX3, tbG_at 103 (by decide +kernel) rfl⟩
theorem fkX5_112 : sw_fk RX5 112 4 3 := ⟨RX3, TX3, 5, rfl, by decide, glX3, tbG_at 111 (by decide +kernel) rfl⟩
theorem fkX5_115 : sw_fk RX5 115 4 4 := ⟨RX3, TX3, 5, rfl, by decide, glX3, tbG_at 113 (by decide +kernel) rfl⟩
theorem fkX5_118 : sw_fk RX5 118 4 2 := ⟨RX3, TX3, 5, rfl, by decide, glX3, tbG_at 108 (by decide +kernel) rfl⟩
theorem fkX5_130 : sw_fk RX5 130 3 2 := ⟨RX2, TX2, 3, rfl, by decide, glX2, tbG_at 134 (by decide +kernel) rfl⟩
theorem fkX5_33 : sw_fk RX5 33 6 4 := ⟨RX5, TX5, 8, rfl, by decide, glX5, tbG_at 240 (by decide +kernel) rfl⟩
theorem fkX5_140 : sw_fk RX5 140 5 0 := ⟨RX4, TX4, 11, rfl, by decide, glX4, tbG_at 194 (by decide +kernel) rfl⟩
theorem fkX5_143 : sw_fk RX5 143 5 1 := ⟨RX4, TX4, 11, rfl, by decide, glX4, tbG_at 196 (by decide +kernel) rfl⟩
theorem fkX5_146 : sw_fk RX5 146 5 2 := ⟨RX4, TX4, 11, rfl, by decide, glX4, tbG_at 198 (by decide +kernel) rfl⟩
theorem fkX5_149 : sw_fk RX5 149 5 3 := ⟨RX4, TX4, 11, rfl, by decide, glX4, tbG_at 200 (by decide +kernel) rfl⟩
theorem fkX5_152 : sw_fk RX5 152 5 4 := ⟨RX4, TX4, 11, rfl, by decide, glX4, tbG_at 202 (by decide +kernel) rfl⟩
theorem fkX5_156 : sw_fk RX5 156 1 3 := ⟨RX0, TX0, 9, rfl, by decide, glX0, tbG_at 165 (by decide +kernel) rfl⟩
theorem fkX5_161 : sw_fk RX5 161 1 0 := ⟨RX0, TX0, 9, rfl, by decide, glX0, tbG_at 158 (by decide +kernel) rfl⟩
theorem fkX5_164 : sw_fk RX5 164 1 1 := ⟨RX0, TX0, 9, rfl, by decide, glX0, tbG_at 160 (by decide +kernel) rfl⟩
theorem fkX5_167 : sw_fk RX5 167 1 2 := ⟨RX0, TX0, 9, rfl, by decide, glX0, tbG_at 162 (by decide +kernel) rfl⟩
theorem fkX5_170 : sw_fk RX5 170 5 7 := ⟨RX4, TX4, 11, rfl, by decide, glX4, tbG_at 206 (by decide +kernel) rfl⟩
theorem fkX5_173 : sw_fk RX5 173 5 8 := ⟨RX4, TX4, 11, rfl, by decide, glX4, tbG_at 208 (by decide +kernel) rfl⟩
theorem fkX5_176 : sw_fk RX5 176 5 9 := ⟨RX4, TX4, 11, rfl, by decide, glX4, tbG_at 210 (by decide +kernel) rfl⟩
theorem fkX5_179 : sw_fk RX5 179 5 10 := ⟨RX4, TX4, 11, rfl, by decide, glX4, tbG_at 212 (by decide +kernel) rfl⟩
theorem fkX5_23 : sw_fk RX5 23 6 2 := ⟨RX5, TX5, 8, rfl, by decide, glX5, tbG_at 238 (by decide +kernel) rfl⟩
theorem pkX5_130 : sw_pk RX5 130 3 2 .int := ⟨RX2, TX2, 3, tyX2, rfl, by decide, glX2, tbG_at 134 (by decide +kernel) rfl, tyX2_ok, nmX2, rfl, rfl⟩
theorem pkX5_112 : sw_pk RX5 112 4 3 .int := ⟨RX3, TX3, 5, tyX3, rfl, by decide, glX3, tbG_at 111 (by decide +kernel) rfl, tyX3_ok, nmX3, rfl, rfl⟩
theorem pkX5_118 : sw_pk RX5 118 4 2 .int := ⟨RX3, TX3, 5, tyX3, rfl, by decide, glX3, tbG_at 108 (by decide +kernel) rfl, tyX3_ok, nmX3, rfl, rfl⟩
theorem pkX5_115 : sw_pk RX5 115 4 4 .int := ⟨RX3, TX3, 5, tyX3, rfl, by decide, glX3, tbG_at 113 (by decide +kernel) rfl, tyX3_ok, nmX3, rfl, rfl⟩
theorem fkX5_26 : sw_fk RX5 26 6 3 := ⟨RX5, TX5, 8, rfl, by decide, glX5, tbG_at 239 (by decide +kernel) rfl⟩
theorem fkX5_37 : sw_fk RX5 37 6 5 := ⟨RX5, TX5, 8, rfl, by decide, glX5, tbG_at 241 (by decide +kernel) rfl⟩
theorem pkX5_37 : sw_pk RX5 37 6 5 .int := ⟨RX5, TX5, 8, tyX5, rfl, by decide, glX5, tbG_at 241 (by decide +kernel) rfl, tyX5_ok, nmX5, rfl, rfl⟩
theorem fkX5_208 : sw_fk RX5 208 3 1 := ⟨RX2, TX2, 3, rfl, by decide, glX2, tbG_at 131 (by decide +kernel) rfl⟩
theorem fkX5_41 : sw_fk RX5 41 6 6 := ⟨RX5, TX5, 8, rfl, by decide, glX5, tbG_at 242 (by decide +kernel) rfl⟩
theorem fkX5_214 : sw_fk RX5 214 2 3 := ⟨RX1, TX1, 4, rfl, by decide, glX1, tbG_at 73 (by decide +kernel) rfl⟩
theorem pkX5_208 : sw_pk RX5 208 3 1 .int := ⟨RX2, TX2, 3, tyX2, rfl, by decide, glX2, tbG_at 131 (by decide +kernel) rfl, tyX2_ok, nmX2, rfl, rfl⟩
theorem fkX5_44 : sw_fk RX5 44 6 7 := ⟨RX5, TX5, 8, rfl, by decide, glX5, tbG_at 243 (by decide +kernel) rfl⟩
theorem fkX6_7 : sw_fk RX6 7 7 0 := ⟨RX6, TX6, 28, rfl, by decide, glX6, tbG_at 778 (by decide +kernel) rfl⟩
theorem fkX6_73 : sw_fk RX6 73 7 4 := ⟨RX6, TX6, 28, rfl, by decide, glX6, tbG_at 782 (by decide +kernel) rfl⟩
theorem fkX6_20 : sw_fk RX6 20 7 3 := ⟨RX6, TX6, 28, rfl, by decide, glX6, tbG_at 781 (by decide +kernel) rfl⟩
theorem pkX6_73 : sw_pk RX6 73 7 4 .int := ⟨RX6, TX6, 28, tyX6, rfl, by decide, glX6, tbG_at 782 (by decide +kernel) rfl, tyX6_ok, nmX6, rfl, rfl⟩
theorem pkX6_80 : sw_pk RX6 80 7 6 .int := ⟨RX6, TX6, 28, tyX6, rfl, by decide, glX6, tbG_at 784 (by decide +kernel) rfl, tyX6_ok, nmX6, rfl, rfl⟩
theorem pkX6_83 : sw_pk RX6 83 7 7 .boolean := ⟨RX6, TX6, 28, tyX6, rfl, by decide, glX6, tbG_at 785 (by decide +kernel) rfl, tyX6_ok, nmX6, rfl, rfl⟩
theorem fkX6_80 : sw_fk RX6 80 7 6 := ⟨RX6, TX6, 28, rfl, by decide, glX6, tbG_at 784 (by decide +kernel) rfl⟩
theorem fkX6_23 : sw_fk RX6 23 7 5 := ⟨RX6, TX6, 28, rfl, by decide, glX6, tbG_at 783 (by decide +kernel) rfl⟩
theorem pkX6_95 : sw_pk RX6 95 7 9 .int := ⟨RX6, TX6, 28, tyX6, rfl, by decide, glX6, tbG_at 787 (by decide +kernel) rfl, tyX6_ok, nmX6, rfl, rfl⟩
theorem fkX6_83 : sw_fk RX6 83 7 7 := ⟨RX6, TX6, 28, rfl, by decide, glX6, tbG_at 785 (by decide +kernel) rfl⟩
theorem pkX6_101 : sw_pk RX6 101 7 8 .int := ⟨RX6, TX6, 28, tyX6, rfl, by decide, glX6, tbG_at 786 (by decide +kernel) rfl, tyX6_ok, nmX6, rfl, rfl⟩
theorem fkX6_95 : sw_fk RX6 95 7 9 := ⟨RX6, TX6, 28, rfl, by decide, glX6, tbG_at 787 (by decide +kernel) rfl⟩
theorem fkX6_101 : sw_fk RX6 101 7 8 := ⟨RX6, TX6, 28, rfl, by decide, glX6, tbG_at 786 (by decide +kernel) rfl⟩
theorem fkX6_26 : sw_fk RX6 26 7 10 := ⟨RX6, TX6, 28, rfl, by decide, glX6, tbG_at 788 (by decide +kernel) rfl⟩
theorem fkX6_135 : sw_fk RX6 135 7 11 := ⟨RX6, TX6, 28, rfl, by decide, glX6, tbG_at 789 (by decide +kernel) rfl⟩
theorem pkX6_135 : sw_pk RX6 135 7 11 .int := ⟨RX6, TX6, 28, tyX6, rfl, by decide, glX6, tbG_at 789 (by decide +kernel) rfl, tyX6_ok, nmX6, rfl, rfl⟩
theorem fkX6_50 : sw_fk RX6 50 7 19 := ⟨RX6, TX6, 28, rfl, by decide, glX6, tbG_at 797 (by decide +kernel) rfl⟩
theorem fkX6_41 : sw_fk RX6 41 7 16 := ⟨RX6, TX6, 28, rfl, by decide, glX6, tbG_at 794 (by decide +kernel) rfl⟩
theorem fkX6_56 : sw_fk RX6 56 7 21 := ⟨RX6, TX6, 28, rfl, by decide, glX6, tbG_at 799 (by decide +kernel) rfl⟩
theorem fkX6_149 : sw_fk RX6 149 7 25 := ⟨RX6, TX6, 28, rfl, by decide, glX6, tbG_at 803 (by decide +kernel) rfl⟩
theorem pkX6_149 : sw_pk RX6 149 7 25 .int := ⟨RX6, TX6, 28, tyX6, rfl, by decide, glX6, tbG_at 803 (by decide +kernel) rfl, tyX6_ok, nmX6, rfl, rfl⟩
theorem fkX6_152 : sw_fk RX6 152 7 26 := ⟨RX6, TX6, 28, rfl, by decide, glX6, tbG_at 804 (by decide +kernel) rfl⟩
theorem pkX6_152 : sw_pk RX6 152 7 26 .int := ⟨RX6, TX6, 28, tyX6, rfl, by decide, glX6, tbG_at 804 (by decide +kernel) rfl, tyX6_ok, nmX6, rfl, rfl⟩
theorem fkX6_65 : sw_fk RX6 65 7 27 := ⟨RX6, TX6, 28, rfl, by decide, glX6, tbG_at 805 (by decide +kernel) rfl⟩
theorem fkX6_62 : sw_fk RX6 62 7 23 := ⟨RX6, TX6, 28, rfl, by decide, glX6, tbG_at 801 (by decide +kernel) rfl⟩
theorem fkX6_29 : sw_fk RX6 29 7 12 := ⟨RX6, TX6, 28, rfl, by decide, glX6, tbG_at 790 (by decide +kernel) rfl⟩
theorem fkX6_32 : sw_fk RX6 32 7 13 := ⟨RX6, TX6, 28, rfl, by decide, glX6, tbG_at 791 (by decide +kernel) rfl⟩
theorem fkX6_35 : sw_fk RX6 35 7 14 := ⟨RX6, TX6, 28, rfl, by decide, glX6, tbG_at 792 (by decide +kernel) rfl⟩
theorem fkX6_38 : sw_fk RX6 38 7 15 := ⟨RX6, TX6, 28, rfl, by decide, glX6, tbG_at 793 (by decide +kernel) rfl⟩
theorem fkX6_59 : sw_fk RX6 59 7 22 := ⟨RX6, TX6, 28, rfl, by decide, glX6, tbG_at 800 (by decide +kernel) rfl⟩
theorem fkX6_161 : sw_fk RX6 161 7 24 := ⟨RX6, TX6, 28, rfl, by decide, glX6, tbG_at 802 (by decide +kernel) rfl⟩
theorem pkX6_161 : sw_pk RX6 161 7 24 .int := ⟨RX6, TX6, 28, tyX6, rfl, by decide, glX6, tbG_at 802 (by decide +kernel) rfl, tyX6_ok, nmX6, rfl, rfl⟩
theorem fkX6_44 : sw_fk RX6 44 7 17 := ⟨RX6, TX6, 28, rfl, by decide, glX6, tbG_at 795 (by decide +kernel) rfl⟩
theorem fkX6_47 : sw_fk RX6 47 7 18 := ⟨RX6, TX6, 28, rfl, by decide, glX6, tbG_at 796 (by decide +kernel) rfl⟩
theorem fkX6_53 : sw_fk RX6 53 7 20 := ⟨RX6, TX6, 28, rfl, by decide, glX6, tbG_at 798 (by decide +kernel) rfl⟩
theorem pkX6_65 : sw_pk RX6 65 7 27 .int := ⟨RX6, TX6, 28, tyX6, rfl, by decide, glX6, tbG_at 805 (by decide +kernel) rfl, tyX6_ok, nmX6, rfl, rfl⟩
theorem fkX6_13 : sw_fk RX6 13 7 1 := ⟨RX6, TX6, 28, rfl, by decide, glX6, tbG_at 779 (by decide +kernel) rfl⟩
theorem fkX6_16 : sw_fk RX6 16 7 2 := ⟨RX6, TX6, 28, rfl, by decide, glX6, tbG_at 780 (by decide +kernel) rfl⟩
/-- the class's cells: 0 StreamWeave, 1 Line, 2 Plan (plan, trial, images), 3 images, 4 the plans' programmes, 5 Programme (4 a plan), 6 size, 7 due, 8 Stream, 9 kind, 10 programme, 11 frame, 12 counter, 13 channels, 14 ofKind, 15 Channel, 16 gone, 17 firstTick, 18 lastTick, 19 heldBehind, 20 signs, 21 numbers -/
def shX : sw_Sh := fun k => match k with
  | 0 => some (1, .inl (6, [some (1, fun _ _ => 0), some (2, fun _ _ => 0), some (2, fun _ _ => 1), some (3, fun _ _ => 0), some (8, fun _ _ => 0), none, none, none]))
  | 1 => some (1, .inl (2, [some (20, fun _ _ => 0), some (21, fun _ _ => 0), none, none]))
  | 2 => some (4, .inl (3, [some (4, fun i _ => i), none, none]))
  | 3 => some (1, .inr (.object "StreamWeave$Plan", 2, some (2, fun _ j => 2 + j)))
  | 4 => some (4, .inr (.object "StreamWeave$Programme", 4, some (5, fun i j => 4 * i + j)))
  | 5 => some (16, .inl (4, [some (6, fun i _ => i), some (7, fun i _ => i), none, none, none]))
  | 6 => some (16, .inr (.int, 10, none))
  | 7 => some (16, .inr (.int, 10, none))
  | 8 => some (1, .inl (5, [some (9, fun _ _ => 0), some (10, fun _ _ => 0), some (11, fun _ _ => 0), some (12, fun _ _ => 0), some (13, fun _ _ => 0), some (14, fun _ _ => 0), none, none, none, none, none]))
  | 9 => some (1, .inr (.int, 400, none))
  | 10 => some (1, .inr (.int, 400, none))
  | 11 => some (1, .inr (.int, 400, none))
  | 12 => some (1, .inr (.int, 400, none))
  | 13 => some (1, .inr (.object "StreamWeave$Channel", 4, some (15, fun _ j => j)))
  | 14 => some (1, .inr (.int, 4, none))
  | 15 => some (4, .inl (1, [some (16, fun i _ => i), some (17, fun i _ => i), some (18, fun i _ => i), some (19, fun i _ => i), none, none, none, none, none]))
  | 16 => some (4, .inr (.int, 10, none))
  | 17 => some (4, .inr (.int, 10, none))
  | 18 => some (4, .inr (.int, 10, none))
  | 19 => some (4, .inr (.int, 100, none))
  | 20 => some (1, .inr (.int, 20, none))
  | 21 => some (1, .inr (.int, 3, none))
  | _ => none
/-- the reference's cells: 0 the object, then its arrays: 1 state, 2 images, 3 isKept, 4 line, 5 numbers, 6 row, 7 sort, 8 whose, 9 which, 10 counter, 11 sentOf, 12 firstSent, 13 lastSent, 14 isShown, 15 heldBehind, 16 held, 17 countOf, 18 lastClock -/
def shM : sw_Sh := fun k => match k with
  | 0 => some (1, .inl (7, [some (1, fun _ _ => 0), some (2, fun _ _ => 0), some (3, fun _ _ => 0), some (4, fun _ _ => 0), none, some (5, fun _ _ => 0), none, none, none, none, some (6, fun _ _ => 0), none, some (7, fun _ _ => 0), some (8, fun _ _ => 0), some (9, fun _ _ => 0), some (10, fun _ _ => 0), some (11, fun _ _ => 0), some (12, fun _ _ => 0), some (13, fun _ _ => 0), some (14, fun _ _ => 0), some (15, fun _ _ => 0), some (16, fun _ _ => 0), some (17, fun _ _ => 0), some (18, fun _ _ => 0), none, none, none, none]))
  | 1 => some (1, .inr (.int, 95, none))
  | 2 => some (1, .inr (.int, 190, none))
  | 3 => some (1, .inr (.boolean, 2, none))
  | 4 => some (1, .inr (.int, 20, none))
  | 5 => some (1, .inr (.int, 3, none))
  | 6 => some (1, .inr (.int, 16, none))
  | 7 => some (1, .inr (.int, 400, none))
  | 8 => some (1, .inr (.int, 400, none))
  | 9 => some (1, .inr (.int, 400, none))
  | 10 => some (1, .inr (.int, 400, none))
  | 11 => some (1, .inr (.int, 40, none))
  | 12 => some (1, .inr (.int, 40, none))
  | 13 => some (1, .inr (.int, 40, none))
  | 14 => some (1, .inr (.boolean, 40, none))
  | 15 => some (1, .inr (.int, 400, none))
  | 16 => some (1, .inr (.int, 4, none))
  | 17 => some (1, .inr (.int, 5, none))
  | 18 => some (1, .inr (.int, 4, none))
  | _ => none
end
section
/-! The small machine's rows: one a kind of instruction. -/
theorem sw_hd {v : sw_V} {l : List sw_V} (h : ∀ u ∈ v :: l, sw_okV u) : sw_okV v := h v List.mem_cons_self
theorem sw_tl {v : sw_V} {l : List sw_V} (h : ∀ u ∈ v :: l, sw_okV u) : ∀ u ∈ l, sw_okV u := fun u hu => h u (List.mem_cons_of_mem _ hu)
theorem sw_cn {v : sw_V} {l : List sw_V} (h1 : sw_okV v) (h2 : ∀ u ∈ l, sw_okV u) : ∀ u ∈ v :: l, sw_okV u := List.forall_mem_cons.mpr ⟨h1, h2⟩
theorem sw_cat (E : sw_E) (v : sw_V) : (sw_vl E v).category = 1 := by
  rcases v with a | q
  · rfl
  · cases q <;> rfl
/-- the locals as the kit lists them -/
def sw_on (E : sw_E) (j : Nat) (v : sw_V) : Option (Nat × Value) := match v with
  | .inl a => some (j, sw_vl E (.inl a))
  | .inr (some q) => some (j, sw_vl E (.inr (some q)))
  | .inr none => none
def sw_lv (E : sw_E) (ls : List sw_V) : List (Nat × Value) := (List.range ls.length).filterMap (fun j => (ls[j]?).bind (sw_on E j))
theorem sw_lv_mem {E : sw_E} {ls : List sw_V} {j : Nat} {v : sw_V} (h : ls[j]? = some v) (hv : v ≠ sU) : (j, sw_vl E v) ∈ sw_lv E ls := by
  refine List.mem_filterMap.mpr ⟨j, List.mem_range.mpr (List.getElem?_eq_some_iff.mp h).1, ?_⟩
  rw [h]
  rcases v with a | q
  · rfl
  · cases q with
    | none => exact absurd rfl hv
    | some q => rfl
theorem sw_lv_of {E : sw_E} {ls : List sw_V} {q : Nat × Value} (h : q ∈ sw_lv E ls) : ∃ v, ls[q.1]? = some v ∧ v ≠ sU ∧ q.2 = sw_vl E v := by
  obtain ⟨j, hj, hq⟩ := List.mem_filterMap.mp h
  cases he : ls[j]? with
  | none => rw [he] at hq; cases hq
  | some v =>
    rw [he] at hq
    rcases v with a | w
    · have hq : some (j, sw_vl E (.inl a)) = some q := hq
      cases hq
      exact ⟨.inl a, he, fun z => (by cases z), rfl⟩
    · cases w with
      | none => cases hq
      | some w =>
        have hq : some (j, sw_vl E (.inr (some w))) = some q := hq
        cases hq
        exact ⟨.inr (some w), he, fun z => (by cases z), rfl⟩
section MROWS
variable {sh : sw_Sh} {d : sw_D} {Q : sw_R} {M : sw_M} {pc n : Nat} {ls st : List sw_V}
theorem sw_G.has {s : State} {E : sw_E} {H : Heap} {locs : List Loc} {lsA : Array Slot} (G : sw_G sh d s E H locs lsA ls st M) : lv_has lsA d.2.2.1 (sw_lv E ls) := ⟨G.2.2.2.1.1, G.2.2.2.1.2.1, fun q hq => by
  obtain ⟨v, h1, h2, h3⟩ := sw_lv_of hq
  rw [h3]; exact G.2.2.2.1.2.2.1 q.1 v h1 h2⟩
theorem sw_G.loc {s : State} {E : sw_E} {H : Heap} {locs : List Loc} {lsA : Array Slot} (G : sw_G sh d s E H locs lsA ls st M) {j : Nat} {v : sw_V} (h : ls[j]? = some v) (hv : v ≠ sU) : lsA[j]? = some (.val (sw_vl E v)) := G.2.2.2.1.2.2.1 j v h hv
theorem sw_G.okl {s : State} {E : sw_E} {H : Heap} {locs : List Loc} {lsA : Array Slot} (G : sw_G sh d s E H locs lsA ls st M) {j : Nat} {v : sw_V} (h : ls[j]? = some v) : sw_okV v := G.2.2.2.1.2.2.2.1 v (List.mem_of_getElem? h)
theorem sw_G.len {s : State} {E : sw_E} {H : Heap} {locs : List Loc} {lsA : Array Slot} (G : sw_G sh d s E H locs lsA ls st M) : ls.length ≤ d.2.2.1 := G.2.2.2.1.2.2.2.2
theorem sw_G.sto {s : State} {E : sw_E} {H : Heap} {locs : List Loc} {lsA ls' : Array Slot} {i : Nat} {v : sw_V} {st' : List sw_V} (G : sw_G sh d s E H locs lsA ls st M) (hv : sw_okV v) (h : lv_has ls' d.2.2.1 ((i, sw_vl E v) :: (sw_lv E ls).filter (fun q => !(q.1 == i) && !(q.1 + 1 == i && q.2.category == 2)))) (hst : ∀ u ∈ st', sw_okV u) : sw_G sh d s E H locs ls' (ls.set i v) st' M := by
  refine ⟨G.1, G.2.1, G.2.2.1, ⟨h.1, h.2.1, fun j u hj hu => ?_, fun u hu => ?_, by rw [List.length_set]; exact G.len⟩, hst⟩
  · by_cases e : j = i
    · subst e
      have hl : j < ls.length := by
        have := (List.getElem?_eq_some_iff.mp hj).1
        rwa [List.length_set] at this
      rw [List.getElem?_set_self hl] at hj
      cases hj
      exact h.2.2 _ List.mem_cons_self
    · rw [List.getElem?_set_ne (Ne.symm e)] at hj
      refine h.2.2 (j, sw_vl E u) (List.mem_cons_of_mem _ (List.mem_filter.mpr ⟨sw_lv_mem hj hu, ?_⟩))
      simp [e, sw_cat]
  · rcases List.mem_or_eq_of_mem_set hu with h1 | h1
    · exact G.2.2.2.1.2.2.2.1 u h1
    · rw [h1]; exact hv
/-- ranges that the machine itself keeps -/
theorem wm_okM (kk : sw_okM M → WM sh d Q pc ls st M) : WM sh d Q pc ls st M := fun p l e s m args below meth c E H locs lsA C G => kk G.2.1 p l e s m args below meth c E H locs lsA C G
theorem wm_okl {j : Nat} {a : Int} (h : ls[j]? = some (sI a)) (kk : (-2147483648 ≤ a ∧ a ≤ 2147483647) → WM sh d Q pc ls st M) : WM sh d Q pc ls st M := fun p l e s m args below meth c E H locs lsA C G => kk (G.okl h) p l e s m args below meth c E H locs lsA C G
theorem wm_oks {a : Int} (kk : (-2147483648 ≤ a ∧ a ≤ 2147483647) → WM sh d Q pc ls (sI a :: st) M) : WM sh d Q pc ls (sI a :: st) M := fun p l e s m args below meth c E H locs lsA C G => kk (sw_hd G.2.2.2.2) p l e s m args below meth c E H locs lsA C G
/-- a stronger end -/
theorem wm_cons {Q1 : sw_R} (h : ∀ r1 M1, Q1 r1 M1 → Q r1 M1) (kk : WM sh d Q1 pc ls st M) : WM sh d Q pc ls st M := by
  intro p l e s m args below meth c E H locs lsA C G T hT X
  obtain ⟨t, a1, o, b1, b2, ⟨r1, M1, q1, q2⟩, b3⟩ := kk p l e s m args below meth c E H locs lsA C G T hT X
  exact ⟨t, a1, o, b1, b2, ⟨r1, M1, h r1 M1 q1, q2⟩, b3⟩
/-- the same end, said otherwise -/
theorem wm_is {r r1 : Option sw_V} {M' M1 : sw_M} (hr : r = r1) (hM : M' = M1) (kk : WM sh d (isr r1 M1) pc ls st M) : WM sh d (isr r M') pc ls st M := by subst hr; subst hM; exact kk
theorem wm_iconst {v : Int} (hd : decode d.1 pc = .ok (.iconst v, 1)) (hn : pc + 1 = n) (hv : -2147483648 ≤ v ∧ v ≤ 2147483647) (kk : WM sh d Q n ls (sI v :: st) M) : WM sh d Q pc ls st M := by
  intro p l e s m args below meth c E H locs lsA C G
  subst hn
  exact lv_iconst C.1 C.2.1 hd rfl (kk p l e s m args below meth c E H locs lsA C (G.st (sw_cn hv G.2.2.2.2)))
theorem wm_bipush {v : Int} (hd : decode d.1 pc = .ok (.bipush v, 2)) (hn : pc + 2 = n) (hv : -2147483648 ≤ v ∧ v ≤ 2147483647) (hc : (Int8.ofInt v).toInt32 = Int32.ofInt v) (kk : WM sh d Q n ls (sI v :: st) M) : WM sh d Q pc ls st M := by
  intro p l e s m args below meth c E H locs lsA C G
  subst hn
  exact lv_bipush C.1 C.2.1 hd hc (kk p l e s m args below meth c E H locs lsA C (G.st (sw_cn hv G.2.2.2.2)))
theorem wm_sipush {v : Int} (hd : decode d.1 pc = .ok (.sipush v, 3)) (hn : pc + 3 = n) (hv : -2147483648 ≤ v ∧ v ≤ 2147483647) (hc : (Int16.ofInt v).toInt32 = Int32.ofInt v) (kk : WM sh d Q n ls (sI v :: st) M) : WM sh d Q pc ls st M := by
  intro p l e s m args below meth c E H locs lsA C G
  subst hn
  exact lv_sipush C.1 C.2.1 hd hc (kk p l e s m args below meth c E H locs lsA C (G.st (sw_cn hv G.2.2.2.2)))
theorem wm_iload_n {k : Fin 4} {a : Int} (hd : decode d.1 pc = .ok (.iload_n k, 1)) (hn : pc + 1 = n) (hl : ls[(k : Nat)]? = some (sI a)) (kk : WM sh d Q n ls (sI a :: st) M) : WM sh d Q pc ls st M := by
  intro p l e s m args below meth c E H locs lsA C G
  subst hn
  exact lv_iload_n C.1 C.2.1 hd rfl (G.loc hl (fun z => by cases z)) (kk p l e s m args below meth c E H locs lsA C (G.st (sw_cn (G.okl hl) G.2.2.2.2)))
theorem wm_iload {k : Nat} {a : Int} (hd : decode d.1 pc = .ok (.iload k, 2)) (hn : pc + 2 = n) (hl : ls[k]? = some (sI a)) (kk : WM sh d Q n ls (sI a :: st) M) : WM sh d Q pc ls st M := by
  intro p l e s m args below meth c E H locs lsA C G
  subst hn
  exact lv_iload C.1 C.2.1 hd (G.loc hl (fun z => by cases z)) (kk p l e s m args below meth c E H locs lsA C (G.st (sw_cn (G.okl hl) G.2.2.2.2)))
theorem wm_aload_n {k : Fin 4} {kd : Nat} {i : Int} (hd : decode d.1 pc = .ok (.aload_n k, 1)) (hn : pc + 1 = n) (hl : ls[(k : Nat)]? = some (sR kd i)) (kk : WM sh d Q n ls (sR kd i :: st) M) : WM sh d Q pc ls st M := by
  intro p l e s m args below meth c E H locs lsA C G
  subst hn
  exact lv_aload_n C.1 C.2.1 hd rfl (G.loc hl (fun z => by cases z)) (kk p l e s m args below meth c E H locs lsA C (G.st (sw_cn trivial G.2.2.2.2)))
theorem wm_aload {k : Nat} {kd : Nat} {i : Int} (hd : decode d.1 pc = .ok (.aload k, 2)) (hn : pc + 2 = n) (hl : ls[k]? = some (sR kd i)) (kk : WM sh d Q n ls (sR kd i :: st) M) : WM sh d Q pc ls st M := by
  intro p l e s m args below meth c E H locs lsA C G
  subst hn
  exact lv_aload C.1 C.2.1 hd (G.loc hl (fun z => by cases z)) (kk p l e s m args below meth c E H locs lsA C (G.st (sw_cn trivial G.2.2.2.2)))
theorem wm_istore_n {k : Fin 4} {a : Int} (hd : decode d.1 pc = .ok (.istore_n k, 1)) (hn : pc + 1 = n) (hk : (k : Nat) < ls.length) (kk : WM sh d Q n (ls.set (k : Nat) (sI a)) st M) : WM sh d Q pc ls (sI a :: st) M := by
  intro p l e s m args below meth c E H locs lsA C G
  subst hn
  exact lv_istore_n C.1 C.2.1 hd rfl G.has (Nat.lt_of_lt_of_le hk G.len) rfl (fun ls' hl => kk p l e s m args below meth c E H locs ls' C (G.sto (sw_hd G.2.2.2.2) hl (sw_tl G.2.2.2.2)))
theorem wm_istore {k : Nat} {a : Int} (hd : decode d.1 pc = .ok (.istore k, 2)) (hn : pc + 2 = n) (hk : k < ls.length) (kk : WM sh d Q n (ls.set k (sI a)) st M) : WM sh d Q pc ls (sI a :: st) M := by
  intro p l e s m args below meth c E H locs lsA C G
  subst hn
  exact lv_istore C.1 C.2.1 hd G.has (Nat.lt_of_lt_of_le hk G.len) rfl (fun ls' hl => kk p l e s m args below meth c E H locs ls' C (G.sto (sw_hd G.2.2.2.2) hl (sw_tl G.2.2.2.2)))
theorem wm_astore_n {k : Fin 4} {kd : Nat} {i : Int} (hd : decode d.1 pc = .ok (.astore_n k, 1)) (hn : pc + 1 = n) (hk : (k : Nat) < ls.length) (kk : WM sh d Q n (ls.set (k : Nat) (sR kd i)) st M) : WM sh d Q pc ls (sR kd i :: st) M := by
  intro p l e s m args below meth c E H locs lsA C G
  subst hn
  exact lv_astore_n C.1 C.2.1 hd rfl G.has (Nat.lt_of_lt_of_le hk G.len) rfl (fun ls' hl => kk p l e s m args below meth c E H locs ls' C (G.sto (sw_hd G.2.2.2.2) hl (sw_tl G.2.2.2.2)))
theorem wm_astore {k : Nat} {kd : Nat} {i : Int} (hd : decode d.1 pc = .ok (.astore k, 2)) (hn : pc + 2 = n) (hk : k < ls.length) (kk : WM sh d Q n (ls.set k (sR kd i)) st M) : WM sh d Q pc ls (sR kd i :: st) M := by
  intro p l e s m args below meth c E H locs lsA C G
  subst hn
  exact lv_astore C.1 C.2.1 hd G.has (Nat.lt_of_lt_of_le hk G.len) rfl (fun ls' hl => kk p l e s m args below meth c E H locs ls' C (G.sto (sw_hd G.2.2.2.2) hl (sw_tl G.2.2.2.2)))
theorem wm_iinc {k : Nat} {a v w : Int} (hd : decode d.1 pc = .ok (.iinc k v, 3)) (hn : pc + 3 = n) (hl : ls[k]? = some (sI a)) (hw : a + v = w) (ho : -2147483648 ≤ w ∧ w ≤ 2147483647) (kk : WM sh d Q n (ls.set k (sI w)) st M) : WM sh d Q pc ls st M := by
  intro p l e s m args below meth c E H locs lsA C G
  subst hn; subst hw
  obtain ⟨q, hq⟩ := List.getElem?_of_mem (sw_lv_mem (E := E) hl (fun z => by cases z))
  have hv : Int32.ofInt a + Int32.ofInt v = Int32.ofInt (a + v) := (Int32.ofInt_add ..).symm
  exact lv_iinc C.1 C.2.1 hd G.has hq hv (Nat.lt_of_lt_of_le (List.getElem?_eq_some_iff.mp hl).1 G.len) rfl (fun ls' hl => kk p l e s m args below meth c E H locs ls' C (G.sto (v := sI (a + v)) ho hl G.2.2.2.2))
theorem wm_iadd {a b : Int} (hd : decode d.1 pc = .ok (.iadd, 1)) (hn : pc + 1 = n) (ho : -2147483648 ≤ a + b ∧ a + b ≤ 2147483647) (kk : WM sh d Q n ls (sI (a + b) :: st) M) : WM sh d Q pc ls (sI b :: sI a :: st) M := by
  intro p l e s m args below meth c E H locs lsA C G
  subst hn
  have K := kk p l e s m args below meth c E H locs lsA C (G.st (sw_cn ho (sw_tl (sw_tl G.2.2.2.2))))
  have hv : Int32.ofInt a + Int32.ofInt b = Int32.ofInt (a + b) := (Int32.ofInt_add ..).symm
  refine lv_iadd C.1 C.2.1 hd ?_
  rw [hv]; exact K
theorem wm_isub {a b : Int} (hd : decode d.1 pc = .ok (.isub, 1)) (hn : pc + 1 = n) (ho : -2147483648 ≤ a - b ∧ a - b ≤ 2147483647) (kk : WM sh d Q n ls (sI (a - b) :: st) M) : WM sh d Q pc ls (sI b :: sI a :: st) M := by
  intro p l e s m args below meth c E H locs lsA C G
  subst hn
  have K := kk p l e s m args below meth c E H locs lsA C (G.st (sw_cn ho (sw_tl (sw_tl G.2.2.2.2))))
  have hv : Int32.ofInt a - Int32.ofInt b = Int32.ofInt (a - b) := (Int32.ofInt_sub ..).symm
  refine lv_isub C.1 C.2.1 hd ?_
  rw [hv]; exact K
theorem wm_imul {a b : Int} (hd : decode d.1 pc = .ok (.imul, 1)) (hn : pc + 1 = n) (ho : -2147483648 ≤ a * b ∧ a * b ≤ 2147483647) (kk : WM sh d Q n ls (sI (a * b) :: st) M) : WM sh d Q pc ls (sI b :: sI a :: st) M := by
  intro p l e s m args below meth c E H locs lsA C G
  subst hn
  have K := kk p l e s m args below meth c E H locs lsA C (G.st (sw_cn ho (sw_tl (sw_tl G.2.2.2.2))))
  have hv : Int32.ofInt a * Int32.ofInt b = Int32.ofInt (a * b) := (Int32.ofInt_mul ..).symm
  refine lv_imul C.1 C.2.1 hd ?_
  rw [hv]; exact K
theorem wm_irem {a b : Int} (hd : decode d.1 pc = .ok (.irem, 1)) (hn : pc + 1 = n) (ha : 0 ≤ a) (hb : 0 < b) (kk : WM sh d Q n ls (sI (a % b) :: st) M) : WM sh d Q pc ls (sI b :: sI a :: st) M := by
  intro p l e s m args below meth c E H locs lsA C G
  subst hn
  have ga : sw_ok a := sw_hd (sw_tl G.2.2.2.2)
  have gb : sw_ok b := sw_hd G.2.2.2.2
  have e0 : 0 ≤ a % b := Int.emod_nonneg a (by omega)
  have e1 : a % b < b := Int.emod_lt_of_pos a hb
  have go : sw_ok (a % b) := ⟨by omega, by unfold sw_ok at gb; omega⟩
  have K := kk p l e s m args below meth c E H locs lsA C (G.st (sw_cn (v := sI (a % b)) go (sw_tl (sw_tl G.2.2.2.2))))
  refine lv_irem C.1 C.2.1 hd (fun z => ?_) ?_
  · have := (sw_eq gb sw_ok0).mp z; omega
  · have hq : Int32.ofInt a / Int32.ofInt b = Int32.ofInt (a / b) := by
      rw [← Int32.toInt_inj, Int32.toInt_div, sw_toInt ga, sw_toInt gb, Int.tdiv_eq_ediv_of_nonneg ha, Int32.toInt_ofInt]
    have hv : Int32.ofInt a - Int32.ofInt a / Int32.ofInt b * Int32.ofInt b = Int32.ofInt (a % b) := by
      rw [hq, ← Int32.ofInt_mul, ← Int32.ofInt_sub, Int.emod_def, Int.mul_comm b]
    rw [hv]; exact K
theorem wm_idiv {a b : Int} (hd : decode d.1 pc = .ok (.idiv, 1)) (hn : pc + 1 = n) (ha : 0 ≤ a) (hb : 0 < b) (kk : WM sh d Q n ls (sI (a / b) :: st) M) : WM sh d Q pc ls (sI b :: sI a :: st) M := by
  intro p l e s m args below meth c E H locs lsA C G
  subst hn
  have ga : sw_ok a := sw_hd (sw_tl G.2.2.2.2)
  have gb : sw_ok b := sw_hd G.2.2.2.2
  have e0 : 0 ≤ a / b := Int.ediv_nonneg ha (by omega)
  have e1 : a / b ≤ a := Int.ediv_le_self b ha
  have go : sw_ok (a / b) := ⟨by omega, by unfold sw_ok at ga; omega⟩
  have K := kk p l e s m args below meth c E H locs lsA C (G.st (sw_cn (v := sI (a / b)) go (sw_tl (sw_tl G.2.2.2.2))))
  refine lv_idiv C.1 C.2.1 hd (fun z => ?_) ?_
  · have := (sw_eq gb sw_ok0).mp z; omega
  · have hq : Int32.ofInt a / Int32.ofInt b = Int32.ofInt (a / b) := by
      rw [← Int32.toInt_inj, Int32.toInt_div, sw_toInt ga, sw_toInt gb, Int.tdiv_eq_ediv_of_nonneg ha, Int32.toInt_ofInt]
    rw [hq]; exact K
/-- and, or, shl over written numbers: by their value -/
theorem wm_iand {a b v : Int} (hd : decode d.1 pc = .ok (.iand, 1)) (hn : pc + 1 = n) (hv : Int32.ofInt a &&& Int32.ofInt b = Int32.ofInt v) (ho : -2147483648 ≤ v ∧ v ≤ 2147483647) (kk : WM sh d Q n ls (sI v :: st) M) : WM sh d Q pc ls (sI b :: sI a :: st) M := by
  intro p l e s m args below meth c E H locs lsA C G
  subst hn
  have K := kk p l e s m args below meth c E H locs lsA C (G.st (sw_cn (v := sI v) ho (sw_tl (sw_tl G.2.2.2.2))))
  refine lv_iand C.1 C.2.1 hd ?_
  rw [hv]; exact K
theorem wm_ior {a b v : Int} (hd : decode d.1 pc = .ok (.ior, 1)) (hn : pc + 1 = n) (hv : Int32.ofInt a ||| Int32.ofInt b = Int32.ofInt v) (ho : -2147483648 ≤ v ∧ v ≤ 2147483647) (kk : WM sh d Q n ls (sI v :: st) M) : WM sh d Q pc ls (sI b :: sI a :: st) M := by
  intro p l e s m args below meth c E H locs lsA C G
  subst hn
  have K := kk p l e s m args below meth c E H locs lsA C (G.st (sw_cn (v := sI v) ho (sw_tl (sw_tl G.2.2.2.2))))
  refine lv_ior C.1 C.2.1 hd ?_
  rw [hv]; exact K
theorem wm_ishl {a b v : Int} (hd : decode d.1 pc = .ok (.ishl, 1)) (hn : pc + 1 = n) (hv : Int32.ofInt a <<< (Int32.ofInt b &&& 31) = Int32.ofInt v) (ho : -2147483648 ≤ v ∧ v ≤ 2147483647) (kk : WM sh d Q n ls (sI v :: st) M) : WM sh d Q pc ls (sI b :: sI a :: st) M := by
  intro p l e s m args below meth c E H locs lsA C G
  subst hn
  have K := kk p l e s m args below meth c E H locs lsA C (G.st (sw_cn (v := sI v) ho (sw_tl (sw_tl G.2.2.2.2))))
  refine lv_ishl C.1 C.2.1 hd ?_
  rw [hv]; exact K
theorem wm_ishr {a b v : Int} (hd : decode d.1 pc = .ok (.ishr, 1)) (hn : pc + 1 = n) (hv : Int32.ofInt a >>> (Int32.ofInt b &&& 31) = Int32.ofInt v) (ho : -2147483648 ≤ v ∧ v ≤ 2147483647) (kk : WM sh d Q n ls (sI v :: st) M) : WM sh d Q pc ls (sI b :: sI a :: st) M := by
  intro p l e s m args below meth c E H locs lsA C G
  subst hn
  have K := kk p l e s m args below meth c E H locs lsA C (G.st (sw_cn (v := sI v) ho (sw_tl (sw_tl G.2.2.2.2))))
  refine lv_ishr C.1 C.2.1 hd ?_
  rw [hv]; exact K
theorem wm_dup {v : sw_V} (hd : decode d.1 pc = .ok (.dup, 1)) (hn : pc + 1 = n) (kk : WM sh d Q n ls (v :: v :: st) M) : WM sh d Q pc ls (v :: st) M := by
  intro p l e s m args below meth c E H locs lsA C G
  subst hn
  exact lv_dup C.1 C.2.1 hd (sw_cat E v) (kk p l e s m args below meth c E H locs lsA C (G.st (sw_cn (sw_hd G.2.2.2.2) G.2.2.2.2)))
theorem wm_pop {v : sw_V} (hd : decode d.1 pc = .ok (.pop, 1)) (hn : pc + 1 = n) (kk : WM sh d Q n ls st M) : WM sh d Q pc ls (v :: st) M := by
  intro p l e s m args below meth c E H locs lsA C G
  subst hn
  exact lv_pop C.1 C.2.1 hd (sw_cat E v) (kk p l e s m args below meth c E H locs lsA C (G.st (sw_tl G.2.2.2.2)))
theorem wm_dup2 {v w : sw_V} (hd : decode d.1 pc = .ok (.dup2, 1)) (hn : pc + 1 = n) (kk : WM sh d Q n ls (v :: w :: v :: w :: st) M) : WM sh d Q pc ls (v :: w :: st) M := by
  intro p l e s m args below meth c E H locs lsA C G
  subst hn
  exact lv_dup2_11 C.1 C.2.1 hd (sw_cat E v) (sw_cat E w) (kk p l e s m args below meth c E H locs lsA C (G.st (sw_cn (sw_hd G.2.2.2.2) (sw_cn (sw_hd (sw_tl G.2.2.2.2)) G.2.2.2.2))))
theorem wm_dup_x1 {v w : sw_V} (hd : decode d.1 pc = .ok (.dup_x1, 1)) (hn : pc + 1 = n) (kk : WM sh d Q n ls (v :: w :: v :: st) M) : WM sh d Q pc ls (v :: w :: st) M := by
  intro p l e s m args below meth c E H locs lsA C G
  subst hn
  exact lv_dup_x1 C.1 C.2.1 hd (sw_cat E v) (sw_cat E w) (kk p l e s m args below meth c E H locs lsA C (G.st (sw_cn (sw_hd G.2.2.2.2) (sw_cn (sw_hd (sw_tl G.2.2.2.2)) (sw_cn (sw_hd G.2.2.2.2) (sw_tl (sw_tl G.2.2.2.2)))))))
theorem wm_goto {off : Int} {t : Nat} (hd : decode d.1 pc = .ok (.goto off, 3)) (ht : (pc : Int) + off = (t : Int)) (kk : WM sh d Q t ls st M) : WM sh d Q pc ls st M := by
  intro p l e s m args below meth c E H locs lsA C G
  exact lv_goto C.1 C.2.1 hd ht (kk p l e s m args below meth c E H locs lsA C G)
theorem wm_icmp_eq {a b off : Int} {t : Nat} (hd : decode d.1 pc = .ok (.if_icmp .eq off, 3)) (ht : (pc : Int) + off = (t : Int)) (hn : pc + 3 = n) (kt : a = b → WM sh d Q t ls st M) (kf : ¬ (a = b) → WM sh d Q n ls st M) : WM sh d Q pc ls (sI b :: sI a :: st) M := by
  intro p l e s m args below meth c E H locs lsA C G
  subst hn
  have ga : sw_ok a := sw_hd (sw_tl G.2.2.2.2)
  have gb : sw_ok b := sw_hd G.2.2.2.2
  have hi := sw_eq ga gb
  exact lv_icmp_eq C.1 C.2.1 hd ht (fun z => kt (hi.mp z) p l e s m args below meth c E H locs lsA C (G.st (sw_tl (sw_tl G.2.2.2.2)))) (fun z => kf (fun q => z (hi.mpr q)) p l e s m args below meth c E H locs lsA C (G.st (sw_tl (sw_tl G.2.2.2.2))))
theorem wm_if_eq {a off : Int} {t : Nat} (hd : decode d.1 pc = .ok (.ifCond .eq off, 3)) (ht : (pc : Int) + off = (t : Int)) (hn : pc + 3 = n) (kt : a = 0 → WM sh d Q t ls st M) (kf : ¬ (a = 0) → WM sh d Q n ls st M) : WM sh d Q pc ls (sI a :: st) M := by
  intro p l e s m args below meth c E H locs lsA C G
  subst hn
  have ga : sw_ok a := sw_hd G.2.2.2.2
  have hi := sw_eq ga sw_ok0
  exact lv_if_eq C.1 C.2.1 hd ht (fun z => kt (hi.mp z) p l e s m args below meth c E H locs lsA C (G.st (sw_tl G.2.2.2.2))) (fun z => kf (fun q => z (hi.mpr q)) p l e s m args below meth c E H locs lsA C (G.st (sw_tl G.2.2.2.2)))
theorem wm_icmp_lt {a b off : Int} {t : Nat} (hd : decode d.1 pc = .ok (.if_icmp .lt off, 3)) (ht : (pc : Int) + off = (t : Int)) (hn : pc + 3 = n) (kt : a < b → WM sh d Q t ls st M) (kf : ¬ (a < b) → WM sh d Q n ls st M) : WM sh d Q pc ls (sI b :: sI a :: st) M := by
  intro p l e s m args below meth c E H locs lsA C G
  subst hn
  have ga : sw_ok a := sw_hd (sw_tl G.2.2.2.2)
  have gb : sw_ok b := sw_hd G.2.2.2.2
  have hi := sw_lt ga gb
  exact lv_icmp_lt C.1 C.2.1 hd ht (fun z => kt (hi.mp z) p l e s m args below meth c E H locs lsA C (G.st (sw_tl (sw_tl G.2.2.2.2)))) (fun z => kf (fun q => z (hi.mpr q)) p l e s m args below meth c E H locs lsA C (G.st (sw_tl (sw_tl G.2.2.2.2))))
theorem wm_if_lt {a off : Int} {t : Nat} (hd : decode d.1 pc = .ok (.ifCond .lt off, 3)) (ht : (pc : Int) + off = (t : Int)) (hn : pc + 3 = n) (kt : a < 0 → WM sh d Q t ls st M) (kf : ¬ (a < 0) → WM sh d Q n ls st M) : WM sh d Q pc ls (sI a :: st) M := by
  intro p l e s m args below meth c E H locs lsA C G
  subst hn
  have ga : sw_ok a := sw_hd G.2.2.2.2
  have hi := sw_lt ga sw_ok0
  exact lv_if_lt C.1 C.2.1 hd ht (fun z => kt (hi.mp z) p l e s m args below meth c E H locs lsA C (G.st (sw_tl G.2.2.2.2))) (fun z => kf (fun q => z (hi.mpr q)) p l e s m args below meth c E H locs lsA C (G.st (sw_tl G.2.2.2.2)))
theorem wm_icmp_ge {a b off : Int} {t : Nat} (hd : decode d.1 pc = .ok (.if_icmp .ge off, 3)) (ht : (pc : Int) + off = (t : Int)) (hn : pc + 3 = n) (kt : b ≤ a → WM sh d Q t ls st M) (kf : ¬ (b ≤ a) → WM sh d Q n ls st M) : WM sh d Q pc ls (sI b :: sI a :: st) M := by
  intro p l e s m args below meth c E H locs lsA C G
  subst hn
  have ga : sw_ok a := sw_hd (sw_tl G.2.2.2.2)
  have gb : sw_ok b := sw_hd G.2.2.2.2
  have hi := sw_le gb ga
  exact lv_icmp_ge C.1 C.2.1 hd ht (fun z => kt (hi.mp z) p l e s m args below meth c E H locs lsA C (G.st (sw_tl (sw_tl G.2.2.2.2)))) (fun z => kf (fun q => z (hi.mpr q)) p l e s m args below meth c E H locs lsA C (G.st (sw_tl (sw_tl G.2.2.2.2))))
theorem wm_if_ge {a off : Int} {t : Nat} (hd : decode d.1 pc = .ok (.ifCond .ge off, 3)) (ht : (pc : Int) + off = (t : Int)) (hn : pc + 3 = n) (kt : 0 ≤ a → WM sh d Q t ls st M) (kf : ¬ (0 ≤ a) → WM sh d Q n ls st M) : WM sh d Q pc ls (sI a :: st) M := by
  intro p l e s m args below meth c E H locs lsA C G
  subst hn
  have ga : sw_ok a := sw_hd G.2.2.2.2
  have hi := sw_le sw_ok0 ga
  exact lv_if_ge C.1 C.2.1 hd ht (fun z => kt (hi.mp z) p l e s m args below meth c E H locs lsA C (G.st (sw_tl G.2.2.2.2))) (fun z => kf (fun q => z (hi.mpr q)) p l e s m args below meth c E H locs lsA C (G.st (sw_tl G.2.2.2.2)))
theorem wm_icmp_gt {a b off : Int} {t : Nat} (hd : decode d.1 pc = .ok (.if_icmp .gt off, 3)) (ht : (pc : Int) + off = (t : Int)) (hn : pc + 3 = n) (kt : b < a → WM sh d Q t ls st M) (kf : ¬ (b < a) → WM sh d Q n ls st M) : WM sh d Q pc ls (sI b :: sI a :: st) M := by
  intro p l e s m args below meth c E H locs lsA C G
  subst hn
  have ga : sw_ok a := sw_hd (sw_tl G.2.2.2.2)
  have gb : sw_ok b := sw_hd G.2.2.2.2
  have hi := sw_lt gb ga
  exact lv_icmp_gt C.1 C.2.1 hd ht (fun z => kt (hi.mp z) p l e s m args below meth c E H locs lsA C (G.st (sw_tl (sw_tl G.2.2.2.2)))) (fun z => kf (fun q => z (hi.mpr q)) p l e s m args below meth c E H locs lsA C (G.st (sw_tl (sw_tl G.2.2.2.2))))
theorem wm_if_gt {a off : Int} {t : Nat} (hd : decode d.1 pc = .ok (.ifCond .gt off, 3)) (ht : (pc : Int) + off = (t : Int)) (hn : pc + 3 = n) (kt : 0 < a → WM sh d Q t ls st M) (kf : ¬ (0 < a) → WM sh d Q n ls st M) : WM sh d Q pc ls (sI a :: st) M := by
  intro p l e s m args below meth c E H locs lsA C G
  subst hn
  have ga : sw_ok a := sw_hd G.2.2.2.2
  have hi := sw_lt sw_ok0 ga
  exact lv_if_gt C.1 C.2.1 hd ht (fun z => kt (hi.mp z) p l e s m args below meth c E H locs lsA C (G.st (sw_tl G.2.2.2.2))) (fun z => kf (fun q => z (hi.mpr q)) p l e s m args below meth c E H locs lsA C (G.st (sw_tl G.2.2.2.2)))
theorem wm_icmp_le {a b off : Int} {t : Nat} (hd : decode d.1 pc = .ok (.if_icmp .le off, 3)) (ht : (pc : Int) + off = (t : Int)) (hn : pc + 3 = n) (kt : a ≤ b → WM sh d Q t ls st M) (kf : ¬ (a ≤ b) → WM sh d Q n ls st M) : WM sh d Q pc ls (sI b :: sI a :: st) M := by
  intro p l e s m args below meth c E H locs lsA C G
  subst hn
  have ga : sw_ok a := sw_hd (sw_tl G.2.2.2.2)
  have gb : sw_ok b := sw_hd G.2.2.2.2
  have hi := sw_le ga gb
  exact lv_icmp_le C.1 C.2.1 hd ht (fun z => kt (hi.mp z) p l e s m args below meth c E H locs lsA C (G.st (sw_tl (sw_tl G.2.2.2.2)))) (fun z => kf (fun q => z (hi.mpr q)) p l e s m args below meth c E H locs lsA C (G.st (sw_tl (sw_tl G.2.2.2.2))))
theorem wm_if_le {a off : Int} {t : Nat} (hd : decode d.1 pc = .ok (.ifCond .le off, 3)) (ht : (pc : Int) + off = (t : Int)) (hn : pc + 3 = n) (kt : a ≤ 0 → WM sh d Q t ls st M) (kf : ¬ (a ≤ 0) → WM sh d Q n ls st M) : WM sh d Q pc ls (sI a :: st) M := by
  intro p l e s m args below meth c E H locs lsA C G
  subst hn
  have ga : sw_ok a := sw_hd G.2.2.2.2
  have hi := sw_le ga sw_ok0
  exact lv_if_le C.1 C.2.1 hd ht (fun z => kt (hi.mp z) p l e s m args below meth c E H locs lsA C (G.st (sw_tl G.2.2.2.2))) (fun z => kf (fun q => z (hi.mpr q)) p l e s m args below meth c E H locs lsA C (G.st (sw_tl G.2.2.2.2)))
theorem wm_icmp_ne {a b off : Int} {t : Nat} (hd : decode d.1 pc = .ok (.if_icmp .ne off, 3)) (ht : (pc : Int) + off = (t : Int)) (hn : pc + 3 = n) (kt : a ≠ b → WM sh d Q t ls st M) (kf : a = b → WM sh d Q n ls st M) : WM sh d Q pc ls (sI b :: sI a :: st) M := by
  intro p l e s m args below meth c E H locs lsA C G
  subst hn
  have ga : sw_ok a := sw_hd (sw_tl G.2.2.2.2)
  have gb : sw_ok b := sw_hd G.2.2.2.2
  have hi := sw_eq ga gb
  exact lv_icmp_ne C.1 C.2.1 hd ht (fun z => kt (fun q => z (hi.mpr q)) p l e s m args below meth c E H locs lsA C (G.st (sw_tl (sw_tl G.2.2.2.2)))) (fun z => kf (hi.mp z) p l e s m args below meth c E H locs lsA C (G.st (sw_tl (sw_tl G.2.2.2.2))))
theorem wm_if_ne {a off : Int} {t : Nat} (hd : decode d.1 pc = .ok (.ifCond .ne off, 3)) (ht : (pc : Int) + off = (t : Int)) (hn : pc + 3 = n) (kt : a ≠ 0 → WM sh d Q t ls st M) (kf : a = 0 → WM sh d Q n ls st M) : WM sh d Q pc ls (sI a :: st) M := by
  intro p l e s m args below meth c E H locs lsA C G
  subst hn
  have ga : sw_ok a := sw_hd G.2.2.2.2
  have hi := sw_eq ga sw_ok0
  exact lv_if_ne C.1 C.2.1 hd ht (fun z => kt (fun q => z (hi.mpr q)) p l e s m args below meth c E H locs lsA C (G.st (sw_tl G.2.2.2.2))) (fun z => kf (hi.mp z) p l e s m args below meth c E H locs lsA C (G.st (sw_tl G.2.2.2.2)))
/-- a switch: a goal a case -/
def sw_sw (a : Int) (K : Nat → Prop) : Int → List Nat → Prop
  | _, [] => True
  | lo, t :: ts => (a = lo → K t) ∧ sw_sw a K (lo + 1) ts
theorem sw_sw_at {a : Int} {K : Nat → Prop} : ∀ (ts : List Nat) (lo : Int) (q t : Nat), sw_sw a K lo ts → ts[q]? = some t → a = lo + q → K t
  | [], _, _, _, _, h, _ => by simp at h
  | t0 :: ts, lo, 0, t, hs, h, e => by
    simp at h; subst h
    exact hs.1 (by simpa using e)
  | t0 :: ts, lo, q + 1, t, hs, h, e => sw_sw_at ts (lo + 1) q t hs.2 (by simpa using h) (by rw [e]; push_cast; omega)
theorem wm_tsw {a dflt lo hi : Int} {offs : Array Int} {len td : Nat} (ts : List Nat) (hd : decode d.1 pc = .ok (.tableswitch dflt lo hi offs, len)) (hts : offs.toList.map (fun q => (pc : Int) + q) = ts.map Int.ofNat) (hl : hi - lo + 1 = ts.length) (hdf : (pc : Int) + dflt = (td : Int)) (kd : (a < lo ∨ hi < a) → WM sh d Q td ls st M) (kk : sw_sw a (fun t => WM sh d Q t ls st M) lo ts) : WM sh d Q pc ls (sI a :: st) M := by
  intro p l e s m args below meth c E H locs lsA C G
  have ga : sw_ok a := sw_hd G.2.2.2.2
  have e0 := sw_toInt ga
  by_cases hc : a < lo ∨ hi < a
  · exact lv_tableOut C.1 C.2.1 hd (by rw [e0]; exact hc) hdf (kd hc p l e s m args below meth c E H locs lsA C (G.st (sw_tl G.2.2.2.2)))
  · have h1 : ¬ a < lo := fun z => hc (Or.inl z)
    have h2 : ¬ hi < a := fun z => hc (Or.inr z)
    have hq : (a - lo).toNat < ts.length := by omega
    have hlen : offs.toList.length = ts.length := by
      have := congrArg List.length hts
      simpa using this
    have hq2 : (a - lo).toNat < offs.toList.length := by omega
    have e1 : offs.toList[(a - lo).toNat]? = some offs.toList[(a - lo).toNat] := List.getElem?_eq_getElem hq2
    have e2 : ts[(a - lo).toNat]? = some ts[(a - lo).toNat] := List.getElem?_eq_getElem hq
    have e3 : (pc : Int) + offs.toList[(a - lo).toNat] = ((ts[(a - lo).toNat] : Nat) : Int) := by
      have := congrArg (fun q => q[(a - lo).toNat]?) hts
      simp only [List.getElem?_map, e1, e2, Option.map_some] at this
      exact Option.some.inj this
    exact lv_tableIn C.1 C.2.1 hd (by rw [e0]; exact h1) (by rw [e0]; exact h2) (off := offs.toList[(a - lo).toNat]) (by rw [e0, ← Array.getElem?_toList]; exact e1) e3 (sw_sw_at ts lo _ _ kk e2 (by omega) p l e s m args below meth c E H locs lsA C (G.st (sw_tl G.2.2.2.2)))
end MROWS
end
section
/-! The small machine's rows over cells: fields, arrays, calls, returns, entries. -/
theorem sw_cell_congr {E : sw_E} {M1 M2 : sw_M} {k : Nat} {i : Int} (h : ∀ j, M1 k i j = M2 k i j) (x : (Nat × List sw_F) ⊕ (FieldType × Nat × sw_F)) : sw_cell E M1 k i x = sw_cell E M2 k i x := by
  have hf : ∀ j f, sw_fv E M1 k i j f = sw_fv E M2 k i j f := by
    intro j f
    cases f with
    | none => show Value.int _ = Value.int _; rw [h]
    | some q => rfl
  rcases x with o | ⟨ty, n, f⟩
  · have e : (fun (j : Nat) f => sw_fv E M1 k i (j : Int) f) = (fun (j : Nat) f => sw_fv E M2 k i (j : Int) f) := funext fun j => funext fun f => hf _ f
    show Sum.inr (o.1, o.2.mapIdx (fun (j : Nat) f => sw_fv E M1 k i (j : Int) f)) = Sum.inr (o.1, o.2.mapIdx (fun (j : Nat) f => sw_fv E M2 k i (j : Int) f))
    rw [e]
  · cases f with
    | none =>
      have e : (fun j : Nat => Int32.ofInt (M1 k i (j : Int))) = (fun j : Nat => Int32.ofInt (M2 k i (j : Int))) := funext fun j => by rw [h]
      show Sum.inl (E.2.1 k, n, Sum.inl (fun j : Nat => Int32.ofInt (M1 k i (j : Int)))) = Sum.inl (E.2.1 k, n, Sum.inl (fun j : Nat => Int32.ofInt (M2 k i (j : Int))))
      rw [e]
    | some q => rfl
theorem up_same {M : sw_M} {k : Nat} {i j v : Int} : up M k i j v k i j = v := by simp [up]
theorem up_ne {M : sw_M} {k k' : Nat} {i j v i' j' : Int} (h : ¬ (k' = k ∧ i' = i ∧ j' = j)) : up M k i j v k' i' j' = M k' i' j' := by
  unfold up
  by_cases hk : k' = k
  · rw [if_pos hk]
    have : ¬ (i' = i ∧ j' = j) := fun z => h ⟨hk, z⟩
    simp only [this, if_false]
  · rw [if_neg hk]
theorem sw_P_set {sh : sw_Sh} {E : sw_E} {M M2 : sw_M} {H H' : Heap} {k : Nat} {i : Int} {K : sw_K} (hP : sw_P sh E M H) (hJ : sw_J sh E) (hk : sh k = some K) (h0 : 0 ≤ i) (h1 : i < K.1) (oq : ∀ q, q ≠ E.1 k i → H'[q]? = H[q]?) (hM : ∀ k' i' j', ¬ (k' = k ∧ i' = i) → M2 k' i' j' = M k' i' j') (hc : va_at E.2.2 vwCl (E.1 k i, sw_cell E M2 k i K.2) H') : sw_P sh E M2 H' := by
  intro k' i' K' hk' h0' h1'
  by_cases hq : k' = k ∧ i' = i
  · obtain ⟨rfl, rfl⟩ := hq
    cases hk.symm.trans hk'
    exact hc
  · rw [sw_cell_congr (M2 := M) (fun j => hM k' i' j hq)]
    exact (hP k' i' K' hk' h0' h1').kept (oq _ (fun z => hq (hJ k' k i' i K' K hk' h0' h1' hk h0 h1 z)))
section HROWS
variable {sh : sw_Sh} {d : sw_D} {Q : sw_R} {M : sw_M} {pc n : Nat} {ls st : List sw_V}
theorem sw_PP {E : sw_E} {H : Heap} {k : Nat} {i : Int} {K : sw_K} (hP : sw_P sh E M H) (hk : sh k = some K) (hi : 0 ≤ i ∧ i < K.1) : va_P E.2.2 vwCl [(E.1 k i, sw_cell E M k i K.2)] H := by
  intro q x hq
  cases q with
  | zero => cases hq; exact hP k i K hk hi.1 hi.2
  | succ q => simp at hq
theorem wm_geti {N : sw_M} {k ci j ix : Nat} {i jj cnt : Int} {fs : List sw_F} (hd : decode d.1 pc = .ok (.getfield ix, 3)) (hn : pc + 3 = n) (hk : sw_fk d.2.1 ix ci j) (hsh : sh k = some (cnt, .inl (ci, fs))) (hf : fs[j]? = some none) (hj : (j : Int) = jj) (hi : 0 ≤ i ∧ i < cnt) (hN : M k i jj = N k i jj) (kk : WM sh d Q n ls (sI (N k i jj) :: st) M) : WM sh d Q pc ls (sR k i :: st) M := by
  intro p l e s m args below meth c E H locs lsA C G
  subst hn; subst hj
  rw [← hN] at kk
  obtain ⟨Cn, T, N, hc, hlt, hin, hl⟩ := hk
  have hP := sw_PP (E := E) G.1 hsh hi
  refine va_get (D := E.2.2) (ci := ci) (v := sw_vl E (sI (M k i (j : Int)))) (C := Cn) (T := T) (N := N) C.1 C.2.1 C.2.2.2.2.2.2.1 hin C.2.2.2.2.1 C.2.2.2.2.2.2.2.1 hP 0 rfl hc j hlt (C.2.2.2.2.2.2.1 _ hl) (fun _ h9 => h9) ?_ hd (kk p l e s m args below meth c E H locs lsA C (G.st (sw_cn (v := sI (M k i (j : Int))) (G.2.1 k i j) (sw_tl G.2.2.2.2))))
  rw [List.getElem?_mapIdx, hf]; rfl
theorem wm_getr {k ci j ix k2 : Nat} {g : Int → Int → Int} {i jj cnt : Int} {fs : List sw_F} (hd : decode d.1 pc = .ok (.getfield ix, 3)) (hn : pc + 3 = n) (hk : sw_fk d.2.1 ix ci j) (hsh : sh k = some (cnt, .inl (ci, fs))) (hf : fs[j]? = some (some (k2, g))) (hj : (j : Int) = jj) (hi : 0 ≤ i ∧ i < cnt) (kk : WM sh d Q n ls (sR k2 (g i jj) :: st) M) : WM sh d Q pc ls (sR k i :: st) M := by
  intro p l e s m args below meth c E H locs lsA C G
  subst hn; subst hj
  obtain ⟨Cn, T, N, hc, hlt, hin, hl⟩ := hk
  have hP := sw_PP (E := E) G.1 hsh hi
  refine va_get (D := E.2.2) (ci := ci) (v := sw_vl E (sR k2 (g i (j : Int)))) (C := Cn) (T := T) (N := N) C.1 C.2.1 C.2.2.2.2.2.2.1 hin C.2.2.2.2.1 C.2.2.2.2.2.2.2.1 hP 0 rfl hc j hlt (C.2.2.2.2.2.2.1 _ hl) (fun _ h9 => h9) ?_ hd (kk p l e s m args below meth c E H locs lsA C (G.st (sw_cn (v := sR k2 (g i (j : Int))) trivial (sw_tl G.2.2.2.2))))
  rw [List.getElem?_mapIdx, hf]; rfl
theorem sw_mapIdx_up {E : sw_E} {k : Nat} {i : Int} {fs : List sw_F} {j : Nat} {a : Int} (hf : fs[j]? = some none) : (fs.mapIdx (fun q f => sw_fv E M k i (q : Int) f)).set j (.int (Int32.ofInt a)) = fs.mapIdx (fun q f => sw_fv E (up M k i (j : Int) a) k i (q : Int) f) := by
  apply List.ext_getElem?
  intro q
  by_cases hq : q = j
  · subst hq
    have hl : q < (fs.mapIdx (fun q f => sw_fv E M k i (q : Int) f)).length := by
      rw [List.length_mapIdx]; exact (List.getElem?_eq_some_iff.mp hf).1
    rw [List.getElem?_set_self hl, List.getElem?_mapIdx, hf]
    show some _ = some _
    congr 1
    show Value.int _ = Value.int _
    rw [up_same]
  · rw [List.getElem?_set_ne (Ne.symm hq), List.getElem?_mapIdx, List.getElem?_mapIdx]
    cases hx : fs[q]? with
    | none => rfl
    | some f =>
      show some _ = some _
      congr 1
      cases f with
      | none =>
        show Value.int _ = Value.int _
        rw [up_ne (fun z => hq (by have := z.2.2; omega))]
      | some w => rfl
theorem wm_put {k ci j ix : Nat} {i jj cnt a : Int} {fs : List sw_F} {ty : FieldType} (hd : decode d.1 pc = .ok (.putfield ix, 3)) (hn : pc + 3 = n) (hk : sw_pk d.2.1 ix ci j ty) (hsh : sh k = some (cnt, .inl (ci, fs))) (hf : fs[j]? = some none) (hj : (j : Int) = jj) (hi : 0 ≤ i ∧ i < cnt) (hnr : narrow ty (.int (Int32.ofInt a)) = .int (Int32.ofInt a)) (hft : fits ty (.int (Int32.ofInt a)) = true) (kk : WM sh d Q n ls st (up M k i jj a)) : WM sh d Q pc ls (sI a :: sR k i :: st) M := by
  intro p l e s m args below meth c E H locs lsA C G
  subst hn; subst hj
  obtain ⟨Cn, T, N, ty0, hc, hlt, hin, hl, hty, hnm, hfin, hty0⟩ := hk
  have hA : sw_A sh E (E.1 k i) := ⟨k, i, _, hsh, hi.1, hi.2, rfl⟩
  have hP := sw_PP (E := E) G.1 hsh hi
  have hap := va_apart (own := d.2.1) C.2.2.2.2.2.2.1 hin ty0 hty hnm C.2.2.2.2.2.2.2.1 hc
  obtain ⟨r0, h1, cell, q1, q2, q3, q4⟩ := hP 0 _ rfl
  have hr : r0 = (Cn, T, N) := Option.some.inj (h1.symm.trans hc)
  subst hr
  obtain ⟨hS, hfc, kC, hkC, hkind⟩ := C.2.2.2.2.2.2.2.1.1 ci _ hc
  obtain ⟨cf, kf, fi, f, hi2, hsl⟩ := hS j hlt
  have hlay := C.2.2.2.2.2.2.1 _ (hin _ (u_in_lay hlt))
  unfold u_lay at hlay
  rw [if_neg (by rw [hfin]; decide)] at hlay
  have hst := (u_facts hfc hkC (u_lays C.2.2.2.2.2.2.1 hin hlt) hi2).1
  have h6 := u_store hfc hkC hkind hlay hi2 (by rw [hty j hlt, hty0]) hnr hft
  have hjl : j < (fs.mapIdx (fun q f => sw_fv E M k i (q : Int) f)).length := by rw [List.length_mapIdx]; exact (List.getElem?_eq_some_iff.mp hf).1
  refine W.putK C.1 C.2.1 (f := f) ⟨C.2.2.2.2.1, C.2.2.2.2.2.2.1 _ hl, ⟨_, _, _, hi2⟩, hst⟩ (by rw [q2]; exact h6) q1 q3 (by rw [hsl]; exact k2_hasslot (q4 j hlt)) rfl rfl hd fun H' e1 e2 e3 => ?_
  rw [hsl] at e1 ⊢
  refine kk p l e s m args below meth c E H' _ lsA C ⟨?_, sw_okM_up G.2.1 (sw_hd G.2.2.2.2), ⟨G.2.2.1.1.put e2 e3 hA, e2.trans G.2.2.1.2⟩, G.2.2.2.1, sw_tl (sw_tl G.2.2.2.2)⟩
  refine sw_P_set G.1 C.2.2.2.2.2.2.2.2.2.1 hsh hi.1 hi.2 e3 (fun k' i' j' hne => up_ne (fun z => hne ⟨z.1, z.2.1⟩)) ?_
  refine ⟨_, hc, t_OB.to (V := updV (vp_V (fs.mapIdx (fun q f => sw_fv E M k i (q : Int) f))) j (.int (Int32.ofInt a))) ⟨_, e1, q2, q3, t_set q4 hap hlt _⟩ (fun q _ => ?_)⟩
  rw [vp_updV_set hjl]
  show vp_V _ q = vp_V _ q
  congr 1
  exact sw_mapIdx_up hf
/-- arrays of numbers -/
theorem sw_PK {E : sw_E} {s : State} {k : Nat} {cnt : Int} {ty : FieldType} {len : Nat} {f : sw_F} (hT : sw_T sh E s) (hK : va_K E.2.2 vwCl [] s) (hsh : sh k = some (cnt, .inr (ty, len, f))) : va_K E.2.2 vwCl [(E.2.1 k, ty)] s := ⟨hK.1, fun q x hq => by
  cases q with
  | zero => cases hq; exact hT k cnt ty len f hsh
  | succ q => simp at hq⟩
theorem wm_iaload {N : sw_M} {k len : Nat} {i j cnt : Int} (hd : decode d.1 pc = .ok (.iaload, 1)) (hn : pc + 1 = n) (hsh : sh k = some (cnt, .inr (.int, len, none))) (hi : 0 ≤ i ∧ i < cnt) (hj : 0 ≤ j ∧ j < (len : Int)) (hN : M k i j = N k i j) (kk : WM sh d Q n ls (sI (N k i j) :: st) M) : WM sh d Q pc ls (sI j :: sR k i :: st) M := by
  intro p l e s m args below meth c E H locs lsA C G
  subst hn
  rw [← hN] at kk
  have gj : sw_ok j := sw_hd G.2.2.2.2
  have K := kk p l e s m args below meth c E H locs lsA C (G.st (sw_cn (v := sI (M k i j)) (G.2.1 k i j) (sw_tl (sw_tl G.2.2.2.2))))
  refine va_iald (D := E.2.2) C.1 C.2.1 (sw_PK C.2.2.2.2.2.2.2.2.1 C.2.2.2.2.2.2.2.1 hsh) (sw_PP (E := E) G.1 hsh hi) 0 0 (f := fun q => Int32.ofInt (M k i (q : Int))) rfl rfl (sw_vin gj hj.1 hj.2) hd ?_
  show W _ _ _ _ _ _ _ _ _ _ _ _ _ _ _ (F0 m (pc + 1) lsA (.int (Int32.ofInt (M k i (((Int32.ofInt j).toNatClampNeg : Nat) : Int))) :: _))
  rw [sw_cl gj, Int.toNat_of_nonneg hj.1]
  exact K
theorem wm_zaload {N : sw_M} {k len : Nat} {i j cnt : Int} (hd : decode d.1 pc = .ok (.baload, 1)) (hn : pc + 1 = n) (hsh : sh k = some (cnt, .inr (.boolean, len, none))) (hi : 0 ≤ i ∧ i < cnt) (hj : 0 ≤ j ∧ j < (len : Int)) (hN : M k i j = N k i j) (kk : WM sh d Q n ls (sI (N k i j) :: st) M) : WM sh d Q pc ls (sI j :: sR k i :: st) M := by
  intro p l e s m args below meth c E H locs lsA C G
  subst hn
  rw [← hN] at kk
  have gj : sw_ok j := sw_hd G.2.2.2.2
  have K := kk p l e s m args below meth c E H locs lsA C (G.st (sw_cn (v := sI (M k i j)) (G.2.1 k i j) (sw_tl (sw_tl G.2.2.2.2))))
  refine va_zald (D := E.2.2) C.1 C.2.1 (sw_PK C.2.2.2.2.2.2.2.2.1 C.2.2.2.2.2.2.2.1 hsh) (sw_PP (E := E) G.1 hsh hi) 0 0 (f := fun q => Int32.ofInt (M k i (q : Int))) rfl rfl (sw_vin gj hj.1 hj.2) hd ?_
  show W _ _ _ _ _ _ _ _ _ _ _ _ _ _ _ (F0 m (pc + 1) lsA (.int (Int32.ofInt (M k i (((Int32.ofInt j).toNatClampNeg : Nat) : Int))) :: _))
  rw [sw_cl gj, Int.toNat_of_nonneg hj.1]
  exact K
theorem wm_baload {N : sw_M} {k len : Nat} {i j cnt : Int} (hd : decode d.1 pc = .ok (.baload, 1)) (hn : pc + 1 = n) (hsh : sh k = some (cnt, .inr (.byte, len, none))) (hi : 0 ≤ i ∧ i < cnt) (hj : 0 ≤ j ∧ j < (len : Int)) (hN : M k i j = N k i j) (kk : WM sh d Q n ls (sI (N k i j) :: st) M) : WM sh d Q pc ls (sI j :: sR k i :: st) M := by
  intro p l e s m args below meth c E H locs lsA C G
  subst hn
  rw [← hN] at kk
  have gj : sw_ok j := sw_hd G.2.2.2.2
  have K := kk p l e s m args below meth c E H locs lsA C (G.st (sw_cn (v := sI (M k i j)) (G.2.1 k i j) (sw_tl (sw_tl G.2.2.2.2))))
  refine va_bald (D := E.2.2) C.1 C.2.1 (sw_PK C.2.2.2.2.2.2.2.2.1 C.2.2.2.2.2.2.2.1 hsh) (sw_PP (E := E) G.1 hsh hi) 0 0 (f := fun q => Int32.ofInt (M k i (q : Int))) rfl rfl (sw_vin gj hj.1 hj.2) hd ?_
  show W _ _ _ _ _ _ _ _ _ _ _ _ _ _ _ (F0 m (pc + 1) lsA (.int (Int32.ofInt (M k i (((Int32.ofInt j).toNatClampNeg : Nat) : Int))) :: _))
  rw [sw_cl gj, Int.toNat_of_nonneg hj.1]
  exact K
theorem wm_aaload {k len k2 : Nat} {C0 : String} {g : Int → Int → Int} {i j cnt : Int} (hd : decode d.1 pc = .ok (.aaload, 1)) (hn : pc + 1 = n) (hsh : sh k = some (cnt, .inr (.object C0, len, some (k2, g)))) (hi : 0 ≤ i ∧ i < cnt) (hj : 0 ≤ j ∧ j < (len : Int)) (kk : WM sh d Q n ls (sR k2 (g i j) :: st) M) : WM sh d Q pc ls (sI j :: sR k i :: st) M := by
  intro p l e s m args below meth c E H locs lsA C G
  subst hn
  have gj : sw_ok j := sw_hd G.2.2.2.2
  have K := kk p l e s m args below meth c E H locs lsA C (G.st (sw_cn (v := sR k2 (g i j)) trivial (sw_tl (sw_tl G.2.2.2.2))))
  refine va_aldq (D := E.2.2) C.1 C.2.1 (sw_PK C.2.2.2.2.2.2.2.2.1 C.2.2.2.2.2.2.2.1 hsh) (sw_PP (E := E) G.1 hsh hi) 0 0 (f := fun q => some (E.1 k2 (g i (q : Int)))) rfl rfl (sw_vin gj hj.1 hj.2) hd ?_
  show W _ _ _ _ _ _ _ _ _ _ _ _ _ _ _ (F0 m (pc + 1) lsA (.ref (E.1 k2 (g i (((Int32.ofInt j).toNatClampNeg : Nat) : Int))) :: _))
  rw [sw_cl gj, Int.toNat_of_nonneg hj.1]
  exact K
theorem wm_alen {k len : Nat} {i cnt : Int} {ty : FieldType} {v : Int} (hd : decode d.1 pc = .ok (.arraylength, 1)) (hn : pc + 1 = n) (hsh : sh k = some (cnt, .inr (ty, len, none))) (hi : 0 ≤ i ∧ i < cnt) (hv : (len : Int) = v) (ho : v ≤ 2147483647) (kk : WM sh d Q n ls (sI v :: st) M) : WM sh d Q pc ls (sR k i :: st) M := by
  intro p l e s m args below meth c E H locs lsA C G
  subst hn; subst hv
  exact va_alen (D := E.2.2) C.1 C.2.1 (sw_PK C.2.2.2.2.2.2.2.2.1 C.2.2.2.2.2.2.2.1 hsh) (sw_PP (E := E) G.1 hsh hi) 0 0 (x := (len, .inl (fun q => Int32.ofInt (M k i (q : Int))))) rfl rfl (v := Int32.ofInt (len : Int)) (by rfl) hd (kk p l e s m args below meth c E H locs lsA C (G.st (sw_cn (v := sI (len : Int)) (show sw_ok (len : Int) from ⟨by omega, ho⟩) (sw_tl G.2.2.2.2))))
theorem sw_arr_up {E : sw_E} {k len : Nat} {i j a : Int} {H1 : Heap} (hj : 0 ≤ j) (e : H1[E.1 k i]? = some ((vp_cell (E.2.1 k) (len, .inl (fun q => Int32.ofInt (M k i (q : Int))))).setSlot j.toNat (.int (Int32.ofInt a)))) {ty : FieldType} : va_at E.2.2 vwCl (E.1 k i, sw_cell E (up M k i j a) k i (.inr (ty, len, none))) H1 := by
  show H1[E.1 k i]? = some (vp_cell (E.2.1 k) (len, .inl (fun q => Int32.ofInt (up M k i j a k i (q : Int)))))
  rw [e, vp_cell_i, vp_cell_i, arrV_store]
  congr 2
  funext q
  by_cases hq : q = j.toNat
  · subst hq
    simp only [updV, if_true]
    rw [Int.toNat_of_nonneg hj, up_same]
  · simp only [updV, if_neg hq]
    rw [up_ne (fun z => hq (by have := z.2.2; omega))]
theorem wm_iastore {k len : Nat} {i j cnt a : Int} (hd : decode d.1 pc = .ok (.iastore, 1)) (hn : pc + 1 = n) (hsh : sh k = some (cnt, .inr (.int, len, none))) (hi : 0 ≤ i ∧ i < cnt) (hj : 0 ≤ j ∧ j < (len : Int)) (kk : WM sh d Q n ls st (up M k i j a)) : WM sh d Q pc ls (sI a :: sI j :: sR k i :: st) M := by
  intro p l e s m args below meth c E H locs lsA C G
  subst hn
  have gj : sw_ok j := sw_hd (sw_tl G.2.2.2.2)
  have hA : sw_A sh E (E.1 k i) := ⟨k, i, _, hsh, hi.1, hi.2, rfl⟩
  have hin := sw_vin gj hj.1 hj.2
  refine W.iast C.1 C.2.1 (sw_PP (E := E) G.1 hsh hi 0 _ rfl) ((C.2.2.2.2.2.2.2.2.1 k cnt .int len none hsh).1 len (fun q => .int (Int32.ofInt (M k i (q : Int))))) (fun q => by cases q) (by show ¬ (_ ∨ (arrV _ _ _).slots.size ≤ _); rw [arrV_size]; exact hin) rfl rfl hd fun H1 e1 e2 e3 => ?_
  rw [sw_cl gj] at e1
  refine kk p l e s m args below meth c E H1 _ lsA C ⟨?_, sw_okM_up G.2.1 (sw_hd G.2.2.2.2), ⟨G.2.2.1.1.put e2 e3 hA, e2.trans G.2.2.1.2⟩, G.2.2.2.1, sw_tl (sw_tl (sw_tl G.2.2.2.2))⟩
  exact sw_P_set G.1 C.2.2.2.2.2.2.2.2.2.1 hsh hi.1 hi.2 e3 (fun k' i' j' hne => up_ne (fun z => hne ⟨z.1, z.2.1⟩)) (sw_arr_up hj.1 e1)
theorem wm_zastore {k len : Nat} {i j cnt a : Int} (hd : decode d.1 pc = .ok (.bastore, 1)) (hn : pc + 1 = n) (hsh : sh k = some (cnt, .inr (.boolean, len, none))) (hi : 0 ≤ i ∧ i < cnt) (hj : 0 ≤ j ∧ j < (len : Int)) (hz : narrow .boolean (.int (Int32.ofInt a)) = .int (Int32.ofInt a)) (kk : WM sh d Q n ls st (up M k i j a)) : WM sh d Q pc ls (sI a :: sI j :: sR k i :: st) M := by
  intro p l e s m args below meth c E H locs lsA C G
  subst hn
  have gj : sw_ok j := sw_hd (sw_tl G.2.2.2.2)
  have hA : sw_A sh E (E.1 k i) := ⟨k, i, _, hsh, hi.1, hi.2, rfl⟩
  have hin := sw_vin gj hj.1 hj.2
  refine W.zast C.1 C.2.1 (sw_PP (E := E) G.1 hsh hi 0 _ rfl) ((C.2.2.2.2.2.2.2.2.1 k cnt .boolean len none hsh).1 len (fun q => .int (Int32.ofInt (M k i (q : Int))))) (fun q => by cases q) (by show ¬ (_ ∨ (arrV _ _ _).slots.size ≤ _); rw [arrV_size]; exact hin) rfl rfl hd fun H1 e1 e2 e3 => ?_
  rw [sw_cl gj] at e1
  have e1 : H1[E.1 k i]? = some ((vp_cell (E.2.1 k) (len, .inl (fun q => Int32.ofInt (M k i (q : Int))))).setSlot j.toNat (.int (Int32.ofInt a))) := by
    rw [e1]; first | rfl | rw [hz] | (simp only [hz]; rfl)
  refine kk p l e s m args below meth c E H1 _ lsA C ⟨?_, sw_okM_up G.2.1 (sw_hd G.2.2.2.2), ⟨G.2.2.1.1.put e2 e3 hA, e2.trans G.2.2.1.2⟩, G.2.2.2.1, sw_tl (sw_tl (sw_tl G.2.2.2.2))⟩
  exact sw_P_set G.1 C.2.2.2.2.2.2.2.2.2.1 hsh hi.1 hi.2 e3 (fun k' i' j' hne => up_ne (fun z => hne ⟨z.1, z.2.1⟩)) (sw_arr_up hj.1 e1)
/-- ends -/
theorem wm_ireturn {a : Int} (hd : decode d.1 pc = .ok (.ireturn, 1)) (hrt : d.2.2.2.1 = some .int) (hQ : Q (some (sI a)) M) : WM sh d Q pc ls [sI a] M := by
  intro p l e s m args below meth c E H locs lsA C G
  have hlk := C.2.2.2.2.2.1
  exact W.iret (v := Int32.ofInt a) C.1 C.2.1 (C.2.2.1.trans hrt) (fun t ht hW => ⟨_, _, hQ, rfl, by rw [ht]; exact G.1, G.2.1, fun v hv => by cases hv; exact sw_hd G.2.2.2.2, G.2.2.1.1.F ht, by rw [ht]; exact G.2.2.1.2⟩) G.2.2.1.1.2.2 hd
theorem wm_zreturn {a : Int} {ty : FieldType} (hd : decode d.1 pc = .ok (.ireturn, 1)) (hrt : d.2.2.2.1 = some ty) (hz : narrow ty (.int (Int32.ofInt a)) = .int (Int32.ofInt a)) (hQ : Q (some (sI a)) M) : WM sh d Q pc ls [sI a] M := by
  intro p l e s m args below meth c E H locs lsA C G
  have hlk := C.2.2.2.2.2.1
  exact W.zret (v := Int32.ofInt a) C.1 C.2.1 (C.2.2.1.trans hrt) hz (fun t ht hW => ⟨_, _, hQ, rfl, by rw [ht]; exact G.1, G.2.1, fun v hv => by cases hv; exact sw_hd G.2.2.2.2, G.2.2.1.1.F ht, by rw [ht]; exact G.2.2.1.2⟩) G.2.2.1.1.2.2 hd
theorem wm_areturn {k : Nat} {i : Int} {rt : FieldType} (hd : decode d.1 pc = .ok (.areturn, 1)) (hrt : d.2.2.2.1 = some rt) (hc : (∃ n, rt = .object n) ∨ ∃ t, rt = .array t) (hQ : Q (some (sR k i)) M) : WM sh d Q pc ls [sR k i] M := by
  intro p l e s m args below meth c E H locs lsA C G
  have hlk := C.2.2.2.2.2.1
  exact W.aret (v := .ref (E.1 k i)) C.1 C.2.1 (C.2.2.1.trans hrt) hc (Or.inr ⟨_, rfl⟩) (fun t ht hW => ⟨_, _, hQ, rfl, by rw [ht]; exact G.1, G.2.1, fun v hv => by cases hv; exact sw_hd G.2.2.2.2, G.2.2.1.1.F ht, by rw [ht]; exact G.2.2.1.2⟩) G.2.2.1.1.2.2 hd
theorem wm_return (hd : decode d.1 pc = .ok (.return_, 1)) (hrt : d.2.2.2.1 = none) (hQ : Q none M) : WM sh d Q pc ls [] M := by
  intro p l e s m args below meth c E H locs lsA C G
  have hlk := C.2.2.2.2.2.1
  exact W.vret C.1 C.2.1 (C.2.2.1.trans hrt) (fun t ht hW => ⟨_, _, hQ, rfl, by rw [ht]; exact G.1, G.2.1, fun v hv => (by cases hv), G.2.2.1.1.F ht, by rw [ht]; exact G.2.2.1.2⟩) G.2.2.1.1.2.2 hd
end HROWS
end
section
/-! The small machine's calls and entries. -/
theorem sw_vk_R_same {own tx : String} {k a : Nat} {u U : State} (hv : U.vm = u.vm) (h : vk_R own k tx a u) : vk_R own k tx a U := vk_R.same hv h
theorem sw_X.same {E : sw_E} {A : Nat → Prop} {u U : State} {H : Heap} (hv : U.vm = u.vm) (h : sw_X E A u H) : sw_X E A U H := by
  have ha : u.vm.Alike U.vm := by rw [hv]; exact Vm.Alike.refl u.vm
  exact ⟨h.1.moved ha, h.2.1.moved ha, sw_Zq_moved ha h.2.2.1, ⟨h.2.2.2.1.1.moved ha, h.2.2.2.1.2.moved ha⟩, ⟨h.2.2.2.2.1.1.moved ha, h.2.2.2.2.1.2.moved ha⟩, fun i q hi => vk_R.same hv (h.2.2.2.2.2 i q hi)⟩
theorem sw_blind {sh : sw_Sh} {E : sw_E} {as : List sw_V} {M : sw_M} : FrameBlind (sw_Pc sh E as M) := by
  intro a U g mk q
  obtain ⟨q0, q1, q2, q3, q4, q5, q6, q7, q8⟩ := q
  exact ⟨q0, q1, q2, q3, va_K.moved (u := U) (U := U.calling g mk a) (Vm.Alike.refl U.vm) q4, sw_T.moved (u := U) (U := U.calling g mk a) (Vm.Alike.refl U.vm) q5, q6, fun w hw => (q7 w hw).same rfl rfl, sw_X.same (u := U) (U := U.calling g mk a) rfl q8⟩
theorem sw_pre {sh : sw_Sh} {d : sw_D} {p : Program} {s : State} {m : MethodId} {args : Array Value} {meth : Method} {c : Code} {E : sw_E} {H : Heap} {locs : List Loc} {lsA : Array Slot} {ls st as : List sw_V} {M : sw_M} (C : sw_C sh d p s m args meth c E) (G : sw_G sh d s E H locs lsA ls st M) (has : ∀ v ∈ as, sw_okV v) : ∀ U : State, U.heap = H → s.WarmedH U.vm → sw_Pc sh E as M (as.map (sw_vl E)).toArray U := by
  intro U hU hW
  obtain ⟨-, -, -, -, -, -, -, cK, cT, cJ, cN, cX⟩ := C
  exact ⟨rfl, by rw [hU]; exact G.1, G.2.1, has, va_K.moved hW.alike cK, cT.moved hW.alike, cJ, cN.warm hW, by rw [hU]; exact (cX.kept (fun a h1 h2 => G.2.2.1.1.2.1 a h1 h2)).warm hW⟩
theorem sw_rev {as st : List sw_V} {v : sw_V} (h : ∀ u ∈ as.reverse ++ v :: st, sw_okV u) : (∀ u ∈ v :: as, sw_okV u) ∧ ∀ u ∈ st, sw_okV u :=
  ⟨fun u hu => h u (by rcases List.mem_cons.mp hu with e | e; exact List.mem_append_right _ (by rw [e]; exact List.mem_cons_self); exact List.mem_append_left _ (List.mem_reverse.mpr e)), fun u hu => h u (List.mem_append_right _ (List.mem_cons_of_mem _ hu))⟩
theorem sw_rev0 {as st : List sw_V} (h : ∀ u ∈ as.reverse ++ st, sw_okV u) : (∀ u ∈ as, sw_okV u) ∧ ∀ u ∈ st, sw_okV u :=
  ⟨fun u hu => h u (List.mem_append_left _ (List.mem_reverse.mpr hu)), fun u hu => h u (List.mem_append_right _ hu)⟩
theorem sw_cats {E : sw_E} : ∀ st : List sw_V, ((st.map (sw_vl E)).map fun v => v.category).sum = st.length
  | [] => rfl
  | v :: st => by
    show (sw_vl E v).category + ((st.map (sw_vl E)).map fun v => v.category).sum = st.length + 1
    rw [sw_cat, sw_cats st]; omega
def sw_rm (d dy : sw_D) : Prop := dy.2.2.2.2.frames + 1 ≤ d.2.2.2.2.frames ∧ 8 + (dy.2.2.1 + 11) + dy.2.2.2.2.locals ≤ d.2.2.2.2.locals
theorem sw_gi {y : MethodName} {dy : sw_D} (h : Cond.code y dy.1 dy.2.2.1 dy.2.2.2.1 ∈ tbG) : GoodIn tbG (Cond.code y dy.1 dy.2.2.1 dy.2.2.2.1 :: tbG) := fun w hw => by
  rcases List.mem_cons.mp hw with e | e
  · rw [e]; exact ⟨h, tbG_good _ h⟩
  · exact ⟨e, tbG_good _ e⟩
section CROWS
variable {sh : sw_Sh} {d : sw_D} {Q : sw_R} {M : sw_M} {pc n : Nat} {ls st : List sw_V}
theorem sw_run {p : Program} {l : Launch} {e : Env} {s : State} {m : MethodId} {args : Array Value} {below : List Frame} {meth : Method} {c : Code} {E : sw_E} {H : Heap} {locs : List Loc} {lsA : Array Slot} {st0 : List Value} {stG : List sw_V} {Q1 : sw_R} {a : Array Value}
    (hr : va_Run p l e d.2.2.2.2 s m args below meth c H locs 0 0 0 0 (F0 m pc lsA st0) (st.map (sw_vl E)) (sw_Q sh E Q1 a) (sw_A sh E)) (C : sw_C sh d p s m args meth c E) (G : sw_G sh d s E H locs lsA ls stG M) (hst : ∀ v ∈ st, sw_okV v)
    (kk : ∀ r1 M1, Q1 r1 M1 → WM sh d Q (pc + 3) ls (r1.toList ++ st) M1) : W p l e d.2.2.2.2 s m args below meth c H locs 0 0 (MQ below (sw_Q sh E Q) args s 0 0 (sw_A sh E)) (F0 m pc lsA st0) := by
  intro T hT X
  obtain ⟨v, st₀, t, T', L, h0, X', hL, e1, e2, ⟨r1, M1, hq1, hv, hP, hok, hokr, hF, hz⟩, sgo⟩ := hr T hT X
  have hv : v = r1.map (sw_vl E) := by injection hv
  subst hv
  have hS : va_S (sw_A sh E) s.heap T'.heap (locs ++ L) := by
    refine ⟨?_, fun q h1 h2 => ?_, fun q hq => ?_⟩
    · rw [e1, hz, h0]; exact G.2.2.1.1.1
    · rw [e1, hF.2 q (by rw [h0]; exact Nat.lt_of_lt_of_le h1 G.2.2.1.1.1) h2, h0]; exact G.2.2.1.1.2.1 q h1 h2
    · rcases List.mem_append.mp hq with h | h
      · exact G.2.2.1.1.2.2 q h
      · exact hL q h
  have G' : sw_G sh d s E T'.heap (locs ++ L) lsA ls (r1.toList ++ st) M1 := by
    refine ⟨by rw [e1]; exact hP, hok, ⟨hS, by rw [e1, hz, h0]; exact G.2.2.1.2⟩, G.2.2.2.1, fun v hv => ?_⟩
    rcases List.mem_append.mp hv with h | h
    · exact hokr v (Option.mem_toList.mp h)
    · exact hst v h
  obtain ⟨t2, a1, b1⟩ := kk r1 M1 hq1 p l e s m args below meth c E T'.heap (locs ++ L) lsA C G' T' rfl X'
  refine ⟨t2, sgo t2 ?_, b1⟩
  have he : (r1.map (sw_vl E)).toList ++ st.map (sw_vl E) = (r1.toList ++ st).map (sw_vl E) := by cases r1 <;> rfl
  rw [he]; exact a1
theorem wm_callvQ {ix np k ci : Nat} {i cnt : Int} {fs : List sw_F} {y : MethodName} {dy : sw_D} {as st0 : List sw_V} {Q1 : sw_R} (hd : decode d.1 pc = .ok (.invokevirtual ix, 3)) (hn : pc + 3 = n) (hc : sw_cv d.2.1 ix y dy np) (hR : sw_rm d dy) (hs : Sp sh y dy (sR k i :: as) M Q1) (hstk : st0 = as.reverse ++ sR k i :: st) (hnp : as.length = np) (hsh : sh k = some (cnt, .inl (ci, fs))) (hcl : (vwCl[ci]?).map (fun q => q.1) = some y.cls) (hi : 0 ≤ i ∧ i < cnt) (hl : st.length ≤ 8) (kk : ∀ r1 M1, Q1 r1 M1 → WM sh d Q n ls (r1.toList ++ st) M1) : WM sh d Q pc ls st0 M := by
  intro p l e s m args below meth c E H locs lsA C G
  subst hn; subst hstk; subst hnp
  obtain ⟨⟨⟨c1, c2⟩, c3, c4, c5⟩, c6, c7, c8⟩ := hc
  have hts := C.2.2.2.2.2.2.1
  have hok := sw_rev G.2.2.2.2
  have hP := sw_PP (E := E) G.1 hsh hi
  cases hv : vwCl[ci]? with
  | none => rw [hv] at hcl; cases hcl
  | some q =>
    rw [hv] at hcl
    have hcl : q.1 = y.cls := by injection hcl
    have hrc := va_recv (q0 := 0) C.2.2.2.2.2.2.2.1 hP hv rfl
    rw [hcl] at hrc
    have hrun := va_runV (l := l) (e := e) (below := below) (meth := meth) (H := H) (locs := locs) (cells := 0) (slots := 0) (R := d.2.2.2.2) (b := E.1 k i) (As := as.map (sw_vl E)) (rest := st.map (sw_vl E)) (g := F0 m pc lsA ((as.reverse ++ sR k i :: st).map (sw_vl E))) ⟨C.1, C.2.1, C.2.2.2.1, C.2.2.2.2.1, hts⟩ (hs l E)
      ⟨callB_of as.length hts (sw_gi c1) rfl c4 c5 (hts _ c2) (hts _ c6) c3 hR, hts _ c7, hts _ c8⟩ ⟨sw_blind, hrc, fun U hU hW => sw_pre (as := sR k i :: as) C G hok.1 U hU hW⟩ rfl (by rw [List.length_map]) (by show lsA.size = _; exact G.2.2.2.1.1) (by show List.map _ _ = _; rw [List.map_append, List.map_reverse]; rfl) (lv_room (by rw [sw_cats]; exact hl)) hd ⟨Nat.zero_le _, Nat.zero_le _⟩
    exact sw_run hrun C G hok.2 kk
theorem wm_callv {ix np k ci : Nat} {i cnt : Int} {fs : List sw_F} {y : MethodName} {dy : sw_D} {as st0 : List sw_V} {v : sw_V} {M1 : sw_M} (hd : decode d.1 pc = .ok (.invokevirtual ix, 3)) (hn : pc + 3 = n) (hc : sw_cv d.2.1 ix y dy np) (hR : sw_rm d dy) (hs : Sp sh y dy (sR k i :: as) M (isr (some v) M1)) (hstk : st0 = as.reverse ++ sR k i :: st) (hnp : as.length = np) (hsh : sh k = some (cnt, .inl (ci, fs))) (hcl : (vwCl[ci]?).map (fun q => q.1) = some y.cls) (hi : 0 ≤ i ∧ i < cnt) (hl : st.length ≤ 8) (kk : WM sh d Q n ls (v :: st) M1) : WM sh d Q pc ls st0 M := wm_callvQ hd hn hc hR hs hstk hnp hsh hcl hi hl (fun r1 M1 h => by obtain ⟨rfl, rfl⟩ := h; exact kk)
theorem wm_callvV {ix np k ci : Nat} {i cnt : Int} {fs : List sw_F} {y : MethodName} {dy : sw_D} {as st0 : List sw_V} {M1 : sw_M} (hd : decode d.1 pc = .ok (.invokevirtual ix, 3)) (hn : pc + 3 = n) (hc : sw_cv d.2.1 ix y dy np) (hR : sw_rm d dy) (hs : Sp sh y dy (sR k i :: as) M (isr none M1)) (hstk : st0 = as.reverse ++ sR k i :: st) (hnp : as.length = np) (hsh : sh k = some (cnt, .inl (ci, fs))) (hcl : (vwCl[ci]?).map (fun q => q.1) = some y.cls) (hi : 0 ≤ i ∧ i < cnt) (hl : st.length ≤ 8) (kk : WM sh d Q n ls st M1) : WM sh d Q pc ls st0 M := wm_callvQ hd hn hc hR hs hstk hnp hsh hcl hi hl (fun r1 M1 h => by obtain ⟨rfl, rfl⟩ := h; exact kk)
theorem wm_callsQ {ix np : Nat} {y : MethodName} {dy : sw_D} {as st0 : List sw_V} {Q1 : sw_R} (hd : decode d.1 pc = .ok (.invokestatic ix, 3)) (hn : pc + 3 = n) (hc : sw_cs d.2.1 ix y dy np) (hR : sw_rm d dy) (hs : Sp sh y dy as M Q1) (hstk : st0 = as.reverse ++ st) (hnp : as.length = np) (hl : st.length ≤ 8) (kk : ∀ r1 M1, Q1 r1 M1 → WM sh d Q n ls (r1.toList ++ st) M1) : WM sh d Q pc ls st0 M := by
  intro p l e s m args below meth c E H locs lsA C G
  subst hn; subst hstk; subst hnp
  obtain ⟨⟨⟨c1, c2⟩, c3, c4, c5⟩, c6, c7⟩ := hc
  have hts := C.2.2.2.2.2.2.1
  have hok := sw_rev0 G.2.2.2.2
  have hrun := va_runS (l := l) (e := e) (below := below) (meth := meth) (H := H) (locs := locs) (cells := 0) (slots := 0) (R := d.2.2.2.2) (As := as.map (sw_vl E)) (rest := st.map (sw_vl E)) (g := F0 m pc lsA ((as.reverse ++ st).map (sw_vl E))) ⟨C.1, C.2.1, C.2.2.2.1, C.2.2.2.2.1, hts⟩ (hs l E)
      ⟨callB_of as.length hts (sw_gi c1) rfl c4 c5 (hts _ c2) (hts _ c6) c3 hR, hts _ c7⟩ ⟨sw_blind, fun U hU hW => sw_pre (as := as) C G hok.1 U hU hW⟩ rfl (by rw [List.length_map]) (by show lsA.size = _; exact G.2.2.2.1.1) (by show List.map _ _ = _; rw [List.map_append, List.map_reverse]) (lv_room (by rw [sw_cats]; exact hl)) hd ⟨Nat.zero_le _, Nat.zero_le _⟩
  exact sw_run hrun C G hok.2 kk
theorem wm_calls {ix np : Nat} {y : MethodName} {dy : sw_D} {as st0 : List sw_V} {v : sw_V} {M1 : sw_M} (hd : decode d.1 pc = .ok (.invokestatic ix, 3)) (hn : pc + 3 = n) (hc : sw_cs d.2.1 ix y dy np) (hR : sw_rm d dy) (hs : Sp sh y dy as M (isr (some v) M1)) (hstk : st0 = as.reverse ++ st) (hnp : as.length = np) (hl : st.length ≤ 8) (kk : WM sh d Q n ls (v :: st) M1) : WM sh d Q pc ls st0 M := wm_callsQ hd hn hc hR hs hstk hnp hl (fun r1 M1 h => by obtain ⟨rfl, rfl⟩ := h; exact kk)
theorem wm_callsV {ix np : Nat} {y : MethodName} {dy : sw_D} {as st0 : List sw_V} {M1 : sw_M} (hd : decode d.1 pc = .ok (.invokestatic ix, 3)) (hn : pc + 3 = n) (hc : sw_cs d.2.1 ix y dy np) (hR : sw_rm d dy) (hs : Sp sh y dy as M (isr none M1)) (hstk : st0 = as.reverse ++ st) (hnp : as.length = np) (hl : st.length ≤ 8) (kk : WM sh d Q n ls st M1) : WM sh d Q pc ls st0 M := wm_callsQ hd hn hc hR hs hstk hnp hl (fun r1 M1 h => by obtain ⟨rfl, rfl⟩ := h; exact kk)
theorem wm_calln {ix np : Nat} {y : MethodName} {dy : sw_D} {as st0 : List sw_V} {v : sw_V} {M1 : sw_M} (hd : decode d.1 pc = .ok (.invokestatic ix, 3)) (hn : pc + 3 = n) (hc : sw_cn1 d.2.1 ix y dy np) (hR : sw_rm d dy) (hs : Sp sh y dy as M (isr (some v) M1)) (hstk : st0 = as.reverse ++ st) (hnp : as.length = np) (hl : st.length ≤ 8) (kk : WM sh d Q n ls (v :: st) M1) : WM sh d Q pc ls st0 M := by
  intro p l e s m args below meth c E H locs lsA C G
  subst hn; subst hstk; subst hnp
  obtain ⟨⟨⟨c1, c2⟩, c3, c4, c5⟩, ⟨host, c6⟩, c7⟩ := hc
  have hts := C.2.2.2.2.2.2.1
  have hok := sw_rev0 G.2.2.2.2
  have hrun := va_runSN (l := l) (e := e) (below := below) (meth := meth) (H := H) (locs := locs) (cells := 0) (slots := 0) (R := d.2.2.2.2) (As := as.map (sw_vl E)) (rest := st.map (sw_vl E)) (g := F0 m pc lsA ((as.reverse ++ st).map (sw_vl E))) ⟨C.1, C.2.1, C.2.2.2.1, C.2.2.2.2.1, hts⟩ (hs l E)
      ⟨va_cnB as.length hts (sw_gi c1) rfl c4 c5 (C.2.2.2.2.2.2.2.2.2.2.1 _ c6) (hts _ c2) c3 hR, hts _ c7, trivial⟩ ⟨sw_blind, fun U hU hW => sw_pre (as := as) C G hok.1 U hU hW⟩ rfl (by rw [List.length_map]) (by show lsA.size = _; exact G.2.2.2.1.1) (by show List.map _ _ = _; rw [List.map_append, List.map_reverse]) (lv_room (by rw [sw_cats]; exact hl)) hd ⟨Nat.zero_le _, Nat.zero_le _⟩
  exact sw_run hrun C G hok.2 (fun r1 M1 h => by obtain ⟨rfl, rfl⟩ := h; exact kk)
theorem sw_sl (E : sw_E) : ∀ as : List sw_V, lg_sl (as.map (sw_vl E)) = as.map (fun v => Slot.val (sw_vl E v))
  | [] => rfl
  | v :: as => by
    show (if (sw_vl E v).category = 2 then _ else _) ++ lg_sl (as.map (sw_vl E)) = _
    rw [sw_cat, sw_sl E as]; rfl
theorem Sp.of {y : MethodName} {as : List sw_V} (ls : List sw_V) (hy : plainName y.cls = true) (hown : d.2.1 = y.cls) (hls : ls = as ++ List.replicate (d.2.2.1 - as.length) sU) (hlen : as.length ≤ d.2.2.1) (kk : WM sh d Q 0 ls [] M) : Sp sh y d as M Q := by
  intro l E
  refine Met.ofW (cc := d.1) (maxL := d.2.2.1) (ret := d.2.2.2.1) hy rfl ?_
  intro p e s m args below meth c s₁ B hml hv
  obtain ⟨rfl, hP, hok, hoks, hK, hT, hJ, hN, hX⟩ := hv
  have hts := atoms_spec (ws := Cond.code y d.1 d.2.2.1 d.2.2.2.1 :: tbG) B.pre
  have C : sw_C sh d p s m (as.map (sw_vl E)).toArray meth c E := ⟨B.exec, B.bytes, B.returns, hml, by rw [hown]; exact findClass_of_methodNamed B.named, B.notSynchronized, fun w hw => hts w (List.mem_cons_of_mem _ hw), hK, hT, hJ, hN, hX⟩
  have hln : (lg_sl (as.map (sw_vl E))).length ≤ d.2.2.1 := by rw [sw_sl, List.length_map]; exact hlen
  have hl := lv_entry (as.map (sw_vl E)) (n := d.2.2.1) hln
  rw [lg_entry_eq]
  refine kk p l e s m _ below meth c E s.heap [] _ C ⟨hP, hok, ⟨va_S.rf, rfl⟩, ⟨hl.1, hl.2.1, fun j v hj hv => ?_, fun v hv => ?_, ?_⟩, fun v hv => (by cases hv)⟩
  · rw [hls] at hj
    have hjl : j < as.length := by
      rcases Nat.lt_or_ge j as.length with q | q
      · exact q
      · rw [List.getElem?_append_right q] at hj
        exact absurd (List.eq_of_mem_replicate (List.mem_of_getElem? hj)) hv
    rw [List.getElem?_append_left hjl] at hj
    rw [sw_sl, List.getElem?_toArray, List.getElem?_append_left (by rw [List.length_map]; exact hjl), List.getElem?_map, hj]
    rfl
  · rw [hls] at hv
    rcases List.mem_append.mp hv with h | h
    · exact hoks v h
    · rw [List.eq_of_mem_replicate h]; trivial
  · rw [hls, List.length_append, List.length_replicate]; omega
end CROWS
end
section
/-! More rows: calls that answer a boolean and change nothing; Math.max, Math.min; System.arraycopy of a whole row. -/
def Bp (sh : sw_Sh) (y : MethodName) (d : sw_D) (as : List sw_V) (M : sw_M) (P : Prop) : Prop := (P → Sp sh y d as M (isr (some (sI 1)) M)) ∧ (¬ P → Sp sh y d as M (isr (some (sI 0)) M))
section BROWS
variable {sh : sw_Sh} {d : sw_D} {Q : sw_R} {M : sw_M} {pc n : Nat} {ls st : List sw_V}
theorem wm_callvB {ix np k ci : Nat} {i cnt : Int} {fs : List sw_F} {y : MethodName} {dy : sw_D} {as st0 : List sw_V} {P : Prop} (hd : decode d.1 pc = .ok (.invokevirtual ix, 3)) (hn : pc + 3 = n) (hc : sw_cv d.2.1 ix y dy np) (hR : sw_rm d dy) (hs : Bp sh y dy (sR k i :: as) M P) (hstk : st0 = as.reverse ++ sR k i :: st) (hnp : as.length = np) (hsh : sh k = some (cnt, .inl (ci, fs))) (hcl : (vwCl[ci]?).map (fun q => q.1) = some y.cls) (hi : 0 ≤ i ∧ i < cnt) (hl : st.length ≤ 8) (k1 : P → WM sh d Q n ls (sI 1 :: st) M) (k0 : ¬ P → WM sh d Q n ls (sI 0 :: st) M) : WM sh d Q pc ls st0 M := by
  by_cases hP : P
  · exact wm_callv hd hn hc hR (hs.1 hP) hstk hnp hsh hcl hi hl (k1 hP)
  · exact wm_callv hd hn hc hR (hs.2 hP) hstk hnp hsh hcl hi hl (k0 hP)
theorem wm_callsB {ix np : Nat} {y : MethodName} {dy : sw_D} {as st0 : List sw_V} {P : Prop} (hd : decode d.1 pc = .ok (.invokestatic ix, 3)) (hn : pc + 3 = n) (hc : sw_cs d.2.1 ix y dy np) (hR : sw_rm d dy) (hs : Bp sh y dy as M P) (hstk : st0 = as.reverse ++ st) (hnp : as.length = np) (hl : st.length ≤ 8) (k1 : P → WM sh d Q n ls (sI 1 :: st) M) (k0 : ¬ P → WM sh d Q n ls (sI 0 :: st) M) : WM sh d Q pc ls st0 M := by
  by_cases hP : P
  · exact wm_calls hd hn hc hR (hs.1 hP) hstk hnp hl (k1 hP)
  · exact wm_calls hd hn hc hR (hs.2 hP) hstk hnp hl (k0 hP)
theorem wm_callnB {ix np : Nat} {y : MethodName} {dy : sw_D} {as st0 : List sw_V} {P : Prop} (hd : decode d.1 pc = .ok (.invokestatic ix, 3)) (hn : pc + 3 = n) (hc : sw_cn1 d.2.1 ix y dy np) (hR : sw_rm d dy) (hs : Bp sh y dy as M P) (hstk : st0 = as.reverse ++ st) (hnp : as.length = np) (hl : st.length ≤ 8) (k1 : P → WM sh d Q n ls (sI 1 :: st) M) (k0 : ¬ P → WM sh d Q n ls (sI 0 :: st) M) : WM sh d Q pc ls st0 M := by
  by_cases hP : P
  · exact wm_calln hd hn hc hR (hs.1 hP) hstk hnp hl (k1 hP)
  · exact wm_calln hd hn hc hR (hs.2 hP) hstk hnp hl (k0 hP)
def sw_mx (own : String) (ix : Nat) : Prop := Cond.methodLink own ix Lib.Math.max.name ∈ tbG ∧ Cond.static Lib.Math.max.name ∈ tbG ∧ Cond.initialized "java/lang/Math" ∈ tbG ∧ Cond.code Lib.Math.max.name Lib.Math.max.code 2 (some .int) ∈ tbG
def sw_mn (own : String) (ix : Nat) : Prop := Cond.methodLink own ix Lib.Math.min.name ∈ tbG ∧ Cond.static Lib.Math.min.name ∈ tbG ∧ Cond.initialized "java/lang/Math" ∈ tbG ∧ Cond.code Lib.Math.min.name Lib.Math.min.code 2 (some .int) ∈ tbG
theorem wm_max {ix : Nat} {a b : Int} (hd : decode d.1 pc = .ok (.invokestatic ix, 3)) (hn : pc + 3 = n) (hk : sw_mx d.2.1 ix) (hR : 1 ≤ d.2.2.2.2.frames ∧ 21 ≤ d.2.2.2.2.locals) (hl : st.length ≤ 8) (kk : WM sh d Q n ls (sI (if a < b then b else a) :: st) M) : WM sh d Q pc ls (sI b :: sI a :: st) M := by
  intro p l e s m args below meth c E H locs lsA C G
  subst hn
  have ga : sw_ok a := sw_hd (sw_tl G.2.2.2.2)
  have gb : sw_ok b := sw_hd G.2.2.2.2
  have hts := C.2.2.2.2.2.2.1
  have K := kk p l e s m args below meth c E H locs lsA C (G.st (sw_cn (v := sI (if a < b then b else a)) (by by_cases h : a < b; rw [if_pos h]; exact gb; rw [if_neg h]; exact ga) (sw_tl (sw_tl G.2.2.2.2))))
  refine va_mmax C.1 C.2.1 (by rw [C.2.2.2.1]; exact G.2.2.2.1.1.symm) C.2.2.2.2.1 (hts _ hk.1) (hts _ hk.2.1) (hts _ hk.2.2.1) (hts _ hk.2.2.2) hR.1 (by rw [sw_cats]; omega) (Nat.zero_le _) (Nat.zero_le _) hd ?_
  have hv : (if Int32.ofInt a < Int32.ofInt b then Int32.ofInt b else Int32.ofInt a) = Int32.ofInt (if a < b then b else a) := by
    by_cases h : a < b
    · rw [if_pos h, if_pos ((sw_lt ga gb).mpr h)]
    · rw [if_neg h, if_neg (fun z => h ((sw_lt ga gb).mp z))]
  rw [hv]; exact K
theorem wm_min {ix : Nat} {a b : Int} (hd : decode d.1 pc = .ok (.invokestatic ix, 3)) (hn : pc + 3 = n) (hk : sw_mn d.2.1 ix) (hR : 1 ≤ d.2.2.2.2.frames ∧ 21 ≤ d.2.2.2.2.locals) (hl : st.length ≤ 8) (kk : WM sh d Q n ls (sI (if b < a then b else a) :: st) M) : WM sh d Q pc ls (sI b :: sI a :: st) M := by
  intro p l e s m args below meth c E H locs lsA C G
  subst hn
  have ga : sw_ok a := sw_hd (sw_tl G.2.2.2.2)
  have gb : sw_ok b := sw_hd G.2.2.2.2
  have hts := C.2.2.2.2.2.2.1
  have K := kk p l e s m args below meth c E H locs lsA C (G.st (sw_cn (v := sI (if b < a then b else a)) (by by_cases h : b < a; rw [if_pos h]; exact gb; rw [if_neg h]; exact ga) (sw_tl (sw_tl G.2.2.2.2))))
  refine va_mmin C.1 C.2.1 (by rw [C.2.2.2.1]; exact G.2.2.2.1.1.symm) C.2.2.2.2.1 (hts _ hk.1) (hts _ hk.2.1) (hts _ hk.2.2.1) (hts _ hk.2.2.2) hR.1 (by rw [sw_cats]; omega) (Nat.zero_le _) (Nat.zero_le _) hd ?_
  have hv : (if Int32.ofInt b < Int32.ofInt a then Int32.ofInt b else Int32.ofInt a) = Int32.ofInt (if b < a then b else a) := by
    by_cases h : b < a
    · rw [if_pos h, if_pos ((sw_lt gb ga).mpr h)]
    · rw [if_neg h, if_neg (fun z => h ((sw_lt gb ga).mp z))]
  rw [hv]; exact K
/-- a row of n numbers of (k0, i0) copied over that of (k1, i1) -/
def cpy (M : sw_M) (k0 : Nat) (i0 : Int) (k1 : Nat) (i1 n : Int) : sw_M := fun k' => if k' = k1 then (fun i' j' => if i' = i1 ∧ 0 ≤ j' ∧ j' < n then M k0 i0 j' else M k' i' j') else M k'
def sw_ac (own : String) (ix : Nat) : Prop := Cond.methodLink own ix arraycopyName ∈ tbG ∧ Cond.native arraycopyName ∈ tbG ∧ Cond.static arraycopyName ∈ tbG ∧ Cond.initialized "java/lang/System" ∈ tbG
theorem sw_okM_cpy {k0 k1 : Nat} {i0 i1 n : Int} (h : sw_okM M) : sw_okM (cpy M k0 i0 k1 i1 n) := by
  intro k' i' j'
  unfold cpy
  by_cases hk : k' = k1
  · rw [if_pos hk]
    by_cases hq : i' = i1 ∧ 0 ≤ j' ∧ j' < n
    · simp only [hq, and_self, if_true]; exact h _ _ _
    · simp only [hq, if_false]; exact h _ _ _
  · rw [if_neg hk]; exact h _ _ _
theorem wm_copy {ix k0 k1 len : Nat} {i0 i1 c0 c1 z1 z2 m0 : Int} (hd : decode d.1 pc = .ok (.invokestatic ix, 3)) (hn : pc + 3 = n) (hk : sw_ac d.2.1 ix) (h0 : sh k0 = some (c0, .inr (.int, len, none))) (hi0 : 0 ≤ i0 ∧ i0 < c0) (h1 : sh k1 = some (c1, .inr (.int, len, none))) (hi1 : 0 ≤ i1 ∧ i1 < c1) (hz1 : z1 = 0) (hz2 : z2 = 0) (hm : m0 = (len : Int)) (hR : 1 ≤ d.2.2.2.2.frames ∧ st.length + (nativeFrameWords "java/lang/System" "arraycopy" 5 + 11) ≤ d.2.2.2.2.locals)
    (kk : WM sh d Q n ls st (cpy M k0 i0 k1 i1 m0)) : WM sh d Q pc ls (sI m0 :: sI z2 :: sR k1 i1 :: sI z1 :: sR k0 i0 :: st) M := by
  intro p l e s m args below meth c E H locs lsA C G
  subst hn; subst hz1; subst hz2; subst hm
  have hts := C.2.2.2.2.2.2.1
  have gm : sw_ok (len : Int) := sw_hd G.2.2.2.2
  have hA : sw_A sh E (E.1 k1 i1) := ⟨k1, i1, _, h1, hi1.1, hi1.2, rfl⟩
  have hc0 : H[E.1 k0 i0]? = some (vp_cell (E.2.1 k0) (len, .inl (fun q => Int32.ofInt (M k0 i0 (q : Int))))) := sw_PP (E := E) G.1 h0 hi0 0 _ rfl
  have hc1 : H[E.1 k1 i1]? = some (vp_cell (E.2.1 k1) (len, .inl (fun q => Int32.ofInt (M k1 i1 (q : Int))))) := sw_PP (E := E) G.1 h1 hi1 0 _ rfl
  obtain ⟨-, q0, hq0, cm0, hkk0⟩ := (C.2.2.2.2.2.2.2.2.1 k0 c0 .int len none h0).1 len (fun j => .int (Int32.ofInt (M k0 i0 (j : Int))))
  obtain ⟨-, q1, hq1, cm1, hkk1⟩ := (C.2.2.2.2.2.2.2.2.1 k1 c1 .int len none h1).1 len (fun j => .int (Int32.ofInt (M k1 i1 (j : Int))))
  have tm : (Int32.ofInt (len : Int)).toInt = (len : Int) := sw_toInt gm
  have cm : (Int32.ofInt (len : Int)).toNatClampNeg = len := by rw [sw_cl gm]; omega
  have t0 : (Int32.ofInt 0).toInt = 0 := sw_toInt sw_ok0
  have n0 : (Int32.ofInt 0).toNatClampNeg = 0 := by rw [sw_cl sw_ok0]; rfl
  intro T hT X
  obtain ⟨vm', X', step⟩ := X.arraycopy C.1 C.2.2.2.2.1 (hts _ hk.1) (hts _ hk.2.1) (hts _ hk.2.2.1) (hts _ hk.2.2.2) (src := E.1 k0 i0) (dst := E.1 k1 i1) (cs := vp_cell (E.2.1 k0) (len, .inl (fun q => Int32.ofInt (M k0 i0 (q : Int))))) (cd := vp_cell (E.2.1 k1) (len, .inl (fun q => Int32.ofInt (M k1 i1 (q : Int))))) (srcPos := Int32.ofInt 0) (destPos := Int32.ofInt 0) (n := Int32.ofInt (len : Int)) (by rw [hT]; exact hc0) (by rw [hT]; exact hc1)
    (fun _ h => by cases h) (fun _ h => by cases h) (fun h => by cases h) (fun h => by cases h) hq0 hq1 hkk0 hkk1 (by simp [refKind]) (by decide) (by decide) (fun z => by have := (sw_lt gm sw_ok0).mp z; omega)
    (by rw [t0, tm]; show ¬ _ > ((arrV _ len _).slots.size : Int); rw [arrV_size]; omega)
    (by rw [t0, tm]; show ¬ _ > ((arrV _ len _).slots.size : Int); rw [arrV_size]; omega)
    (fun vm₁ _ i hi => by
      rw [cm] at hi
      have e : (vp_cell (E.2.1 k0) (len, .inl (fun q => Int32.ofInt (M k0 i0 (q : Int))))).slots.getD ((Int32.ofInt 0).toNatClampNeg + i) .null = .int (Int32.ofInt (M k0 i0 (i : Int))) := by
        show (arrV _ len _).slots.getD _ _ = _
        rw [n0, Nat.zero_add, Array.getD_eq_getD_getElem?, arrV_read _ _ hi]
        rfl
      refine ⟨?_, ?_⟩
      · rw [e]; rfl
      · rw [e]; exact trivial)
    (g := F0 m pc lsA ((sI (len : Int) :: sI 0 :: sR k1 i1 :: sI 0 :: sR k0 i0 :: st).map (sw_vl E))) rfl (by rw [C.2.2.2.1]; exact G.2.2.2.1.1) (rest := st.map (sw_vl E)) rfl (by rw [C.2.1]; exact hd) hR.1 (by show 2 * 0 + _ + _ ≤ _; rw [sw_cats]; omega)
  have e1 : copied (vp_cell (E.2.1 k0) (len, .inl (fun q => Int32.ofInt (M k0 i0 (q : Int))))) (vp_cell (E.2.1 k1) (len, .inl (fun q => Int32.ofInt (M k1 i1 (q : Int))))) (Int32.ofInt 0) (Int32.ofInt 0) (Int32.ofInt (len : Int)) = vp_cell (E.2.1 k1) (len, .inl (fun q : Nat => Int32.ofInt (cpy M k0 i0 k1 i1 (len : Int) k1 i1 (q : Int)))) := by
    refine (va_copied (fun z => .int z) (E.2.1 k0) (E.2.1 k1) (fun q => Int32.ofInt (M k0 i0 (q : Int))) (fun q => Int32.ofInt (M k1 i1 (q : Int))) (by rw [n0, cm]; omega)).trans ?_
    rw [n0, cm]
    rw [vp_cell_i]
    refine congrArg (fun f => arrV (E.2.1 k1) len f) (funext fun q => ?_)
    unfold va_cpy cpy
    by_cases hq : q < len
    · have a1 : (0 : Nat) ≤ q ∧ q < 0 + len := ⟨Nat.zero_le _, by omega⟩
      have a2 : (0 : Int) ≤ (q : Int) ∧ (q : Int) < (len : Int) := ⟨by omega, by omega⟩
      simp only [a1, a2, hq, and_self, if_true, Nat.zero_add, Nat.sub_zero, true_and]
    · have a1 : ¬ ((0 : Nat) ≤ q ∧ q < 0 + len) := fun z => hq (by omega)
      have a2 : ¬ ((0 : Int) ≤ (q : Int) ∧ (q : Int) < (len : Int)) := fun z => hq (by omega)
      simp only [a1, a2, if_true, if_false, true_and]
  rw [e1] at X' step
  have hl : E.1 k1 i1 < H.size := (Array.getElem?_eq_some_iff.mp hc1).1
  generalize hcl : vp_cell (E.2.1 k1) (len, .inl (fun q : Nat => Int32.ofInt (cpy M k0 i0 k1 i1 (len : Int) k1 i1 (q : Int)))) = cl at X' step
  have hheap : ((T.setVm vm').setCell (E.1 k1 i1) cl).heap = H.setIfInBounds (E.1 k1 i1) cl := by rw [← hT]; rfl
  have oq : ∀ q : Nat, q ≠ E.1 k1 i1 → (H.setIfInBounds (E.1 k1 i1) cl)[q]? = H[q]? := fun q hq => by simp [Array.getElem?_setIfInBounds, Ne.symm hq]
  have own : (H.setIfInBounds (E.1 k1 i1) cl)[E.1 k1 i1]? = some cl := by simp [Array.getElem?_setIfInBounds, hl]
  have hP' : sw_P sh E (cpy M k0 i0 k1 i1 (len : Int)) (H.setIfInBounds (E.1 k1 i1) cl) := by
    refine sw_P_set G.1 C.2.2.2.2.2.2.2.2.2.1 h1 hi1.1 hi1.2 oq (fun k' i' j' hne => ?_) ?_
    · unfold cpy
      by_cases hk' : k' = k1
      · rw [if_pos hk']
        have : ¬ (i' = i1 ∧ 0 ≤ j' ∧ j' < (len : Int)) := fun z => hne ⟨hk', z.1⟩
        simp only [this, if_false]
      · rw [if_neg hk']
    · show (H.setIfInBounds (E.1 k1 i1) cl)[E.1 k1 i1]? = some _
      rw [own, ← hcl]
  obtain ⟨t, a1, b1⟩ := kk p l e s m args below meth c E _ _ lsA C ⟨hP', sw_okM_cpy G.2.1, ⟨⟨by simp; exact G.2.2.1.1.1, fun q g1 g2 => by
      rw [oq q (fun e => g2 (by rw [e]; exact hA))]
      exact G.2.2.1.1.2.1 q g1 g2, fun q hq => by
      rcases List.mem_append.mp hq with h | h
      · exact G.2.2.1.1.2.2 q h
      · obtain ⟨z, -, hz⟩ := List.mem_map.mp h
        rw [← hz]
        exact hA⟩, by simp; exact G.2.2.1.2⟩, G.2.2.2.1, sw_tl (sw_tl (sw_tl (sw_tl (sw_tl G.2.2.2.2))))⟩ _ hheap X'
  exact ⟨t, step t a1, b1⟩
end BROWS
end
section
/-! The reference, leaves: in, isProgramme, isFrame, sizeOf, dueOf, say, wipe, pick, signOf, numbersOf. -/
set_option maxHeartbeats 4000000 in
set_option maxRecDepth 100000 in
theorem bM_in (M : sw_M) (v lo hi : Int) : Bp shM yX6_in mX6_in [sI v, sI lo, sI hi] M (lo ≤ v ∧ v ≤ hi) := by
  refine ⟨fun hB => ?_, fun hB => ?_⟩
  · refine Sp.of [sI v, sI lo, sI hi] (by decide) rfl rfl (Nat.le_of_ble_eq_true rfl) ?_
    refine wm_iload_n (n := 1) dX6_in_0 rfl rfl ?_
    refine wm_iload_n (n := 2) dX6_in_1 rfl rfl ?_
    refine wm_icmp_lt (t := 14) (n := 5) dX6_in_2 (by decide) rfl (fun c2 => ?_) (fun c2 => ?_)
    · refine wm_iconst (n := 15) dX6_in_14 rfl (by omega) ?_
      refine wm_zreturn dX6_in_15 rfl (by decide) ?_
      exact ⟨by first | rfl | (exfalso; omega), rfl⟩
    · refine wm_iload_n (n := 6) dX6_in_5 rfl rfl ?_
      refine wm_iload_n (n := 7) dX6_in_6 rfl rfl ?_
      refine wm_icmp_gt (t := 14) (n := 10) dX6_in_7 (by decide) rfl (fun c7 => ?_) (fun c7 => ?_)
      · refine wm_iconst (n := 15) dX6_in_14 rfl (by omega) ?_
        refine wm_zreturn dX6_in_15 rfl (by decide) ?_
        exact ⟨by first | rfl | (exfalso; omega), rfl⟩
      · refine wm_iconst (n := 11) dX6_in_10 rfl (by omega) ?_
        refine wm_goto (t := 15) dX6_in_11 (by decide) ?_
        refine wm_zreturn dX6_in_15 rfl (by decide) ?_
        exact ⟨by first | rfl | (exfalso; omega), rfl⟩
  · refine Sp.of [sI v, sI lo, sI hi] (by decide) rfl rfl (Nat.le_of_ble_eq_true rfl) ?_
    refine wm_iload_n (n := 1) dX6_in_0 rfl rfl ?_
    refine wm_iload_n (n := 2) dX6_in_1 rfl rfl ?_
    refine wm_icmp_lt (t := 14) (n := 5) dX6_in_2 (by decide) rfl (fun c2 => ?_) (fun c2 => ?_)
    · refine wm_iconst (n := 15) dX6_in_14 rfl (by omega) ?_
      refine wm_zreturn dX6_in_15 rfl (by decide) ?_
      exact ⟨by first | rfl | (exfalso; omega), rfl⟩
    · refine wm_iload_n (n := 6) dX6_in_5 rfl rfl ?_
      refine wm_iload_n (n := 7) dX6_in_6 rfl rfl ?_
      refine wm_icmp_gt (t := 14) (n := 10) dX6_in_7 (by decide) rfl (fun c7 => ?_) (fun c7 => ?_)
      · refine wm_iconst (n := 15) dX6_in_14 rfl (by omega) ?_
        refine wm_zreturn dX6_in_15 rfl (by decide) ?_
        exact ⟨by first | rfl | (exfalso; omega), rfl⟩
      · refine wm_iconst (n := 11) dX6_in_10 rfl (by omega) ?_
        refine wm_goto (t := 15) dX6_in_11 (by decide) ?_
        refine wm_zreturn dX6_in_15 rfl (by decide) ?_
        exact ⟨by first | rfl | (exfalso; omega), rfl⟩

set_option maxHeartbeats 4000000 in
set_option maxRecDepth 100000 in
theorem bM_isProgramme (M : sw_M) (p : Int) : Bp shM yX6_isProgramme mX6_isProgramme [sI p] M (0 ≤ p ∧ p ≤ 3) := by
  refine ⟨fun hB => ?_, fun hB => ?_⟩
  · refine Sp.of [sI p] (by decide) rfl rfl (Nat.le_of_ble_eq_true rfl) ?_
    refine wm_iload_n (n := 1) dX6_isProgramme_0 rfl rfl ?_
    refine wm_iconst (n := 2) dX6_isProgramme_1 rfl (by omega) ?_
    refine wm_iconst (n := 3) dX6_isProgramme_2 rfl (by omega) ?_
    refine wm_callsB (n := 6) dX6_isProgramme_3 rfl csX6_69 (And.intro (Nat.le_of_ble_eq_true rfl) (Nat.le_of_ble_eq_true rfl)) (bM_in _ _ _ _) rfl rfl (Nat.le_of_ble_eq_true rfl) (fun c3 => ?_) (fun c3 => ?_)
    · refine wm_zreturn dX6_isProgramme_6 rfl (by decide) ?_
      exact ⟨by first | rfl | (exfalso; omega), rfl⟩
    · refine wm_zreturn dX6_isProgramme_6 rfl (by decide) ?_
      exact ⟨by first | rfl | (exfalso; omega), rfl⟩
  · refine Sp.of [sI p] (by decide) rfl rfl (Nat.le_of_ble_eq_true rfl) ?_
    refine wm_iload_n (n := 1) dX6_isProgramme_0 rfl rfl ?_
    refine wm_iconst (n := 2) dX6_isProgramme_1 rfl (by omega) ?_
    refine wm_iconst (n := 3) dX6_isProgramme_2 rfl (by omega) ?_
    refine wm_callsB (n := 6) dX6_isProgramme_3 rfl csX6_69 (And.intro (Nat.le_of_ble_eq_true rfl) (Nat.le_of_ble_eq_true rfl)) (bM_in _ _ _ _) rfl rfl (Nat.le_of_ble_eq_true rfl) (fun c3 => ?_) (fun c3 => ?_)
    · refine wm_zreturn dX6_isProgramme_6 rfl (by decide) ?_
      exact ⟨by first | rfl | (exfalso; omega), rfl⟩
    · refine wm_zreturn dX6_isProgramme_6 rfl (by decide) ?_
      exact ⟨by first | rfl | (exfalso; omega), rfl⟩

set_option maxHeartbeats 4000000 in
set_option maxRecDepth 100000 in
theorem bM_isFrame (M : sw_M) (p f : Int) (hp : 0 ≤ p ∧ p < 4) (hm : 0 ≤ M 1 0 (8 + p) ∧ M 1 0 (8 + p) ≤ 10) : Bp shM yX6_isFrame mX6_isFrame [sR 0 0, sI p, sI f] M (0 ≤ f ∧ f ≤ M 1 0 (8 + p) - 1) := by
  refine ⟨fun hB => ?_, fun hB => ?_⟩
  · refine Sp.of [sR 0 0, sI p, sI f] (by decide) rfl rfl (Nat.le_of_ble_eq_true rfl) ?_
    refine wm_iload_n (n := 1) dX6_isFrame_0 rfl rfl ?_
    refine wm_iconst (n := 2) dX6_isFrame_1 rfl (by omega) ?_
    refine wm_aload_n (n := 3) dX6_isFrame_2 rfl rfl ?_
    refine wm_getr (n := 6) (jj := 0) dX6_isFrame_3 rfl fkX6_7 rfl rfl rfl (by first | omega | (simp [up] at * <;> omega)) ?_
    refine wm_bipush (n := 8) dX6_isFrame_6 rfl (by omega) (by decide) ?_
    refine wm_iload_n (n := 9) dX6_isFrame_8 rfl rfl ?_
    refine wm_iadd (n := 10) dX6_isFrame_9 rfl (by first | omega | (simp [up] at * <;> omega)) ?_
    refine wm_iaload (N := M) (n := 11) dX6_isFrame_10 rfl rfl (by first | omega | (simp [up] at * <;> omega)) (by first | omega | (simp [up] at * <;> omega)) rfl ?_
    refine wm_iconst (n := 12) dX6_isFrame_11 rfl (by omega) ?_
    refine wm_isub (n := 13) dX6_isFrame_12 rfl (by first | omega | (simp [up] at * <;> omega)) ?_
    refine wm_callsB (n := 16) dX6_isFrame_13 rfl csX6_69 (And.intro (Nat.le_of_ble_eq_true rfl) (Nat.le_of_ble_eq_true rfl)) (bM_in _ _ _ _) rfl rfl (Nat.le_of_ble_eq_true rfl) (fun c13 => ?_) (fun c13 => ?_)
    · refine wm_zreturn dX6_isFrame_16 rfl (by decide) ?_
      exact ⟨by first | rfl | (exfalso; omega), rfl⟩
    · refine wm_zreturn dX6_isFrame_16 rfl (by decide) ?_
      exact ⟨by first | rfl | (exfalso; omega), rfl⟩
  · refine Sp.of [sR 0 0, sI p, sI f] (by decide) rfl rfl (Nat.le_of_ble_eq_true rfl) ?_
    refine wm_iload_n (n := 1) dX6_isFrame_0 rfl rfl ?_
    refine wm_iconst (n := 2) dX6_isFrame_1 rfl (by omega) ?_
    refine wm_aload_n (n := 3) dX6_isFrame_2 rfl rfl ?_
    refine wm_getr (n := 6) (jj := 0) dX6_isFrame_3 rfl fkX6_7 rfl rfl rfl (by first | omega | (simp [up] at * <;> omega)) ?_
    refine wm_bipush (n := 8) dX6_isFrame_6 rfl (by omega) (by decide) ?_
    refine wm_iload_n (n := 9) dX6_isFrame_8 rfl rfl ?_
    refine wm_iadd (n := 10) dX6_isFrame_9 rfl (by first | omega | (simp [up] at * <;> omega)) ?_
    refine wm_iaload (N := M) (n := 11) dX6_isFrame_10 rfl rfl (by first | omega | (simp [up] at * <;> omega)) (by first | omega | (simp [up] at * <;> omega)) rfl ?_
    refine wm_iconst (n := 12) dX6_isFrame_11 rfl (by omega) ?_
    refine wm_isub (n := 13) dX6_isFrame_12 rfl (by first | omega | (simp [up] at * <;> omega)) ?_
    refine wm_callsB (n := 16) dX6_isFrame_13 rfl csX6_69 (And.intro (Nat.le_of_ble_eq_true rfl) (Nat.le_of_ble_eq_true rfl)) (bM_in _ _ _ _) rfl rfl (Nat.le_of_ble_eq_true rfl) (fun c13 => ?_) (fun c13 => ?_)
    · refine wm_zreturn dX6_isFrame_16 rfl (by decide) ?_
      exact ⟨by first | rfl | (exfalso; omega), rfl⟩
    · refine wm_zreturn dX6_isFrame_16 rfl (by decide) ?_
      exact ⟨by first | rfl | (exfalso; omega), rfl⟩

set_option maxHeartbeats 4000000 in
set_option maxRecDepth 100000 in
theorem sM_sizeOf (M : sw_M) (p f : Int) (hp : 0 ≤ p ∧ p < 4) (hf : 0 ≤ f ∧ f < 10) : Sp shM yX6_sizeOf mX6_sizeOf [sR 0 0, sI p, sI f] M (isr (some (sI (M 1 0 (12 + 10 * p + f)))) M) := by
  refine Sp.of [sR 0 0, sI p, sI f] (by decide) rfl rfl (Nat.le_of_ble_eq_true rfl) ?_
  refine wm_aload_n (n := 1) dX6_sizeOf_0 rfl rfl ?_
  refine wm_getr (n := 4) (jj := 0) dX6_sizeOf_1 rfl fkX6_7 rfl rfl rfl (by first | omega | (simp [up] at * <;> omega)) ?_
  refine wm_bipush (n := 6) dX6_sizeOf_4 rfl (by omega) (by decide) ?_
  refine wm_bipush (n := 8) dX6_sizeOf_6 rfl (by omega) (by decide) ?_
  refine wm_iload_n (n := 9) dX6_sizeOf_8 rfl rfl ?_
  refine wm_imul (n := 10) dX6_sizeOf_9 rfl (by first | omega | (simp [up] at * <;> omega)) ?_
  refine wm_iadd (n := 11) dX6_sizeOf_10 rfl (by first | omega | (simp [up] at * <;> omega)) ?_
  refine wm_iload_n (n := 12) dX6_sizeOf_11 rfl rfl ?_
  refine wm_iadd (n := 13) dX6_sizeOf_12 rfl (by first | omega | (simp [up] at * <;> omega)) ?_
  refine wm_iaload (N := M) (n := 14) dX6_sizeOf_13 rfl rfl (by first | omega | (simp [up] at * <;> omega)) (by first | omega | (simp [up] at * <;> omega)) rfl ?_
  refine wm_ireturn dX6_sizeOf_14 rfl ?_
  exact ⟨rfl, rfl⟩

set_option maxHeartbeats 4000000 in
set_option maxRecDepth 100000 in
theorem sM_dueOf (M : sw_M) (p f : Int) (hp : 0 ≤ p ∧ p < 4) (hf : 0 ≤ f ∧ f < 10) : Sp shM yX6_dueOf mX6_dueOf [sR 0 0, sI p, sI f] M (isr (some (sI (M 1 0 (52 + 10 * p + f)))) M) := by
  refine Sp.of [sR 0 0, sI p, sI f] (by decide) rfl rfl (Nat.le_of_ble_eq_true rfl) ?_
  refine wm_aload_n (n := 1) dX6_dueOf_0 rfl rfl ?_
  refine wm_getr (n := 4) (jj := 0) dX6_dueOf_1 rfl fkX6_7 rfl rfl rfl (by first | omega | (simp [up] at * <;> omega)) ?_
  refine wm_bipush (n := 6) dX6_dueOf_4 rfl (by omega) (by decide) ?_
  refine wm_bipush (n := 8) dX6_dueOf_6 rfl (by omega) (by decide) ?_
  refine wm_iload_n (n := 9) dX6_dueOf_8 rfl rfl ?_
  refine wm_imul (n := 10) dX6_dueOf_9 rfl (by first | omega | (simp [up] at * <;> omega)) ?_
  refine wm_iadd (n := 11) dX6_dueOf_10 rfl (by first | omega | (simp [up] at * <;> omega)) ?_
  refine wm_iload_n (n := 12) dX6_dueOf_11 rfl rfl ?_
  refine wm_iadd (n := 13) dX6_dueOf_12 rfl (by first | omega | (simp [up] at * <;> omega)) ?_
  refine wm_iaload (N := M) (n := 14) dX6_dueOf_13 rfl rfl (by first | omega | (simp [up] at * <;> omega)) (by first | omega | (simp [up] at * <;> omega)) rfl ?_
  refine wm_ireturn dX6_dueOf_14 rfl ?_
  exact ⟨rfl, rfl⟩
end
section
/-! The abstract system that both sides are tied to. A plan P and a stream S are memories of their own.
P 0 p 0: ROOM, P 0 p 1: CLOCK, P 0 p 2: how many FRAMES; P 1 p f: SIZE; P 2 p f: DUE; P 3 0 0: TABLE; P 3 0 1: WIDE.
S 0 0 0: tick of the last TABLE, 1: LATE, 2: first LATE, 3: SHOWN, 4: never sent; S 1 p f: sent of a FRAME, S 2, S 3: first, last tick; S 4 0 p: HELD; S 5 0 p: COUNTER of p; S 6 0 p: last CLOCK; S 7 0 s, 8, 9, 10: kind, programme, frame, counter of slot s; S 11 p t: HELD behind t; S 12 0 k: how many of kind k; S 13 0 s: 1, if slot s is sent; S 14 0 t: 1, if tick t is past; S 15 p f: 1, if it is SHOWN. -/
def WFP (P : sw_M) : Prop := (∀ p, 0 ≤ p → p < 4 → (1 ≤ P 0 p 0 ∧ P 0 p 0 ≤ 40) ∧ (0 ≤ P 0 p 1 ∧ P 0 p 1 ≤ 50) ∧ (0 ≤ P 0 p 2 ∧ P 0 p 2 ≤ 10) ∧ (∀ f, 0 ≤ f → f < P 0 p 2 → (1 ≤ P 1 p f ∧ P 1 p f ≤ 9) ∧ (1 ≤ P 2 p f ∧ P 2 p f ≤ 99)) ∧ ∀ f, 0 ≤ f → f + 1 < P 0 p 2 → P 2 p f < P 2 p (f + 1)) ∧ (0 ≤ P 3 0 0 ∧ P 3 0 0 ≤ 50) ∧ (1 ≤ P 3 0 1 ∧ P 3 0 1 ≤ 4)
/-- how many of the first n frames of p have a due below t -/
def nDn (P : sw_M) (p t : Int) : Nat → Int
  | 0 => 0
  | n + 1 => nDn P p t n + (if P 2 p (n : Int) < t then 1 else 0)
def nD (P : sw_M) (p t : Int) : Int := nDn P p t (P 0 p 2).toNat
abbrev again (every last t : Int) : Prop := every ≠ 0 ∧ (last = -6 ∨ every ≤ t - last)
/-- (a) at tick t for programme p -/
def aShow (P S : sw_M) (t p : Int) : sw_M :=
  if nD P p t < P 0 p 2 ∧ P 2 p (nD P p t) = t then
    (if S 1 p (nD P p t) = P 1 p (nD P p t) then up (up (up S 15 p (nD P p t) 1) 4 0 p (S 4 0 p - S 1 p (nD P p t))) 0 0 3 (S 0 0 3 + 1)
     else up (up (up (up (up S 15 p (nD P p t) 0) 4 0 p (S 4 0 p - S 1 p (nD P p t))) 0 0 1 (S 0 0 1 + 1)) 0 0 4 (S 0 0 4 + (P 1 p (nD P p t) - S 1 p (nD P p t)))) 0 0 2 (if S 0 0 2 = -6 then t else S 0 0 2))
  else S
/-- the least programme, of the last k, whose clock comes again -/
def ck (P S : sw_M) (t : Int) : Nat → Int
  | 0 => -6
  | k + 1 => if again (P 0 (3 - (k : Int)) 1) (S 6 0 (3 - (k : Int))) t then 3 - (k : Int) else ck P S t k
/-- the first frame, of the last n of p, that is not due yet and not all sent -/
def opn (P S : sw_M) (t p : Int) : Nat → Int
  | 0 => -6
  | n + 1 => if t < P 2 p (P 0 p 2 - ((n : Int) + 1)) ∧ S 1 p (P 0 p 2 - ((n : Int) + 1)) < P 1 p (P 0 p 2 - ((n : Int) + 1)) then P 0 p 2 - ((n : Int) + 1) else opn P S t p n
def op (P S : sw_M) (t p : Int) : Int := opn P S t p (P 0 p 2).toNat
def cand (P S : sw_M) (t p : Int) : Int := if S 4 0 p < P 0 p 0 then op P S t p else -6
def nx (P S : sw_M) (t b p : Int) : Int := if cand P S t p ≠ -6 ∧ (b = -6 ∨ P 2 p (cand P S t p) < P 2 b (cand P S t b)) then p else b
def pgn (P S : sw_M) (t : Int) : Nat → Int
  | 0 => -6
  | n + 1 => nx P S t (pgn P S t n) (n : Int)
/-- slot s holds what, p, f, num; one more of its kind -/
def aNote (S : sw_M) (s what p f num : Int) : sw_M := up (up (up (up (up (up S 7 0 s what) 8 0 s p) 9 0 s f) 10 0 s num) 12 0 what (S 12 0 what + 1)) 13 0 s 1
/-- a packet of frame f of p at tick t -/
def aFrame (S : sw_M) (t p f : Int) : sw_M := up (up (up (up (up S 2 p f (if S 1 p f = 0 then t else S 2 p f)) 3 p f t) 1 p f (S 1 p f + 1)) 4 0 p (S 4 0 p + 1)) 5 0 p (S 5 0 p + 1)
def aSend (P S : sw_M) (t s : Int) : sw_M :=
  if again (P 3 0 0) (S 0 0 0) t then aNote (up S 0 0 0 t) s 1 (-6) (-6) (S 12 0 1 % 16)
  else if ck P S t 4 ≠ -6 then aNote (up (up S 6 0 (ck P S t 4) t) 5 0 (ck P S t 4) (S 5 0 (ck P S t 4) + 1)) s 2 (ck P S t 4) (-6) (S 5 0 (ck P S t 4) % 16)
  else if pgn P S t 4 ≠ -6 then aNote (aFrame S t (pgn P S t 4) (op P S t (pgn P S t 4))) s 3 (pgn P S t 4) (op P S t (pgn P S t 4)) (S 5 0 (pgn P S t 4) % 16)
  else aNote S s 0 (-6) (-6) 0
def aShows (P S : sw_M) (t : Int) : Nat → sw_M
  | 0 => S
  | p + 1 => aShow P (aShows P S t p) t (p : Int)
def aSends (P S : sw_M) (t : Int) : Nat → sw_M
  | 0 => S
  | i + 1 => aSend P (aSends P S t i) t (4 * t + (i : Int))
def aRec (S : sw_M) (t : Int) : Nat → sw_M
  | 0 => S
  | p + 1 => up (aRec S t p) 11 (p : Int) t (S 4 0 (p : Int))
def aTick (P S : sw_M) (t : Int) : sw_M := up (aRec (aSends P (aShows P S t 4) t (P 3 0 1).toNat) t 4) 14 0 t 1
def aS0 : sw_M := fun k _ j => if k = 2 ∨ k = 3 ∨ k = 6 ∨ (k = 0 ∧ (j = 0 ∨ j = 2)) then -6 else 0
def aSim (P : sw_M) : Nat → sw_M
  | 0 => aS0
  | t + 1 => aTick P (aSim P t) (t : Int)
def sim (P : sw_M) : sw_M := aSim P 100
def lateOf (P : sw_M) : Int := sim P 0 0 1
/-- the least n of 1 to top (n = top - k on) that g names -/
def leastN (g : Int → Prop) (dg : ∀ n, Decidable (g n)) (top : Int) : Nat → Int
  | 0 => -6
  | k + 1 => if g (top - (k : Int)) then top - (k : Int) else leastN g dg top k
-- lines
def pick5 (k a b c d e : Int) : Int := if k = 0 then a else if k = 1 then b else if k = 2 then c else if k = 3 then d else if k = 4 then e else 0
/-- sign k of word w; 0 behind its end -/
def wch (w k : Int) : Int := if w = 0 then pick5 k 102 114 97 109 101 else if w = 1 then pick5 k 114 111 111 109 0 else if w = 2 then pick5 k 99 108 111 99 107 else if w = 3 then pick5 k 116 97 98 108 101 else if w = 4 then pick5 k 119 105 100 101 0 else if w = 5 then pick5 k 100 114 111 112 0 else pick5 k 115 119 97 112 0
def wl (w : Int) : Int := if w = 0 ∨ w = 2 ∨ w = 3 then 5 else 4
def nOf (w : Int) : Nat := if w = 0 ∨ w = 6 then 3 else if w = 1 ∨ w = 2 then 2 else 1
/-- how many signs of word w the line has, from k on -/
def cmn (L : Int → Int) (n w : Int) : Nat → Int → Int
  | 0, k => k
  | m + 1, k => if k < wl w ∧ k < n ∧ L k = wch w k then cmn L n w m (k + 1) else k
def cm (L : Int → Int) (n w : Int) : Int := cmn L n w 5 0
/-- c numbers from k on: where the reading ends, whether all are there, what they are -/
def pn (L : Int → Int) (n : Int) : Nat → Int → Int × Bool × List Int
  | 0, k => (k, true, [])
  | c + 1, k => if ¬ (k < n ∧ L k = 32) then (k, false, []) else if ¬ (k + 1 < n ∧ 48 ≤ L (k + 1) ∧ L (k + 1) ≤ 57) then (k + 1, false, [])
    else if k + 2 < n ∧ 48 ≤ L (k + 2) ∧ L (k + 2) ≤ 57 then ((pn L n c (k + 3)).1, (pn L n c (k + 3)).2.1, ((L (k + 1) - 48) * 10 + L (k + 2) - 48) :: (pn L n c (k + 3)).2.2)
    else ((pn L n c (k + 2)).1, (pn L n c (k + 2)).2.1, (L (k + 1) - 48) :: (pn L n c (k + 2)).2.2)
/-- the word that the first sign tells -/
def pw (L : Int → Int) (n : Int) : Int := if n ≤ 0 then 0 else if L 0 = 114 then 1 else if L 0 = 99 then 2 else if L 0 = 116 then 3 else if L 0 = 119 then 4 else if L 0 = 100 then 5 else if L 0 = 115 then 6 else 0
/-- reading the line as word w: the place where it ends, whether it is a whole line -/
def rdP (L : Int → Int) (n w : Int) : Int := if cm L n w < wl w then cm L n w else (pn L n (nOf w) (cm L n w)).1
def rdW (L : Int → Int) (n w : Int) : Prop := ¬ cm L n w < wl w ∧ (pn L n (nOf w) (cm L n w)).2.1 = true ∧ (pn L n (nOf w) (cm L n w)).1 = n
def nums (L : Int → Int) (n w : Int) (j : Nat) : Int := (pn L n (nOf w) (cm L n w)).2.2.getD j 0
-- what a line does to the plan
/-- packets of the first n frames -/
def szn (P : sw_M) (p : Int) : Nat → Int
  | 0 => 0
  | n + 1 => szn P p n + P 1 p (n : Int)
def swp (P : sw_M) (p q stay start come : Int) : sw_M := fun k i j =>
  if (k = 1 ∨ k = 2) ∧ i = p ∧ stay ≤ j ∧ j < stay + come then P k q (start + (j - stay)) else if k = 0 ∧ i = p ∧ j = 2 then stay + come else P k i j
def isP (p : Int) : Prop := 0 ≤ p ∧ p ≤ 3
abbrev inn (v lo hi : Int) : Prop := lo ≤ v ∧ v ≤ hi
/-- the answer and the plan behind it -/
def aDo (P : sw_M) (w a b c : Int) : Int × sw_M :=
  if w = 0 then (if ¬ (inn a 0 3 ∧ inn b 1 9 ∧ inn c 1 99) then (-2, P) else if 0 < P 0 a 2 ∧ c ≤ P 2 a (P 0 a 2 - 1) then (-3, P) else if P 0 a 2 = 10 then (-4, P) else (P 0 a 2, up (up (up P 1 a (P 0 a 2) b) 2 a (P 0 a 2) c) 0 a 2 (P 0 a 2 + 1)))
  else if w = 1 then (if inn a 0 3 ∧ inn b 1 40 then (P 0 a 0, up P 0 a 0 b) else (-2, P))
  else if w = 2 then (if inn a 0 3 ∧ inn b 0 50 then (P 0 a 1, up P 0 a 1 b) else (-2, P))
  else if w = 3 then (if inn a 0 50 then (P 3 0 0, up P 3 0 0 a) else (-2, P))
  else if w = 4 then (if inn a 1 4 then (P 3 0 1, up P 3 0 1 a) else (-2, P))
  else if w = 5 then (if inn a 0 3 then (P 0 a 2, up P 0 a 2 0) else (-2, P))
  else (if ¬ (inn a 0 3 ∧ inn b 0 3 ∧ a ≠ b ∧ inn c 1 99) then (-2, P) else if 10 < nD P a c + (P 0 b 2 - nD P b c) then (-4, P) else (nD P a c + (P 0 b 2 - nD P b c), swp P a b (nD P a c) (nD P b c) (P 0 b 2 - nD P b c)))
-- the two sides' plans
/-- the reference's plan, programme lo left out -/
def RPs (M P : sw_M) (lo : Int) : Prop := (∀ p, 0 ≤ p → p < 4 → (p ≠ lo → M 1 0 p = P 0 p 0 ∧ M 1 0 (4 + p) = P 0 p 1 ∧ M 1 0 (8 + p) = P 0 p 2 ∧ ∀ f, 0 ≤ f → f < P 0 p 2 → M 1 0 (12 + 10 * p + f) = P 1 p f ∧ M 1 0 (52 + 10 * p + f) = P 2 p f) ∧ (p = lo → P 0 p 1 = 0 ∧ P 0 p 2 = 0)) ∧ M 1 0 92 = P 3 0 0 ∧ M 1 0 93 = P 3 0 1
/-- the class's plan q -/
def RPx (M P : sw_M) (q : Int) : Prop := (∀ p, 0 ≤ p → p < 4 → M 5 (4 * q + p) 3 = P 0 p 0 ∧ M 5 (4 * q + p) 4 = P 0 p 1 ∧ M 5 (4 * q + p) 2 = P 0 p 2 ∧ ∀ f, 0 ≤ f → f < P 0 p 2 → M 6 (4 * q + p) f = P 1 p f ∧ M 7 (4 * q + p) f = P 2 p f) ∧ M 2 q 1 = P 3 0 0 ∧ M 2 q 2 = P 3 0 1
-- the two sides' streams
/-- bounds that every stream keeps: at tick t, after m steps -/
def INV (P S : sw_M) (t m : Int) : Prop :=
  (∀ p, 0 ≤ p → p < 4 → (-(10 * m) ≤ S 4 0 p ∧ S 4 0 p ≤ 10 * m) ∧ (0 ≤ S 5 0 p ∧ S 5 0 p ≤ 10 * m) ∧ (S 6 0 p = -6 ∨ (0 ≤ S 6 0 p ∧ S 6 0 p ≤ t)) ∧ ∀ f, 0 ≤ f → f < 10 → (0 ≤ S 1 p f ∧ S 1 p f ≤ 9) ∧ (f < P 0 p 2 → S 1 p f ≤ P 1 p f) ∧ (S 1 p f = 0 → S 2 p f = -6) ∧ (S 1 p f ≠ 0 → 0 ≤ S 2 p f)) ∧
  (S 0 0 0 = -6 ∨ (0 ≤ S 0 0 0 ∧ S 0 0 0 ≤ t)) ∧ (0 ≤ S 0 0 1 ∧ S 0 0 1 ≤ 10 * m) ∧ (S 0 0 2 = -6 ∨ 0 ≤ S 0 0 2) ∧ (0 ≤ S 0 0 3 ∧ S 0 0 3 ≤ 10 * m) ∧ (0 ≤ S 0 0 4 ∧ S 0 0 4 ≤ 10 * m) ∧ ∀ k, 0 ≤ k → k < 4 → 0 ≤ S 12 0 k ∧ S 12 0 k ≤ 10 * m
/-- the reference's stream -/
def RSM (M S : sw_M) : Prop :=
  M 0 0 24 = S 0 0 0 ∧ M 0 0 25 = S 0 0 1 ∧ M 0 0 26 = S 0 0 2 ∧ M 17 0 4 = S 12 0 1 ∧
  (∀ p, 0 ≤ p → p < 4 → M 16 0 p = S 4 0 p ∧ M 17 0 p = S 5 0 p ∧ M 18 0 p = S 6 0 p ∧ ∀ f, 0 ≤ f → f < 10 → M 11 0 (10 * p + f) = S 1 p f ∧ M 12 0 (10 * p + f) = S 2 p f ∧ M 13 0 (10 * p + f) = S 3 p f ∧ M 14 0 (10 * p + f) = S 15 p f) ∧
  (∀ s, S 13 0 s = 1 → M 7 0 s = S 7 0 s ∧ M 8 0 s = S 8 0 s ∧ M 9 0 s = S 9 0 s ∧ M 10 0 s = S 10 0 s) ∧
  ∀ t, S 14 0 t = 1 → ∀ p, 0 ≤ p → p < 4 → M 15 0 (4 * t + p) = S 11 p t
/-- what the reference's stream leaves as it is -/
def frM (M M' : sw_M) : Prop := M' 1 = M 1 ∧ M' 2 = M 2 ∧ M' 3 = M 3 ∧ M' 4 = M 4 ∧ (∀ j, j < 24 → M' 0 0 j = M 0 0 j) ∧ M' 0 0 27 = M 0 0 27
end
section
/-! The reference: say, wipe, pick, signOf, numbersOf, setAt, isAgain, put, packetsOf .. -/
set_option maxHeartbeats 4000000 in
set_option maxRecDepth 100000 in
theorem sM_say (M : sw_M) (v : Int) (hn : 0 ≤ M 0 0 4 ∧ M 0 0 4 ≤ 20) : Sp shM yX6_say mX6_say [sR 0 0, sI v] M (isr (some (sI (if 32 ≤ v ∧ v ≤ 126 then (if M 0 0 4 = 20 then -4 else M 0 0 4 + 1) else -2))) (if (32 ≤ v ∧ v ≤ 126) ∧ M 0 0 4 ≠ 20 then up (up M 4 0 (M 0 0 4) v) 0 0 4 (M 0 0 4 + 1) else M)) := by
  refine Sp.of [sR 0 0, sI v] (by decide) rfl rfl (Nat.le_of_ble_eq_true rfl) ?_
  refine wm_iload_n (n := 1) dX6_say_0 rfl rfl ?_
  refine wm_bipush (n := 3) dX6_say_1 rfl (by omega) (by decide) ?_
  refine wm_bipush (n := 5) dX6_say_3 rfl (by omega) (by decide) ?_
  refine wm_callsB (n := 8) dX6_say_5 rfl csX6_69 (And.intro (Nat.le_of_ble_eq_true rfl) (Nat.le_of_ble_eq_true rfl)) (bM_in _ _ _ _) rfl rfl (Nat.le_of_ble_eq_true rfl) (fun c5 => ?_) (fun c5 => ?_)
  · refine wm_if_ne (t := 14) (n := 11) dX6_say_8 (by decide) rfl (fun _ => ?_) (fun z => absurd z (by decide))
    refine wm_aload_n (n := 15) dX6_say_14 rfl rfl ?_
    refine wm_geti (N := M) (n := 18) (jj := 4) dX6_say_15 rfl fkX6_73 rfl rfl rfl (by first | omega | (simp [up] at * <;> omega)) rfl ?_
    refine wm_bipush (n := 20) dX6_say_18 rfl (by omega) (by decide) ?_
    refine wm_icmp_ne (t := 26) (n := 23) dX6_say_20 (by decide) rfl (fun c20 => ?_) (fun c20 => ?_)
    · refine wm_aload_n (n := 27) dX6_say_26 rfl rfl ?_
      refine wm_getr (n := 30) (jj := 3) dX6_say_27 rfl fkX6_20 rfl rfl rfl (by first | omega | (simp [up] at * <;> omega)) ?_
      refine wm_aload_n (n := 31) dX6_say_30 rfl rfl ?_
      refine wm_geti (N := M) (n := 34) (jj := 4) dX6_say_31 rfl fkX6_73 rfl rfl rfl (by first | omega | (simp [up] at * <;> omega)) rfl ?_
      refine wm_iload_n (n := 35) dX6_say_34 rfl rfl ?_
      refine wm_iastore (n := 36) dX6_say_35 rfl rfl (by first | omega | (simp [up] at * <;> omega)) (by first | omega | (simp [up] at * <;> omega)) ?_
      refine wm_aload_n (n := 37) dX6_say_36 rfl rfl ?_
      refine wm_dup (n := 38) dX6_say_37 rfl ?_
      refine wm_geti (N := M) (n := 41) (jj := 4) dX6_say_38 rfl fkX6_73 rfl rfl rfl (by first | omega | (simp [up] at * <;> omega)) rfl ?_
      refine wm_iconst (n := 42) dX6_say_41 rfl (by omega) ?_
      refine wm_iadd (n := 43) dX6_say_42 rfl (by first | omega | (simp [up] at * <;> omega)) ?_
      refine wm_put (n := 46) (jj := 4) dX6_say_43 rfl pkX6_73 rfl rfl rfl (by first | omega | (simp [up] at * <;> omega)) rfl rfl ?_
      refine wm_aload_n (n := 47) dX6_say_46 rfl rfl ?_
      refine wm_geti (N := _) (n := 50) (jj := 4) dX6_say_47 rfl fkX6_73 rfl rfl rfl (by first | omega | (simp [up] at * <;> omega)) rfl ?_
      refine wm_ireturn dX6_say_50 rfl ?_
      exact ⟨(by (repeat' split) <;> first | rfl | (exfalso; omega)), (by (repeat' split) <;> first | rfl | (exfalso; omega))⟩
    · refine wm_bipush (n := 25) dX6_say_23 rfl (by omega) (by decide) ?_
      refine wm_ireturn dX6_say_25 rfl ?_
      exact ⟨(by (repeat' split) <;> first | rfl | (exfalso; omega)), (by (repeat' split) <;> first | rfl | (exfalso; omega))⟩
  · refine wm_if_ne (t := 14) (n := 11) dX6_say_8 (by decide) rfl (fun z => absurd z (by decide)) (fun _ => ?_)
    refine wm_bipush (n := 13) dX6_say_11 rfl (by omega) (by decide) ?_
    refine wm_ireturn dX6_say_13 rfl ?_
    exact ⟨(by (repeat' split) <;> first | rfl | (exfalso; omega)), (by (repeat' split) <;> first | rfl | (exfalso; omega))⟩

set_option maxHeartbeats 4000000 in
set_option maxRecDepth 100000 in
theorem sM_wipe (M : sw_M) : Sp shM yX6_wipe mX6_wipe [sR 0 0] M (isr (some (sI (M 0 0 4))) (up M 0 0 4 0)) := by
  refine Sp.of [sR 0 0, sU] (by decide) rfl rfl (Nat.le_of_ble_eq_true rfl) ?_
  refine wm_aload_n (n := 1) dX6_wipe_0 rfl rfl ?_
  refine wm_geti (N := M) (n := 4) (jj := 4) dX6_wipe_1 rfl fkX6_73 rfl rfl rfl (by first | omega | (simp [up] at * <;> omega)) rfl ?_
  refine wm_istore_n (n := 5) dX6_wipe_4 rfl (Nat.le_of_ble_eq_true rfl) ?_
  refine wm_aload_n (n := 6) dX6_wipe_5 rfl rfl ?_
  refine wm_iconst (n := 7) dX6_wipe_6 rfl (by omega) ?_
  refine wm_put (n := 10) (jj := 4) dX6_wipe_7 rfl pkX6_73 rfl rfl rfl (by first | omega | (simp [up] at * <;> omega)) rfl rfl ?_
  refine wm_iload_n (n := 11) dX6_wipe_10 rfl rfl ?_
  refine wm_ireturn dX6_wipe_11 rfl ?_
  exact ⟨rfl, rfl⟩

set_option maxHeartbeats 4000000 in
set_option maxRecDepth 100000 in
theorem sM_pick (M : sw_M) (k a b c d e : Int) : Sp shM yX6_pick mX6_pick [sI k, sI a, sI b, sI c, sI d, sI e] M (isr (some (sI (pick5 k a b c d e))) M) := by
  refine Sp.of [sI k, sI a, sI b, sI c, sI d, sI e] (by decide) rfl rfl (Nat.le_of_ble_eq_true rfl) ?_
  refine wm_iload_n (n := 1) dX6_pick_0 rfl rfl ?_
  refine wm_if_ne (t := 8) (n := 4) dX6_pick_1 (by decide) rfl (fun c1 => ?_) (fun c1 => ?_)
  · refine wm_iload_n (n := 9) dX6_pick_8 rfl rfl ?_
    refine wm_iconst (n := 10) dX6_pick_9 rfl (by omega) ?_
    refine wm_icmp_ne (t := 17) (n := 13) dX6_pick_10 (by decide) rfl (fun c10 => ?_) (fun c10 => ?_)
    · refine wm_iload_n (n := 18) dX6_pick_17 rfl rfl ?_
      refine wm_iconst (n := 19) dX6_pick_18 rfl (by omega) ?_
      refine wm_icmp_ne (t := 26) (n := 22) dX6_pick_19 (by decide) rfl (fun c19 => ?_) (fun c19 => ?_)
      · refine wm_iload_n (n := 27) dX6_pick_26 rfl rfl ?_
        refine wm_iconst (n := 28) dX6_pick_27 rfl (by omega) ?_
        refine wm_icmp_ne (t := 36) (n := 31) dX6_pick_28 (by decide) rfl (fun c28 => ?_) (fun c28 => ?_)
        · refine wm_iload_n (n := 37) dX6_pick_36 rfl rfl ?_
          refine wm_iconst (n := 38) dX6_pick_37 rfl (by omega) ?_
          refine wm_icmp_ne (t := 46) (n := 41) dX6_pick_38 (by decide) rfl (fun c38 => ?_) (fun c38 => ?_)
          · refine wm_iconst (n := 47) dX6_pick_46 rfl (by omega) ?_
            refine wm_ireturn dX6_pick_47 rfl ?_
            exact ⟨(by unfold pick5; (repeat' split) <;> first | rfl | (exfalso; omega)), rfl⟩
          · refine wm_iload (n := 43) dX6_pick_41 rfl rfl ?_
            refine wm_goto (t := 47) dX6_pick_43 (by decide) ?_
            refine wm_ireturn dX6_pick_47 rfl ?_
            exact ⟨(by unfold pick5; (repeat' split) <;> first | rfl | (exfalso; omega)), rfl⟩
        · refine wm_iload (n := 33) dX6_pick_31 rfl rfl ?_
          refine wm_goto (t := 47) dX6_pick_33 (by decide) ?_
          refine wm_ireturn dX6_pick_47 rfl ?_
          exact ⟨(by unfold pick5; (repeat' split) <;> first | rfl | (exfalso; omega)), rfl⟩
      · refine wm_iload_n (n := 23) dX6_pick_22 rfl rfl ?_
        refine wm_goto (t := 47) dX6_pick_23 (by decide) ?_
        refine wm_ireturn dX6_pick_47 rfl ?_
        exact ⟨(by unfold pick5; (repeat' split) <;> first | rfl | (exfalso; omega)), rfl⟩
    · refine wm_iload_n (n := 14) dX6_pick_13 rfl rfl ?_
      refine wm_goto (t := 47) dX6_pick_14 (by decide) ?_
      refine wm_ireturn dX6_pick_47 rfl ?_
      exact ⟨(by unfold pick5; (repeat' split) <;> first | rfl | (exfalso; omega)), rfl⟩
  · refine wm_iload_n (n := 5) dX6_pick_4 rfl rfl ?_
    refine wm_goto (t := 47) dX6_pick_5 (by decide) ?_
    refine wm_ireturn dX6_pick_47 rfl ?_
    exact ⟨(by unfold pick5; (repeat' split) <;> first | rfl | (exfalso; omega)), rfl⟩

set_option maxHeartbeats 4000000 in
set_option maxRecDepth 100000 in
theorem sM_signOf (M : sw_M) (w k : Int) : Sp shM yX6_signOf mX6_signOf [sI w, sI k] M (isr (some (sI (wch w k))) M) := by
  refine Sp.of [sI w, sI k] (by decide) rfl rfl (Nat.le_of_ble_eq_true rfl) ?_
  refine wm_iload_n (n := 1) dX6_signOf_0 rfl rfl ?_
  refine wm_tsw (td := 127) [40, 55, 69, 84, 99, 113] dX6_signOf_1 (by decide) (by decide) (by decide) (fun c1_d => ?_) (And.intro (fun c1_0 => ?_) (And.intro (fun c1_1 => ?_) (And.intro (fun c1_2 => ?_) (And.intro (fun c1_3 => ?_) (And.intro (fun c1_4 => ?_) (And.intro (fun c1_5 => ?_) trivial))))))
  · refine wm_iload_n (n := 128) dX6_signOf_127 rfl rfl ?_
    refine wm_bipush (n := 130) dX6_signOf_128 rfl (by omega) (by decide) ?_
    refine wm_bipush (n := 132) dX6_signOf_130 rfl (by omega) (by decide) ?_
    refine wm_bipush (n := 134) dX6_signOf_132 rfl (by omega) (by decide) ?_
    refine wm_bipush (n := 136) dX6_signOf_134 rfl (by omega) (by decide) ?_
    refine wm_iconst (n := 137) dX6_signOf_136 rfl (by omega) ?_
    refine wm_calls (n := 140) dX6_signOf_137 rfl csX6_76 (And.intro (Nat.le_of_ble_eq_true rfl) (Nat.le_of_ble_eq_true rfl)) (sM_pick _ _ _ _ _ _ _) rfl rfl (Nat.le_of_ble_eq_true rfl) ?_
    refine wm_ireturn dX6_signOf_140 rfl ?_
    exact ⟨(by unfold wch; (repeat' split) <;> first | rfl | (exfalso; omega)), rfl⟩
  · refine wm_iload_n (n := 41) dX6_signOf_40 rfl rfl ?_
    refine wm_bipush (n := 43) dX6_signOf_41 rfl (by omega) (by decide) ?_
    refine wm_bipush (n := 45) dX6_signOf_43 rfl (by omega) (by decide) ?_
    refine wm_bipush (n := 47) dX6_signOf_45 rfl (by omega) (by decide) ?_
    refine wm_bipush (n := 49) dX6_signOf_47 rfl (by omega) (by decide) ?_
    refine wm_bipush (n := 51) dX6_signOf_49 rfl (by omega) (by decide) ?_
    refine wm_calls (n := 54) dX6_signOf_51 rfl csX6_76 (And.intro (Nat.le_of_ble_eq_true rfl) (Nat.le_of_ble_eq_true rfl)) (sM_pick _ _ _ _ _ _ _) rfl rfl (Nat.le_of_ble_eq_true rfl) ?_
    refine wm_ireturn dX6_signOf_54 rfl ?_
    exact ⟨(by unfold wch; (repeat' split) <;> first | rfl | (exfalso; omega)), rfl⟩
  · refine wm_iload_n (n := 56) dX6_signOf_55 rfl rfl ?_
    refine wm_bipush (n := 58) dX6_signOf_56 rfl (by omega) (by decide) ?_
    refine wm_bipush (n := 60) dX6_signOf_58 rfl (by omega) (by decide) ?_
    refine wm_bipush (n := 62) dX6_signOf_60 rfl (by omega) (by decide) ?_
    refine wm_bipush (n := 64) dX6_signOf_62 rfl (by omega) (by decide) ?_
    refine wm_iconst (n := 65) dX6_signOf_64 rfl (by omega) ?_
    refine wm_calls (n := 68) dX6_signOf_65 rfl csX6_76 (And.intro (Nat.le_of_ble_eq_true rfl) (Nat.le_of_ble_eq_true rfl)) (sM_pick _ _ _ _ _ _ _) rfl rfl (Nat.le_of_ble_eq_true rfl) ?_
    refine wm_ireturn dX6_signOf_68 rfl ?_
    exact ⟨(by unfold wch; (repeat' split) <;> first | rfl | (exfalso; omega)), rfl⟩
  · refine wm_iload_n (n := 70) dX6_signOf_69 rfl rfl ?_
    refine wm_bipush (n := 72) dX6_signOf_70 rfl (by omega) (by decide) ?_
    refine wm_bipush (n := 74) dX6_signOf_72 rfl (by omega) (by decide) ?_
    refine wm_bipush (n := 76) dX6_signOf_74 rfl (by omega) (by decide) ?_
    refine wm_bipush (n := 78) dX6_signOf_76 rfl (by omega) (by decide) ?_
    refine wm_bipush (n := 80) dX6_signOf_78 rfl (by omega) (by decide) ?_
    refine wm_calls (n := 83) dX6_signOf_80 rfl csX6_76 (And.intro (Nat.le_of_ble_eq_true rfl) (Nat.le_of_ble_eq_true rfl)) (sM_pick _ _ _ _ _ _ _) rfl rfl (Nat.le_of_ble_eq_true rfl) ?_
    refine wm_ireturn dX6_signOf_83 rfl ?_
    exact ⟨(by unfold wch; (repeat' split) <;> first | rfl | (exfalso; omega)), rfl⟩
  · refine wm_iload_n (n := 85) dX6_signOf_84 rfl rfl ?_
    refine wm_bipush (n := 87) dX6_signOf_85 rfl (by omega) (by decide) ?_
    refine wm_bipush (n := 89) dX6_signOf_87 rfl (by omega) (by decide) ?_
    refine wm_bipush (n := 91) dX6_signOf_89 rfl (by omega) (by decide) ?_
    refine wm_bipush (n := 93) dX6_signOf_91 rfl (by omega) (by decide) ?_
    refine wm_bipush (n := 95) dX6_signOf_93 rfl (by omega) (by decide) ?_
    refine wm_calls (n := 98) dX6_signOf_95 rfl csX6_76 (And.intro (Nat.le_of_ble_eq_true rfl) (Nat.le_of_ble_eq_true rfl)) (sM_pick _ _ _ _ _ _ _) rfl rfl (Nat.le_of_ble_eq_true rfl) ?_
    refine wm_ireturn dX6_signOf_98 rfl ?_
    exact ⟨(by unfold wch; (repeat' split) <;> first | rfl | (exfalso; omega)), rfl⟩
  · refine wm_iload_n (n := 100) dX6_signOf_99 rfl rfl ?_
    refine wm_bipush (n := 102) dX6_signOf_100 rfl (by omega) (by decide) ?_
    refine wm_bipush (n := 104) dX6_signOf_102 rfl (by omega) (by decide) ?_
    refine wm_bipush (n := 106) dX6_signOf_104 rfl (by omega) (by decide) ?_
    refine wm_bipush (n := 108) dX6_signOf_106 rfl (by omega) (by decide) ?_
    refine wm_iconst (n := 109) dX6_signOf_108 rfl (by omega) ?_
    refine wm_calls (n := 112) dX6_signOf_109 rfl csX6_76 (And.intro (Nat.le_of_ble_eq_true rfl) (Nat.le_of_ble_eq_true rfl)) (sM_pick _ _ _ _ _ _ _) rfl rfl (Nat.le_of_ble_eq_true rfl) ?_
    refine wm_ireturn dX6_signOf_112 rfl ?_
    exact ⟨(by unfold wch; (repeat' split) <;> first | rfl | (exfalso; omega)), rfl⟩
  · refine wm_iload_n (n := 114) dX6_signOf_113 rfl rfl ?_
    refine wm_bipush (n := 116) dX6_signOf_114 rfl (by omega) (by decide) ?_
    refine wm_bipush (n := 118) dX6_signOf_116 rfl (by omega) (by decide) ?_
    refine wm_bipush (n := 120) dX6_signOf_118 rfl (by omega) (by decide) ?_
    refine wm_bipush (n := 122) dX6_signOf_120 rfl (by omega) (by decide) ?_
    refine wm_iconst (n := 123) dX6_signOf_122 rfl (by omega) ?_
    refine wm_calls (n := 126) dX6_signOf_123 rfl csX6_76 (And.intro (Nat.le_of_ble_eq_true rfl) (Nat.le_of_ble_eq_true rfl)) (sM_pick _ _ _ _ _ _ _) rfl rfl (Nat.le_of_ble_eq_true rfl) ?_
    refine wm_ireturn dX6_signOf_126 rfl ?_
    exact ⟨(by unfold wch; (repeat' split) <;> first | rfl | (exfalso; omega)), rfl⟩

set_option maxHeartbeats 4000000 in
set_option maxRecDepth 100000 in
theorem sM_numbersOf (M : sw_M) (w : Int) : Sp shM yX6_numbersOf mX6_numbersOf [sI w] M (isr (some (sI ((nOf w : Nat) : Int))) M) := by
  refine Sp.of [sI w] (by decide) rfl rfl (Nat.le_of_ble_eq_true rfl) ?_
  refine wm_iload_n (n := 1) dX6_numbersOf_0 rfl rfl ?_
  refine wm_if_eq (t := 10) (n := 4) dX6_numbersOf_1 (by decide) rfl (fun c1 => ?_) (fun c1 => ?_)
  · refine wm_iconst (n := 11) dX6_numbersOf_10 rfl (by omega) ?_
    refine wm_goto (t := 29) dX6_numbersOf_11 (by decide) ?_
    refine wm_ireturn dX6_numbersOf_29 rfl ?_
    exact ⟨(by unfold nOf; (repeat' split) <;> first | rfl | (exfalso; omega)), rfl⟩
  · refine wm_iload_n (n := 5) dX6_numbersOf_4 rfl rfl ?_
    refine wm_bipush (n := 7) dX6_numbersOf_5 rfl (by omega) (by decide) ?_
    refine wm_icmp_ne (t := 14) (n := 10) dX6_numbersOf_7 (by decide) rfl (fun c7 => ?_) (fun c7 => ?_)
    · refine wm_iload_n (n := 15) dX6_numbersOf_14 rfl rfl ?_
      refine wm_iconst (n := 16) dX6_numbersOf_15 rfl (by omega) ?_
      refine wm_icmp_eq (t := 24) (n := 19) dX6_numbersOf_16 (by decide) rfl (fun c16 => ?_) (fun c16 => ?_)
      · refine wm_iconst (n := 25) dX6_numbersOf_24 rfl (by omega) ?_
        refine wm_goto (t := 29) dX6_numbersOf_25 (by decide) ?_
        refine wm_ireturn dX6_numbersOf_29 rfl ?_
        exact ⟨(by unfold nOf; (repeat' split) <;> first | rfl | (exfalso; omega)), rfl⟩
      · refine wm_iload_n (n := 20) dX6_numbersOf_19 rfl rfl ?_
        refine wm_iconst (n := 21) dX6_numbersOf_20 rfl (by omega) ?_
        refine wm_icmp_ne (t := 28) (n := 24) dX6_numbersOf_21 (by decide) rfl (fun c21 => ?_) (fun c21 => ?_)
        · refine wm_iconst (n := 29) dX6_numbersOf_28 rfl (by omega) ?_
          refine wm_ireturn dX6_numbersOf_29 rfl ?_
          exact ⟨(by unfold nOf; (repeat' split) <;> first | rfl | (exfalso; omega)), rfl⟩
        · refine wm_iconst (n := 25) dX6_numbersOf_24 rfl (by omega) ?_
          refine wm_goto (t := 29) dX6_numbersOf_25 (by decide) ?_
          refine wm_ireturn dX6_numbersOf_29 rfl ?_
          exact ⟨(by unfold nOf; (repeat' split) <;> first | rfl | (exfalso; omega)), rfl⟩
    · refine wm_iconst (n := 11) dX6_numbersOf_10 rfl (by omega) ?_
      refine wm_goto (t := 29) dX6_numbersOf_11 (by decide) ?_
      refine wm_ireturn dX6_numbersOf_29 rfl ?_
      exact ⟨(by unfold nOf; (repeat' split) <;> first | rfl | (exfalso; omega)), rfl⟩

set_option maxHeartbeats 4000000 in
set_option maxRecDepth 100000 in
theorem sM_setAt (M : sw_M) (a v : Int) (ha : 0 ≤ a ∧ a < 95) : Sp shM yX6_setAt mX6_setAt [sR 0 0, sI a, sI v] M (isr (some (sI (M 1 0 a))) (up M 1 0 a v)) := by
  refine Sp.of [sR 0 0, sI a, sI v, sU] (by decide) rfl rfl (Nat.le_of_ble_eq_true rfl) ?_
  refine wm_aload_n (n := 1) dX6_setAt_0 rfl rfl ?_
  refine wm_getr (n := 4) (jj := 0) dX6_setAt_1 rfl fkX6_7 rfl rfl rfl (by first | omega | (simp [up] at * <;> omega)) ?_
  refine wm_iload_n (n := 5) dX6_setAt_4 rfl rfl ?_
  refine wm_iaload (N := M) (n := 6) dX6_setAt_5 rfl rfl (by first | omega | (simp [up] at * <;> omega)) (by first | omega | (simp [up] at * <;> omega)) rfl ?_
  refine wm_istore_n (n := 7) dX6_setAt_6 rfl (Nat.le_of_ble_eq_true rfl) ?_
  refine wm_aload_n (n := 8) dX6_setAt_7 rfl rfl ?_
  refine wm_getr (n := 11) (jj := 0) dX6_setAt_8 rfl fkX6_7 rfl rfl rfl (by first | omega | (simp [up] at * <;> omega)) ?_
  refine wm_iload_n (n := 12) dX6_setAt_11 rfl rfl ?_
  refine wm_iload_n (n := 13) dX6_setAt_12 rfl rfl ?_
  refine wm_iastore (n := 14) dX6_setAt_13 rfl rfl (by first | omega | (simp [up] at * <;> omega)) (by first | omega | (simp [up] at * <;> omega)) ?_
  refine wm_iload_n (n := 15) dX6_setAt_14 rfl rfl ?_
  refine wm_ireturn dX6_setAt_15 rfl ?_
  exact ⟨rfl, rfl⟩

set_option maxHeartbeats 4000000 in
set_option maxRecDepth 100000 in
theorem bM_isAgain (M : sw_M) (every last t : Int) (he : 0 ≤ every) (hl : last = -6 ∨ (0 ≤ last ∧ last ≤ 100)) (ht : 0 ≤ t ∧ t < 100) : Bp shM yX6_isAgain mX6_isAgain [sI every, sI last, sI t] M (again every last t) := by
  refine ⟨fun hB => ?_, fun hB => ?_⟩
  · refine Sp.of [sI every, sI last, sI t] (by decide) rfl rfl (Nat.le_of_ble_eq_true rfl) ?_
    refine wm_iload_n (n := 1) dX6_isAgain_0 rfl rfl ?_
    refine wm_if_le (t := 19) (n := 4) dX6_isAgain_1 (by decide) rfl (fun c1 => ?_) (fun c1 => ?_)
    · refine wm_iconst (n := 20) dX6_isAgain_19 rfl (by omega) ?_
      refine wm_zreturn dX6_isAgain_20 rfl (by decide) ?_
      exact ⟨by first | rfl | (exfalso; unfold again at hB; omega), rfl⟩
    · refine wm_iload_n (n := 5) dX6_isAgain_4 rfl rfl ?_
      refine wm_if_lt (t := 15) (n := 8) dX6_isAgain_5 (by decide) rfl (fun c5 => ?_) (fun c5 => ?_)
      · refine wm_iconst (n := 16) dX6_isAgain_15 rfl (by omega) ?_
        refine wm_goto (t := 20) dX6_isAgain_16 (by decide) ?_
        refine wm_zreturn dX6_isAgain_20 rfl (by decide) ?_
        exact ⟨by first | rfl | (exfalso; unfold again at hB; omega), rfl⟩
      · refine wm_iload_n (n := 9) dX6_isAgain_8 rfl rfl ?_
        refine wm_iload_n (n := 10) dX6_isAgain_9 rfl rfl ?_
        refine wm_isub (n := 11) dX6_isAgain_10 rfl (by first | omega | (simp [up] at * <;> omega)) ?_
        refine wm_iload_n (n := 12) dX6_isAgain_11 rfl rfl ?_
        refine wm_icmp_lt (t := 19) (n := 15) dX6_isAgain_12 (by decide) rfl (fun c12 => ?_) (fun c12 => ?_)
        · refine wm_iconst (n := 20) dX6_isAgain_19 rfl (by omega) ?_
          refine wm_zreturn dX6_isAgain_20 rfl (by decide) ?_
          exact ⟨by first | rfl | (exfalso; unfold again at hB; omega), rfl⟩
        · refine wm_iconst (n := 16) dX6_isAgain_15 rfl (by omega) ?_
          refine wm_goto (t := 20) dX6_isAgain_16 (by decide) ?_
          refine wm_zreturn dX6_isAgain_20 rfl (by decide) ?_
          exact ⟨by first | rfl | (exfalso; unfold again at hB; omega), rfl⟩
  · refine Sp.of [sI every, sI last, sI t] (by decide) rfl rfl (Nat.le_of_ble_eq_true rfl) ?_
    refine wm_iload_n (n := 1) dX6_isAgain_0 rfl rfl ?_
    refine wm_if_le (t := 19) (n := 4) dX6_isAgain_1 (by decide) rfl (fun c1 => ?_) (fun c1 => ?_)
    · refine wm_iconst (n := 20) dX6_isAgain_19 rfl (by omega) ?_
      refine wm_zreturn dX6_isAgain_20 rfl (by decide) ?_
      exact ⟨by first | rfl | (exfalso; unfold again at hB; omega), rfl⟩
    · refine wm_iload_n (n := 5) dX6_isAgain_4 rfl rfl ?_
      refine wm_if_lt (t := 15) (n := 8) dX6_isAgain_5 (by decide) rfl (fun c5 => ?_) (fun c5 => ?_)
      · refine wm_iconst (n := 16) dX6_isAgain_15 rfl (by omega) ?_
        refine wm_goto (t := 20) dX6_isAgain_16 (by decide) ?_
        refine wm_zreturn dX6_isAgain_20 rfl (by decide) ?_
        exact ⟨by first | rfl | (exfalso; unfold again at hB; omega), rfl⟩
      · refine wm_iload_n (n := 9) dX6_isAgain_8 rfl rfl ?_
        refine wm_iload_n (n := 10) dX6_isAgain_9 rfl rfl ?_
        refine wm_isub (n := 11) dX6_isAgain_10 rfl (by first | omega | (simp [up] at * <;> omega)) ?_
        refine wm_iload_n (n := 12) dX6_isAgain_11 rfl rfl ?_
        refine wm_icmp_lt (t := 19) (n := 15) dX6_isAgain_12 (by decide) rfl (fun c12 => ?_) (fun c12 => ?_)
        · refine wm_iconst (n := 20) dX6_isAgain_19 rfl (by omega) ?_
          refine wm_zreturn dX6_isAgain_20 rfl (by decide) ?_
          exact ⟨by first | rfl | (exfalso; unfold again at hB; omega), rfl⟩
        · refine wm_iconst (n := 16) dX6_isAgain_15 rfl (by omega) ?_
          refine wm_goto (t := 20) dX6_isAgain_16 (by decide) ?_
          refine wm_zreturn dX6_isAgain_20 rfl (by decide) ?_
          exact ⟨by first | rfl | (exfalso; unfold again at hB; omega), rfl⟩
end
section
/-! Pure rows: counting frames, open frames, the stream's bounds. -/
theorem nDn_bd (P : sw_M) (p t : Int) : ∀ n : Nat, 0 ≤ nDn P p t n ∧ nDn P p t n ≤ (n : Int)
  | 0 => ⟨Int.le_refl _, Int.le_refl _⟩
  | n + 1 => by
    have h := nDn_bd P p t n
    rw [nDn]
    split <;> (push_cast; omega)
theorem nD_bd {P : sw_M} {p t : Int} (h : 0 ≤ P 0 p 2) : 0 ≤ nD P p t ∧ nD P p t ≤ P 0 p 2 := by
  have := nDn_bd P p t (P 0 p 2).toNat
  unfold nD
  omega
/-- dues rise -/
theorem due_lt {P : sw_M} (hW : WFP P) {p : Int} (hp : 0 ≤ p ∧ p < 4) {f : Int} (hf : 0 ≤ f) : ∀ k : Nat, f + (k : Int) + 1 < P 0 p 2 → P 2 p f < P 2 p (f + (k : Int) + 1)
  | 0, h => by
    have := (hW.1 p hp.1 hp.2).2.2.2.2 f hf (by simpa using h)
    simpa using this
  | k + 1, h => by
    have h1 := due_lt hW hp hf k (by push_cast at h; omega)
    have h2 := (hW.1 p hp.1 hp.2).2.2.2.2 (f + (k : Int) + 1) (by omega) (by push_cast at h; omega)
    have e : f + ((k + 1 : Nat) : Int) + 1 = f + (k : Int) + 1 + 1 := by push_cast; omega
    rw [e]; omega
theorem due_mono {P : sw_M} (hW : WFP P) {p f g : Int} (hp : 0 ≤ p ∧ p < 4) (hf : 0 ≤ f) (hfg : f < g) (hg : g < P 0 p 2) : P 2 p f < P 2 p g := by
  have h := due_lt hW hp hf (g - f - 1).toNat (by omega)
  have e : f + ((g - f - 1).toNat : Int) + 1 = g := by omega
  rwa [e] at h
/-- the frames below nD are those of a lesser due -/
theorem nDn_split {P : sw_M} (hW : WFP P) {p t : Int} (hp : 0 ≤ p ∧ p < 4) : ∀ n : Nat, (n : Int) ≤ P 0 p 2 → (∀ f, 0 ≤ f → f < nDn P p t n → P 2 p f < t) ∧ (∀ f, nDn P p t n ≤ f → f < (n : Int) → t ≤ P 2 p f)
  | 0, _ => ⟨fun f h0 h1 => by simp [nDn] at h1; omega, fun f h0 h1 => by simp [nDn] at h0; omega⟩
  | n + 1, hn => by
    have hb := nDn_bd P p t n
    obtain ⟨h1, h2⟩ := nDn_split hW (t := t) hp n (by push_cast at hn; omega)
    rw [nDn]
    by_cases hc : P 2 p (n : Int) < t
    · rw [if_pos hc]
      have hall : nDn P p t n = (n : Int) := by
        rcases Int.lt_or_le (nDn P p t n) (n : Int) with q | q
        · have a1 := h2 (nDn P p t n) (Int.le_refl _) q
          have a2 := due_mono hW hp hb.1 q (by push_cast at hn; omega)
          omega
        · omega
      refine ⟨fun f h0 hf => ?_, fun f h0 hf => ?_⟩
      · by_cases e : f = (n : Int)
        · rw [e]; exact hc
        · exact h1 f h0 (by omega)
      · push_cast at hf; omega
    · rw [if_neg hc, Int.add_zero]
      refine ⟨h1, fun f h0 hf => ?_⟩
      by_cases e : f = (n : Int)
      · rw [e]; omega
      · exact h2 f h0 (by push_cast at hf; omega)
theorem nD_split {P : sw_M} (hW : WFP P) {p t : Int} (hp : 0 ≤ p ∧ p < 4) : (∀ f, 0 ≤ f → f < nD P p t → P 2 p f < t) ∧ (∀ f, nD P p t ≤ f → f < P 0 p 2 → t ≤ P 2 p f) := by
  have h0 := (hW.1 p hp.1 hp.2).2.2.1.1
  have := nDn_split hW (t := t) hp (P 0 p 2).toNat (by omega)
  unfold nD
  exact ⟨this.1, fun f h1 h2 => this.2 f h1 (by omega)⟩
/-- the frame that is due at t is just nD -/
theorem due_is {P : sw_M} (hW : WFP P) {p t f : Int} (hp : 0 ≤ p ∧ p < 4) (h0 : 0 ≤ f) (h1 : f < P 0 p 2) : P 2 p f = t ↔ (f = nD P p t ∧ P 2 p (nD P p t) = t) := by
  have hs := nD_split hW (t := t) hp
  have hb := nD_bd (P := P) (p := p) (t := t) (hW.1 p hp.1 hp.2).2.2.1.1
  constructor
  · intro h
    have e : f = nD P p t := by
      rcases Int.lt_trichotomy f (nD P p t) with q | q | q
      · have := hs.1 f h0 q; omega
      · exact q
      · have a1 := hs.2 (nD P p t) (Int.le_refl _) (by omega)
        have a2 := due_mono hW hp hb.1 q h1
        omega
    exact ⟨e, by rw [← e]; exact h⟩
  · rintro ⟨e, h⟩
    rw [e]; exact h
theorem nDn_step {P : sw_M} (p t : Int) : ∀ n : Nat, nDn P p (t + 1) n = nDn P p t n + (nDn P p (t + 1) n - nDn P p t n) := fun n => by omega
/-- a tick further: one more, if a frame is due -/
theorem nD_next {P : sw_M} (hW : WFP P) {p t : Int} (hp : 0 ≤ p ∧ p < 4) : nD P p (t + 1) = nD P p t + (if nD P p t < P 0 p 2 ∧ P 2 p (nD P p t) = t then 1 else 0) := by
  have hm := (hW.1 p hp.1 hp.2).2.2.1.1
  have a := nD_split hW (t := t) hp
  have b := nD_split hW (t := t + 1) hp
  have ha := nD_bd (P := P) (p := p) (t := t) hm
  have hb := nD_bd (P := P) (p := p) (t := t + 1) hm
  by_cases hc : nD P p t < P 0 p 2 ∧ P 2 p (nD P p t) = t
  · rw [if_pos hc]
    have h1 : nD P p t < nD P p (t + 1) := by
      rcases Int.lt_or_le (nD P p t) (nD P p (t + 1)) with q | q
      · exact q
      · have := b.2 (nD P p t) q hc.1; omega
    rcases Int.lt_or_le (nD P p t + 1) (nD P p (t + 1)) with q | q
    · have a1 := b.1 (nD P p t + 1) (by omega) q
      have a2 := due_mono hW hp ha.1 (show nD P p t < nD P p t + 1 by omega) (by omega)
      omega
    · omega
  · rw [if_neg hc]
    rcases Int.lt_trichotomy (nD P p (t + 1)) (nD P p t) with q | q | q
    · have a1 := a.1 (nD P p (t + 1)) hb.1 q
      have a2 := b.2 (nD P p (t + 1)) (Int.le_refl _) (by omega)
      omega
    · omega
    · have a1 := b.1 (nD P p t) ha.1 q
      have a2 := a.2 (nD P p t) (Int.le_refl _) (by omega)
      exact absurd ⟨by omega, by omega⟩ hc
theorem szn_bd {P : sw_M} (hW : WFP P) {p : Int} (hp : 0 ≤ p ∧ p < 4) : ∀ n : Nat, (n : Int) ≤ P 0 p 2 → 0 ≤ szn P p n ∧ szn P p n ≤ 9 * (n : Int)
  | 0, _ => ⟨Int.le_refl _, Int.le_refl _⟩
  | n + 1, hn => by
    have h := szn_bd hW hp n (by push_cast at hn; omega)
    have h2 := ((hW.1 p hp.1 hp.2).2.2.2.1 (n : Int) (by omega) (by push_cast at hn; omega)).1
    rw [szn]; push_cast; omega
/-- an open frame is one of p's, not due yet, not all sent; all before it aren't open -/
theorem opn_spec (P S : sw_M) (t p : Int) : ∀ n : Nat, (n : Int) ≤ P 0 p 2 → (opn P S t p n = -6 ∧ ∀ f, P 0 p 2 - (n : Int) ≤ f → f < P 0 p 2 → ¬ (t < P 2 p f ∧ S 1 p f < P 1 p f)) ∨ (P 0 p 2 - (n : Int) ≤ opn P S t p n ∧ opn P S t p n < P 0 p 2 ∧ (t < P 2 p (opn P S t p n) ∧ S 1 p (opn P S t p n) < P 1 p (opn P S t p n)) ∧ ∀ f, P 0 p 2 - (n : Int) ≤ f → f < opn P S t p n → ¬ (t < P 2 p f ∧ S 1 p f < P 1 p f))
  | 0, _ => Or.inl ⟨rfl, fun f h0 h1 => by simp at h0; omega⟩
  | n + 1, hn => by
    rw [opn]
    by_cases hc : t < P 2 p (P 0 p 2 - ((n : Int) + 1)) ∧ S 1 p (P 0 p 2 - ((n : Int) + 1)) < P 1 p (P 0 p 2 - ((n : Int) + 1))
    · rw [if_pos hc]
      exact Or.inr ⟨by push_cast; omega, by omega, hc, fun f h0 h1 => by push_cast at h0; omega⟩
    · rw [if_neg hc]
      have he : ∀ f, P 0 p 2 - ((n + 1 : Nat) : Int) ≤ f → f < P 0 p 2 - (n : Int) → ¬ (t < P 2 p f ∧ S 1 p f < P 1 p f) := fun f h0 h1 => by
        have : f = P 0 p 2 - ((n : Int) + 1) := by push_cast at h0; omega
        rw [this]; exact hc
      rcases opn_spec P S t p n (by push_cast at hn; omega) with ⟨h1, h2⟩ | ⟨h1, h2, h3, h4⟩
      · refine Or.inl ⟨h1, fun f h0 hf => ?_⟩
        rcases Int.lt_or_le f (P 0 p 2 - (n : Int)) with q | q
        · exact he f h0 q
        · exact h2 f q hf
      · refine Or.inr ⟨by push_cast; omega, h2, h3, fun f h0 hf => ?_⟩
        rcases Int.lt_or_le f (P 0 p 2 - (n : Int)) with q | q
        · exact he f h0 q
        · exact h4 f q hf
theorem op_spec {P S : sw_M} {t p : Int} (hm : 0 ≤ P 0 p 2) : (op P S t p = -6 ∧ ∀ f, 0 ≤ f → f < P 0 p 2 → ¬ (t < P 2 p f ∧ S 1 p f < P 1 p f)) ∨ (0 ≤ op P S t p ∧ op P S t p < P 0 p 2 ∧ (t < P 2 p (op P S t p) ∧ S 1 p (op P S t p) < P 1 p (op P S t p)) ∧ ∀ f, 0 ≤ f → f < op P S t p → ¬ (t < P 2 p f ∧ S 1 p f < P 1 p f)) := by
  have h := opn_spec P S t p (P 0 p 2).toNat (by omega)
  have e : P 0 p 2 - ((P 0 p 2).toNat : Int) = 0 := by omega
  rw [e] at h
  exact h
theorem ck_spec (P S : sw_M) (t : Int) : ∀ k : Nat, k ≤ 4 → ck P S t k = -6 ∨ (4 - (k : Int) ≤ ck P S t k ∧ ck P S t k < 4)
  | 0, _ => Or.inl rfl
  | k + 1, hk => by
    rw [ck]
    split
    · right; push_cast; omega
    · rcases ck_spec P S t k (by omega) with h | h
      · exact Or.inl h
      · right; push_cast; omega
theorem pgn_spec (P S : sw_M) (t : Int) : ∀ n : Nat, pgn P S t n = -6 ∨ (0 ≤ pgn P S t n ∧ pgn P S t n < (n : Int) ∧ cand P S t (pgn P S t n) ≠ -6)
  | 0 => Or.inl rfl
  | n + 1 => by
    rw [pgn, nx]
    split
    · next h => exact Or.inr ⟨by omega, by push_cast; omega, h.1⟩
    · rcases pgn_spec P S t n with h | h
      · exact Or.inl h
      · exact Or.inr ⟨h.1, by push_cast; omega, h.2.2⟩
theorem cand_open {P S : sw_M} {t p : Int} (h : cand P S t p ≠ -6) : S 4 0 p < P 0 p 0 ∧ cand P S t p = op P S t p := by
  unfold cand at h ⊢
  split at h
  · next h1 => exact ⟨h1, by rw [if_pos h1]⟩
  · exact absurd rfl h
end
section
/-! Pure rows: every stream keeps its bounds. -/
theorem INV_mono {P S : sw_M} {t m t' m' : Int} (h : INV P S t m) (ht : t ≤ t') (hm : m ≤ m') : INV P S t' m' := by
  refine ⟨fun p h0 h1 => ?_, ?_, ?_, ?_, ?_, ?_, fun k h0 h1 => ?_⟩
  · have q := h.1 p h0 h1
    exact ⟨by omega, by omega, by omega, q.2.2.2⟩
  · have := h.2.1; omega
  · have := h.2.2.1; omega
  · exact h.2.2.2.1
  · have := h.2.2.2.2.1; omega
  · have := h.2.2.2.2.2.1; omega
  · have := h.2.2.2.2.2.2 k h0 h1; omega
theorem INV_zero (P : sw_M) (hW : WFP P) : INV P aS0 0 0 := by
  refine ⟨fun p h0 h1 => ⟨?_, ?_, ?_, fun f f0 f1 => ⟨?_, fun hf => ?_, ?_, ?_⟩⟩, ?_, ?_, ?_, ?_, ?_, fun k h0 h1 => ?_⟩ <;> first | (simp [aS0]; done) | (have := ((hW.1 p h0 h1).2.2.2.1 f f0 hf).1; simp [aS0]; omega)
theorem INV_show {P S : sw_M} {t m p : Int} (hW : WFP P) (hp : 0 ≤ p ∧ p < 4) (ht : 0 ≤ t) (h : INV P S t m) : INV P (aShow P S t p) t (m + 1) := by
  have hw := hW.1 p hp.1 hp.2
  have hb := nD_bd (P := P) (p := p) (t := t) hw.2.2.1.1
  unfold aShow
  split
  · next hc =>
    have hf := (h.1 p hp.1 hp.2).2.2.2 (nD P p t) hb.1 (by omega)
    have hz := hw.2.2.2.1 (nD P p t) hb.1 hc.1
    have hle := hf.2.1 hc.1
    have h3 := h.2.2.2.2.1
    have h4 := h.2.2.2.2.2.1
    have h1' := h.2.2.1
    have h2' := h.2.2.2.1
    split
    · refine ⟨fun q h0 h1 => ?_, ?_, ?_, ?_, ?_, ?_, fun k h0 h1 => ?_⟩
      · have hq := h.1 q h0 h1
        refine ⟨?_, ?_, ?_, fun f f0 f1 => ?_⟩
        · simp [up]; split
          · next e => subst e; omega
          · omega
        · simp [up]; omega
        · simpa [up] using hq.2.2.1
        · simpa [up] using hq.2.2.2 f f0 f1
      · simpa [up] using h.2.1
      · simp [up]; omega
      · simpa [up] using h2'
      · simp [up]; omega
      · simp [up]; omega
      · have hk := h.2.2.2.2.2.2 k h0 h1
        simp [up]; omega
    · refine ⟨fun q h0 h1 => ?_, ?_, ?_, ?_, ?_, ?_, fun k h0 h1 => ?_⟩
      · have hq := h.1 q h0 h1
        refine ⟨?_, ?_, ?_, fun f f0 f1 => ?_⟩
        · simp [up]; split
          · next e => subst e; omega
          · omega
        · simp [up]; omega
        · simpa [up] using hq.2.2.1
        · simpa [up] using hq.2.2.2 f f0 f1
      · simpa [up] using h.2.1
      · simp [up]; omega
      · simp [up]; split <;> omega
      · simp [up]; omega
      · simp [up]; omega
      · have hk := h.2.2.2.2.2.2 k h0 h1
        simp [up]; omega
  · exact INV_mono h (Int.le_refl _) (by omega)
theorem INV_note {P S : sw_M} {t m s what p f num : Int} (hw : 0 ≤ what ∧ what < 4) (h : INV P S t m) : INV P (aNote S s what p f num) t (m + 1) := by
  unfold aNote
  have h1' := h.2.2.1
  have h3 := h.2.2.2.2.1
  have h4 := h.2.2.2.2.2.1
  have hk0 := h.2.2.2.2.2.2 what hw.1 hw.2
  refine ⟨fun q h0 h1 => ?_, ?_, ?_, ?_, ?_, ?_, fun k h0 h1 => ?_⟩
  · have hq := h.1 q h0 h1
    refine ⟨?_, ?_, ?_, fun f f0 f1 => ?_⟩
    · simp [up]; omega
    · simp [up]; omega
    · simpa [up] using hq.2.2.1
    · simpa [up] using hq.2.2.2 f f0 f1
  · simpa [up] using h.2.1
  · simp [up]; omega
  · simpa [up] using h.2.2.2.1
  · simp [up]; omega
  · simp [up]; omega
  · have hk := h.2.2.2.2.2.2 k h0 h1
    simp [up]; split <;> omega
theorem INV_table {P S : sw_M} {t m : Int} (ht : 0 ≤ t) (h : INV P S t m) : INV P (up S 0 0 0 t) t m := by
  refine ⟨fun q h0 h1 => ?_, ?_, ?_, ?_, ?_, ?_, fun k h0 h1 => ?_⟩
  · simpa [up] using h.1 q h0 h1
  · simp [up]; omega
  · simpa [up] using h.2.2.1
  · simpa [up] using h.2.2.2.1
  · simpa [up] using h.2.2.2.2.1
  · simpa [up] using h.2.2.2.2.2.1
  · simpa [up] using h.2.2.2.2.2.2 k h0 h1
theorem INV_clock {P S : sw_M} {t m p : Int} (ht : 0 ≤ t) (hp : 0 ≤ p ∧ p < 4) (h : INV P S t m) : INV P (up (up S 6 0 p t) 5 0 p (S 5 0 p + 1)) t (m + 1) := by
  have hp5 := (h.1 p hp.1 hp.2).2.1
  have h := INV_mono h (Int.le_refl t) (show m ≤ m + 1 by omega)
  refine ⟨fun q h0 h1 => ?_, ?_, ?_, ?_, ?_, ?_, fun k h0 h1 => ?_⟩
  · have hq := h.1 q h0 h1
    refine ⟨?_, ?_, ?_, fun f f0 f1 => ?_⟩
    · simpa [up] using hq.1
    · have := hq.2.1
      simp [up]; split <;> omega
    · simp [up]; split <;> omega
    · simpa [up] using hq.2.2.2 f f0 f1
  · simpa [up] using h.2.1
  · simpa [up] using h.2.2.1
  · simpa [up] using h.2.2.2.1
  · simpa [up] using h.2.2.2.2.1
  · simpa [up] using h.2.2.2.2.2.1
  · simpa [up] using h.2.2.2.2.2.2 k h0 h1
theorem INV_frame {P S : sw_M} {t m p f : Int} (hW : WFP P) (ht : 0 ≤ t) (hp : 0 ≤ p ∧ p < 4) (hf : 0 ≤ f ∧ f < P 0 p 2) (ho : S 1 p f < P 1 p f) (h : INV P S t m) : INV P (aFrame S t p f) t (m + 1) := by
  have hw := hW.1 p hp.1 hp.2
  have hz := hw.2.2.2.1 f hf.1 hf.2
  have h5 := (h.1 p hp.1 hp.2).2.1
  have h4 := (h.1 p hp.1 hp.2).1
  have hff := (h.1 p hp.1 hp.2).2.2.2 f hf.1 (by omega)
  have h := INV_mono h (Int.le_refl t) (show m ≤ m + 1 by omega)
  unfold aFrame
  refine ⟨fun q h0 h1 => ?_, ?_, ?_, ?_, ?_, ?_, fun k h0 h1 => ?_⟩
  · have hq := h.1 q h0 h1
    refine ⟨?_, ?_, ?_, fun g g0 g1 => ?_⟩
    · have := hq.1
      simp [up]; split <;> omega
    · have := hq.2.1
      simp [up]; split <;> omega
    · simpa [up] using hq.2.2.1
    · have hg := hq.2.2.2 g g0 g1
      by_cases e : q = p ∧ g = f
      · obtain ⟨rfl, rfl⟩ := e
        simp [up]
        refine ⟨by omega, by omega, by omega, ?_⟩
        intro _
        split <;> omega
      · simpa [up, e] using hg
  · simpa [up] using h.2.1
  · simpa [up] using h.2.2.1
  · simpa [up] using h.2.2.2.1
  · simpa [up] using h.2.2.2.2.1
  · simpa [up] using h.2.2.2.2.2.1
  · simpa [up] using h.2.2.2.2.2.2 k h0 h1
/-- the frame that a send takes -/
theorem pgn_open {P S : sw_M} {t : Int} (hW : WFP P) (h : pgn P S t 4 ≠ -6) : (0 ≤ pgn P S t 4 ∧ pgn P S t 4 < 4) ∧ (0 ≤ op P S t (pgn P S t 4) ∧ op P S t (pgn P S t 4) < P 0 (pgn P S t 4) 2) ∧ t < P 2 (pgn P S t 4) (op P S t (pgn P S t 4)) ∧ S 1 (pgn P S t 4) (op P S t (pgn P S t 4)) < P 1 (pgn P S t 4) (op P S t (pgn P S t 4)) := by
  rcases pgn_spec P S t 4 with q | ⟨q0, q1, q2⟩
  · exact absurd q h
  · have q1 : pgn P S t 4 < 4 := by simpa using q1
    have hc := cand_open q2
    have hm := (hW.1 _ q0 q1).2.2.1.1
    rcases op_spec (S := S) (t := t) hm with ⟨o, _⟩ | ⟨o0, o1, o2, _⟩
    · exact absurd (hc.2.trans o) q2
    · exact ⟨⟨q0, q1⟩, ⟨o0, o1⟩, o2.1, o2.2⟩
theorem INV_send {P S : sw_M} {t m s : Int} (hW : WFP P) (ht : 0 ≤ t) (h : INV P S t m) : INV P (aSend P S t s) t (m + 2) := by
  have e : m + 2 = m + 1 + 1 := by omega
  unfold aSend
  split
  · exact INV_mono (INV_note (by omega) (INV_table ht h)) (Int.le_refl _) (by omega)
  · split
    · next hc =>
      rcases ck_spec P S t 4 (by omega) with q | q
      · exact absurd q hc
      · rw [e]; exact INV_note (by omega) (INV_clock ht (by simpa using q) h)
    · split
      · next hc =>
        obtain ⟨a, b, c, d⟩ := pgn_open hW hc
        rw [e]; exact INV_note (by omega) (INV_frame hW ht a b d h)
      · exact INV_mono (INV_note (by omega) h) (Int.le_refl _) (by omega)
theorem INV_shows {P S : sw_M} {t m : Int} (hW : WFP P) (ht : 0 ≤ t) (h : INV P S t m) : ∀ n : Nat, n ≤ 4 → INV P (aShows P S t n) t (m + n)
  | 0, _ => by simpa [aShows] using h
  | n + 1, hn => by
    have := INV_show (p := (n : Int)) hW (by omega) ht (INV_shows hW ht h n (by omega))
    have e : m + ((n + 1 : Nat) : Int) = m + (n : Int) + 1 := by push_cast; omega
    rw [e]; exact this
theorem INV_sends {P S : sw_M} {t m : Int} (hW : WFP P) (ht : 0 ≤ t) (h : INV P S t m) : ∀ n : Nat, INV P (aSends P S t n) t (m + 2 * n)
  | 0 => by simpa [aSends] using h
  | n + 1 => by
    have := INV_send (s := 4 * t + (n : Int)) hW ht (INV_sends hW ht h n)
    have e : m + 2 * ((n + 1 : Nat) : Int) = m + 2 * (n : Int) + 2 := by push_cast; omega
    rw [e]; exact this
/-- kinds that no bound speaks of -/
theorem INV_other {P S : sw_M} {t m : Int} {k : Nat} {i j v : Int} (hk : k = 11 ∨ k = 14) (h : INV P S t m) : INV P (up S k i j v) t m := by
  rcases hk with rfl | rfl
  all_goals
    refine ⟨fun q h0 h1 => ?_, ?_, ?_, ?_, ?_, ?_, fun k h0 h1 => ?_⟩
    · simpa [up] using h.1 q h0 h1
    · simpa [up] using h.2.1
    · simpa [up] using h.2.2.1
    · simpa [up] using h.2.2.2.1
    · simpa [up] using h.2.2.2.2.1
    · simpa [up] using h.2.2.2.2.2.1
    · simpa [up] using h.2.2.2.2.2.2 k h0 h1
theorem INV_rec {P S : sw_M} {t m : Int} (h : INV P S t m) : ∀ n : Nat, INV P (aRec S t n) t m
  | 0 => h
  | n + 1 => INV_other (Or.inl rfl) (INV_rec h n)
theorem INV_tick {P S : sw_M} {t m : Int} (hW : WFP P) (ht : 0 ≤ t) (h : INV P S t m) : INV P (aTick P S t) t (m + 12) := by
  have h1 := INV_shows hW ht h 4 (Nat.le_refl 4)
  have h2 := INV_sends hW ht h1 (P 3 0 1).toNat
  have hw := hW.2.2
  exact INV_other (Or.inr rfl) (INV_rec (INV_mono h2 (Int.le_refl _) (by push_cast; omega)) 4)
theorem INV_sim {P : sw_M} (hW : WFP P) : ∀ n : Nat, INV P (aSim P n) (n : Int) (12 * n)
  | 0 => INV_zero P hW
  | n + 1 => by
    have := INV_tick hW (by omega) (INV_sim hW n)
    exact INV_mono this (by push_cast; omega) (by push_cast; omega)
end
section
/-! The reference: loops over frames and programmes. -/
theorem wm_top {sh : sw_Sh} {d : sw_D} {Q : sw_R} {M : sw_M} {pc : Nat} {ls st : List sw_V} {a b : Int} (h : a = b) (kk : WM sh d Q pc ls (sI b :: st) M) : WM sh d Q pc ls (sI a :: st) M := by subst h; exact kk
set_option maxHeartbeats 4000000 in
set_option maxRecDepth 100000 in
theorem lM_frameOf {M P S : sw_M} {p t : Int} (hp : 0 ≤ p ∧ p < 4) (hb : 0 ≤ P 0 p 2 ∧ P 0 p 2 ≤ 10) (hm : M 1 0 (8 + p) = P 0 p 2) (hf : ∀ f, 0 ≤ f → f < P 0 p 2 → M 1 0 (12 + 10 * p + f) = P 1 p f ∧ M 1 0 (52 + 10 * p + f) = P 2 p f ∧ M 11 0 (10 * p + f) = S 1 p f) : ∀ (r n : Nat) (F fd : Int), n + r = (P 0 p 2).toNat → F = P 0 p 2 - ((n : Int) + 1) → fd = opn P S t p n → WM shM mX6_frameOf (isr (some (sI (op P S t p))) M) 16 [sR 0 0, sI p, sI t, sI fd, sI F] [] M := by
  intro r
  induction r with
  | zero =>
    intro n F fd hn hF hfd
    refine wm_iload (n := 18) dX6_frameOf_16 rfl rfl ?_
    refine wm_if_lt (t := 67) (n := 21) dX6_frameOf_18 (by decide) rfl (fun c18 => ?_) (fun c18 => ?_)
    · refine wm_iload_n (n := 68) dX6_frameOf_67 rfl rfl ?_
      refine wm_ireturn dX6_frameOf_68 rfl ?_
      exact ⟨by rw [hfd]; unfold op; rw [show n = (P 0 p 2).toNat by omega], rfl⟩
    · exfalso; omega
  | succ r ih =>
    intro n F fd hn hF hfd
    subst hF; subst hfd
    have hq := hf (P 0 p 2 - ((n : Int) + 1)) (by omega) (by omega)
    refine wm_iload (n := 18) dX6_frameOf_16 rfl rfl ?_
    refine wm_if_lt (t := 67) (n := 21) dX6_frameOf_18 (by decide) rfl (fun c18 => ?_) (fun c18 => ?_)
    · exfalso; omega
    · refine wm_aload_n (n := 22) dX6_frameOf_21 rfl rfl ?_
      refine wm_iload_n (n := 23) dX6_frameOf_22 rfl rfl ?_
      refine wm_iload (n := 25) dX6_frameOf_23 rfl rfl ?_
      refine wm_callv (n := 28) dX6_frameOf_25 rfl cvX6_108 (And.intro (Nat.le_of_ble_eq_true rfl) (Nat.le_of_ble_eq_true rfl)) (sM_dueOf _ _ _ (by omega) (by omega)) rfl rfl rfl rfl (by first | omega | (simp [up] at * <;> omega)) (Nat.le_of_ble_eq_true rfl) ?_
      refine wm_iload_n (n := 29) dX6_frameOf_28 rfl rfl ?_
      refine wm_icmp_le (t := 59) (n := 32) dX6_frameOf_29 (by decide) rfl (fun c29 => ?_) (fun c29 => ?_)
      · refine wm_iload_n (n := 60) dX6_frameOf_59 rfl rfl ?_
        refine wm_istore_n (n := 61) dX6_frameOf_60 rfl (Nat.le_of_ble_eq_true rfl) ?_
        refine wm_iinc (n := 64) dX6_frameOf_61 rfl rfl rfl (by first | omega | (simp [up] at * <;> omega)) ?_
        refine wm_goto (t := 16) dX6_frameOf_64 (by decide) ?_
        exact ih (n + 1) _ _ (by omega) (by push_cast; omega) (by simp only [opn]; split <;> omega)
      · refine wm_aload_n (n := 33) dX6_frameOf_32 rfl rfl ?_
        refine wm_getr (n := 36) (jj := 16) dX6_frameOf_33 rfl fkX6_41 rfl rfl rfl (by first | omega | (simp [up] at * <;> omega)) ?_
        refine wm_bipush (n := 38) dX6_frameOf_36 rfl (by omega) (by decide) ?_
        refine wm_iload_n (n := 39) dX6_frameOf_38 rfl rfl ?_
        refine wm_imul (n := 40) dX6_frameOf_39 rfl (by first | omega | (simp [up] at * <;> omega)) ?_
        refine wm_iload (n := 42) dX6_frameOf_40 rfl rfl ?_
        refine wm_iadd (n := 43) dX6_frameOf_42 rfl (by first | omega | (simp [up] at * <;> omega)) ?_
        refine wm_iaload (N := M) (n := 44) dX6_frameOf_43 rfl rfl (by first | omega | (simp [up] at * <;> omega)) (by first | omega | (simp [up] at * <;> omega)) rfl ?_
        refine wm_aload_n (n := 45) dX6_frameOf_44 rfl rfl ?_
        refine wm_iload_n (n := 46) dX6_frameOf_45 rfl rfl ?_
        refine wm_iload (n := 48) dX6_frameOf_46 rfl rfl ?_
        refine wm_callv (n := 51) dX6_frameOf_48 rfl cvX6_118 (And.intro (Nat.le_of_ble_eq_true rfl) (Nat.le_of_ble_eq_true rfl)) (sM_sizeOf _ _ _ (by omega) (by omega)) rfl rfl rfl rfl (by first | omega | (simp [up] at * <;> omega)) (Nat.le_of_ble_eq_true rfl) ?_
        refine wm_icmp_ge (t := 59) (n := 54) dX6_frameOf_51 (by decide) rfl (fun c51 => ?_) (fun c51 => ?_)
        · refine wm_iload_n (n := 60) dX6_frameOf_59 rfl rfl ?_
          refine wm_istore_n (n := 61) dX6_frameOf_60 rfl (Nat.le_of_ble_eq_true rfl) ?_
          refine wm_iinc (n := 64) dX6_frameOf_61 rfl rfl rfl (by first | omega | (simp [up] at * <;> omega)) ?_
          refine wm_goto (t := 16) dX6_frameOf_64 (by decide) ?_
          exact ih (n + 1) _ _ (by omega) (by push_cast; omega) (by simp only [opn]; split <;> omega)
        · refine wm_iload (n := 56) dX6_frameOf_54 rfl rfl ?_
          refine wm_goto (t := 60) dX6_frameOf_56 (by decide) ?_
          refine wm_istore_n (n := 61) dX6_frameOf_60 rfl (Nat.le_of_ble_eq_true rfl) ?_
          refine wm_iinc (n := 64) dX6_frameOf_61 rfl rfl rfl (by first | omega | (simp [up] at * <;> omega)) ?_
          refine wm_goto (t := 16) dX6_frameOf_64 (by decide) ?_
          exact ih (n + 1) _ _ (by omega) (by push_cast; omega) (by simp only [opn]; split <;> omega)

set_option maxHeartbeats 4000000 in
set_option maxRecDepth 100000 in
theorem sM_frameOf {M P S : sw_M} {p : Int} (t : Int) (hp : 0 ≤ p ∧ p < 4) (hb : 0 ≤ P 0 p 2 ∧ P 0 p 2 ≤ 10) (hm : M 1 0 (8 + p) = P 0 p 2) (hf : ∀ f, 0 ≤ f → f < P 0 p 2 → M 1 0 (12 + 10 * p + f) = P 1 p f ∧ M 1 0 (52 + 10 * p + f) = P 2 p f ∧ M 11 0 (10 * p + f) = S 1 p f) : Sp shM yX6_frameOf mX6_frameOf [sR 0 0, sI p, sI t] M (isr (some (sI (op P S t p))) M) := by
  refine Sp.of [sR 0 0, sI p, sI t, sU, sU] (by decide) rfl rfl (Nat.le_of_ble_eq_true rfl) ?_
  refine wm_bipush (n := 2) dX6_frameOf_0 rfl (by omega) (by decide) ?_
  refine wm_istore_n (n := 3) dX6_frameOf_2 rfl (Nat.le_of_ble_eq_true rfl) ?_
  refine wm_aload_n (n := 4) dX6_frameOf_3 rfl rfl ?_
  refine wm_getr (n := 7) (jj := 0) dX6_frameOf_4 rfl fkX6_7 rfl rfl rfl (by first | omega | (simp [up] at * <;> omega)) ?_
  refine wm_bipush (n := 9) dX6_frameOf_7 rfl (by omega) (by decide) ?_
  refine wm_iload_n (n := 10) dX6_frameOf_9 rfl rfl ?_
  refine wm_iadd (n := 11) dX6_frameOf_10 rfl (by first | omega | (simp [up] at * <;> omega)) ?_
  refine wm_iaload (N := M) (n := 12) dX6_frameOf_11 rfl rfl (by first | omega | (simp [up] at * <;> omega)) (by first | omega | (simp [up] at * <;> omega)) rfl ?_
  refine wm_iconst (n := 13) dX6_frameOf_12 rfl (by omega) ?_
  refine wm_isub (n := 14) dX6_frameOf_13 rfl (by first | omega | (simp [up] at * <;> omega)) ?_
  refine wm_istore (n := 16) dX6_frameOf_14 rfl (Nat.le_of_ble_eq_true rfl) ?_
  exact lM_frameOf hp hb hm hf (P 0 p 2).toNat 0 _ _ (by omega) (by simp; omega) rfl

set_option maxHeartbeats 4000000 in
set_option maxRecDepth 100000 in
theorem lM_before {M P : sw_M} {p t : Int} (hp : 0 ≤ p ∧ p < 4) (hb : 0 ≤ P 0 p 2 ∧ P 0 p 2 ≤ 10) (hm : M 1 0 (8 + p) = P 0 p 2) (hf : ∀ f, 0 ≤ f → f < P 0 p 2 → M 1 0 (52 + 10 * p + f) = P 2 p f) : ∀ (r n : Nat) (F cn : Int), n + r = (P 0 p 2).toNat → F = (n : Int) → cn = nDn P p t n → WM shM mX6_before (isr (some (sI (nD P p t))) M) 5 [sR 0 0, sI p, sI t, sI cn, sI F] [] M := by
  intro r
  induction r with
  | zero =>
    intro n F cn hn hF hc
    refine wm_iload (n := 7) dX6_before_5 rfl rfl ?_
    refine wm_aload_n (n := 8) dX6_before_7 rfl rfl ?_
    refine wm_getr (n := 11) (jj := 0) dX6_before_8 rfl fkX6_7 rfl rfl rfl (by first | omega | (simp [up] at * <;> omega)) ?_
    refine wm_bipush (n := 13) dX6_before_11 rfl (by omega) (by decide) ?_
    refine wm_iload_n (n := 14) dX6_before_13 rfl rfl ?_
    refine wm_iadd (n := 15) dX6_before_14 rfl (by first | omega | (simp [up] at * <;> omega)) ?_
    refine wm_iaload (N := M) (n := 16) dX6_before_15 rfl rfl (by first | omega | (simp [up] at * <;> omega)) (by first | omega | (simp [up] at * <;> omega)) rfl ?_
    refine wm_icmp_ge (t := 44) (n := 19) dX6_before_16 (by decide) rfl (fun c16 => ?_) (fun c16 => ?_)
    · refine wm_iload_n (n := 45) dX6_before_44 rfl rfl ?_
      refine wm_ireturn dX6_before_45 rfl ?_
      exact ⟨by rw [hc]; unfold nD; rw [show n = (P 0 p 2).toNat by omega], rfl⟩
    · exfalso; omega
  | succ r ih =>
    intro n F cn hn hF hc
    subst hF; subst hc
    have hq := hf (n : Int) (by omega) (by omega)
    have hbd := nDn_bd P p t n
    refine wm_iload (n := 7) dX6_before_5 rfl rfl ?_
    refine wm_aload_n (n := 8) dX6_before_7 rfl rfl ?_
    refine wm_getr (n := 11) (jj := 0) dX6_before_8 rfl fkX6_7 rfl rfl rfl (by first | omega | (simp [up] at * <;> omega)) ?_
    refine wm_bipush (n := 13) dX6_before_11 rfl (by omega) (by decide) ?_
    refine wm_iload_n (n := 14) dX6_before_13 rfl rfl ?_
    refine wm_iadd (n := 15) dX6_before_14 rfl (by first | omega | (simp [up] at * <;> omega)) ?_
    refine wm_iaload (N := M) (n := 16) dX6_before_15 rfl rfl (by first | omega | (simp [up] at * <;> omega)) (by first | omega | (simp [up] at * <;> omega)) rfl ?_
    refine wm_icmp_ge (t := 44) (n := 19) dX6_before_16 (by decide) rfl (fun c16 => ?_) (fun c16 => ?_)
    · exfalso; omega
    · refine wm_iload_n (n := 20) dX6_before_19 rfl rfl ?_
      refine wm_aload_n (n := 21) dX6_before_20 rfl rfl ?_
      refine wm_iload_n (n := 22) dX6_before_21 rfl rfl ?_
      refine wm_iload (n := 24) dX6_before_22 rfl rfl ?_
      refine wm_callv (n := 27) dX6_before_24 rfl cvX6_108 (And.intro (Nat.le_of_ble_eq_true rfl) (Nat.le_of_ble_eq_true rfl)) (sM_dueOf _ _ _ (by omega) (by omega)) rfl rfl rfl rfl (by first | omega | (simp [up] at * <;> omega)) (Nat.le_of_ble_eq_true rfl) ?_
      refine wm_iload_n (n := 28) dX6_before_27 rfl rfl ?_
      refine wm_icmp_ge (t := 35) (n := 31) dX6_before_28 (by decide) rfl (fun c28 => ?_) (fun c28 => ?_)
      · refine wm_iconst (n := 36) dX6_before_35 rfl (by omega) ?_
        refine wm_iadd (n := 37) dX6_before_36 rfl (by first | omega | (simp [up] at * <;> omega)) ?_
        refine wm_istore_n (n := 38) dX6_before_37 rfl (Nat.le_of_ble_eq_true rfl) ?_
        refine wm_iinc (n := 41) dX6_before_38 rfl rfl rfl (by first | omega | (simp [up] at * <;> omega)) ?_
        refine wm_goto (t := 5) dX6_before_41 (by decide) ?_
        exact ih (n + 1) _ _ (by omega) (by push_cast; omega) (by rw [nDn]; split <;> omega)
      · refine wm_iconst (n := 32) dX6_before_31 rfl (by omega) ?_
        refine wm_goto (t := 36) dX6_before_32 (by decide) ?_
        refine wm_iadd (n := 37) dX6_before_36 rfl (by first | omega | (simp [up] at * <;> omega)) ?_
        refine wm_istore_n (n := 38) dX6_before_37 rfl (Nat.le_of_ble_eq_true rfl) ?_
        refine wm_iinc (n := 41) dX6_before_38 rfl rfl rfl (by first | omega | (simp [up] at * <;> omega)) ?_
        refine wm_goto (t := 5) dX6_before_41 (by decide) ?_
        exact ih (n + 1) _ _ (by omega) (by push_cast; omega) (by rw [nDn]; split <;> omega)

set_option maxHeartbeats 4000000 in
set_option maxRecDepth 100000 in
theorem sM_before {M P : sw_M} {p : Int} (t : Int) (hp : 0 ≤ p ∧ p < 4) (hb : 0 ≤ P 0 p 2 ∧ P 0 p 2 ≤ 10) (hm : M 1 0 (8 + p) = P 0 p 2) (hf : ∀ f, 0 ≤ f → f < P 0 p 2 → M 1 0 (52 + 10 * p + f) = P 2 p f) : Sp shM yX6_before mX6_before [sR 0 0, sI p, sI t] M (isr (some (sI (nD P p t))) M) := by
  refine Sp.of [sR 0 0, sI p, sI t, sU, sU] (by decide) rfl rfl (Nat.le_of_ble_eq_true rfl) ?_
  refine wm_iconst (n := 1) dX6_before_0 rfl (by omega) ?_
  refine wm_istore_n (n := 2) dX6_before_1 rfl (Nat.le_of_ble_eq_true rfl) ?_
  refine wm_iconst (n := 3) dX6_before_2 rfl (by omega) ?_
  refine wm_istore (n := 5) dX6_before_3 rfl (Nat.le_of_ble_eq_true rfl) ?_
  exact lM_before hp hb hm hf (P 0 p 2).toNat 0 _ _ (by omega) rfl rfl

set_option maxHeartbeats 4000000 in
set_option maxRecDepth 100000 in
theorem lM_packetsOf {M P : sw_M} {p : Int} (hp : 0 ≤ p ∧ p < 4) (hb : 0 ≤ P 0 p 2 ∧ P 0 p 2 ≤ 10) (hm : M 1 0 (8 + p) = P 0 p 2) (hW : WFP P) (hf : ∀ f, 0 ≤ f → f < P 0 p 2 → M 1 0 (12 + 10 * p + f) = P 1 p f) : ∀ (r n : Nat) (F cn : Int), n + r = (P 0 p 2).toNat → F = (n : Int) → cn = szn P p n → WM shM mX6_packetsOf (isr (some (sI (szn P p (P 0 p 2).toNat))) M) 4 [sR 0 0, sI p, sI cn, sI F] [] M := by
  intro r
  induction r with
  | zero =>
    intro n F cn hn hF hc
    refine wm_iload_n (n := 5) dX6_packetsOf_4 rfl rfl ?_
    refine wm_aload_n (n := 6) dX6_packetsOf_5 rfl rfl ?_
    refine wm_getr (n := 9) (jj := 0) dX6_packetsOf_6 rfl fkX6_7 rfl rfl rfl (by first | omega | (simp [up] at * <;> omega)) ?_
    refine wm_bipush (n := 11) dX6_packetsOf_9 rfl (by omega) (by decide) ?_
    refine wm_iload_n (n := 12) dX6_packetsOf_11 rfl rfl ?_
    refine wm_iadd (n := 13) dX6_packetsOf_12 rfl (by first | omega | (simp [up] at * <;> omega)) ?_
    refine wm_iaload (N := M) (n := 14) dX6_packetsOf_13 rfl rfl (by first | omega | (simp [up] at * <;> omega)) (by first | omega | (simp [up] at * <;> omega)) rfl ?_
    refine wm_icmp_ge (t := 32) (n := 17) dX6_packetsOf_14 (by decide) rfl (fun c14 => ?_) (fun c14 => ?_)
    · refine wm_iload_n (n := 33) dX6_packetsOf_32 rfl rfl ?_
      refine wm_ireturn dX6_packetsOf_33 rfl ?_
      exact ⟨by rw [hc, show n = (P 0 p 2).toNat by omega], rfl⟩
    · exfalso; omega
  | succ r ih =>
    intro n F cn hn hF hc
    subst hF; subst hc
    have hq := hf (n : Int) (by omega) (by omega)
    have hz := ((hW.1 p hp.1 hp.2).2.2.2.1 (n : Int) (by omega) (by omega)).1
    have hbd := szn_bd hW hp n (by omega)
    refine wm_iload_n (n := 5) dX6_packetsOf_4 rfl rfl ?_
    refine wm_aload_n (n := 6) dX6_packetsOf_5 rfl rfl ?_
    refine wm_getr (n := 9) (jj := 0) dX6_packetsOf_6 rfl fkX6_7 rfl rfl rfl (by first | omega | (simp [up] at * <;> omega)) ?_
    refine wm_bipush (n := 11) dX6_packetsOf_9 rfl (by omega) (by decide) ?_
    refine wm_iload_n (n := 12) dX6_packetsOf_11 rfl rfl ?_
    refine wm_iadd (n := 13) dX6_packetsOf_12 rfl (by first | omega | (simp [up] at * <;> omega)) ?_
    refine wm_iaload (N := M) (n := 14) dX6_packetsOf_13 rfl rfl (by first | omega | (simp [up] at * <;> omega)) (by first | omega | (simp [up] at * <;> omega)) rfl ?_
    refine wm_icmp_ge (t := 32) (n := 17) dX6_packetsOf_14 (by decide) rfl (fun c14 => ?_) (fun c14 => ?_)
    · exfalso; omega
    · refine wm_iload_n (n := 18) dX6_packetsOf_17 rfl rfl ?_
      refine wm_aload_n (n := 19) dX6_packetsOf_18 rfl rfl ?_
      refine wm_iload_n (n := 20) dX6_packetsOf_19 rfl rfl ?_
      refine wm_iload_n (n := 21) dX6_packetsOf_20 rfl rfl ?_
      refine wm_callv (n := 24) dX6_packetsOf_21 rfl cvX6_118 (And.intro (Nat.le_of_ble_eq_true rfl) (Nat.le_of_ble_eq_true rfl)) (sM_sizeOf _ _ _ (by omega) (by omega)) rfl rfl rfl rfl (by first | omega | (simp [up] at * <;> omega)) (Nat.le_of_ble_eq_true rfl) ?_
      refine wm_iadd (n := 25) dX6_packetsOf_24 rfl (by first | omega | (simp [up] at * <;> omega)) ?_
      refine wm_istore_n (n := 26) dX6_packetsOf_25 rfl (Nat.le_of_ble_eq_true rfl) ?_
      refine wm_iinc (n := 29) dX6_packetsOf_26 rfl rfl rfl (by first | omega | (simp [up] at * <;> omega)) ?_
      refine wm_goto (t := 4) dX6_packetsOf_29 (by decide) ?_
      exact ih (n + 1) _ _ (by omega) (by push_cast; omega) (by rw [szn]; omega)

set_option maxHeartbeats 4000000 in
set_option maxRecDepth 100000 in
theorem sM_packetsOf {M P : sw_M} {p : Int} (hp : 0 ≤ p ∧ p < 4) (hb : 0 ≤ P 0 p 2 ∧ P 0 p 2 ≤ 10) (hm : M 1 0 (8 + p) = P 0 p 2) (hW : WFP P) (hf : ∀ f, 0 ≤ f → f < P 0 p 2 → M 1 0 (12 + 10 * p + f) = P 1 p f) : Sp shM yX6_packetsOf mX6_packetsOf [sR 0 0, sI p] M (isr (some (sI (szn P p (P 0 p 2).toNat))) M) := by
  refine Sp.of [sR 0 0, sI p, sU, sU] (by decide) rfl rfl (Nat.le_of_ble_eq_true rfl) ?_
  refine wm_iconst (n := 1) dX6_packetsOf_0 rfl (by omega) ?_
  refine wm_istore_n (n := 2) dX6_packetsOf_1 rfl (Nat.le_of_ble_eq_true rfl) ?_
  refine wm_iconst (n := 3) dX6_packetsOf_2 rfl (by omega) ?_
  refine wm_istore_n (n := 4) dX6_packetsOf_3 rfl (Nat.le_of_ble_eq_true rfl) ?_
  exact lM_packetsOf hp hb hm hW hf (P 0 p 2).toNat 0 _ _ (by omega) rfl rfl

set_option maxHeartbeats 4000000 in
set_option maxRecDepth 100000 in
theorem lM_clockNow {M P S : sw_M} {t : Int} (hW : WFP P) (ht : 0 ≤ t ∧ t < 100) (hR : ∀ p, 0 ≤ p → p < 4 → (p ≠ M 0 0 27 → M 1 0 (4 + p) = P 0 p 1) ∧ (p = M 0 0 27 → P 0 p 1 = 0) ∧ M 18 0 p = S 6 0 p ∧ (S 6 0 p = -6 ∨ (0 ≤ S 6 0 p ∧ S 6 0 p ≤ t))) : ∀ (r n : Nat) (F fd : Int), n + r = 4 → F = 3 - (n : Int) → fd = ck P S t n → WM shM mX6_clockNow (isr (some (sI (ck P S t 4))) M) 5 [sR 0 0, sI t, sI fd, sI F] [] M := by
  intro r
  induction r with
  | zero =>
    intro n F fd hn hF hfd
    refine wm_iload_n (n := 6) dX6_clockNow_5 rfl rfl ?_
    refine wm_if_lt (t := 50) (n := 9) dX6_clockNow_6 (by decide) rfl (fun c6 => ?_) (fun c6 => ?_)
    · refine wm_iload_n (n := 51) dX6_clockNow_50 rfl rfl ?_
      refine wm_ireturn dX6_clockNow_51 rfl ?_
      exact ⟨by rw [hfd, show n = 4 by omega], rfl⟩
    · exfalso; omega
  | succ r ih =>
    intro n F fd hn hF hfd
    subst hF; subst hfd
    have hq := hR (3 - (n : Int)) (by omega) (by omega)
    have hcl := (hW.1 (3 - (n : Int)) (by omega) (by omega)).2.1
    refine wm_iload_n (n := 6) dX6_clockNow_5 rfl rfl ?_
    refine wm_if_lt (t := 50) (n := 9) dX6_clockNow_6 (by decide) rfl (fun c6 => ?_) (fun c6 => ?_)
    · exfalso; omega
    · refine wm_iload_n (n := 10) dX6_clockNow_9 rfl rfl ?_
      refine wm_aload_n (n := 11) dX6_clockNow_10 rfl rfl ?_
      refine wm_geti (N := M) (n := 14) (jj := 27) dX6_clockNow_11 rfl fkX6_65 rfl rfl rfl (by first | omega | (simp [up] at * <;> omega)) rfl ?_
      refine wm_icmp_eq (t := 42) (n := 17) dX6_clockNow_14 (by decide) rfl (fun c14 => ?_) (fun c14 => ?_)
      · refine wm_iload_n (n := 43) dX6_clockNow_42 rfl rfl ?_
        refine wm_istore_n (n := 44) dX6_clockNow_43 rfl (Nat.le_of_ble_eq_true rfl) ?_
        refine wm_iinc (n := 47) dX6_clockNow_44 rfl rfl rfl (by first | omega | (simp [up] at * <;> omega)) ?_
        refine wm_goto (t := 5) dX6_clockNow_47 (by decide) ?_
        exact ih (n + 1) _ _ (by omega) (by push_cast; omega) (by simp only [ck]; split <;> omega)
      · refine wm_aload_n (n := 18) dX6_clockNow_17 rfl rfl ?_
        refine wm_getr (n := 21) (jj := 0) dX6_clockNow_18 rfl fkX6_7 rfl rfl rfl (by first | omega | (simp [up] at * <;> omega)) ?_
        refine wm_iconst (n := 22) dX6_clockNow_21 rfl (by omega) ?_
        refine wm_iload_n (n := 23) dX6_clockNow_22 rfl rfl ?_
        refine wm_iadd (n := 24) dX6_clockNow_23 rfl (by first | omega | (simp [up] at * <;> omega)) ?_
        refine wm_iaload (N := M) (n := 25) dX6_clockNow_24 rfl rfl (by first | omega | (simp [up] at * <;> omega)) (by first | omega | (simp [up] at * <;> omega)) rfl ?_
        refine wm_aload_n (n := 26) dX6_clockNow_25 rfl rfl ?_
        refine wm_getr (n := 29) (jj := 23) dX6_clockNow_26 rfl fkX6_62 rfl rfl rfl (by first | omega | (simp [up] at * <;> omega)) ?_
        refine wm_iload_n (n := 30) dX6_clockNow_29 rfl rfl ?_
        refine wm_iaload (N := M) (n := 31) dX6_clockNow_30 rfl rfl (by first | omega | (simp [up] at * <;> omega)) (by first | omega | (simp [up] at * <;> omega)) rfl ?_
        refine wm_iload_n (n := 32) dX6_clockNow_31 rfl rfl ?_
        refine wm_callsB (n := 35) dX6_clockNow_32 rfl csX6_155 (And.intro (Nat.le_of_ble_eq_true rfl) (Nat.le_of_ble_eq_true rfl)) (bM_isAgain _ _ _ _ (by omega) (by omega) (by omega)) rfl rfl (Nat.le_of_ble_eq_true rfl) (fun c32 => ?_) (fun c32 => ?_)
        · refine wm_if_eq (t := 42) (n := 38) dX6_clockNow_35 (by decide) rfl (fun z => absurd z (by decide)) (fun _ => ?_)
          refine wm_iload_n (n := 39) dX6_clockNow_38 rfl rfl ?_
          refine wm_goto (t := 43) dX6_clockNow_39 (by decide) ?_
          refine wm_istore_n (n := 44) dX6_clockNow_43 rfl (Nat.le_of_ble_eq_true rfl) ?_
          refine wm_iinc (n := 47) dX6_clockNow_44 rfl rfl rfl (by first | omega | (simp [up] at * <;> omega)) ?_
          refine wm_goto (t := 5) dX6_clockNow_47 (by decide) ?_
          exact ih (n + 1) _ _ (by omega) (by push_cast; omega) (by simp only [ck]; split <;> omega)
        · refine wm_if_eq (t := 42) (n := 38) dX6_clockNow_35 (by decide) rfl (fun _ => ?_) (fun z => absurd z (by decide))
          refine wm_iload_n (n := 43) dX6_clockNow_42 rfl rfl ?_
          refine wm_istore_n (n := 44) dX6_clockNow_43 rfl (Nat.le_of_ble_eq_true rfl) ?_
          refine wm_iinc (n := 47) dX6_clockNow_44 rfl rfl rfl (by first | omega | (simp [up] at * <;> omega)) ?_
          refine wm_goto (t := 5) dX6_clockNow_47 (by decide) ?_
          exact ih (n + 1) _ _ (by omega) (by push_cast; omega) (by simp only [ck]; split <;> omega)

set_option maxHeartbeats 4000000 in
set_option maxRecDepth 100000 in
theorem sM_clockNow {M P S : sw_M} {t : Int} (hW : WFP P) (ht : 0 ≤ t ∧ t < 100) (hR : ∀ p, 0 ≤ p → p < 4 → (p ≠ M 0 0 27 → M 1 0 (4 + p) = P 0 p 1) ∧ (p = M 0 0 27 → P 0 p 1 = 0) ∧ M 18 0 p = S 6 0 p ∧ (S 6 0 p = -6 ∨ (0 ≤ S 6 0 p ∧ S 6 0 p ≤ t))) : Sp shM yX6_clockNow mX6_clockNow [sR 0 0, sI t] M (isr (some (sI (ck P S t 4))) M) := by
  refine Sp.of [sR 0 0, sI t, sU, sU] (by decide) rfl rfl (Nat.le_of_ble_eq_true rfl) ?_
  refine wm_bipush (n := 2) dX6_clockNow_0 rfl (by omega) (by decide) ?_
  refine wm_istore_n (n := 3) dX6_clockNow_2 rfl (Nat.le_of_ble_eq_true rfl) ?_
  refine wm_iconst (n := 4) dX6_clockNow_3 rfl (by omega) ?_
  refine wm_istore_n (n := 5) dX6_clockNow_4 rfl (Nat.le_of_ble_eq_true rfl) ?_
  exact lM_clockNow hW ht hR 4 0 _ _ rfl rfl rfl
end
section
/-! Pure rows: the reference's stream, a packet further. -/
theorem RSM_stf {M S : sw_M} {s : Int} (h : RSM M S) : RSM (up (up (up (up M 7 0 s 0) 8 0 s (-6)) 9 0 s (-6)) 10 0 s 0) (aNote S s 0 (-6) (-6) 0) := by
  unfold aNote
  refine ⟨by simpa [up] using h.1, by simpa [up] using h.2.1, by simpa [up] using h.2.2.1, by simpa [up] using h.2.2.2.1, fun q h0 h1 => by simpa [up] using h.2.2.2.2.1 q h0 h1, fun x hx => ?_, fun t' ht' q h0 h1 => by simpa [up] using h.2.2.2.2.2.2 t' (by simpa [up] using ht') q h0 h1⟩
  by_cases e : x = s
  · subst e; simp [up]
  · have := h.2.2.2.2.2.1 x (by simpa [up, e] using hx)
    simpa [up, e] using this
theorem RSM_tab {M S : sw_M} {s t : Int} (h : RSM M S) : RSM (up (up (up (up (up (up M 0 0 24 t) 7 0 s 1) 8 0 s (-6)) 9 0 s (-6)) 10 0 s (M 17 0 4 % 16)) 17 0 4 (M 17 0 4 + 1)) (aNote (up S 0 0 0 t) s 1 (-6) (-6) (S 12 0 1 % 16)) := by
  unfold aNote
  have h4 := h.2.2.2.1
  refine ⟨by simp [up], by simpa [up] using h.2.1, by simpa [up] using h.2.2.1, by simp [up, h4], fun q h0 h1 => ?_, fun x hx => ?_, fun t' ht' q h0 h1 => by simpa [up] using h.2.2.2.2.2.2 t' (by simpa [up] using ht') q h0 h1⟩
  · have e : ¬ q = 4 := by omega
    simpa [up, e] using h.2.2.2.2.1 q h0 h1
  · by_cases e : x = s
    · subst e; simp [up, h4]
    · have := h.2.2.2.2.2.1 x (by simpa [up, e] using hx)
      simpa [up, e] using this
theorem RSM_clk {M S : sw_M} {s t p : Int} (hp : 0 ≤ p ∧ p < 4) (h : RSM M S) : RSM (up (up (up (up (up (up M 18 0 p t) 7 0 s 2) 8 0 s p) 9 0 s (-6)) 10 0 s (M 17 0 p % 16)) 17 0 p (M 17 0 p + 1)) (aNote (up (up S 6 0 p t) 5 0 p (S 5 0 p + 1)) s 2 p (-6) (S 5 0 p % 16)) := by
  unfold aNote
  have hpp := h.2.2.2.2.1 p hp.1 hp.2
  refine ⟨by simpa [up] using h.1, by simpa [up] using h.2.1, by simpa [up] using h.2.2.1, ?_, fun q h0 h1 => ?_, fun x hx => ?_, fun t' ht' q h0 h1 => by simpa [up] using h.2.2.2.2.2.2 t' (by simpa [up] using ht') q h0 h1⟩
  · have e : ¬ (4 : Int) = p := by omega
    simpa [up, e] using h.2.2.2.1
  · have hq := h.2.2.2.2.1 q h0 h1
    by_cases e : q = p
    · subst e
      refine ⟨by simpa [up] using hq.1, by simp [up, hq.2.1], by simp [up], fun g g0 g1 => by simpa [up] using hq.2.2.2 g g0 g1⟩
    · refine ⟨by simpa [up] using hq.1, by simpa [up, e] using hq.2.1, by simpa [up, e] using hq.2.2.1, fun g g0 g1 => by simpa [up] using hq.2.2.2 g g0 g1⟩
  · by_cases e : x = s
    · subst e; simp [up, hpp.2.1]
    · have := h.2.2.2.2.2.1 x (by simpa [up, e] using hx)
      simpa [up, e] using this
theorem RSM_frm {M S : sw_M} {s t p f v : Int} (hp : 0 ≤ p ∧ p < 4) (hf : 0 ≤ f ∧ f < 10) (hv : v = if S 1 p f = 0 then t else S 2 p f) (h : RSM M S) : RSM (up (up (up (up (up (up (up (up (up M 12 0 (10 * p + f) v) 13 0 (10 * p + f) t) 11 0 (10 * p + f) (M 11 0 (10 * p + f) + 1)) 16 0 p (M 16 0 p + 1)) 7 0 s 3) 8 0 s p) 9 0 s f) 10 0 s (M 17 0 p % 16)) 17 0 p (M 17 0 p + 1)) (aNote (aFrame S t p f) s 3 p f (S 5 0 p % 16)) := by
  unfold aNote aFrame
  have hpp := h.2.2.2.2.1 p hp.1 hp.2
  have hpf := hpp.2.2.2 f hf.1 hf.2
  refine ⟨by simpa [up] using h.1, by simpa [up] using h.2.1, by simpa [up] using h.2.2.1, ?_, fun q h0 h1 => ?_, fun x hx => ?_, fun t' ht' q h0 h1 => by simpa [up] using h.2.2.2.2.2.2 t' (by simpa [up] using ht') q h0 h1⟩
  · have e : ¬ (4 : Int) = p := by omega
    simpa [up, e] using h.2.2.2.1
  · have hq := h.2.2.2.2.1 q h0 h1
    refine ⟨?_, ?_, by simpa [up] using hq.2.2.1, fun g g0 g1 => ?_⟩
    · by_cases e : q = p
      · subst e; simp [up, hq.1]
      · simpa [up, e] using hq.1
    · by_cases e : q = p
      · subst e; simp [up, hq.2.1]
      · simpa [up, e] using hq.2.1
    · have hg := hq.2.2.2 g g0 g1
      by_cases e : q = p ∧ g = f
      · obtain ⟨rfl, rfl⟩ := e
        refine ⟨by simp [up, hg.1], by simp [up, hv], by simp [up], by simpa [up] using hg.2.2.2⟩
      · have e2 : ¬ 10 * q + g = 10 * p + f := fun z => e ⟨by omega, by omega⟩
        refine ⟨by simpa [up, e, e2] using hg.1, by simpa [up, e, e2] using hg.2.1, by simpa [up, e, e2] using hg.2.2.1, by simpa [up] using hg.2.2.2⟩
  · by_cases e : x = s
    · subst e; simp [up, hpp.2.1]
    · have := h.2.2.2.2.2.1 x (by simpa [up, e] using hx)
      simpa [up, e] using this
/-- a frame that is due: shown, or late -/
theorem RSM_shown {M S P : sw_M} {t p : Int} (hp : 0 ≤ p ∧ p < 4) (hn : 0 ≤ nD P p t ∧ nD P p t < 10) (hc : nD P p t < P 0 p 2 ∧ P 2 p (nD P p t) = t) (h : RSM M S) (hs : S 1 p (nD P p t) = P 1 p (nD P p t)) : RSM (up (up M 14 0 (10 * p + nD P p t) 1) 16 0 p (M 16 0 p - M 11 0 (10 * p + nD P p t))) (aShow P S t p) := by
  unfold aShow
  rw [if_pos hc, if_pos hs]
  have hpp := h.2.2.2.2.1 p hp.1 hp.2
  have hpf := hpp.2.2.2 _ hn.1 hn.2
  refine ⟨by simpa [up] using h.1, by simpa [up] using h.2.1, by simpa [up] using h.2.2.1, by simpa [up] using h.2.2.2.1, fun q h0 h1 => ?_, fun x hx => by simpa [up] using h.2.2.2.2.2.1 x (by simpa [up] using hx), fun t' ht' q h0 h1 => by simpa [up] using h.2.2.2.2.2.2 t' (by simpa [up] using ht') q h0 h1⟩
  have hq := h.2.2.2.2.1 q h0 h1
  refine ⟨?_, by simpa [up] using hq.2.1, by simpa [up] using hq.2.2.1, fun g g0 g1 => ?_⟩
  · by_cases e : q = p
    · subst e; simp [up, hq.1, hpf.1]
    · simpa [up, e] using hq.1
  · have hg := hq.2.2.2 g g0 g1
    refine ⟨by simpa [up] using hg.1, by simpa [up] using hg.2.1, by simpa [up] using hg.2.2.1, ?_⟩
    by_cases e : q = p ∧ g = nD P p t
    · obtain ⟨rfl, rfl⟩ := e; simp [up]
    · have e2 : ¬ 10 * q + g = 10 * p + nD P p t := fun z => e ⟨by omega, by omega⟩
      simpa [up, e, e2] using hg.2.2.2
theorem RSM_late {M S P : sw_M} {t p v : Int} (hp : 0 ≤ p ∧ p < 4) (hn : 0 ≤ nD P p t ∧ nD P p t < 10) (hc : nD P p t < P 0 p 2 ∧ P 2 p (nD P p t) = t) (h : RSM M S) (hs : S 1 p (nD P p t) ≠ P 1 p (nD P p t)) (hv : v = if S 0 0 2 = -6 then t else S 0 0 2) : RSM (up (up (up (up M 14 0 (10 * p + nD P p t) 0) 16 0 p (M 16 0 p - M 11 0 (10 * p + nD P p t))) 0 0 25 (M 0 0 25 + 1)) 0 0 26 v) (aShow P S t p) := by
  unfold aShow
  rw [if_pos hc, if_neg hs]
  have hpp := h.2.2.2.2.1 p hp.1 hp.2
  have hpf := hpp.2.2.2 _ hn.1 hn.2
  refine ⟨by simpa [up] using h.1, by simp [up, h.2.1], by simp [up, hv], by simpa [up] using h.2.2.2.1, fun q h0 h1 => ?_, fun x hx => by simpa [up] using h.2.2.2.2.2.1 x (by simpa [up] using hx), fun t' ht' q h0 h1 => by simpa [up] using h.2.2.2.2.2.2 t' (by simpa [up] using ht') q h0 h1⟩
  have hq := h.2.2.2.2.1 q h0 h1
  refine ⟨?_, by simpa [up] using hq.2.1, by simpa [up] using hq.2.2.1, fun g g0 g1 => ?_⟩
  · by_cases e : q = p
    · subst e; simp [up, hq.1, hpf.1]
    · simpa [up, e] using hq.1
  · have hg := hq.2.2.2 g g0 g1
    refine ⟨by simpa [up] using hg.1, by simpa [up] using hg.2.1, by simpa [up] using hg.2.2.1, ?_⟩
    by_cases e : q = p ∧ g = nD P p t
    · obtain ⟨rfl, rfl⟩ := e; simp [up]
    · have e2 : ¬ 10 * q + g = 10 * p + nD P p t := fun z => e ⟨by omega, by omega⟩
      simpa [up, e, e2] using hg.2.2.2
theorem RSM_hb {M S : sw_M} {t p : Int} (hp : 0 ≤ p ∧ p < 4) (h : RSM M S) : RSM (up M 15 0 (4 * t + p) (M 16 0 p)) (up S 11 p t (S 4 0 p)) := by
  have hpp := h.2.2.2.2.1 p hp.1 hp.2
  refine ⟨by simpa [up] using h.1, by simpa [up] using h.2.1, by simpa [up] using h.2.2.1, by simpa [up] using h.2.2.2.1, fun q h0 h1 => by simpa [up] using h.2.2.2.2.1 q h0 h1, fun x hx => by simpa [up] using h.2.2.2.2.2.1 x (by simpa [up] using hx), fun t' ht' q h0 h1 => ?_⟩
  have ht2 : S 14 0 t' = 1 := by simpa [up] using ht'
  have hq := h.2.2.2.2.2.2 t' ht2 q h0 h1
  by_cases e : q = p ∧ t' = t
  · obtain ⟨rfl, rfl⟩ := e; simp [up, hpp.1]
  · have e2 : ¬ 4 * t' + q = 4 * t + p := fun z => e ⟨by omega, by omega⟩
    simpa [up, e, e2] using hq
theorem RSM_mark {M S : sw_M} {t : Int} (h : RSM M S) (hb : ∀ p, 0 ≤ p → p < 4 → M 15 0 (4 * t + p) = S 11 p t) : RSM M (up S 14 0 t 1) := by
  refine ⟨by simpa [up] using h.1, by simpa [up] using h.2.1, by simpa [up] using h.2.2.1, by simpa [up] using h.2.2.2.1, fun q h0 h1 => by simpa [up] using h.2.2.2.2.1 q h0 h1, fun x hx => by simpa [up] using h.2.2.2.2.2.1 x (by simpa [up] using hx), fun t' ht' q h0 h1 => ?_⟩
  by_cases e : t' = t
  · subst e; simpa [up] using hb q h0 h1
  · simpa [up] using h.2.2.2.2.2.2 t' (by simpa [up, e] using ht') q h0 h1
theorem frM_refl (M : sw_M) : frM M M := ⟨rfl, rfl, rfl, rfl, fun _ _ => rfl, rfl⟩
theorem frM_trans {M M1 M2 : sw_M} (h : frM M M1) (h' : frM M1 M2) : frM M M2 := ⟨h'.1.trans h.1, h'.2.1.trans h.2.1, h'.2.2.1.trans h.2.2.1, h'.2.2.2.1.trans h.2.2.2.1, fun j hj => (h'.2.2.2.2.1 j hj).trans (h.2.2.2.2.1 j hj), h'.2.2.2.2.2.trans h.2.2.2.2.2⟩
/-- a kind of the stream's own -/
theorem frM_up {M M1 : sw_M} {k : Nat} {i j v : Int} (h : frM M M1) (hk : 5 ≤ k) : frM M (up M1 k i j v) := by
  have e : ∀ q : Nat, q < 5 → up M1 k i j v q = M1 q := fun q hq => by unfold up; rw [if_neg (by omega)]
  exact ⟨(e 1 (by omega)).trans h.1, (e 2 (by omega)).trans h.2.1, (e 3 (by omega)).trans h.2.2.1, (e 4 (by omega)).trans h.2.2.2.1, fun q hq => by rw [e 0 (by omega)]; exact h.2.2.2.2.1 q hq, by rw [e 0 (by omega)]; exact h.2.2.2.2.2⟩
theorem frM_up0 {M M1 : sw_M} {j v : Int} (h : frM M M1) (hj : j = 24 ∨ j = 25 ∨ j = 26) : frM M (up M1 0 0 j v) := by
  refine ⟨h.1, h.2.1, h.2.2.1, h.2.2.2.1, fun q hq => ?_, ?_⟩
  · have e : ¬ q = j := by omega
    have := h.2.2.2.2.1 q hq
    simpa [up, e] using this
  · have e : ¬ (27 : Int) = j := by omega
    simpa [up, e] using h.2.2.2.2.2
theorem RPs_fr {M M' P : sw_M} {lo : Int} (h : RPs M P lo) (hf : frM M M') : RPs M' P lo := by
  unfold RPs at h ⊢
  rw [hf.1]; exact h
end
section
/-! The reference: programmeNow, put, showDue, sendOne. -/
set_option maxHeartbeats 4000000 in
set_option maxRecDepth 100000 in
theorem lM_programmeNow {M P S : sw_M} {t : Int} (hW : WFP P) (ht : 0 ≤ t ∧ t < 100) (hP : RPs M P (M 0 0 27)) (hS : RSM M S) : ∀ (r n : Nat) (F fd le : Int) (x : sw_V), n + r = 4 → F = (n : Int) → fd = pgn P S t n → (fd ≠ -6 → le = P 2 fd (cand P S t fd)) → WM shM mX6_programmeNow (isr (some (sI (pgn P S t 4))) M) 8 [sR 0 0, sI t, sI fd, sI le, sI F, x] [] M := by
  intro r
  induction r with
  | zero =>
    intro n F fd le x hn hF hfd hl
    refine wm_iload (n := 10) dX6_programmeNow_8 rfl rfl ?_
    refine wm_iconst (n := 11) dX6_programmeNow_10 rfl (by omega) ?_
    refine wm_icmp_ge (t := 95) (n := 14) dX6_programmeNow_11 (by decide) rfl (fun c11 => ?_) (fun c11 => ?_)
    · refine wm_iload_n (n := 96) dX6_programmeNow_95 rfl rfl ?_
      refine wm_ireturn dX6_programmeNow_96 rfl ?_
      exact ⟨by rw [hfd, show n = 4 by omega], rfl⟩
    · exfalso; omega
  | succ r ih =>
    intro n F fd le x hn hF hfd hl
    subst hF; subst hfd
    have a := hP.1 (n : Int) (by omega) (by omega)
    have b := hS.2.2.2.2.1 (n : Int) (by omega) (by omega)
    have hw := hW.1 (n : Int) (by omega) (by omega)
    have hop := op_spec (P := P) (S := S) (t := t) (p := (n : Int)) hw.2.2.1.1
    have hpg := pgn_spec P S t n
    have hrm : (n : Int) ≠ M 0 0 27 → M 1 0 (0 + (n : Int)) = P 0 (n : Int) 0 := fun z => by rw [Int.zero_add]; exact (a.1 z).1
    have hz := a.2
    refine wm_iload (n := 10) dX6_programmeNow_8 rfl rfl ?_
    refine wm_iconst (n := 11) dX6_programmeNow_10 rfl (by omega) ?_
    refine wm_icmp_ge (t := 95) (n := 14) dX6_programmeNow_11 (by decide) rfl (fun c11 => ?_) (fun c11 => ?_)
    · exfalso; omega
    · refine wm_iload (n := 16) dX6_programmeNow_14 rfl rfl ?_
      refine wm_aload_n (n := 17) dX6_programmeNow_16 rfl rfl ?_
      refine wm_geti (N := M) (n := 20) (jj := 27) dX6_programmeNow_17 rfl fkX6_65 rfl rfl rfl (by first | omega | (simp [up] at * <;> omega)) rfl ?_
      refine wm_icmp_eq (t := 42) (n := 23) dX6_programmeNow_20 (by decide) rfl (fun c20 => ?_) (fun c20 => ?_)
      · have hcn : cand P S t (n : Int) = -6 := by unfold cand; split <;> omega
        refine wm_bipush (n := 44) dX6_programmeNow_42 rfl (by omega) (by decide) ?_
        refine wm_goto (t := 54) dX6_programmeNow_44 (by decide) ?_
        refine wm_istore (n := 56) dX6_programmeNow_54 rfl (Nat.le_of_ble_eq_true rfl) ?_
        refine wm_iload (n := 58) dX6_programmeNow_56 rfl rfl ?_
        refine wm_if_lt (t := 89) (n := 61) dX6_programmeNow_58 (by decide) rfl (fun c58 => ?_) (fun c58 => ?_)
        · refine wm_iinc (n := 92) dX6_programmeNow_89 rfl rfl rfl (by first | omega | (simp [up] at * <;> omega)) ?_
          refine wm_goto (t := 8) dX6_programmeNow_92 (by decide) ?_
          exact ih (n + 1) _ _ _ _ (by omega) (by push_cast; omega) (by rw [pgn, nx, hcn]; split <;> omega) (fun z => by first | exact hl z | (rw [hcn]; omega))
        · refine wm_iload_n (n := 62) dX6_programmeNow_61 rfl rfl ?_
          refine wm_if_lt (t := 77) (n := 65) dX6_programmeNow_62 (by decide) rfl (fun c62 => ?_) (fun c62 => ?_)
          · refine wm_iload (n := 79) dX6_programmeNow_77 rfl rfl ?_
            refine wm_istore_n (n := 80) dX6_programmeNow_79 rfl (Nat.le_of_ble_eq_true rfl) ?_
            refine wm_aload_n (n := 81) dX6_programmeNow_80 rfl rfl ?_
            refine wm_iload (n := 83) dX6_programmeNow_81 rfl rfl ?_
            refine wm_iload (n := 85) dX6_programmeNow_83 rfl rfl ?_
            refine wm_callv (n := 88) dX6_programmeNow_85 rfl cvX6_108 (And.intro (Nat.le_of_ble_eq_true rfl) (Nat.le_of_ble_eq_true rfl)) (sM_dueOf _ _ _ (by omega) (by omega)) rfl rfl rfl rfl (by first | omega | (simp [up] at * <;> omega)) (Nat.le_of_ble_eq_true rfl) ?_
            refine wm_istore_n (n := 89) dX6_programmeNow_88 rfl (Nat.le_of_ble_eq_true rfl) ?_
            refine wm_iinc (n := 92) dX6_programmeNow_89 rfl rfl rfl (by first | omega | (simp [up] at * <;> omega)) ?_
            refine wm_goto (t := 8) dX6_programmeNow_92 (by decide) ?_
            exact ih (n + 1) _ _ _ _ (by omega) (by push_cast; omega) (by rw [pgn, nx, hcn]; split <;> omega) (fun z => by first | exact hl z | (rw [hcn]; omega))
          · refine wm_aload_n (n := 66) dX6_programmeNow_65 rfl rfl ?_
            refine wm_iload (n := 68) dX6_programmeNow_66 rfl rfl ?_
            refine wm_iload (n := 70) dX6_programmeNow_68 rfl rfl ?_
            refine wm_callv (n := 73) dX6_programmeNow_70 rfl cvX6_108 (And.intro (Nat.le_of_ble_eq_true rfl) (Nat.le_of_ble_eq_true rfl)) (sM_dueOf _ _ _ (by omega) (by omega)) rfl rfl rfl rfl (by first | omega | (simp [up] at * <;> omega)) (Nat.le_of_ble_eq_true rfl) ?_
            refine wm_iload_n (n := 74) dX6_programmeNow_73 rfl rfl ?_
            refine wm_icmp_ge (t := 89) (n := 77) dX6_programmeNow_74 (by decide) rfl (fun c74 => ?_) (fun c74 => ?_)
            · refine wm_iinc (n := 92) dX6_programmeNow_89 rfl rfl rfl (by first | omega | (simp [up] at * <;> omega)) ?_
              refine wm_goto (t := 8) dX6_programmeNow_92 (by decide) ?_
              exact ih (n + 1) _ _ _ _ (by omega) (by push_cast; omega) (by rw [pgn, nx, hcn]; split <;> omega) (fun z => by first | exact hl z | (rw [hcn]; omega))
            · refine wm_iload (n := 79) dX6_programmeNow_77 rfl rfl ?_
              refine wm_istore_n (n := 80) dX6_programmeNow_79 rfl (Nat.le_of_ble_eq_true rfl) ?_
              refine wm_aload_n (n := 81) dX6_programmeNow_80 rfl rfl ?_
              refine wm_iload (n := 83) dX6_programmeNow_81 rfl rfl ?_
              refine wm_iload (n := 85) dX6_programmeNow_83 rfl rfl ?_
              refine wm_callv (n := 88) dX6_programmeNow_85 rfl cvX6_108 (And.intro (Nat.le_of_ble_eq_true rfl) (Nat.le_of_ble_eq_true rfl)) (sM_dueOf _ _ _ (by omega) (by omega)) rfl rfl rfl rfl (by first | omega | (simp [up] at * <;> omega)) (Nat.le_of_ble_eq_true rfl) ?_
              refine wm_istore_n (n := 89) dX6_programmeNow_88 rfl (Nat.le_of_ble_eq_true rfl) ?_
              refine wm_iinc (n := 92) dX6_programmeNow_89 rfl rfl rfl (by first | omega | (simp [up] at * <;> omega)) ?_
              refine wm_goto (t := 8) dX6_programmeNow_92 (by decide) ?_
              exact ih (n + 1) _ _ _ _ (by omega) (by push_cast; omega) (by rw [pgn, nx, hcn]; split <;> omega) (fun z => by first | exact hl z | (rw [hcn]; omega))
      · refine wm_aload_n (n := 24) dX6_programmeNow_23 rfl rfl ?_
        refine wm_getr (n := 27) (jj := 21) dX6_programmeNow_24 rfl fkX6_56 rfl rfl rfl (by first | omega | (simp [up] at * <;> omega)) ?_
        refine wm_iload (n := 29) dX6_programmeNow_27 rfl rfl ?_
        refine wm_iaload (N := M) (n := 30) dX6_programmeNow_29 rfl rfl (by first | omega | (simp [up] at * <;> omega)) (by first | omega | (simp [up] at * <;> omega)) rfl ?_
        refine wm_aload_n (n := 31) dX6_programmeNow_30 rfl rfl ?_
        refine wm_getr (n := 34) (jj := 0) dX6_programmeNow_31 rfl fkX6_7 rfl rfl rfl (by first | omega | (simp [up] at * <;> omega)) ?_
        refine wm_iconst (n := 35) dX6_programmeNow_34 rfl (by omega) ?_
        refine wm_iload (n := 37) dX6_programmeNow_35 rfl rfl ?_
        refine wm_iadd (n := 38) dX6_programmeNow_37 rfl (by first | omega | (simp [up] at * <;> omega)) ?_
        refine wm_iaload (N := M) (n := 39) dX6_programmeNow_38 rfl rfl (by first | omega | (simp [up] at * <;> omega)) (by first | omega | (simp [up] at * <;> omega)) rfl ?_
        refine wm_icmp_lt (t := 47) (n := 42) dX6_programmeNow_39 (by decide) rfl (fun c39 => ?_) (fun c39 => ?_)
        · have hne : (n : Int) ≠ M 0 0 27 := by omega
          have hA := a.1 hne
          have hcn : cand P S t (n : Int) = op P S t (n : Int) := by unfold cand; rw [if_pos (by omega)]
          have hd : op P S t (n : Int) = -6 ∨ (M 1 0 (52 + 10 * (n : Int) + op P S t (n : Int)) = P 2 (n : Int) (op P S t (n : Int))) := by
            rcases hop with hop | hop
            · exact Or.inl hop.1
            · exact Or.inr (hA.2.2.2 _ hop.1 hop.2.1).2
          refine wm_aload_n (n := 48) dX6_programmeNow_47 rfl rfl ?_
          refine wm_iload (n := 50) dX6_programmeNow_48 rfl rfl ?_
          refine wm_iload_n (n := 51) dX6_programmeNow_50 rfl rfl ?_
          refine wm_callv (n := 54) dX6_programmeNow_51 rfl cvX6_158 (And.intro (Nat.le_of_ble_eq_true rfl) (Nat.le_of_ble_eq_true rfl)) (sM_frameOf (P := P) (S := S) t (by omega) hw.2.2.1 hA.2.2.1 (fun f f0 f1 => ⟨(hA.2.2.2 f f0 f1).1, (hA.2.2.2 f f0 f1).2, (b.2.2.2 f f0 (by omega)).1⟩)) rfl rfl rfl rfl (by first | omega | (simp [up] at * <;> omega)) (Nat.le_of_ble_eq_true rfl) ?_
          refine wm_istore (n := 56) dX6_programmeNow_54 rfl (Nat.le_of_ble_eq_true rfl) ?_
          refine wm_iload (n := 58) dX6_programmeNow_56 rfl rfl ?_
          refine wm_if_lt (t := 89) (n := 61) dX6_programmeNow_58 (by decide) rfl (fun c58 => ?_) (fun c58 => ?_)
          · refine wm_iinc (n := 92) dX6_programmeNow_89 rfl rfl rfl (by first | omega | (simp [up] at * <;> omega)) ?_
            refine wm_goto (t := 8) dX6_programmeNow_92 (by decide) ?_
            exact ih (n + 1) _ _ _ _ (by omega) (by push_cast; omega) (by rw [pgn, nx, hcn]; split <;> omega) (fun z => by first | exact hl z | (rw [hcn]; omega))
          · refine wm_iload_n (n := 62) dX6_programmeNow_61 rfl rfl ?_
            refine wm_if_lt (t := 77) (n := 65) dX6_programmeNow_62 (by decide) rfl (fun c62 => ?_) (fun c62 => ?_)
            · refine wm_iload (n := 79) dX6_programmeNow_77 rfl rfl ?_
              refine wm_istore_n (n := 80) dX6_programmeNow_79 rfl (Nat.le_of_ble_eq_true rfl) ?_
              refine wm_aload_n (n := 81) dX6_programmeNow_80 rfl rfl ?_
              refine wm_iload (n := 83) dX6_programmeNow_81 rfl rfl ?_
              refine wm_iload (n := 85) dX6_programmeNow_83 rfl rfl ?_
              refine wm_callv (n := 88) dX6_programmeNow_85 rfl cvX6_108 (And.intro (Nat.le_of_ble_eq_true rfl) (Nat.le_of_ble_eq_true rfl)) (sM_dueOf _ _ _ (by omega) (by omega)) rfl rfl rfl rfl (by first | omega | (simp [up] at * <;> omega)) (Nat.le_of_ble_eq_true rfl) ?_
              refine wm_istore_n (n := 89) dX6_programmeNow_88 rfl (Nat.le_of_ble_eq_true rfl) ?_
              refine wm_iinc (n := 92) dX6_programmeNow_89 rfl rfl rfl (by first | omega | (simp [up] at * <;> omega)) ?_
              refine wm_goto (t := 8) dX6_programmeNow_92 (by decide) ?_
              exact ih (n + 1) _ _ _ _ (by omega) (by push_cast; omega) (by rw [pgn, nx, hcn]; split <;> omega) (fun z => by first | exact hl z | (rw [hcn]; omega))
            · refine wm_aload_n (n := 66) dX6_programmeNow_65 rfl rfl ?_
              refine wm_iload (n := 68) dX6_programmeNow_66 rfl rfl ?_
              refine wm_iload (n := 70) dX6_programmeNow_68 rfl rfl ?_
              refine wm_callv (n := 73) dX6_programmeNow_70 rfl cvX6_108 (And.intro (Nat.le_of_ble_eq_true rfl) (Nat.le_of_ble_eq_true rfl)) (sM_dueOf _ _ _ (by omega) (by omega)) rfl rfl rfl rfl (by first | omega | (simp [up] at * <;> omega)) (Nat.le_of_ble_eq_true rfl) ?_
              refine wm_iload_n (n := 74) dX6_programmeNow_73 rfl rfl ?_
              refine wm_icmp_ge (t := 89) (n := 77) dX6_programmeNow_74 (by decide) rfl (fun c74 => ?_) (fun c74 => ?_)
              · refine wm_iinc (n := 92) dX6_programmeNow_89 rfl rfl rfl (by first | omega | (simp [up] at * <;> omega)) ?_
                refine wm_goto (t := 8) dX6_programmeNow_92 (by decide) ?_
                exact ih (n + 1) _ _ _ _ (by omega) (by push_cast; omega) (by rw [pgn, nx, hcn]; split <;> omega) (fun z => by first | exact hl z | (rw [hcn]; omega))
              · refine wm_iload (n := 79) dX6_programmeNow_77 rfl rfl ?_
                refine wm_istore_n (n := 80) dX6_programmeNow_79 rfl (Nat.le_of_ble_eq_true rfl) ?_
                refine wm_aload_n (n := 81) dX6_programmeNow_80 rfl rfl ?_
                refine wm_iload (n := 83) dX6_programmeNow_81 rfl rfl ?_
                refine wm_iload (n := 85) dX6_programmeNow_83 rfl rfl ?_
                refine wm_callv (n := 88) dX6_programmeNow_85 rfl cvX6_108 (And.intro (Nat.le_of_ble_eq_true rfl) (Nat.le_of_ble_eq_true rfl)) (sM_dueOf _ _ _ (by omega) (by omega)) rfl rfl rfl rfl (by first | omega | (simp [up] at * <;> omega)) (Nat.le_of_ble_eq_true rfl) ?_
                refine wm_istore_n (n := 89) dX6_programmeNow_88 rfl (Nat.le_of_ble_eq_true rfl) ?_
                refine wm_iinc (n := 92) dX6_programmeNow_89 rfl rfl rfl (by first | omega | (simp [up] at * <;> omega)) ?_
                refine wm_goto (t := 8) dX6_programmeNow_92 (by decide) ?_
                exact ih (n + 1) _ _ _ _ (by omega) (by push_cast; omega) (by rw [pgn, nx, hcn]; split <;> omega) (fun z => by first | exact hl z | (rw [hcn]; omega))
        · have hcn : cand P S t (n : Int) = -6 := by unfold cand; split <;> omega
          refine wm_bipush (n := 44) dX6_programmeNow_42 rfl (by omega) (by decide) ?_
          refine wm_goto (t := 54) dX6_programmeNow_44 (by decide) ?_
          refine wm_istore (n := 56) dX6_programmeNow_54 rfl (Nat.le_of_ble_eq_true rfl) ?_
          refine wm_iload (n := 58) dX6_programmeNow_56 rfl rfl ?_
          refine wm_if_lt (t := 89) (n := 61) dX6_programmeNow_58 (by decide) rfl (fun c58 => ?_) (fun c58 => ?_)
          · refine wm_iinc (n := 92) dX6_programmeNow_89 rfl rfl rfl (by first | omega | (simp [up] at * <;> omega)) ?_
            refine wm_goto (t := 8) dX6_programmeNow_92 (by decide) ?_
            exact ih (n + 1) _ _ _ _ (by omega) (by push_cast; omega) (by rw [pgn, nx, hcn]; split <;> omega) (fun z => by first | exact hl z | (rw [hcn]; omega))
          · refine wm_iload_n (n := 62) dX6_programmeNow_61 rfl rfl ?_
            refine wm_if_lt (t := 77) (n := 65) dX6_programmeNow_62 (by decide) rfl (fun c62 => ?_) (fun c62 => ?_)
            · refine wm_iload (n := 79) dX6_programmeNow_77 rfl rfl ?_
              refine wm_istore_n (n := 80) dX6_programmeNow_79 rfl (Nat.le_of_ble_eq_true rfl) ?_
              refine wm_aload_n (n := 81) dX6_programmeNow_80 rfl rfl ?_
              refine wm_iload (n := 83) dX6_programmeNow_81 rfl rfl ?_
              refine wm_iload (n := 85) dX6_programmeNow_83 rfl rfl ?_
              refine wm_callv (n := 88) dX6_programmeNow_85 rfl cvX6_108 (And.intro (Nat.le_of_ble_eq_true rfl) (Nat.le_of_ble_eq_true rfl)) (sM_dueOf _ _ _ (by omega) (by omega)) rfl rfl rfl rfl (by first | omega | (simp [up] at * <;> omega)) (Nat.le_of_ble_eq_true rfl) ?_
              refine wm_istore_n (n := 89) dX6_programmeNow_88 rfl (Nat.le_of_ble_eq_true rfl) ?_
              refine wm_iinc (n := 92) dX6_programmeNow_89 rfl rfl rfl (by first | omega | (simp [up] at * <;> omega)) ?_
              refine wm_goto (t := 8) dX6_programmeNow_92 (by decide) ?_
              exact ih (n + 1) _ _ _ _ (by omega) (by push_cast; omega) (by rw [pgn, nx, hcn]; split <;> omega) (fun z => by first | exact hl z | (rw [hcn]; omega))
            · refine wm_aload_n (n := 66) dX6_programmeNow_65 rfl rfl ?_
              refine wm_iload (n := 68) dX6_programmeNow_66 rfl rfl ?_
              refine wm_iload (n := 70) dX6_programmeNow_68 rfl rfl ?_
              refine wm_callv (n := 73) dX6_programmeNow_70 rfl cvX6_108 (And.intro (Nat.le_of_ble_eq_true rfl) (Nat.le_of_ble_eq_true rfl)) (sM_dueOf _ _ _ (by omega) (by omega)) rfl rfl rfl rfl (by first | omega | (simp [up] at * <;> omega)) (Nat.le_of_ble_eq_true rfl) ?_
              refine wm_iload_n (n := 74) dX6_programmeNow_73 rfl rfl ?_
              refine wm_icmp_ge (t := 89) (n := 77) dX6_programmeNow_74 (by decide) rfl (fun c74 => ?_) (fun c74 => ?_)
              · refine wm_iinc (n := 92) dX6_programmeNow_89 rfl rfl rfl (by first | omega | (simp [up] at * <;> omega)) ?_
                refine wm_goto (t := 8) dX6_programmeNow_92 (by decide) ?_
                exact ih (n + 1) _ _ _ _ (by omega) (by push_cast; omega) (by rw [pgn, nx, hcn]; split <;> omega) (fun z => by first | exact hl z | (rw [hcn]; omega))
              · refine wm_iload (n := 79) dX6_programmeNow_77 rfl rfl ?_
                refine wm_istore_n (n := 80) dX6_programmeNow_79 rfl (Nat.le_of_ble_eq_true rfl) ?_
                refine wm_aload_n (n := 81) dX6_programmeNow_80 rfl rfl ?_
                refine wm_iload (n := 83) dX6_programmeNow_81 rfl rfl ?_
                refine wm_iload (n := 85) dX6_programmeNow_83 rfl rfl ?_
                refine wm_callv (n := 88) dX6_programmeNow_85 rfl cvX6_108 (And.intro (Nat.le_of_ble_eq_true rfl) (Nat.le_of_ble_eq_true rfl)) (sM_dueOf _ _ _ (by omega) (by omega)) rfl rfl rfl rfl (by first | omega | (simp [up] at * <;> omega)) (Nat.le_of_ble_eq_true rfl) ?_
                refine wm_istore_n (n := 89) dX6_programmeNow_88 rfl (Nat.le_of_ble_eq_true rfl) ?_
                refine wm_iinc (n := 92) dX6_programmeNow_89 rfl rfl rfl (by first | omega | (simp [up] at * <;> omega)) ?_
                refine wm_goto (t := 8) dX6_programmeNow_92 (by decide) ?_
                exact ih (n + 1) _ _ _ _ (by omega) (by push_cast; omega) (by rw [pgn, nx, hcn]; split <;> omega) (fun z => by first | exact hl z | (rw [hcn]; omega))

set_option maxHeartbeats 4000000 in
set_option maxRecDepth 100000 in
theorem sM_programmeNow {M P S : sw_M} {t : Int} (hW : WFP P) (ht : 0 ≤ t ∧ t < 100) (hP : RPs M P (M 0 0 27)) (hS : RSM M S) : Sp shM yX6_programmeNow mX6_programmeNow [sR 0 0, sI t] M (isr (some (sI (pgn P S t 4))) M) := by
  refine Sp.of [sR 0 0, sI t, sU, sU, sU, sU] (by decide) rfl rfl (Nat.le_of_ble_eq_true rfl) ?_
  refine wm_bipush (n := 2) dX6_programmeNow_0 rfl (by omega) (by decide) ?_
  refine wm_istore_n (n := 3) dX6_programmeNow_2 rfl (Nat.le_of_ble_eq_true rfl) ?_
  refine wm_iconst (n := 4) dX6_programmeNow_3 rfl (by omega) ?_
  refine wm_istore_n (n := 5) dX6_programmeNow_4 rfl (Nat.le_of_ble_eq_true rfl) ?_
  refine wm_iconst (n := 6) dX6_programmeNow_5 rfl (by omega) ?_
  refine wm_istore (n := 8) dX6_programmeNow_6 rfl (Nat.le_of_ble_eq_true rfl) ?_
  exact lM_programmeNow hW ht hP hS 4 0 _ _ _ _ rfl rfl rfl (fun z => absurd rfl z)

set_option maxHeartbeats 4000000 in
set_option maxRecDepth 100000 in
theorem sM_put0 (M : sw_M) (s p f : Int) (hs : 0 ≤ s ∧ s < 400) : Sp shM yX6_put mX6_put [sR 0 0, sI s, sI 0, sI p, sI f] M (isr none (up (up (up (up M 7 0 s 0) 8 0 s p) 9 0 s f) 10 0 s 0)) := by
  refine Sp.of [sR 0 0, sI s, sI 0, sI p, sI f, sU] (by decide) rfl rfl (Nat.le_of_ble_eq_true rfl) ?_
  refine wm_iload_n (n := 1) dX6_put_0 rfl rfl ?_
  refine wm_if_ne (t := 9) (n := 4) dX6_put_1 (by decide) rfl (fun c1 => ?_) (fun c1 => ?_)
  · refine wm_iload_n (n := 10) dX6_put_9 rfl rfl ?_
    refine wm_iconst (n := 11) dX6_put_10 rfl (by omega) ?_
    refine wm_icmp_ne (t := 18) (n := 14) dX6_put_11 (by decide) rfl (fun c11 => ?_) (fun c11 => ?_)
    · refine wm_iload_n (n := 19) dX6_put_18 rfl rfl ?_
      refine wm_istore (n := 21) dX6_put_19 rfl (Nat.le_of_ble_eq_true rfl) ?_
      refine wm_aload_n (n := 22) dX6_put_21 rfl rfl ?_
      refine wm_getr (n := 25) (jj := 12) dX6_put_22 rfl fkX6_29 rfl rfl rfl (by first | omega | (simp [up] at * <;> omega)) ?_
      refine wm_iload_n (n := 26) dX6_put_25 rfl rfl ?_
      refine wm_iload_n (n := 27) dX6_put_26 rfl rfl ?_
      refine wm_iastore (n := 28) dX6_put_27 rfl rfl (by first | omega | (simp [up] at * <;> omega)) (by first | omega | (simp [up] at * <;> omega)) ?_
      refine wm_aload_n (n := 29) dX6_put_28 rfl rfl ?_
      refine wm_getr (n := 32) (jj := 13) dX6_put_29 rfl fkX6_32 rfl rfl rfl (by first | omega | (simp [up] at * <;> omega)) ?_
      refine wm_iload_n (n := 33) dX6_put_32 rfl rfl ?_
      refine wm_iload_n (n := 34) dX6_put_33 rfl rfl ?_
      refine wm_iastore (n := 35) dX6_put_34 rfl rfl (by first | omega | (simp [up] at * <;> omega)) (by first | omega | (simp [up] at * <;> omega)) ?_
      refine wm_aload_n (n := 36) dX6_put_35 rfl rfl ?_
      refine wm_getr (n := 39) (jj := 14) dX6_put_36 rfl fkX6_35 rfl rfl rfl (by first | omega | (simp [up] at * <;> omega)) ?_
      refine wm_iload_n (n := 40) dX6_put_39 rfl rfl ?_
      refine wm_iload (n := 42) dX6_put_40 rfl rfl ?_
      refine wm_iastore (n := 43) dX6_put_42 rfl rfl (by first | omega | (simp [up] at * <;> omega)) (by first | omega | (simp [up] at * <;> omega)) ?_
      refine wm_aload_n (n := 44) dX6_put_43 rfl rfl ?_
      refine wm_getr (n := 47) (jj := 15) dX6_put_44 rfl fkX6_38 rfl rfl rfl (by first | omega | (simp [up] at * <;> omega)) ?_
      refine wm_iload_n (n := 48) dX6_put_47 rfl rfl ?_
      refine wm_iload (n := 50) dX6_put_48 rfl rfl ?_
      refine wm_if_ge (t := 57) (n := 53) dX6_put_50 (by decide) rfl (fun c50 => ?_) (fun c50 => ?_)
      · refine wm_aload_n (n := 58) dX6_put_57 rfl rfl ?_
        refine wm_getr (n := 61) (jj := 22) dX6_put_58 rfl fkX6_59 rfl rfl rfl (by first | omega | (simp [up] at * <;> omega)) ?_
        refine wm_iload (n := 63) dX6_put_61 rfl rfl ?_
        refine wm_iaload (N := M) (n := 64) dX6_put_63 rfl rfl (by first | omega | (simp [up] at * <;> omega)) (by first | omega | (simp [up] at * <;> omega)) rfl ?_
        refine wm_bipush (n := 66) dX6_put_64 rfl (by omega) (by decide) ?_
        refine wm_irem (n := 67) dX6_put_66 rfl (by first | omega | (simp [up] at * <;> omega)) (by first | omega | (simp [up] at * <;> omega)) ?_
        refine wm_iastore (n := 68) dX6_put_67 rfl rfl (by first | omega | (simp [up] at * <;> omega)) (by first | omega | (simp [up] at * <;> omega)) ?_
        refine wm_iload (n := 70) dX6_put_68 rfl rfl ?_
        refine wm_if_lt (t := 84) (n := 73) dX6_put_70 (by decide) rfl (fun c70 => ?_) (fun c70 => ?_)
        · refine wm_return dX6_put_84 rfl ?_
          exact ⟨rfl, by first | rfl | (exfalso; omega)⟩
        · refine wm_aload_n (n := 74) dX6_put_73 rfl rfl ?_
          refine wm_getr (n := 77) (jj := 22) dX6_put_74 rfl fkX6_59 rfl rfl rfl (by first | omega | (simp [up] at * <;> omega)) ?_
          refine wm_iload (n := 79) dX6_put_77 rfl rfl ?_
          refine wm_dup2 (n := 80) dX6_put_79 rfl ?_
          refine wm_iaload (N := M) (n := 81) dX6_put_80 rfl rfl (by first | omega | (simp [up] at * <;> omega)) (by first | omega | (simp [up] at * <;> omega)) rfl ?_
          refine wm_iconst (n := 82) dX6_put_81 rfl (by omega) ?_
          refine wm_iadd (n := 83) dX6_put_82 rfl (by first | omega | (simp [up] at * <;> omega)) ?_
          refine wm_iastore (n := 84) dX6_put_83 rfl rfl (by first | omega | (simp [up] at * <;> omega)) (by first | omega | (simp [up] at * <;> omega)) ?_
          refine wm_return dX6_put_84 rfl ?_
          exact ⟨rfl, by first | rfl | (exfalso; omega)⟩
      · refine wm_iconst (n := 54) dX6_put_53 rfl (by omega) ?_
        refine wm_goto (t := 67) dX6_put_54 (by decide) ?_
        refine wm_iastore (n := 68) dX6_put_67 rfl rfl (by first | omega | (simp [up] at * <;> omega)) (by first | omega | (simp [up] at * <;> omega)) ?_
        refine wm_iload (n := 70) dX6_put_68 rfl rfl ?_
        refine wm_if_lt (t := 84) (n := 73) dX6_put_70 (by decide) rfl (fun c70 => ?_) (fun c70 => ?_)
        · refine wm_return dX6_put_84 rfl ?_
          exact ⟨rfl, by first | rfl | (exfalso; omega)⟩
        · refine wm_aload_n (n := 74) dX6_put_73 rfl rfl ?_
          refine wm_getr (n := 77) (jj := 22) dX6_put_74 rfl fkX6_59 rfl rfl rfl (by first | omega | (simp [up] at * <;> omega)) ?_
          refine wm_iload (n := 79) dX6_put_77 rfl rfl ?_
          refine wm_dup2 (n := 80) dX6_put_79 rfl ?_
          refine wm_iaload (N := M) (n := 81) dX6_put_80 rfl rfl (by first | omega | (simp [up] at * <;> omega)) (by first | omega | (simp [up] at * <;> omega)) rfl ?_
          refine wm_iconst (n := 82) dX6_put_81 rfl (by omega) ?_
          refine wm_iadd (n := 83) dX6_put_82 rfl (by first | omega | (simp [up] at * <;> omega)) ?_
          refine wm_iastore (n := 84) dX6_put_83 rfl rfl (by first | omega | (simp [up] at * <;> omega)) (by first | omega | (simp [up] at * <;> omega)) ?_
          refine wm_return dX6_put_84 rfl ?_
          exact ⟨rfl, by first | rfl | (exfalso; omega)⟩
    · refine wm_iconst (n := 15) dX6_put_14 rfl (by omega) ?_
      refine wm_goto (t := 19) dX6_put_15 (by decide) ?_
      refine wm_istore (n := 21) dX6_put_19 rfl (Nat.le_of_ble_eq_true rfl) ?_
      refine wm_aload_n (n := 22) dX6_put_21 rfl rfl ?_
      refine wm_getr (n := 25) (jj := 12) dX6_put_22 rfl fkX6_29 rfl rfl rfl (by first | omega | (simp [up] at * <;> omega)) ?_
      refine wm_iload_n (n := 26) dX6_put_25 rfl rfl ?_
      refine wm_iload_n (n := 27) dX6_put_26 rfl rfl ?_
      refine wm_iastore (n := 28) dX6_put_27 rfl rfl (by first | omega | (simp [up] at * <;> omega)) (by first | omega | (simp [up] at * <;> omega)) ?_
      refine wm_aload_n (n := 29) dX6_put_28 rfl rfl ?_
      refine wm_getr (n := 32) (jj := 13) dX6_put_29 rfl fkX6_32 rfl rfl rfl (by first | omega | (simp [up] at * <;> omega)) ?_
      refine wm_iload_n (n := 33) dX6_put_32 rfl rfl ?_
      refine wm_iload_n (n := 34) dX6_put_33 rfl rfl ?_
      refine wm_iastore (n := 35) dX6_put_34 rfl rfl (by first | omega | (simp [up] at * <;> omega)) (by first | omega | (simp [up] at * <;> omega)) ?_
      refine wm_aload_n (n := 36) dX6_put_35 rfl rfl ?_
      refine wm_getr (n := 39) (jj := 14) dX6_put_36 rfl fkX6_35 rfl rfl rfl (by first | omega | (simp [up] at * <;> omega)) ?_
      refine wm_iload_n (n := 40) dX6_put_39 rfl rfl ?_
      refine wm_iload (n := 42) dX6_put_40 rfl rfl ?_
      refine wm_iastore (n := 43) dX6_put_42 rfl rfl (by first | omega | (simp [up] at * <;> omega)) (by first | omega | (simp [up] at * <;> omega)) ?_
      refine wm_aload_n (n := 44) dX6_put_43 rfl rfl ?_
      refine wm_getr (n := 47) (jj := 15) dX6_put_44 rfl fkX6_38 rfl rfl rfl (by first | omega | (simp [up] at * <;> omega)) ?_
      refine wm_iload_n (n := 48) dX6_put_47 rfl rfl ?_
      refine wm_iload (n := 50) dX6_put_48 rfl rfl ?_
      refine wm_if_ge (t := 57) (n := 53) dX6_put_50 (by decide) rfl (fun c50 => ?_) (fun c50 => ?_)
      · refine wm_aload_n (n := 58) dX6_put_57 rfl rfl ?_
        refine wm_getr (n := 61) (jj := 22) dX6_put_58 rfl fkX6_59 rfl rfl rfl (by first | omega | (simp [up] at * <;> omega)) ?_
        refine wm_iload (n := 63) dX6_put_61 rfl rfl ?_
        refine wm_iaload (N := M) (n := 64) dX6_put_63 rfl rfl (by first | omega | (simp [up] at * <;> omega)) (by first | omega | (simp [up] at * <;> omega)) rfl ?_
        refine wm_bipush (n := 66) dX6_put_64 rfl (by omega) (by decide) ?_
        refine wm_irem (n := 67) dX6_put_66 rfl (by first | omega | (simp [up] at * <;> omega)) (by first | omega | (simp [up] at * <;> omega)) ?_
        refine wm_iastore (n := 68) dX6_put_67 rfl rfl (by first | omega | (simp [up] at * <;> omega)) (by first | omega | (simp [up] at * <;> omega)) ?_
        refine wm_iload (n := 70) dX6_put_68 rfl rfl ?_
        refine wm_if_lt (t := 84) (n := 73) dX6_put_70 (by decide) rfl (fun c70 => ?_) (fun c70 => ?_)
        · refine wm_return dX6_put_84 rfl ?_
          exact ⟨rfl, by first | rfl | (exfalso; omega)⟩
        · refine wm_aload_n (n := 74) dX6_put_73 rfl rfl ?_
          refine wm_getr (n := 77) (jj := 22) dX6_put_74 rfl fkX6_59 rfl rfl rfl (by first | omega | (simp [up] at * <;> omega)) ?_
          refine wm_iload (n := 79) dX6_put_77 rfl rfl ?_
          refine wm_dup2 (n := 80) dX6_put_79 rfl ?_
          refine wm_iaload (N := M) (n := 81) dX6_put_80 rfl rfl (by first | omega | (simp [up] at * <;> omega)) (by first | omega | (simp [up] at * <;> omega)) rfl ?_
          refine wm_iconst (n := 82) dX6_put_81 rfl (by omega) ?_
          refine wm_iadd (n := 83) dX6_put_82 rfl (by first | omega | (simp [up] at * <;> omega)) ?_
          refine wm_iastore (n := 84) dX6_put_83 rfl rfl (by first | omega | (simp [up] at * <;> omega)) (by first | omega | (simp [up] at * <;> omega)) ?_
          refine wm_return dX6_put_84 rfl ?_
          exact ⟨rfl, by first | rfl | (exfalso; omega)⟩
      · refine wm_iconst (n := 54) dX6_put_53 rfl (by omega) ?_
        refine wm_goto (t := 67) dX6_put_54 (by decide) ?_
        refine wm_iastore (n := 68) dX6_put_67 rfl rfl (by first | omega | (simp [up] at * <;> omega)) (by first | omega | (simp [up] at * <;> omega)) ?_
        refine wm_iload (n := 70) dX6_put_68 rfl rfl ?_
        refine wm_if_lt (t := 84) (n := 73) dX6_put_70 (by decide) rfl (fun c70 => ?_) (fun c70 => ?_)
        · refine wm_return dX6_put_84 rfl ?_
          exact ⟨rfl, by first | rfl | (exfalso; omega)⟩
        · refine wm_aload_n (n := 74) dX6_put_73 rfl rfl ?_
          refine wm_getr (n := 77) (jj := 22) dX6_put_74 rfl fkX6_59 rfl rfl rfl (by first | omega | (simp [up] at * <;> omega)) ?_
          refine wm_iload (n := 79) dX6_put_77 rfl rfl ?_
          refine wm_dup2 (n := 80) dX6_put_79 rfl ?_
          refine wm_iaload (N := M) (n := 81) dX6_put_80 rfl rfl (by first | omega | (simp [up] at * <;> omega)) (by first | omega | (simp [up] at * <;> omega)) rfl ?_
          refine wm_iconst (n := 82) dX6_put_81 rfl (by omega) ?_
          refine wm_iadd (n := 83) dX6_put_82 rfl (by first | omega | (simp [up] at * <;> omega)) ?_
          refine wm_iastore (n := 84) dX6_put_83 rfl rfl (by first | omega | (simp [up] at * <;> omega)) (by first | omega | (simp [up] at * <;> omega)) ?_
          refine wm_return dX6_put_84 rfl ?_
          exact ⟨rfl, by first | rfl | (exfalso; omega)⟩
  · refine wm_bipush (n := 6) dX6_put_4 rfl (by omega) (by decide) ?_
    refine wm_goto (t := 19) dX6_put_6 (by decide) ?_
    refine wm_istore (n := 21) dX6_put_19 rfl (Nat.le_of_ble_eq_true rfl) ?_
    refine wm_aload_n (n := 22) dX6_put_21 rfl rfl ?_
    refine wm_getr (n := 25) (jj := 12) dX6_put_22 rfl fkX6_29 rfl rfl rfl (by first | omega | (simp [up] at * <;> omega)) ?_
    refine wm_iload_n (n := 26) dX6_put_25 rfl rfl ?_
    refine wm_iload_n (n := 27) dX6_put_26 rfl rfl ?_
    refine wm_iastore (n := 28) dX6_put_27 rfl rfl (by first | omega | (simp [up] at * <;> omega)) (by first | omega | (simp [up] at * <;> omega)) ?_
    refine wm_aload_n (n := 29) dX6_put_28 rfl rfl ?_
    refine wm_getr (n := 32) (jj := 13) dX6_put_29 rfl fkX6_32 rfl rfl rfl (by first | omega | (simp [up] at * <;> omega)) ?_
    refine wm_iload_n (n := 33) dX6_put_32 rfl rfl ?_
    refine wm_iload_n (n := 34) dX6_put_33 rfl rfl ?_
    refine wm_iastore (n := 35) dX6_put_34 rfl rfl (by first | omega | (simp [up] at * <;> omega)) (by first | omega | (simp [up] at * <;> omega)) ?_
    refine wm_aload_n (n := 36) dX6_put_35 rfl rfl ?_
    refine wm_getr (n := 39) (jj := 14) dX6_put_36 rfl fkX6_35 rfl rfl rfl (by first | omega | (simp [up] at * <;> omega)) ?_
    refine wm_iload_n (n := 40) dX6_put_39 rfl rfl ?_
    refine wm_iload (n := 42) dX6_put_40 rfl rfl ?_
    refine wm_iastore (n := 43) dX6_put_42 rfl rfl (by first | omega | (simp [up] at * <;> omega)) (by first | omega | (simp [up] at * <;> omega)) ?_
    refine wm_aload_n (n := 44) dX6_put_43 rfl rfl ?_
    refine wm_getr (n := 47) (jj := 15) dX6_put_44 rfl fkX6_38 rfl rfl rfl (by first | omega | (simp [up] at * <;> omega)) ?_
    refine wm_iload_n (n := 48) dX6_put_47 rfl rfl ?_
    refine wm_iload (n := 50) dX6_put_48 rfl rfl ?_
    refine wm_if_ge (t := 57) (n := 53) dX6_put_50 (by decide) rfl (fun c50 => ?_) (fun c50 => ?_)
    · refine wm_aload_n (n := 58) dX6_put_57 rfl rfl ?_
      refine wm_getr (n := 61) (jj := 22) dX6_put_58 rfl fkX6_59 rfl rfl rfl (by first | omega | (simp [up] at * <;> omega)) ?_
      refine wm_iload (n := 63) dX6_put_61 rfl rfl ?_
      refine wm_iaload (N := M) (n := 64) dX6_put_63 rfl rfl (by first | omega | (simp [up] at * <;> omega)) (by first | omega | (simp [up] at * <;> omega)) rfl ?_
      refine wm_bipush (n := 66) dX6_put_64 rfl (by omega) (by decide) ?_
      refine wm_irem (n := 67) dX6_put_66 rfl (by first | omega | (simp [up] at * <;> omega)) (by first | omega | (simp [up] at * <;> omega)) ?_
      refine wm_iastore (n := 68) dX6_put_67 rfl rfl (by first | omega | (simp [up] at * <;> omega)) (by first | omega | (simp [up] at * <;> omega)) ?_
      refine wm_iload (n := 70) dX6_put_68 rfl rfl ?_
      refine wm_if_lt (t := 84) (n := 73) dX6_put_70 (by decide) rfl (fun c70 => ?_) (fun c70 => ?_)
      · refine wm_return dX6_put_84 rfl ?_
        exact ⟨rfl, by first | rfl | (exfalso; omega)⟩
      · refine wm_aload_n (n := 74) dX6_put_73 rfl rfl ?_
        refine wm_getr (n := 77) (jj := 22) dX6_put_74 rfl fkX6_59 rfl rfl rfl (by first | omega | (simp [up] at * <;> omega)) ?_
        refine wm_iload (n := 79) dX6_put_77 rfl rfl ?_
        refine wm_dup2 (n := 80) dX6_put_79 rfl ?_
        refine wm_iaload (N := M) (n := 81) dX6_put_80 rfl rfl (by first | omega | (simp [up] at * <;> omega)) (by first | omega | (simp [up] at * <;> omega)) rfl ?_
        refine wm_iconst (n := 82) dX6_put_81 rfl (by omega) ?_
        refine wm_iadd (n := 83) dX6_put_82 rfl (by first | omega | (simp [up] at * <;> omega)) ?_
        refine wm_iastore (n := 84) dX6_put_83 rfl rfl (by first | omega | (simp [up] at * <;> omega)) (by first | omega | (simp [up] at * <;> omega)) ?_
        refine wm_return dX6_put_84 rfl ?_
        exact ⟨rfl, by first | rfl | (exfalso; omega)⟩
    · refine wm_iconst (n := 54) dX6_put_53 rfl (by omega) ?_
      refine wm_goto (t := 67) dX6_put_54 (by decide) ?_
      refine wm_iastore (n := 68) dX6_put_67 rfl rfl (by first | omega | (simp [up] at * <;> omega)) (by first | omega | (simp [up] at * <;> omega)) ?_
      refine wm_iload (n := 70) dX6_put_68 rfl rfl ?_
      refine wm_if_lt (t := 84) (n := 73) dX6_put_70 (by decide) rfl (fun c70 => ?_) (fun c70 => ?_)
      · refine wm_return dX6_put_84 rfl ?_
        exact ⟨rfl, by first | rfl | (exfalso; omega)⟩
      · refine wm_aload_n (n := 74) dX6_put_73 rfl rfl ?_
        refine wm_getr (n := 77) (jj := 22) dX6_put_74 rfl fkX6_59 rfl rfl rfl (by first | omega | (simp [up] at * <;> omega)) ?_
        refine wm_iload (n := 79) dX6_put_77 rfl rfl ?_
        refine wm_dup2 (n := 80) dX6_put_79 rfl ?_
        refine wm_iaload (N := M) (n := 81) dX6_put_80 rfl rfl (by first | omega | (simp [up] at * <;> omega)) (by first | omega | (simp [up] at * <;> omega)) rfl ?_
        refine wm_iconst (n := 82) dX6_put_81 rfl (by omega) ?_
        refine wm_iadd (n := 83) dX6_put_82 rfl (by first | omega | (simp [up] at * <;> omega)) ?_
        refine wm_iastore (n := 84) dX6_put_83 rfl rfl (by first | omega | (simp [up] at * <;> omega)) (by first | omega | (simp [up] at * <;> omega)) ?_
        refine wm_return dX6_put_84 rfl ?_
        exact ⟨rfl, by first | rfl | (exfalso; omega)⟩

set_option maxHeartbeats 4000000 in
set_option maxRecDepth 100000 in
theorem sM_putc (M : sw_M) (s w p f c : Int) (hs : 0 ≤ s ∧ s < 400) (hc : (w = 1 ∧ c = 4) ∨ ((w = 2 ∨ w = 3) ∧ c = p ∧ 0 ≤ p ∧ p < 4)) (hb : 0 ≤ M 17 0 c ∧ M 17 0 c ≤ 100000) : Sp shM yX6_put mX6_put [sR 0 0, sI s, sI w, sI p, sI f] M (isr none (up (up (up (up (up M 7 0 s w) 8 0 s p) 9 0 s f) 10 0 s (M 17 0 c % 16)) 17 0 c (M 17 0 c + 1))) := by
  refine Sp.of [sR 0 0, sI s, sI w, sI p, sI f, sU] (by decide) rfl rfl (Nat.le_of_ble_eq_true rfl) ?_
  refine wm_iload_n (n := 1) dX6_put_0 rfl rfl ?_
  refine wm_if_ne (t := 9) (n := 4) dX6_put_1 (by decide) rfl (fun c1 => ?_) (fun c1 => ?_)
  · refine wm_iload_n (n := 10) dX6_put_9 rfl rfl ?_
    refine wm_iconst (n := 11) dX6_put_10 rfl (by omega) ?_
    refine wm_icmp_ne (t := 18) (n := 14) dX6_put_11 (by decide) rfl (fun c11 => ?_) (fun c11 => ?_)
    · refine wm_iload_n (n := 19) dX6_put_18 rfl rfl ?_
      refine wm_istore (n := 21) dX6_put_19 rfl (Nat.le_of_ble_eq_true rfl) ?_
      first | (have hcc : c = 4 := by omega) | (have hcc : c = p := by omega) | (exfalso; omega)
      try subst hcc
      refine wm_aload_n (n := 22) dX6_put_21 rfl rfl ?_
      refine wm_getr (n := 25) (jj := 12) dX6_put_22 rfl fkX6_29 rfl rfl rfl (by first | omega | (simp [up] at * <;> omega)) ?_
      refine wm_iload_n (n := 26) dX6_put_25 rfl rfl ?_
      refine wm_iload_n (n := 27) dX6_put_26 rfl rfl ?_
      refine wm_iastore (n := 28) dX6_put_27 rfl rfl (by first | omega | (simp [up] at * <;> omega)) (by first | omega | (simp [up] at * <;> omega)) ?_
      refine wm_aload_n (n := 29) dX6_put_28 rfl rfl ?_
      refine wm_getr (n := 32) (jj := 13) dX6_put_29 rfl fkX6_32 rfl rfl rfl (by first | omega | (simp [up] at * <;> omega)) ?_
      refine wm_iload_n (n := 33) dX6_put_32 rfl rfl ?_
      refine wm_iload_n (n := 34) dX6_put_33 rfl rfl ?_
      refine wm_iastore (n := 35) dX6_put_34 rfl rfl (by first | omega | (simp [up] at * <;> omega)) (by first | omega | (simp [up] at * <;> omega)) ?_
      refine wm_aload_n (n := 36) dX6_put_35 rfl rfl ?_
      refine wm_getr (n := 39) (jj := 14) dX6_put_36 rfl fkX6_35 rfl rfl rfl (by first | omega | (simp [up] at * <;> omega)) ?_
      refine wm_iload_n (n := 40) dX6_put_39 rfl rfl ?_
      refine wm_iload (n := 42) dX6_put_40 rfl rfl ?_
      refine wm_iastore (n := 43) dX6_put_42 rfl rfl (by first | omega | (simp [up] at * <;> omega)) (by first | omega | (simp [up] at * <;> omega)) ?_
      refine wm_aload_n (n := 44) dX6_put_43 rfl rfl ?_
      refine wm_getr (n := 47) (jj := 15) dX6_put_44 rfl fkX6_38 rfl rfl rfl (by first | omega | (simp [up] at * <;> omega)) ?_
      refine wm_iload_n (n := 48) dX6_put_47 rfl rfl ?_
      refine wm_iload (n := 50) dX6_put_48 rfl rfl ?_
      refine wm_if_ge (t := 57) (n := 53) dX6_put_50 (by decide) rfl (fun c50 => ?_) (fun c50 => ?_)
      · refine wm_aload_n (n := 58) dX6_put_57 rfl rfl ?_
        refine wm_getr (n := 61) (jj := 22) dX6_put_58 rfl fkX6_59 rfl rfl rfl (by first | omega | (simp [up] at * <;> omega)) ?_
        refine wm_iload (n := 63) dX6_put_61 rfl rfl ?_
        refine wm_iaload (N := M) (n := 64) dX6_put_63 rfl rfl (by first | omega | (simp [up] at * <;> omega)) (by first | omega | (simp [up] at * <;> omega)) rfl ?_
        refine wm_bipush (n := 66) dX6_put_64 rfl (by omega) (by decide) ?_
        refine wm_irem (n := 67) dX6_put_66 rfl (by first | omega | (simp [up] at * <;> omega)) (by first | omega | (simp [up] at * <;> omega)) ?_
        refine wm_iastore (n := 68) dX6_put_67 rfl rfl (by first | omega | (simp [up] at * <;> omega)) (by first | omega | (simp [up] at * <;> omega)) ?_
        refine wm_iload (n := 70) dX6_put_68 rfl rfl ?_
        refine wm_if_lt (t := 84) (n := 73) dX6_put_70 (by decide) rfl (fun c70 => ?_) (fun c70 => ?_)
        · refine wm_return dX6_put_84 rfl ?_
          exact ⟨rfl, by first | rfl | (exfalso; omega)⟩
        · refine wm_aload_n (n := 74) dX6_put_73 rfl rfl ?_
          refine wm_getr (n := 77) (jj := 22) dX6_put_74 rfl fkX6_59 rfl rfl rfl (by first | omega | (simp [up] at * <;> omega)) ?_
          refine wm_iload (n := 79) dX6_put_77 rfl rfl ?_
          refine wm_dup2 (n := 80) dX6_put_79 rfl ?_
          refine wm_iaload (N := M) (n := 81) dX6_put_80 rfl rfl (by first | omega | (simp [up] at * <;> omega)) (by first | omega | (simp [up] at * <;> omega)) rfl ?_
          refine wm_iconst (n := 82) dX6_put_81 rfl (by omega) ?_
          refine wm_iadd (n := 83) dX6_put_82 rfl (by first | omega | (simp [up] at * <;> omega)) ?_
          refine wm_iastore (n := 84) dX6_put_83 rfl rfl (by first | omega | (simp [up] at * <;> omega)) (by first | omega | (simp [up] at * <;> omega)) ?_
          refine wm_return dX6_put_84 rfl ?_
          exact ⟨rfl, by first | rfl | (exfalso; omega)⟩
      · refine wm_iconst (n := 54) dX6_put_53 rfl (by omega) ?_
        refine wm_goto (t := 67) dX6_put_54 (by decide) ?_
        refine wm_iastore (n := 68) dX6_put_67 rfl rfl (by first | omega | (simp [up] at * <;> omega)) (by first | omega | (simp [up] at * <;> omega)) ?_
        refine wm_iload (n := 70) dX6_put_68 rfl rfl ?_
        refine wm_if_lt (t := 84) (n := 73) dX6_put_70 (by decide) rfl (fun c70 => ?_) (fun c70 => ?_)
        · refine wm_return dX6_put_84 rfl ?_
          exact ⟨rfl, by first | rfl | (exfalso; omega)⟩
        · refine wm_aload_n (n := 74) dX6_put_73 rfl rfl ?_
          refine wm_getr (n := 77) (jj := 22) dX6_put_74 rfl fkX6_59 rfl rfl rfl (by first | omega | (simp [up] at * <;> omega)) ?_
          refine wm_iload (n := 79) dX6_put_77 rfl rfl ?_
          refine wm_dup2 (n := 80) dX6_put_79 rfl ?_
          refine wm_iaload (N := M) (n := 81) dX6_put_80 rfl rfl (by first | omega | (simp [up] at * <;> omega)) (by first | omega | (simp [up] at * <;> omega)) rfl ?_
          refine wm_iconst (n := 82) dX6_put_81 rfl (by omega) ?_
          refine wm_iadd (n := 83) dX6_put_82 rfl (by first | omega | (simp [up] at * <;> omega)) ?_
          refine wm_iastore (n := 84) dX6_put_83 rfl rfl (by first | omega | (simp [up] at * <;> omega)) (by first | omega | (simp [up] at * <;> omega)) ?_
          refine wm_return dX6_put_84 rfl ?_
          exact ⟨rfl, by first | rfl | (exfalso; omega)⟩
    · refine wm_iconst (n := 15) dX6_put_14 rfl (by omega) ?_
      refine wm_goto (t := 19) dX6_put_15 (by decide) ?_
      refine wm_istore (n := 21) dX6_put_19 rfl (Nat.le_of_ble_eq_true rfl) ?_
      first | (have hcc : c = 4 := by omega) | (have hcc : c = p := by omega) | (exfalso; omega)
      try subst hcc
      refine wm_aload_n (n := 22) dX6_put_21 rfl rfl ?_
      refine wm_getr (n := 25) (jj := 12) dX6_put_22 rfl fkX6_29 rfl rfl rfl (by first | omega | (simp [up] at * <;> omega)) ?_
      refine wm_iload_n (n := 26) dX6_put_25 rfl rfl ?_
      refine wm_iload_n (n := 27) dX6_put_26 rfl rfl ?_
      refine wm_iastore (n := 28) dX6_put_27 rfl rfl (by first | omega | (simp [up] at * <;> omega)) (by first | omega | (simp [up] at * <;> omega)) ?_
      refine wm_aload_n (n := 29) dX6_put_28 rfl rfl ?_
      refine wm_getr (n := 32) (jj := 13) dX6_put_29 rfl fkX6_32 rfl rfl rfl (by first | omega | (simp [up] at * <;> omega)) ?_
      refine wm_iload_n (n := 33) dX6_put_32 rfl rfl ?_
      refine wm_iload_n (n := 34) dX6_put_33 rfl rfl ?_
      refine wm_iastore (n := 35) dX6_put_34 rfl rfl (by first | omega | (simp [up] at * <;> omega)) (by first | omega | (simp [up] at * <;> omega)) ?_
      refine wm_aload_n (n := 36) dX6_put_35 rfl rfl ?_
      refine wm_getr (n := 39) (jj := 14) dX6_put_36 rfl fkX6_35 rfl rfl rfl (by first | omega | (simp [up] at * <;> omega)) ?_
      refine wm_iload_n (n := 40) dX6_put_39 rfl rfl ?_
      refine wm_iload (n := 42) dX6_put_40 rfl rfl ?_
      refine wm_iastore (n := 43) dX6_put_42 rfl rfl (by first | omega | (simp [up] at * <;> omega)) (by first | omega | (simp [up] at * <;> omega)) ?_
      refine wm_aload_n (n := 44) dX6_put_43 rfl rfl ?_
      refine wm_getr (n := 47) (jj := 15) dX6_put_44 rfl fkX6_38 rfl rfl rfl (by first | omega | (simp [up] at * <;> omega)) ?_
      refine wm_iload_n (n := 48) dX6_put_47 rfl rfl ?_
      refine wm_iload (n := 50) dX6_put_48 rfl rfl ?_
      refine wm_if_ge (t := 57) (n := 53) dX6_put_50 (by decide) rfl (fun c50 => ?_) (fun c50 => ?_)
      · refine wm_aload_n (n := 58) dX6_put_57 rfl rfl ?_
        refine wm_getr (n := 61) (jj := 22) dX6_put_58 rfl fkX6_59 rfl rfl rfl (by first | omega | (simp [up] at * <;> omega)) ?_
        refine wm_iload (n := 63) dX6_put_61 rfl rfl ?_
        refine wm_iaload (N := M) (n := 64) dX6_put_63 rfl rfl (by first | omega | (simp [up] at * <;> omega)) (by first | omega | (simp [up] at * <;> omega)) rfl ?_
        refine wm_bipush (n := 66) dX6_put_64 rfl (by omega) (by decide) ?_
        refine wm_irem (n := 67) dX6_put_66 rfl (by first | omega | (simp [up] at * <;> omega)) (by first | omega | (simp [up] at * <;> omega)) ?_
        refine wm_iastore (n := 68) dX6_put_67 rfl rfl (by first | omega | (simp [up] at * <;> omega)) (by first | omega | (simp [up] at * <;> omega)) ?_
        refine wm_iload (n := 70) dX6_put_68 rfl rfl ?_
        refine wm_if_lt (t := 84) (n := 73) dX6_put_70 (by decide) rfl (fun c70 => ?_) (fun c70 => ?_)
        · refine wm_return dX6_put_84 rfl ?_
          exact ⟨rfl, by first | rfl | (exfalso; omega)⟩
        · refine wm_aload_n (n := 74) dX6_put_73 rfl rfl ?_
          refine wm_getr (n := 77) (jj := 22) dX6_put_74 rfl fkX6_59 rfl rfl rfl (by first | omega | (simp [up] at * <;> omega)) ?_
          refine wm_iload (n := 79) dX6_put_77 rfl rfl ?_
          refine wm_dup2 (n := 80) dX6_put_79 rfl ?_
          refine wm_iaload (N := M) (n := 81) dX6_put_80 rfl rfl (by first | omega | (simp [up] at * <;> omega)) (by first | omega | (simp [up] at * <;> omega)) rfl ?_
          refine wm_iconst (n := 82) dX6_put_81 rfl (by omega) ?_
          refine wm_iadd (n := 83) dX6_put_82 rfl (by first | omega | (simp [up] at * <;> omega)) ?_
          refine wm_iastore (n := 84) dX6_put_83 rfl rfl (by first | omega | (simp [up] at * <;> omega)) (by first | omega | (simp [up] at * <;> omega)) ?_
          refine wm_return dX6_put_84 rfl ?_
          exact ⟨rfl, by first | rfl | (exfalso; omega)⟩
      · refine wm_iconst (n := 54) dX6_put_53 rfl (by omega) ?_
        refine wm_goto (t := 67) dX6_put_54 (by decide) ?_
        refine wm_iastore (n := 68) dX6_put_67 rfl rfl (by first | omega | (simp [up] at * <;> omega)) (by first | omega | (simp [up] at * <;> omega)) ?_
        refine wm_iload (n := 70) dX6_put_68 rfl rfl ?_
        refine wm_if_lt (t := 84) (n := 73) dX6_put_70 (by decide) rfl (fun c70 => ?_) (fun c70 => ?_)
        · refine wm_return dX6_put_84 rfl ?_
          exact ⟨rfl, by first | rfl | (exfalso; omega)⟩
        · refine wm_aload_n (n := 74) dX6_put_73 rfl rfl ?_
          refine wm_getr (n := 77) (jj := 22) dX6_put_74 rfl fkX6_59 rfl rfl rfl (by first | omega | (simp [up] at * <;> omega)) ?_
          refine wm_iload (n := 79) dX6_put_77 rfl rfl ?_
          refine wm_dup2 (n := 80) dX6_put_79 rfl ?_
          refine wm_iaload (N := M) (n := 81) dX6_put_80 rfl rfl (by first | omega | (simp [up] at * <;> omega)) (by first | omega | (simp [up] at * <;> omega)) rfl ?_
          refine wm_iconst (n := 82) dX6_put_81 rfl (by omega) ?_
          refine wm_iadd (n := 83) dX6_put_82 rfl (by first | omega | (simp [up] at * <;> omega)) ?_
          refine wm_iastore (n := 84) dX6_put_83 rfl rfl (by first | omega | (simp [up] at * <;> omega)) (by first | omega | (simp [up] at * <;> omega)) ?_
          refine wm_return dX6_put_84 rfl ?_
          exact ⟨rfl, by first | rfl | (exfalso; omega)⟩
  · refine wm_bipush (n := 6) dX6_put_4 rfl (by omega) (by decide) ?_
    refine wm_goto (t := 19) dX6_put_6 (by decide) ?_
    refine wm_istore (n := 21) dX6_put_19 rfl (Nat.le_of_ble_eq_true rfl) ?_
    first | (have hcc : c = 4 := by omega) | (have hcc : c = p := by omega) | (exfalso; omega)
    try subst hcc
    refine wm_aload_n (n := 22) dX6_put_21 rfl rfl ?_
    refine wm_getr (n := 25) (jj := 12) dX6_put_22 rfl fkX6_29 rfl rfl rfl (by first | omega | (simp [up] at * <;> omega)) ?_
    refine wm_iload_n (n := 26) dX6_put_25 rfl rfl ?_
    refine wm_iload_n (n := 27) dX6_put_26 rfl rfl ?_
    refine wm_iastore (n := 28) dX6_put_27 rfl rfl (by first | omega | (simp [up] at * <;> omega)) (by first | omega | (simp [up] at * <;> omega)) ?_
    refine wm_aload_n (n := 29) dX6_put_28 rfl rfl ?_
    refine wm_getr (n := 32) (jj := 13) dX6_put_29 rfl fkX6_32 rfl rfl rfl (by first | omega | (simp [up] at * <;> omega)) ?_
    refine wm_iload_n (n := 33) dX6_put_32 rfl rfl ?_
    refine wm_iload_n (n := 34) dX6_put_33 rfl rfl ?_
    refine wm_iastore (n := 35) dX6_put_34 rfl rfl (by first | omega | (simp [up] at * <;> omega)) (by first | omega | (simp [up] at * <;> omega)) ?_
    refine wm_aload_n (n := 36) dX6_put_35 rfl rfl ?_
    refine wm_getr (n := 39) (jj := 14) dX6_put_36 rfl fkX6_35 rfl rfl rfl (by first | omega | (simp [up] at * <;> omega)) ?_
    refine wm_iload_n (n := 40) dX6_put_39 rfl rfl ?_
    refine wm_iload (n := 42) dX6_put_40 rfl rfl ?_
    refine wm_iastore (n := 43) dX6_put_42 rfl rfl (by first | omega | (simp [up] at * <;> omega)) (by first | omega | (simp [up] at * <;> omega)) ?_
    refine wm_aload_n (n := 44) dX6_put_43 rfl rfl ?_
    refine wm_getr (n := 47) (jj := 15) dX6_put_44 rfl fkX6_38 rfl rfl rfl (by first | omega | (simp [up] at * <;> omega)) ?_
    refine wm_iload_n (n := 48) dX6_put_47 rfl rfl ?_
    refine wm_iload (n := 50) dX6_put_48 rfl rfl ?_
    refine wm_if_ge (t := 57) (n := 53) dX6_put_50 (by decide) rfl (fun c50 => ?_) (fun c50 => ?_)
    · refine wm_aload_n (n := 58) dX6_put_57 rfl rfl ?_
      refine wm_getr (n := 61) (jj := 22) dX6_put_58 rfl fkX6_59 rfl rfl rfl (by first | omega | (simp [up] at * <;> omega)) ?_
      refine wm_iload (n := 63) dX6_put_61 rfl rfl ?_
      refine wm_iaload (N := M) (n := 64) dX6_put_63 rfl rfl (by first | omega | (simp [up] at * <;> omega)) (by first | omega | (simp [up] at * <;> omega)) rfl ?_
      refine wm_bipush (n := 66) dX6_put_64 rfl (by omega) (by decide) ?_
      refine wm_irem (n := 67) dX6_put_66 rfl (by first | omega | (simp [up] at * <;> omega)) (by first | omega | (simp [up] at * <;> omega)) ?_
      refine wm_iastore (n := 68) dX6_put_67 rfl rfl (by first | omega | (simp [up] at * <;> omega)) (by first | omega | (simp [up] at * <;> omega)) ?_
      refine wm_iload (n := 70) dX6_put_68 rfl rfl ?_
      refine wm_if_lt (t := 84) (n := 73) dX6_put_70 (by decide) rfl (fun c70 => ?_) (fun c70 => ?_)
      · refine wm_return dX6_put_84 rfl ?_
        exact ⟨rfl, by first | rfl | (exfalso; omega)⟩
      · refine wm_aload_n (n := 74) dX6_put_73 rfl rfl ?_
        refine wm_getr (n := 77) (jj := 22) dX6_put_74 rfl fkX6_59 rfl rfl rfl (by first | omega | (simp [up] at * <;> omega)) ?_
        refine wm_iload (n := 79) dX6_put_77 rfl rfl ?_
        refine wm_dup2 (n := 80) dX6_put_79 rfl ?_
        refine wm_iaload (N := M) (n := 81) dX6_put_80 rfl rfl (by first | omega | (simp [up] at * <;> omega)) (by first | omega | (simp [up] at * <;> omega)) rfl ?_
        refine wm_iconst (n := 82) dX6_put_81 rfl (by omega) ?_
        refine wm_iadd (n := 83) dX6_put_82 rfl (by first | omega | (simp [up] at * <;> omega)) ?_
        refine wm_iastore (n := 84) dX6_put_83 rfl rfl (by first | omega | (simp [up] at * <;> omega)) (by first | omega | (simp [up] at * <;> omega)) ?_
        refine wm_return dX6_put_84 rfl ?_
        exact ⟨rfl, by first | rfl | (exfalso; omega)⟩
    · refine wm_iconst (n := 54) dX6_put_53 rfl (by omega) ?_
      refine wm_goto (t := 67) dX6_put_54 (by decide) ?_
      refine wm_iastore (n := 68) dX6_put_67 rfl rfl (by first | omega | (simp [up] at * <;> omega)) (by first | omega | (simp [up] at * <;> omega)) ?_
      refine wm_iload (n := 70) dX6_put_68 rfl rfl ?_
      refine wm_if_lt (t := 84) (n := 73) dX6_put_70 (by decide) rfl (fun c70 => ?_) (fun c70 => ?_)
      · refine wm_return dX6_put_84 rfl ?_
        exact ⟨rfl, by first | rfl | (exfalso; omega)⟩
      · refine wm_aload_n (n := 74) dX6_put_73 rfl rfl ?_
        refine wm_getr (n := 77) (jj := 22) dX6_put_74 rfl fkX6_59 rfl rfl rfl (by first | omega | (simp [up] at * <;> omega)) ?_
        refine wm_iload (n := 79) dX6_put_77 rfl rfl ?_
        refine wm_dup2 (n := 80) dX6_put_79 rfl ?_
        refine wm_iaload (N := M) (n := 81) dX6_put_80 rfl rfl (by first | omega | (simp [up] at * <;> omega)) (by first | omega | (simp [up] at * <;> omega)) rfl ?_
        refine wm_iconst (n := 82) dX6_put_81 rfl (by omega) ?_
        refine wm_iadd (n := 83) dX6_put_82 rfl (by first | omega | (simp [up] at * <;> omega)) ?_
        refine wm_iastore (n := 84) dX6_put_83 rfl rfl (by first | omega | (simp [up] at * <;> omega)) (by first | omega | (simp [up] at * <;> omega)) ?_
        refine wm_return dX6_put_84 rfl ?_
        exact ⟨rfl, by first | rfl | (exfalso; omega)⟩
end
section
/-! The reference: showDue, sendOne. -/
set_option maxHeartbeats 4000000 in
set_option maxRecDepth 100000 in
theorem lM_showDue {M0 P S : sw_M} {p t m : Int} (hW : WFP P) (hp : 0 ≤ p ∧ p < 4) (ht : 0 ≤ t ∧ t < 100) (hm : 0 ≤ m ∧ m ≤ 5000) (hI : INV P S t m) (h8 : M0 1 0 (8 + p) = P 0 p 2) (hf : ∀ f, 0 ≤ f → f < P 0 p 2 → M0 1 0 (12 + 10 * p + f) = P 1 p f ∧ M0 1 0 (52 + 10 * p + f) = P 2 p f) : ∀ (r n : Nat) (F : Int) (x : sw_V) (M : sw_M), n + r = (P 0 p 2).toNat → F = (n : Int) → frM M0 M → RSM M (if nD P p t < (n : Int) ∧ P 2 p (nD P p t) = t then aShow P S t p else S) → WM shM mX6_showDue (fun r M' => r = none ∧ frM M0 M' ∧ RSM M' (aShow P S t p)) 2 [sR 0 0, sI p, sI t, sI F, x] [] M := by
  have hw := hW.1 p hp.1 hp.2
  have hnb := nD_bd (P := P) (p := p) (t := t) hw.2.2.1.1
  intro r
  induction r with
  | zero =>
    intro n F x M hn hF hfr hR
    have h8' : M 1 0 (8 + p) = P 0 p 2 := by rw [hfr.1]; exact h8
    refine wm_iload_n (n := 3) dX6_showDue_2 rfl rfl ?_
    refine wm_aload_n (n := 4) dX6_showDue_3 rfl rfl ?_
    refine wm_getr (n := 7) (jj := 0) dX6_showDue_4 rfl fkX6_7 rfl rfl rfl (by first | omega | (simp [up] at * <;> omega)) ?_
    refine wm_bipush (n := 9) dX6_showDue_7 rfl (by omega) (by decide) ?_
    refine wm_iload_n (n := 10) dX6_showDue_9 rfl rfl ?_
    refine wm_iadd (n := 11) dX6_showDue_10 rfl (by first | omega | (simp [up] at * <;> omega)) ?_
    refine wm_iaload (N := M) (n := 12) dX6_showDue_11 rfl rfl (by first | omega | (simp [up] at * <;> omega)) (by first | omega | (simp [up] at * <;> omega)) rfl ?_
    refine wm_icmp_ge (t := 122) (n := 15) dX6_showDue_12 (by decide) rfl (fun c12 => ?_) (fun c12 => ?_)
    · refine wm_return dX6_showDue_122 rfl ?_
      refine ⟨rfl, hfr, ?_⟩
      have hx : (if nD P p t < (n : Int) ∧ P 2 p (nD P p t) = t then aShow P S t p else S) = aShow P S t p := by
        rw [show (n : Int) = P 0 p 2 by omega]
        split
        · rfl
        · next hc => unfold aShow; rw [if_neg hc]
      rw [hx] at hR; exact hR
    · exfalso; omega
  | succ r ih =>
    intro n F x M hn hF hfr hR
    subst hF
    have h8' : M 1 0 (8 + p) = P 0 p 2 := by rw [hfr.1]; exact h8
    have hq : M 1 0 (12 + 10 * p + (n : Int)) = P 1 p (n : Int) ∧ M 1 0 (52 + 10 * p + (n : Int)) = P 2 p (n : Int) := by rw [hfr.1]; exact hf (n : Int) (by omega) (by omega)
    have hdi := due_is hW (t := t) (f := (n : Int)) hp (by omega) (by omega)
    refine wm_iload_n (n := 3) dX6_showDue_2 rfl rfl ?_
    refine wm_aload_n (n := 4) dX6_showDue_3 rfl rfl ?_
    refine wm_getr (n := 7) (jj := 0) dX6_showDue_4 rfl fkX6_7 rfl rfl rfl (by first | omega | (simp [up] at * <;> omega)) ?_
    refine wm_bipush (n := 9) dX6_showDue_7 rfl (by omega) (by decide) ?_
    refine wm_iload_n (n := 10) dX6_showDue_9 rfl rfl ?_
    refine wm_iadd (n := 11) dX6_showDue_10 rfl (by first | omega | (simp [up] at * <;> omega)) ?_
    refine wm_iaload (N := M) (n := 12) dX6_showDue_11 rfl rfl (by first | omega | (simp [up] at * <;> omega)) (by first | omega | (simp [up] at * <;> omega)) rfl ?_
    refine wm_icmp_ge (t := 122) (n := 15) dX6_showDue_12 (by decide) rfl (fun c12 => ?_) (fun c12 => ?_)
    · exfalso; omega
    · refine wm_bipush (n := 17) dX6_showDue_15 rfl (by omega) (by decide) ?_
      refine wm_iload_n (n := 18) dX6_showDue_17 rfl rfl ?_
      refine wm_imul (n := 19) dX6_showDue_18 rfl (by first | omega | (simp [up] at * <;> omega)) ?_
      refine wm_iload_n (n := 20) dX6_showDue_19 rfl rfl ?_
      refine wm_iadd (n := 21) dX6_showDue_20 rfl (by first | omega | (simp [up] at * <;> omega)) ?_
      refine wm_istore (n := 23) dX6_showDue_21 rfl (Nat.le_of_ble_eq_true rfl) ?_
      refine wm_aload_n (n := 24) dX6_showDue_23 rfl rfl ?_
      refine wm_iload_n (n := 25) dX6_showDue_24 rfl rfl ?_
      refine wm_iload_n (n := 26) dX6_showDue_25 rfl rfl ?_
      refine wm_callv (n := 29) dX6_showDue_26 rfl cvX6_108 (And.intro (Nat.le_of_ble_eq_true rfl) (Nat.le_of_ble_eq_true rfl)) (sM_dueOf _ _ _ (by omega) (by omega)) rfl rfl rfl rfl (by first | omega | (simp [up] at * <;> omega)) (Nat.le_of_ble_eq_true rfl) ?_
      refine wm_iload_n (n := 30) dX6_showDue_29 rfl rfl ?_
      refine wm_icmp_ne (t := 116) (n := 33) dX6_showDue_30 (by decide) rfl (fun c30 => ?_) (fun c30 => ?_)
      · refine wm_iinc (n := 119) dX6_showDue_116 rfl rfl rfl (by first | omega | (simp [up] at * <;> omega)) ?_
        refine wm_goto (t := 2) dX6_showDue_119 (by decide) ?_
        first
          | exact ih (n + 1) _ _ _ (by omega) (by push_cast; omega) hfr (by
              have e : (nD P p t < ((n + 1 : Nat) : Int) ∧ P 2 p (nD P p t) = t) ↔ (nD P p t < (n : Int) ∧ P 2 p (nD P p t) = t) := by push_cast; omega
              simp only [e]; exact hR)
          | exact ih (n + 1) _ _ _ (by omega) (by push_cast; omega) (frM_up (frM_up hfr (by decide)) (by decide)) (by
              rw [if_pos ⟨by push_cast; omega, hd.2⟩, hd.1]; exact RSM_shown hp ⟨by omega, by omega⟩ ⟨by omega, hd.2⟩ hRS (by rw [← hd.1]; omega))
          | exact ih (n + 1) _ _ _ (by omega) (by push_cast; omega) (frM_up0 (frM_up0 (frM_up (frM_up hfr (by decide)) (by decide)) (by decide)) (by decide)) (by
              rw [if_pos ⟨by push_cast; omega, hd.2⟩, hd.1]; exact RSM_late hp ⟨by omega, by omega⟩ ⟨by omega, hd.2⟩ hRS (by rw [← hd.1]; omega) (by split <;> omega))
      · have hd := hdi.mp (by omega)
        have hRS : RSM M S := by rw [if_neg (by omega)] at hR; exact hR
        have hpp := hRS.2.2.2.2.1 p hp.1 hp.2
        have hpf := hpp.2.2.2 (n : Int) (by omega) (by omega)
        have hi := hI.1 p hp.1 hp.2
        have hif := hi.2.2.2 (n : Int) (by omega) (by omega)
        have hl1 := hRS.2.1
        have hl2 := hRS.2.2.1
        have hl3 := hI.2.2.1
        have hl4 := hI.2.2.2.1
        refine wm_aload_n (n := 34) dX6_showDue_33 rfl rfl ?_
        refine wm_getr (n := 37) (jj := 19) dX6_showDue_34 rfl fkX6_50 rfl rfl rfl (by first | omega | (simp [up] at * <;> omega)) ?_
        refine wm_iload (n := 39) dX6_showDue_37 rfl rfl ?_
        refine wm_aload_n (n := 40) dX6_showDue_39 rfl rfl ?_
        refine wm_getr (n := 43) (jj := 16) dX6_showDue_40 rfl fkX6_41 rfl rfl rfl (by first | omega | (simp [up] at * <;> omega)) ?_
        refine wm_iload (n := 45) dX6_showDue_43 rfl rfl ?_
        refine wm_iaload (N := M) (n := 46) dX6_showDue_45 rfl rfl (by first | omega | (simp [up] at * <;> omega)) (by first | omega | (simp [up] at * <;> omega)) rfl ?_
        refine wm_aload_n (n := 47) dX6_showDue_46 rfl rfl ?_
        refine wm_iload_n (n := 48) dX6_showDue_47 rfl rfl ?_
        refine wm_iload_n (n := 49) dX6_showDue_48 rfl rfl ?_
        refine wm_callv (n := 52) dX6_showDue_49 rfl cvX6_118 (And.intro (Nat.le_of_ble_eq_true rfl) (Nat.le_of_ble_eq_true rfl)) (sM_sizeOf _ _ _ (by omega) (by omega)) rfl rfl rfl rfl (by first | omega | (simp [up] at * <;> omega)) (Nat.le_of_ble_eq_true rfl) ?_
        refine wm_icmp_ne (t := 59) (n := 55) dX6_showDue_52 (by decide) rfl (fun c52 => ?_) (fun c52 => ?_)
        · refine wm_iconst (n := 60) dX6_showDue_59 rfl (by omega) ?_
          refine wm_zastore (n := 61) dX6_showDue_60 rfl rfl (by first | omega | (simp [up] at * <;> omega)) (by first | omega | (simp [up] at * <;> omega)) (by decide) ?_
          refine wm_aload_n (n := 62) dX6_showDue_61 rfl rfl ?_
          refine wm_getr (n := 65) (jj := 21) dX6_showDue_62 rfl fkX6_56 rfl rfl rfl (by first | omega | (simp [up] at * <;> omega)) ?_
          refine wm_iload_n (n := 66) dX6_showDue_65 rfl rfl ?_
          refine wm_dup2 (n := 67) dX6_showDue_66 rfl ?_
          refine wm_iaload (N := M) (n := 68) dX6_showDue_67 rfl rfl (by first | omega | (simp [up] at * <;> omega)) (by first | omega | (simp [up] at * <;> omega)) rfl ?_
          refine wm_aload_n (n := 69) dX6_showDue_68 rfl rfl ?_
          refine wm_getr (n := 72) (jj := 16) dX6_showDue_69 rfl fkX6_41 rfl rfl rfl (by first | omega | (simp [up] at * <;> omega)) ?_
          refine wm_iload (n := 74) dX6_showDue_72 rfl rfl ?_
          refine wm_iaload (N := M) (n := 75) dX6_showDue_74 rfl rfl (by first | omega | (simp [up] at * <;> omega)) (by first | omega | (simp [up] at * <;> omega)) rfl ?_
          refine wm_isub (n := 76) dX6_showDue_75 rfl (by first | omega | (simp [up] at * <;> omega)) ?_
          refine wm_iastore (n := 77) dX6_showDue_76 rfl rfl (by first | omega | (simp [up] at * <;> omega)) (by first | omega | (simp [up] at * <;> omega)) ?_
          refine wm_aload_n (n := 78) dX6_showDue_77 rfl rfl ?_
          refine wm_getr (n := 81) (jj := 19) dX6_showDue_78 rfl fkX6_50 rfl rfl rfl (by first | omega | (simp [up] at * <;> omega)) ?_
          refine wm_iload (n := 83) dX6_showDue_81 rfl rfl ?_
          refine wm_zaload (N := _) (n := 84) dX6_showDue_83 rfl rfl (by first | omega | (simp [up] at * <;> omega)) (by first | omega | (simp [up] at * <;> omega)) rfl ?_
          refine wm_top (b := 0) (by simp [up]) ?_
          refine wm_if_ne (t := 116) (n := 87) dX6_showDue_84 (by decide) rfl (fun z => absurd z (by decide)) (fun _ => ?_)
          refine wm_aload_n (n := 88) dX6_showDue_87 rfl rfl ?_
          refine wm_dup (n := 89) dX6_showDue_88 rfl ?_
          refine wm_geti (N := M) (n := 92) (jj := 25) dX6_showDue_89 rfl fkX6_149 rfl rfl rfl (by first | omega | (simp [up] at * <;> omega)) rfl ?_
          refine wm_iconst (n := 93) dX6_showDue_92 rfl (by omega) ?_
          refine wm_iadd (n := 94) dX6_showDue_93 rfl (by first | omega | (simp [up] at * <;> omega)) ?_
          refine wm_put (n := 97) (jj := 25) dX6_showDue_94 rfl pkX6_149 rfl rfl rfl (by first | omega | (simp [up] at * <;> omega)) rfl rfl ?_
          refine wm_aload_n (n := 98) dX6_showDue_97 rfl rfl ?_
          refine wm_aload_n (n := 99) dX6_showDue_98 rfl rfl ?_
          refine wm_geti (N := M) (n := 102) (jj := 26) dX6_showDue_99 rfl fkX6_152 rfl rfl rfl (by first | omega | (simp [up] at * <;> omega)) (by first | rfl | simp [up]) ?_
          refine wm_if_ge (t := 109) (n := 105) dX6_showDue_102 (by decide) rfl (fun c102 => ?_) (fun c102 => ?_)
          · refine wm_aload_n (n := 110) dX6_showDue_109 rfl rfl ?_
            refine wm_geti (N := M) (n := 113) (jj := 26) dX6_showDue_110 rfl fkX6_152 rfl rfl rfl (by first | omega | (simp [up] at * <;> omega)) (by first | rfl | simp [up]) ?_
            refine wm_put (n := 116) (jj := 26) dX6_showDue_113 rfl pkX6_152 rfl rfl rfl (by first | omega | (simp [up] at * <;> omega)) rfl rfl ?_
            refine wm_iinc (n := 119) dX6_showDue_116 rfl rfl rfl (by first | omega | (simp [up] at * <;> omega)) ?_
            refine wm_goto (t := 2) dX6_showDue_119 (by decide) ?_
            first
              | exact ih (n + 1) _ _ _ (by omega) (by push_cast; omega) hfr (by
                  have e : (nD P p t < ((n + 1 : Nat) : Int) ∧ P 2 p (nD P p t) = t) ↔ (nD P p t < (n : Int) ∧ P 2 p (nD P p t) = t) := by push_cast; omega
                  simp only [e]; exact hR)
              | exact ih (n + 1) _ _ _ (by omega) (by push_cast; omega) (frM_up (frM_up hfr (by decide)) (by decide)) (by
                  rw [if_pos ⟨by push_cast; omega, hd.2⟩, hd.1]; exact RSM_shown hp ⟨by omega, by omega⟩ ⟨by omega, hd.2⟩ hRS (by rw [← hd.1]; omega))
              | exact ih (n + 1) _ _ _ (by omega) (by push_cast; omega) (frM_up0 (frM_up0 (frM_up (frM_up hfr (by decide)) (by decide)) (by decide)) (by decide)) (by
                  rw [if_pos ⟨by push_cast; omega, hd.2⟩, hd.1]; exact RSM_late hp ⟨by omega, by omega⟩ ⟨by omega, hd.2⟩ hRS (by rw [← hd.1]; omega) (by split <;> omega))
          · refine wm_iload_n (n := 106) dX6_showDue_105 rfl rfl ?_
            refine wm_goto (t := 113) dX6_showDue_106 (by decide) ?_
            refine wm_put (n := 116) (jj := 26) dX6_showDue_113 rfl pkX6_152 rfl rfl rfl (by first | omega | (simp [up] at * <;> omega)) rfl rfl ?_
            refine wm_iinc (n := 119) dX6_showDue_116 rfl rfl rfl (by first | omega | (simp [up] at * <;> omega)) ?_
            refine wm_goto (t := 2) dX6_showDue_119 (by decide) ?_
            first
              | exact ih (n + 1) _ _ _ (by omega) (by push_cast; omega) hfr (by
                  have e : (nD P p t < ((n + 1 : Nat) : Int) ∧ P 2 p (nD P p t) = t) ↔ (nD P p t < (n : Int) ∧ P 2 p (nD P p t) = t) := by push_cast; omega
                  simp only [e]; exact hR)
              | exact ih (n + 1) _ _ _ (by omega) (by push_cast; omega) (frM_up (frM_up hfr (by decide)) (by decide)) (by
                  rw [if_pos ⟨by push_cast; omega, hd.2⟩, hd.1]; exact RSM_shown hp ⟨by omega, by omega⟩ ⟨by omega, hd.2⟩ hRS (by rw [← hd.1]; omega))
              | exact ih (n + 1) _ _ _ (by omega) (by push_cast; omega) (frM_up0 (frM_up0 (frM_up (frM_up hfr (by decide)) (by decide)) (by decide)) (by decide)) (by
                  rw [if_pos ⟨by push_cast; omega, hd.2⟩, hd.1]; exact RSM_late hp ⟨by omega, by omega⟩ ⟨by omega, hd.2⟩ hRS (by rw [← hd.1]; omega) (by split <;> omega))
        · refine wm_iconst (n := 56) dX6_showDue_55 rfl (by omega) ?_
          refine wm_goto (t := 60) dX6_showDue_56 (by decide) ?_
          refine wm_zastore (n := 61) dX6_showDue_60 rfl rfl (by first | omega | (simp [up] at * <;> omega)) (by first | omega | (simp [up] at * <;> omega)) (by decide) ?_
          refine wm_aload_n (n := 62) dX6_showDue_61 rfl rfl ?_
          refine wm_getr (n := 65) (jj := 21) dX6_showDue_62 rfl fkX6_56 rfl rfl rfl (by first | omega | (simp [up] at * <;> omega)) ?_
          refine wm_iload_n (n := 66) dX6_showDue_65 rfl rfl ?_
          refine wm_dup2 (n := 67) dX6_showDue_66 rfl ?_
          refine wm_iaload (N := M) (n := 68) dX6_showDue_67 rfl rfl (by first | omega | (simp [up] at * <;> omega)) (by first | omega | (simp [up] at * <;> omega)) rfl ?_
          refine wm_aload_n (n := 69) dX6_showDue_68 rfl rfl ?_
          refine wm_getr (n := 72) (jj := 16) dX6_showDue_69 rfl fkX6_41 rfl rfl rfl (by first | omega | (simp [up] at * <;> omega)) ?_
          refine wm_iload (n := 74) dX6_showDue_72 rfl rfl ?_
          refine wm_iaload (N := M) (n := 75) dX6_showDue_74 rfl rfl (by first | omega | (simp [up] at * <;> omega)) (by first | omega | (simp [up] at * <;> omega)) rfl ?_
          refine wm_isub (n := 76) dX6_showDue_75 rfl (by first | omega | (simp [up] at * <;> omega)) ?_
          refine wm_iastore (n := 77) dX6_showDue_76 rfl rfl (by first | omega | (simp [up] at * <;> omega)) (by first | omega | (simp [up] at * <;> omega)) ?_
          refine wm_aload_n (n := 78) dX6_showDue_77 rfl rfl ?_
          refine wm_getr (n := 81) (jj := 19) dX6_showDue_78 rfl fkX6_50 rfl rfl rfl (by first | omega | (simp [up] at * <;> omega)) ?_
          refine wm_iload (n := 83) dX6_showDue_81 rfl rfl ?_
          refine wm_zaload (N := _) (n := 84) dX6_showDue_83 rfl rfl (by first | omega | (simp [up] at * <;> omega)) (by first | omega | (simp [up] at * <;> omega)) rfl ?_
          refine wm_top (b := 1) (by simp [up]) ?_
          refine wm_if_ne (t := 116) (n := 87) dX6_showDue_84 (by decide) rfl (fun _ => ?_) (fun z => absurd z (by decide))
          refine wm_iinc (n := 119) dX6_showDue_116 rfl rfl rfl (by first | omega | (simp [up] at * <;> omega)) ?_
          refine wm_goto (t := 2) dX6_showDue_119 (by decide) ?_
          first
            | exact ih (n + 1) _ _ _ (by omega) (by push_cast; omega) hfr (by
                have e : (nD P p t < ((n + 1 : Nat) : Int) ∧ P 2 p (nD P p t) = t) ↔ (nD P p t < (n : Int) ∧ P 2 p (nD P p t) = t) := by push_cast; omega
                simp only [e]; exact hR)
            | exact ih (n + 1) _ _ _ (by omega) (by push_cast; omega) (frM_up (frM_up hfr (by decide)) (by decide)) (by
                rw [if_pos ⟨by push_cast; omega, hd.2⟩, hd.1]; exact RSM_shown hp ⟨by omega, by omega⟩ ⟨by omega, hd.2⟩ hRS (by rw [← hd.1]; omega))
            | exact ih (n + 1) _ _ _ (by omega) (by push_cast; omega) (frM_up0 (frM_up0 (frM_up (frM_up hfr (by decide)) (by decide)) (by decide)) (by decide)) (by
                rw [if_pos ⟨by push_cast; omega, hd.2⟩, hd.1]; exact RSM_late hp ⟨by omega, by omega⟩ ⟨by omega, hd.2⟩ hRS (by rw [← hd.1]; omega) (by split <;> omega))

set_option maxHeartbeats 4000000 in
set_option maxRecDepth 100000 in
theorem sM_showDue {M0 P S : sw_M} {p t m : Int} (hW : WFP P) (hp : 0 ≤ p ∧ p < 4) (ht : 0 ≤ t ∧ t < 100) (hm : 0 ≤ m ∧ m ≤ 5000) (hI : INV P S t m) (h8 : M0 1 0 (8 + p) = P 0 p 2) (hf : ∀ f, 0 ≤ f → f < P 0 p 2 → M0 1 0 (12 + 10 * p + f) = P 1 p f ∧ M0 1 0 (52 + 10 * p + f) = P 2 p f) (hS : RSM M0 S) : Sp shM yX6_showDue mX6_showDue [sR 0 0, sI p, sI t] M0 (fun r M' => r = none ∧ frM M0 M' ∧ RSM M' (aShow P S t p)) := by
  refine Sp.of [sR 0 0, sI p, sI t, sU, sU] (by decide) rfl rfl (Nat.le_of_ble_eq_true rfl) ?_
  refine wm_iconst (n := 1) dX6_showDue_0 rfl (by omega) ?_
  refine wm_istore_n (n := 2) dX6_showDue_1 rfl (Nat.le_of_ble_eq_true rfl) ?_
  exact lM_showDue hW hp ht hm hI h8 hf (P 0 p 2).toNat 0 _ _ _ (by have := (hW.1 p hp.1 hp.2).2.2.1; omega) rfl (frM_refl M0) (by rw [if_neg (fun z => by have := nD_bd (P := P) (p := p) (t := t) (hW.1 p hp.1 hp.2).2.2.1.1; have := z.1; simp at this; omega)]; exact hS)

set_option maxHeartbeats 4000000 in
set_option maxRecDepth 100000 in
theorem sM_sendOne {M P S : sw_M} {t s m : Int} (hW : WFP P) (ht : 0 ≤ t ∧ t < 100) (hs : 0 ≤ s ∧ s < 400) (hm : 0 ≤ m ∧ m ≤ 5000) (hI : INV P S t m) (hP : RPs M P (M 0 0 27)) (hS : RSM M S) : Sp shM yX6_sendOne mX6_sendOne [sR 0 0, sI t, sI s] M (fun r M' => r = none ∧ frM M M' ∧ RSM M' (aSend P S t s)) := by
  have hk1 := hI.2.2.2.2.2.2 1 (by omega) (by omega)
  have hT := hI.2.1
  have hTb := hW.2.1
  have s1 := hS.1
  have s4 := hS.2.2.2.1
  have p1 := hP.2.1
  have hck := ck_spec P S t 4 (by omega)
  refine Sp.of [sR 0 0, sI t, sI s, sU, sU, sU] (by decide) rfl rfl (Nat.le_of_ble_eq_true rfl) ?_
  refine wm_aload_n (n := 1) dX6_sendOne_0 rfl rfl ?_
  refine wm_getr (n := 4) (jj := 0) dX6_sendOne_1 rfl fkX6_7 rfl rfl rfl (by first | omega | (simp [up] at * <;> omega)) ?_
  refine wm_bipush (n := 6) dX6_sendOne_4 rfl (by omega) (by decide) ?_
  refine wm_iaload (N := M) (n := 7) dX6_sendOne_6 rfl rfl (by first | omega | (simp [up] at * <;> omega)) (by first | omega | (simp [up] at * <;> omega)) rfl ?_
  refine wm_aload_n (n := 8) dX6_sendOne_7 rfl rfl ?_
  refine wm_geti (N := M) (n := 11) (jj := 24) dX6_sendOne_8 rfl fkX6_161 rfl rfl rfl (by first | omega | (simp [up] at * <;> omega)) rfl ?_
  refine wm_iload_n (n := 12) dX6_sendOne_11 rfl rfl ?_
  refine wm_callsB (n := 15) dX6_sendOne_12 rfl csX6_155 (And.intro (Nat.le_of_ble_eq_true rfl) (Nat.le_of_ble_eq_true rfl)) (bM_isAgain _ _ _ _ (by omega) (by omega) (by omega)) rfl rfl (Nat.le_of_ble_eq_true rfl) (fun c12 => ?_) (fun c12 => ?_)
  · refine wm_if_eq (t := 34) (n := 18) dX6_sendOne_15 (by decide) rfl (fun z => absurd z (by decide)) (fun _ => ?_)
    rw [p1, s1] at c12
    refine wm_aload_n (n := 19) dX6_sendOne_18 rfl rfl ?_
    refine wm_iload_n (n := 20) dX6_sendOne_19 rfl rfl ?_
    refine wm_put (n := 23) (jj := 24) dX6_sendOne_20 rfl pkX6_161 rfl rfl rfl (by first | omega | (simp [up] at * <;> omega)) rfl rfl ?_
    refine wm_aload_n (n := 24) dX6_sendOne_23 rfl rfl ?_
    refine wm_iload_n (n := 25) dX6_sendOne_24 rfl rfl ?_
    refine wm_iconst (n := 26) dX6_sendOne_25 rfl (by omega) ?_
    refine wm_bipush (n := 28) dX6_sendOne_26 rfl (by omega) (by decide) ?_
    refine wm_bipush (n := 30) dX6_sendOne_28 rfl (by omega) (by decide) ?_
    refine wm_callvV (n := 33) dX6_sendOne_30 rfl cvX6_164 (And.intro (Nat.le_of_ble_eq_true rfl) (Nat.le_of_ble_eq_true rfl)) (sM_putc _ _ 1 _ _ 4 hs (by omega) (by first | omega | (simp [up]; omega))) rfl rfl rfl rfl (by first | omega | (simp [up] at * <;> omega)) (Nat.le_of_ble_eq_true rfl) ?_
    refine wm_return dX6_sendOne_33 rfl ?_
    exact ⟨rfl, frM_up (frM_up (frM_up (frM_up (frM_up (frM_up0 (frM_refl M) (by decide)) (by decide)) (by decide)) (by decide)) (by decide)) (by decide), by unfold aSend; rw [if_pos c12]; exact RSM_tab hS⟩
  · refine wm_if_eq (t := 34) (n := 18) dX6_sendOne_15 (by decide) rfl (fun _ => ?_) (fun z => absurd z (by decide))
    rw [p1, s1] at c12
    refine wm_aload_n (n := 35) dX6_sendOne_34 rfl rfl ?_
    refine wm_iload_n (n := 36) dX6_sendOne_35 rfl rfl ?_
    refine wm_callv (n := 39) dX6_sendOne_36 rfl cvX6_168 (And.intro (Nat.le_of_ble_eq_true rfl) (Nat.le_of_ble_eq_true rfl)) (sM_clockNow (P := P) (S := S) hW ht (fun p p0 p1 => ⟨fun z => ((hP.1 p p0 p1).1 z).2.1, fun z => ((hP.1 p p0 p1).2 z).1, (hS.2.2.2.2.1 p p0 p1).2.2.1, (hI.1 p p0 p1).2.2.1⟩)) rfl rfl rfl rfl (by first | omega | (simp [up] at * <;> omega)) (Nat.le_of_ble_eq_true rfl) ?_
    refine wm_istore_n (n := 40) dX6_sendOne_39 rfl (Nat.le_of_ble_eq_true rfl) ?_
    refine wm_iload_n (n := 41) dX6_sendOne_40 rfl rfl ?_
    refine wm_if_lt (t := 61) (n := 44) dX6_sendOne_41 (by decide) rfl (fun c41 => ?_) (fun c41 => ?_)
    · refine wm_aload_n (n := 62) dX6_sendOne_61 rfl rfl ?_
      refine wm_iload_n (n := 63) dX6_sendOne_62 rfl rfl ?_
      refine wm_callv (n := 66) dX6_sendOne_63 rfl cvX6_171 (And.intro (Nat.le_of_ble_eq_true rfl) (Nat.le_of_ble_eq_true rfl)) (sM_programmeNow hW ht hP hS) rfl rfl rfl rfl (by first | omega | (simp [up] at * <;> omega)) (Nat.le_of_ble_eq_true rfl) ?_
      refine wm_istore_n (n := 67) dX6_sendOne_66 rfl (Nat.le_of_ble_eq_true rfl) ?_
      have hpg := pgn_spec P S t 4
      refine wm_iload_n (n := 68) dX6_sendOne_67 rfl rfl ?_
      refine wm_if_ge (t := 82) (n := 71) dX6_sendOne_68 (by decide) rfl (fun c68 => ?_) (fun c68 => ?_)
      · have hne : pgn P S t 4 ≠ -6 := by omega
        obtain ⟨hp4, hf4, hdu, hop⟩ := pgn_open hW hne
        have hcp := hS.2.2.2.2.1 _ hp4.1 hp4.2
        have hip := hI.1 _ hp4.1 hp4.2
        have hw := hW.1 _ hp4.1 hp4.2
        have hlo : pgn P S t 4 ≠ M 0 0 27 := fun z => by have := ((hP.1 _ hp4.1 hp4.2).2 z).2; omega
        have hA := (hP.1 _ hp4.1 hp4.2).1 hlo
        have hcf := hcp.2.2.2 _ hf4.1 (by omega)
        have hif := hip.2.2.2 _ hf4.1 (by omega)
        refine wm_aload_n (n := 83) dX6_sendOne_82 rfl rfl ?_
        refine wm_iload_n (n := 84) dX6_sendOne_83 rfl rfl ?_
        refine wm_iload_n (n := 85) dX6_sendOne_84 rfl rfl ?_
        refine wm_callv (n := 88) dX6_sendOne_85 rfl cvX6_158 (And.intro (Nat.le_of_ble_eq_true rfl) (Nat.le_of_ble_eq_true rfl)) (sM_frameOf (P := P) (S := S) t hp4 hw.2.2.1 hA.2.2.1 (fun f f0 f1 => ⟨(hA.2.2.2 f f0 f1).1, (hA.2.2.2 f f0 f1).2, (hcp.2.2.2 f f0 (by omega)).1⟩)) rfl rfl rfl rfl (by first | omega | (simp [up] at * <;> omega)) (Nat.le_of_ble_eq_true rfl) ?_
        refine wm_istore (n := 90) dX6_sendOne_88 rfl (Nat.le_of_ble_eq_true rfl) ?_
        refine wm_bipush (n := 92) dX6_sendOne_90 rfl (by omega) (by decide) ?_
        refine wm_iload_n (n := 93) dX6_sendOne_92 rfl rfl ?_
        refine wm_imul (n := 94) dX6_sendOne_93 rfl (by first | omega | (simp [up] at * <;> omega)) ?_
        refine wm_iload (n := 96) dX6_sendOne_94 rfl rfl ?_
        refine wm_iadd (n := 97) dX6_sendOne_96 rfl (by first | omega | (simp [up] at * <;> omega)) ?_
        refine wm_istore (n := 99) dX6_sendOne_97 rfl (Nat.le_of_ble_eq_true rfl) ?_
        refine wm_aload_n (n := 100) dX6_sendOne_99 rfl rfl ?_
        refine wm_getr (n := 103) (jj := 17) dX6_sendOne_100 rfl fkX6_44 rfl rfl rfl (by first | omega | (simp [up] at * <;> omega)) ?_
        refine wm_iload (n := 105) dX6_sendOne_103 rfl rfl ?_
        refine wm_aload_n (n := 106) dX6_sendOne_105 rfl rfl ?_
        refine wm_getr (n := 109) (jj := 17) dX6_sendOne_106 rfl fkX6_44 rfl rfl rfl (by first | omega | (simp [up] at * <;> omega)) ?_
        refine wm_iload (n := 111) dX6_sendOne_109 rfl rfl ?_
        refine wm_iaload (N := M) (n := 112) dX6_sendOne_111 rfl rfl (by first | omega | (simp [up] at * <;> omega)) (by first | omega | (simp [up] at * <;> omega)) rfl ?_
        refine wm_if_ge (t := 119) (n := 115) dX6_sendOne_112 (by decide) rfl (fun c112 => ?_) (fun c112 => ?_)
        · refine wm_aload_n (n := 120) dX6_sendOne_119 rfl rfl ?_
          refine wm_getr (n := 123) (jj := 17) dX6_sendOne_120 rfl fkX6_44 rfl rfl rfl (by first | omega | (simp [up] at * <;> omega)) ?_
          refine wm_iload (n := 125) dX6_sendOne_123 rfl rfl ?_
          refine wm_iaload (N := M) (n := 126) dX6_sendOne_125 rfl rfl (by first | omega | (simp [up] at * <;> omega)) (by first | omega | (simp [up] at * <;> omega)) rfl ?_
          refine wm_iastore (n := 127) dX6_sendOne_126 rfl rfl (by first | omega | (simp [up] at * <;> omega)) (by first | omega | (simp [up] at * <;> omega)) ?_
          refine wm_aload_n (n := 128) dX6_sendOne_127 rfl rfl ?_
          refine wm_getr (n := 131) (jj := 18) dX6_sendOne_128 rfl fkX6_47 rfl rfl rfl (by first | omega | (simp [up] at * <;> omega)) ?_
          refine wm_iload (n := 133) dX6_sendOne_131 rfl rfl ?_
          refine wm_iload_n (n := 134) dX6_sendOne_133 rfl rfl ?_
          refine wm_iastore (n := 135) dX6_sendOne_134 rfl rfl (by first | omega | (simp [up] at * <;> omega)) (by first | omega | (simp [up] at * <;> omega)) ?_
          refine wm_aload_n (n := 136) dX6_sendOne_135 rfl rfl ?_
          refine wm_getr (n := 139) (jj := 16) dX6_sendOne_136 rfl fkX6_41 rfl rfl rfl (by first | omega | (simp [up] at * <;> omega)) ?_
          refine wm_iload (n := 141) dX6_sendOne_139 rfl rfl ?_
          refine wm_dup2 (n := 142) dX6_sendOne_141 rfl ?_
          refine wm_iaload (N := M) (n := 143) dX6_sendOne_142 rfl rfl (by first | omega | (simp [up] at * <;> omega)) (by first | omega | (simp [up] at * <;> omega)) rfl ?_
          refine wm_iconst (n := 144) dX6_sendOne_143 rfl (by omega) ?_
          refine wm_iadd (n := 145) dX6_sendOne_144 rfl (by first | omega | (simp [up] at * <;> omega)) ?_
          refine wm_iastore (n := 146) dX6_sendOne_145 rfl rfl (by first | omega | (simp [up] at * <;> omega)) (by first | omega | (simp [up] at * <;> omega)) ?_
          refine wm_aload_n (n := 147) dX6_sendOne_146 rfl rfl ?_
          refine wm_getr (n := 150) (jj := 21) dX6_sendOne_147 rfl fkX6_56 rfl rfl rfl (by first | omega | (simp [up] at * <;> omega)) ?_
          refine wm_iload_n (n := 151) dX6_sendOne_150 rfl rfl ?_
          refine wm_dup2 (n := 152) dX6_sendOne_151 rfl ?_
          refine wm_iaload (N := M) (n := 153) dX6_sendOne_152 rfl rfl (by first | omega | (simp [up] at * <;> omega)) (by first | omega | (simp [up] at * <;> omega)) rfl ?_
          refine wm_iconst (n := 154) dX6_sendOne_153 rfl (by omega) ?_
          refine wm_iadd (n := 155) dX6_sendOne_154 rfl (by first | omega | (simp [up] at * <;> omega)) ?_
          refine wm_iastore (n := 156) dX6_sendOne_155 rfl rfl (by first | omega | (simp [up] at * <;> omega)) (by first | omega | (simp [up] at * <;> omega)) ?_
          refine wm_aload_n (n := 157) dX6_sendOne_156 rfl rfl ?_
          refine wm_iload_n (n := 158) dX6_sendOne_157 rfl rfl ?_
          refine wm_iconst (n := 159) dX6_sendOne_158 rfl (by omega) ?_
          refine wm_iload_n (n := 160) dX6_sendOne_159 rfl rfl ?_
          refine wm_iload (n := 162) dX6_sendOne_160 rfl rfl ?_
          refine wm_callvV (n := 165) dX6_sendOne_162 rfl cvX6_164 (And.intro (Nat.le_of_ble_eq_true rfl) (Nat.le_of_ble_eq_true rfl)) (sM_putc _ _ 3 _ _ (pgn P S t 4) hs (by omega) (by first | omega | (simp [up]; omega))) rfl rfl rfl rfl (by first | omega | (simp [up] at * <;> omega)) (Nat.le_of_ble_eq_true rfl) ?_
          refine wm_return dX6_sendOne_165 rfl ?_
          exact ⟨rfl, frM_up (frM_up (frM_up (frM_up (frM_up (frM_up (frM_up (frM_up (frM_up (frM_refl M) (by decide)) (by decide)) (by decide)) (by decide)) (by decide)) (by decide)) (by decide)) (by decide)) (by decide), by unfold aSend; rw [if_neg c12, if_neg (by omega), if_pos hne]; exact RSM_frm hp4 ⟨hf4.1, by omega⟩ (by split <;> omega) hS⟩
        · refine wm_iload_n (n := 116) dX6_sendOne_115 rfl rfl ?_
          refine wm_goto (t := 126) dX6_sendOne_116 (by decide) ?_
          refine wm_iastore (n := 127) dX6_sendOne_126 rfl rfl (by first | omega | (simp [up] at * <;> omega)) (by first | omega | (simp [up] at * <;> omega)) ?_
          refine wm_aload_n (n := 128) dX6_sendOne_127 rfl rfl ?_
          refine wm_getr (n := 131) (jj := 18) dX6_sendOne_128 rfl fkX6_47 rfl rfl rfl (by first | omega | (simp [up] at * <;> omega)) ?_
          refine wm_iload (n := 133) dX6_sendOne_131 rfl rfl ?_
          refine wm_iload_n (n := 134) dX6_sendOne_133 rfl rfl ?_
          refine wm_iastore (n := 135) dX6_sendOne_134 rfl rfl (by first | omega | (simp [up] at * <;> omega)) (by first | omega | (simp [up] at * <;> omega)) ?_
          refine wm_aload_n (n := 136) dX6_sendOne_135 rfl rfl ?_
          refine wm_getr (n := 139) (jj := 16) dX6_sendOne_136 rfl fkX6_41 rfl rfl rfl (by first | omega | (simp [up] at * <;> omega)) ?_
          refine wm_iload (n := 141) dX6_sendOne_139 rfl rfl ?_
          refine wm_dup2 (n := 142) dX6_sendOne_141 rfl ?_
          refine wm_iaload (N := M) (n := 143) dX6_sendOne_142 rfl rfl (by first | omega | (simp [up] at * <;> omega)) (by first | omega | (simp [up] at * <;> omega)) rfl ?_
          refine wm_iconst (n := 144) dX6_sendOne_143 rfl (by omega) ?_
          refine wm_iadd (n := 145) dX6_sendOne_144 rfl (by first | omega | (simp [up] at * <;> omega)) ?_
          refine wm_iastore (n := 146) dX6_sendOne_145 rfl rfl (by first | omega | (simp [up] at * <;> omega)) (by first | omega | (simp [up] at * <;> omega)) ?_
          refine wm_aload_n (n := 147) dX6_sendOne_146 rfl rfl ?_
          refine wm_getr (n := 150) (jj := 21) dX6_sendOne_147 rfl fkX6_56 rfl rfl rfl (by first | omega | (simp [up] at * <;> omega)) ?_
          refine wm_iload_n (n := 151) dX6_sendOne_150 rfl rfl ?_
          refine wm_dup2 (n := 152) dX6_sendOne_151 rfl ?_
          refine wm_iaload (N := M) (n := 153) dX6_sendOne_152 rfl rfl (by first | omega | (simp [up] at * <;> omega)) (by first | omega | (simp [up] at * <;> omega)) rfl ?_
          refine wm_iconst (n := 154) dX6_sendOne_153 rfl (by omega) ?_
          refine wm_iadd (n := 155) dX6_sendOne_154 rfl (by first | omega | (simp [up] at * <;> omega)) ?_
          refine wm_iastore (n := 156) dX6_sendOne_155 rfl rfl (by first | omega | (simp [up] at * <;> omega)) (by first | omega | (simp [up] at * <;> omega)) ?_
          refine wm_aload_n (n := 157) dX6_sendOne_156 rfl rfl ?_
          refine wm_iload_n (n := 158) dX6_sendOne_157 rfl rfl ?_
          refine wm_iconst (n := 159) dX6_sendOne_158 rfl (by omega) ?_
          refine wm_iload_n (n := 160) dX6_sendOne_159 rfl rfl ?_
          refine wm_iload (n := 162) dX6_sendOne_160 rfl rfl ?_
          refine wm_callvV (n := 165) dX6_sendOne_162 rfl cvX6_164 (And.intro (Nat.le_of_ble_eq_true rfl) (Nat.le_of_ble_eq_true rfl)) (sM_putc _ _ 3 _ _ (pgn P S t 4) hs (by omega) (by first | omega | (simp [up]; omega))) rfl rfl rfl rfl (by first | omega | (simp [up] at * <;> omega)) (Nat.le_of_ble_eq_true rfl) ?_
          refine wm_return dX6_sendOne_165 rfl ?_
          exact ⟨rfl, frM_up (frM_up (frM_up (frM_up (frM_up (frM_up (frM_up (frM_up (frM_up (frM_refl M) (by decide)) (by decide)) (by decide)) (by decide)) (by decide)) (by decide)) (by decide)) (by decide)) (by decide), by unfold aSend; rw [if_neg c12, if_neg (by omega), if_pos hne]; exact RSM_frm hp4 ⟨hf4.1, by omega⟩ (by split <;> omega) hS⟩
      · refine wm_aload_n (n := 72) dX6_sendOne_71 rfl rfl ?_
        refine wm_iload_n (n := 73) dX6_sendOne_72 rfl rfl ?_
        refine wm_iconst (n := 74) dX6_sendOne_73 rfl (by omega) ?_
        refine wm_bipush (n := 76) dX6_sendOne_74 rfl (by omega) (by decide) ?_
        refine wm_bipush (n := 78) dX6_sendOne_76 rfl (by omega) (by decide) ?_
        refine wm_callvV (n := 81) dX6_sendOne_78 rfl cvX6_164 (And.intro (Nat.le_of_ble_eq_true rfl) (Nat.le_of_ble_eq_true rfl)) (sM_put0 _ _ _ _ hs) rfl rfl rfl rfl (by first | omega | (simp [up] at * <;> omega)) (Nat.le_of_ble_eq_true rfl) ?_
        refine wm_return dX6_sendOne_81 rfl ?_
        exact ⟨rfl, frM_up (frM_up (frM_up (frM_up (frM_refl M) (by decide)) (by decide)) (by decide)) (by decide), by unfold aSend; rw [if_neg c12, if_neg (by omega), if_neg (by omega)]; exact RSM_stf hS⟩
    · have hne : ck P S t 4 ≠ -6 := by omega
      have hp4 : 0 ≤ ck P S t 4 ∧ ck P S t 4 < 4 := by omega
      have hcp := hS.2.2.2.2.1 _ hp4.1 hp4.2
      have hip := hI.1 _ hp4.1 hp4.2
      refine wm_aload_n (n := 45) dX6_sendOne_44 rfl rfl ?_
      refine wm_getr (n := 48) (jj := 23) dX6_sendOne_45 rfl fkX6_62 rfl rfl rfl (by first | omega | (simp [up] at * <;> omega)) ?_
      refine wm_iload_n (n := 49) dX6_sendOne_48 rfl rfl ?_
      refine wm_iload_n (n := 50) dX6_sendOne_49 rfl rfl ?_
      refine wm_iastore (n := 51) dX6_sendOne_50 rfl rfl (by first | omega | (simp [up] at * <;> omega)) (by first | omega | (simp [up] at * <;> omega)) ?_
      refine wm_aload_n (n := 52) dX6_sendOne_51 rfl rfl ?_
      refine wm_iload_n (n := 53) dX6_sendOne_52 rfl rfl ?_
      refine wm_iconst (n := 54) dX6_sendOne_53 rfl (by omega) ?_
      refine wm_iload_n (n := 55) dX6_sendOne_54 rfl rfl ?_
      refine wm_bipush (n := 57) dX6_sendOne_55 rfl (by omega) (by decide) ?_
      refine wm_callvV (n := 60) dX6_sendOne_57 rfl cvX6_164 (And.intro (Nat.le_of_ble_eq_true rfl) (Nat.le_of_ble_eq_true rfl)) (sM_putc _ _ 2 _ _ (ck P S t 4) hs (by omega) (by first | omega | (simp [up]; omega))) rfl rfl rfl rfl (by first | omega | (simp [up] at * <;> omega)) (Nat.le_of_ble_eq_true rfl) ?_
      refine wm_return dX6_sendOne_60 rfl ?_
      exact ⟨rfl, frM_up (frM_up (frM_up (frM_up (frM_up (frM_up (frM_refl M) (by decide)) (by decide)) (by decide)) (by decide)) (by decide)) (by decide), by unfold aSend; rw [if_neg c12, if_pos hne]; exact RSM_clk hp4 hS⟩
end
section
/-! The reference: send. -/
theorem aShow_none {P S : sw_M} {t p : Int} (h : P 0 p 2 = 0) : aShow P S t p = S := by
  unfold aShow
  have := nD_bd (P := P) (p := p) (t := t) (by omega)
  rw [if_neg (fun z => by have := z.1; omega)]
theorem aRec_4 (S : sw_M) (t : Int) : ∀ n : Nat, aRec S t n 4 = S 4
  | 0 => rfl
  | n + 1 => aRec_4 S t n
theorem aRec_11 (S : sw_M) (t : Int) : ∀ (n : Nat) (p : Int), 0 ≤ p → p < (n : Int) → aRec S t n 11 p t = S 4 0 p
  | 0, p, h0, h1 => by simp at h1; omega
  | n + 1, p, h0, h1 => by
    by_cases e : p = (n : Int)
    · subst e; simp [aRec, up]
    · have := aRec_11 S t n p h0 (by push_cast at h1; omega)
      simpa [aRec, up, e] using this
def mI1 (M : sw_M) (n : Int) : Prop := M 0 0 24 = -6 ∧ M 0 0 25 = 0 ∧ M 0 0 26 = -6 ∧ M 17 0 4 = 0 ∧ ∀ p, 0 ≤ p → p < n → M 16 0 p = 0 ∧ M 17 0 p = 0 ∧ M 18 0 p = -6
def mI2 (M : sw_M) (n : Int) : Prop := ∀ k, 0 ≤ k → k < n → M 11 0 k = 0 ∧ M 12 0 k = -6 ∧ M 13 0 k = -6 ∧ M 14 0 k = 0
theorem RSM_zero {M : sw_M} (h1 : mI1 M 4) (h2 : mI2 M 40) : RSM M aS0 := by
  refine ⟨by simpa [aS0] using h1.1, by simpa [aS0] using h1.2.1, by simpa [aS0] using h1.2.2.1, by simpa [aS0] using h1.2.2.2.1, fun q h0 h1' => ?_, fun x hx => by simp [aS0] at hx, fun t' ht' => by simp [aS0] at ht'⟩
  have a := h1.2.2.2.2 q h0 h1'
  refine ⟨by simpa [aS0] using a.1, by simpa [aS0] using a.2.1, by simpa [aS0] using a.2.2, fun g g0 g1 => ?_⟩
  have b := h2 (10 * q + g) (by omega) (by omega)
  exact ⟨by simpa [aS0] using b.1, by simpa [aS0] using b.2.1, by simpa [aS0] using b.2.2.1, by simpa [aS0] using b.2.2.2⟩
theorem mI1_up {M : sw_M} {n : Nat} (hn : n < 4) (h : mI1 M n) : mI1 (up (up (up M 16 0 n 0) 17 0 n 0) 18 0 n (-6)) ((n + 1 : Nat) : Int) := by
  have e4 : ¬ (4 : Int) = (n : Int) := by omega
  refine ⟨by simpa [up] using h.1, by simpa [up] using h.2.1, by simpa [up] using h.2.2.1, by simpa [up, e4] using h.2.2.2.1, fun p p0 p1 => ?_⟩
  by_cases e : p = (n : Int)
  · subst e; simp [up]
  · have := h.2.2.2.2 p p0 (by push_cast at p1; omega)
    simpa [up, e] using this
theorem mI2_up {M : sw_M} {n : Nat} (h : mI2 M n) : mI2 (up (up (up (up M 11 0 n 0) 12 0 n (-6)) 13 0 n (-6)) 14 0 n 0) ((n + 1 : Nat) : Int) := by
  intro k k0 k1
  by_cases e : k = (n : Int)
  · subst e; simp [up]
  · have := h k k0 (by push_cast at k1; omega)
    simpa [up, e] using this
theorem mI1_2 {M : sw_M} {n : Nat} (h : mI1 M 4) : mI1 (up (up (up (up M 11 0 n 0) 12 0 n (-6)) 13 0 n (-6)) 14 0 n 0) 4 := by
  refine ⟨by simpa [up] using h.1, by simpa [up] using h.2.1, by simpa [up] using h.2.2.1, by simpa [up] using h.2.2.2.1, fun p p0 p1 => by simpa [up] using h.2.2.2.2 p p0 p1⟩

set_option maxHeartbeats 4000000 in
set_option maxRecDepth 100000 in
theorem lM_send26 {M0 : sw_M} {Q : sw_R} (hk : ∀ (M : sw_M) (v x : sw_V), frM M0 M → mI1 M 4 → WM shM mX6_send Q 59 [sR 0 0, v, x] [] M) : ∀ (r n : Nat) (F : Int) (x : sw_V) (M : sw_M), n + r = 4 → F = (n : Int) → frM M0 M → mI1 M n → WM shM mX6_send Q 26 [sR 0 0, sI F, x] [] M := by
  intro r
  induction r with
  | zero =>
    intro n F x M hn hF hfr hI
    subst hF
    have e : n = 4 := by omega
    subst e
    refine wm_iload_n (n := 27) dX6_send_26 rfl rfl ?_
    refine wm_iconst (n := 28) dX6_send_27 rfl (by omega) ?_
    refine wm_icmp_ge (t := 59) (n := 31) dX6_send_28 (by decide) rfl (fun c28 => ?_) (fun c28 => ?_)
    · exact hk M _ _ hfr hI
    · exfalso; omega
  | succ r ih =>
    intro n F x M hn hF hfr hI
    subst hF
    refine wm_iload_n (n := 27) dX6_send_26 rfl rfl ?_
    refine wm_iconst (n := 28) dX6_send_27 rfl (by omega) ?_
    refine wm_icmp_ge (t := 59) (n := 31) dX6_send_28 (by decide) rfl (fun c28 => ?_) (fun c28 => ?_)
    · exfalso; omega
    · refine wm_aload_n (n := 32) dX6_send_31 rfl rfl ?_
      refine wm_getr (n := 35) (jj := 21) dX6_send_32 rfl fkX6_56 rfl rfl rfl (by first | omega | (simp [up] at * <;> omega)) ?_
      refine wm_iload_n (n := 36) dX6_send_35 rfl rfl ?_
      refine wm_iconst (n := 37) dX6_send_36 rfl (by omega) ?_
      refine wm_iastore (n := 38) dX6_send_37 rfl rfl (by first | omega | (simp [up] at * <;> omega)) (by first | omega | (simp [up] at * <;> omega)) ?_
      refine wm_aload_n (n := 39) dX6_send_38 rfl rfl ?_
      refine wm_getr (n := 42) (jj := 22) dX6_send_39 rfl fkX6_59 rfl rfl rfl (by first | omega | (simp [up] at * <;> omega)) ?_
      refine wm_iload_n (n := 43) dX6_send_42 rfl rfl ?_
      refine wm_iconst (n := 44) dX6_send_43 rfl (by omega) ?_
      refine wm_iastore (n := 45) dX6_send_44 rfl rfl (by first | omega | (simp [up] at * <;> omega)) (by first | omega | (simp [up] at * <;> omega)) ?_
      refine wm_aload_n (n := 46) dX6_send_45 rfl rfl ?_
      refine wm_getr (n := 49) (jj := 23) dX6_send_46 rfl fkX6_62 rfl rfl rfl (by first | omega | (simp [up] at * <;> omega)) ?_
      refine wm_iload_n (n := 50) dX6_send_49 rfl rfl ?_
      refine wm_bipush (n := 52) dX6_send_50 rfl (by omega) (by decide) ?_
      refine wm_iastore (n := 53) dX6_send_52 rfl rfl (by first | omega | (simp [up] at * <;> omega)) (by first | omega | (simp [up] at * <;> omega)) ?_
      refine wm_iinc (n := 56) dX6_send_53 rfl rfl rfl (by first | omega | (simp [up] at * <;> omega)) ?_
      refine wm_goto (t := 26) dX6_send_56 (by decide) ?_
      exact ih (n + 1) _ _ _ (by omega) (by push_cast; omega) (frM_up (frM_up (frM_up hfr (by decide)) (by decide)) (by decide)) (mI1_up (by omega) hI)

set_option maxHeartbeats 4000000 in
set_option maxRecDepth 100000 in
theorem lM_send61 {M0 : sw_M} {Q : sw_R} (hk : ∀ (M : sw_M) (v x : sw_V), frM M0 M → mI1 M 4 → mI2 M 40 → WM shM mX6_send Q 103 [sR 0 0, v, x] [] M) : ∀ (r n : Nat) (F : Int) (x : sw_V) (M : sw_M), n + r = 40 → F = (n : Int) → frM M0 M → mI1 M 4 → mI2 M n → WM shM mX6_send Q 61 [sR 0 0, sI F, x] [] M := by
  intro r
  induction r with
  | zero =>
    intro n F x M hn hF hfr hI hJ
    subst hF
    have e : n = 40 := by omega
    subst e
    refine wm_iload_n (n := 62) dX6_send_61 rfl rfl ?_
    refine wm_bipush (n := 64) dX6_send_62 rfl (by omega) (by decide) ?_
    refine wm_icmp_ge (t := 103) (n := 67) dX6_send_64 (by decide) rfl (fun c64 => ?_) (fun c64 => ?_)
    · exact hk M _ _ hfr hI hJ
    · exfalso; omega
  | succ r ih =>
    intro n F x M hn hF hfr hI hJ
    subst hF
    refine wm_iload_n (n := 62) dX6_send_61 rfl rfl ?_
    refine wm_bipush (n := 64) dX6_send_62 rfl (by omega) (by decide) ?_
    refine wm_icmp_ge (t := 103) (n := 67) dX6_send_64 (by decide) rfl (fun c64 => ?_) (fun c64 => ?_)
    · exfalso; omega
    · refine wm_aload_n (n := 68) dX6_send_67 rfl rfl ?_
      refine wm_getr (n := 71) (jj := 16) dX6_send_68 rfl fkX6_41 rfl rfl rfl (by first | omega | (simp [up] at * <;> omega)) ?_
      refine wm_iload_n (n := 72) dX6_send_71 rfl rfl ?_
      refine wm_iconst (n := 73) dX6_send_72 rfl (by omega) ?_
      refine wm_iastore (n := 74) dX6_send_73 rfl rfl (by first | omega | (simp [up] at * <;> omega)) (by first | omega | (simp [up] at * <;> omega)) ?_
      refine wm_aload_n (n := 75) dX6_send_74 rfl rfl ?_
      refine wm_getr (n := 78) (jj := 17) dX6_send_75 rfl fkX6_44 rfl rfl rfl (by first | omega | (simp [up] at * <;> omega)) ?_
      refine wm_iload_n (n := 79) dX6_send_78 rfl rfl ?_
      refine wm_bipush (n := 81) dX6_send_79 rfl (by omega) (by decide) ?_
      refine wm_iastore (n := 82) dX6_send_81 rfl rfl (by first | omega | (simp [up] at * <;> omega)) (by first | omega | (simp [up] at * <;> omega)) ?_
      refine wm_aload_n (n := 83) dX6_send_82 rfl rfl ?_
      refine wm_getr (n := 86) (jj := 18) dX6_send_83 rfl fkX6_47 rfl rfl rfl (by first | omega | (simp [up] at * <;> omega)) ?_
      refine wm_iload_n (n := 87) dX6_send_86 rfl rfl ?_
      refine wm_bipush (n := 89) dX6_send_87 rfl (by omega) (by decide) ?_
      refine wm_iastore (n := 90) dX6_send_89 rfl rfl (by first | omega | (simp [up] at * <;> omega)) (by first | omega | (simp [up] at * <;> omega)) ?_
      refine wm_aload_n (n := 91) dX6_send_90 rfl rfl ?_
      refine wm_getr (n := 94) (jj := 19) dX6_send_91 rfl fkX6_50 rfl rfl rfl (by first | omega | (simp [up] at * <;> omega)) ?_
      refine wm_iload_n (n := 95) dX6_send_94 rfl rfl ?_
      refine wm_iconst (n := 96) dX6_send_95 rfl (by omega) ?_
      refine wm_zastore (n := 97) dX6_send_96 rfl rfl (by first | omega | (simp [up] at * <;> omega)) (by first | omega | (simp [up] at * <;> omega)) (by decide) ?_
      refine wm_iinc (n := 100) dX6_send_97 rfl rfl rfl (by first | omega | (simp [up] at * <;> omega)) ?_
      refine wm_goto (t := 61) dX6_send_100 (by decide) ?_
      exact ih (n + 1) _ _ _ (by omega) (by push_cast; omega) (frM_up (frM_up (frM_up (frM_up hfr (by decide)) (by decide)) (by decide)) (by decide)) (mI1_2 hI) (mI2_up hJ)

set_option maxHeartbeats 4000000 in
set_option maxRecDepth 100000 in
theorem lM_send113 {M0 P S : sw_M} {Q : sw_R} {t m : Int} (hW : WFP P) (ht : 0 ≤ t ∧ t < 100) (hm : 0 ≤ m ∧ m ≤ 4000) (hI : INV P S t m) (hP : RPs M0 P (M0 0 0 27)) (hk : ∀ (M : sw_M) (v : sw_V), frM M0 M → RSM M (aShows P S t 4) → WM shM mX6_send Q 138 [sR 0 0, sI t, v] [] M) : ∀ (r n : Nat) (F : Int) (M : sw_M), n + r = 4 → F = (n : Int) → frM M0 M → RSM M (aShows P S t n) → WM shM mX6_send Q 113 [sR 0 0, sI t, sI F] [] M := by
  intro r
  induction r with
  | zero =>
    intro n F M hn hF hfr hS
    subst hF
    have hP' : RPs M P (M 0 0 27) := by rw [hfr.2.2.2.2.2]; exact RPs_fr hP hfr
    refine wm_iload_n (n := 114) dX6_send_113 rfl rfl ?_
    refine wm_iconst (n := 115) dX6_send_114 rfl (by omega) ?_
    refine wm_icmp_ge (t := 138) (n := 118) dX6_send_115 (by decide) rfl (fun c115 => ?_) (fun c115 => ?_)
    · exact hk M _ hfr (by rw [← show n = 4 by omega]; exact hS)
    · exfalso; omega
  | succ r ih =>
    intro n F M hn hF hfr hS
    subst hF
    have hP' : RPs M P (M 0 0 27) := by rw [hfr.2.2.2.2.2]; exact RPs_fr hP hfr
    refine wm_iload_n (n := 114) dX6_send_113 rfl rfl ?_
    refine wm_iconst (n := 115) dX6_send_114 rfl (by omega) ?_
    refine wm_icmp_ge (t := 138) (n := 118) dX6_send_115 (by decide) rfl (fun c115 => ?_) (fun c115 => ?_)
    · exfalso; omega
    · refine wm_iload_n (n := 119) dX6_send_118 rfl rfl ?_
      refine wm_aload_n (n := 120) dX6_send_119 rfl rfl ?_
      refine wm_geti (N := M) (n := 123) (jj := 27) dX6_send_120 rfl fkX6_65 rfl rfl rfl (by first | omega | (simp [up] at * <;> omega)) rfl ?_
      refine wm_icmp_eq (t := 132) (n := 126) dX6_send_123 (by decide) rfl (fun c123 => ?_) (fun c123 => ?_)
      · refine wm_iinc (n := 135) dX6_send_132 rfl rfl rfl (by first | omega | (simp [up] at * <;> omega)) ?_
        refine wm_goto (t := 113) dX6_send_135 (by decide) ?_
        first
          | exact ih (n + 1) _ _ (by omega) (by push_cast; omega) (frM_trans hfr hfr2) hS2
          | exact ih (n + 1) _ _ (by omega) (by push_cast; omega) hfr (by rw [aShows, aShow_none ((hP'.1 (n : Int) (by omega) (by omega)).2 (by omega)).2]; exact hS)
      · have hA := (hP'.1 (n : Int) (by omega) (by omega)).1 (by omega)
        refine wm_aload_n (n := 127) dX6_send_126 rfl rfl ?_
        refine wm_iload_n (n := 128) dX6_send_127 rfl rfl ?_
        refine wm_iload_n (n := 129) dX6_send_128 rfl rfl ?_
        refine wm_callvQ (n := 132) dX6_send_129 rfl cvX6_174 (And.intro (Nat.le_of_ble_eq_true rfl) (Nat.le_of_ble_eq_true rfl)) (sM_showDue (m := m + n) hW (by omega) ht (by omega) (INV_shows hW ht.1 hI n (by omega)) hA.2.2.1 hA.2.2.2 hS) rfl rfl rfl rfl (by first | omega | (simp [up] at * <;> omega)) (Nat.le_of_ble_eq_true rfl) (fun r129 M129 q129 => ?_)
        obtain ⟨rfl, hfr2, hS2⟩ := q129
        refine wm_iinc (n := 135) dX6_send_132 rfl rfl rfl (by first | omega | (simp [up] at * <;> omega)) ?_
        refine wm_goto (t := 113) dX6_send_135 (by decide) ?_
        first
          | exact ih (n + 1) _ _ (by omega) (by push_cast; omega) (frM_trans hfr hfr2) hS2
          | exact ih (n + 1) _ _ (by omega) (by push_cast; omega) hfr (by rw [aShows, aShow_none ((hP'.1 (n : Int) (by omega) (by omega)).2 (by omega)).2]; exact hS)

set_option maxHeartbeats 4000000 in
set_option maxRecDepth 100000 in
theorem lM_send140 {M0 P S : sw_M} {Q : sw_R} {t m : Int} (hW : WFP P) (ht : 0 ≤ t ∧ t < 100) (hm : 0 ≤ m ∧ m ≤ 4000) (hI : INV P S t m) (hP : RPs M0 P (M0 0 0 27)) (hk : ∀ (M : sw_M) (v : sw_V), frM M0 M → RSM M (aSends P S t (P 3 0 1).toNat) → WM shM mX6_send Q 167 [sR 0 0, sI t, v] [] M) : ∀ (r n : Nat) (F : Int) (M : sw_M), n + r = (P 3 0 1).toNat → F = (n : Int) → frM M0 M → RSM M (aSends P S t n) → WM shM mX6_send Q 140 [sR 0 0, sI t, sI F] [] M := by
  have hw3 := hW.2.2
  intro r
  induction r with
  | zero =>
    intro n F M hn hF hfr hS
    subst hF
    have hP' : RPs M P (M 0 0 27) := by rw [hfr.2.2.2.2.2]; exact RPs_fr hP hfr
    have hwd := hP'.2.2
    refine wm_iload_n (n := 141) dX6_send_140 rfl rfl ?_
    refine wm_aload_n (n := 142) dX6_send_141 rfl rfl ?_
    refine wm_getr (n := 145) (jj := 0) dX6_send_142 rfl fkX6_7 rfl rfl rfl (by first | omega | (simp [up] at * <;> omega)) ?_
    refine wm_bipush (n := 147) dX6_send_145 rfl (by omega) (by decide) ?_
    refine wm_iaload (N := M) (n := 148) dX6_send_147 rfl rfl (by first | omega | (simp [up] at * <;> omega)) (by first | omega | (simp [up] at * <;> omega)) rfl ?_
    refine wm_icmp_ge (t := 167) (n := 151) dX6_send_148 (by decide) rfl (fun c148 => ?_) (fun c148 => ?_)
    · exact hk M _ hfr (by rw [← show n = (P 3 0 1).toNat by omega]; exact hS)
    · exfalso; omega
  | succ r ih =>
    intro n F M hn hF hfr hS
    subst hF
    have hP' : RPs M P (M 0 0 27) := by rw [hfr.2.2.2.2.2]; exact RPs_fr hP hfr
    have hwd := hP'.2.2
    refine wm_iload_n (n := 141) dX6_send_140 rfl rfl ?_
    refine wm_aload_n (n := 142) dX6_send_141 rfl rfl ?_
    refine wm_getr (n := 145) (jj := 0) dX6_send_142 rfl fkX6_7 rfl rfl rfl (by first | omega | (simp [up] at * <;> omega)) ?_
    refine wm_bipush (n := 147) dX6_send_145 rfl (by omega) (by decide) ?_
    refine wm_iaload (N := M) (n := 148) dX6_send_147 rfl rfl (by first | omega | (simp [up] at * <;> omega)) (by first | omega | (simp [up] at * <;> omega)) rfl ?_
    refine wm_icmp_ge (t := 167) (n := 151) dX6_send_148 (by decide) rfl (fun c148 => ?_) (fun c148 => ?_)
    · exfalso; omega
    · refine wm_aload_n (n := 152) dX6_send_151 rfl rfl ?_
      refine wm_iload_n (n := 153) dX6_send_152 rfl rfl ?_
      refine wm_iconst (n := 154) dX6_send_153 rfl (by omega) ?_
      refine wm_iload_n (n := 155) dX6_send_154 rfl rfl ?_
      refine wm_imul (n := 156) dX6_send_155 rfl (by first | omega | (simp [up] at * <;> omega)) ?_
      refine wm_iload_n (n := 157) dX6_send_156 rfl rfl ?_
      refine wm_iadd (n := 158) dX6_send_157 rfl (by first | omega | (simp [up] at * <;> omega)) ?_
      refine wm_callvQ (n := 161) dX6_send_158 rfl cvX6_178 (And.intro (Nat.le_of_ble_eq_true rfl) (Nat.le_of_ble_eq_true rfl)) (sM_sendOne (m := m + 2 * n) hW ht (by omega) (by omega) (INV_sends hW ht.1 hI n) hP' hS) rfl rfl rfl rfl (by first | omega | (simp [up] at * <;> omega)) (Nat.le_of_ble_eq_true rfl) (fun r158 M158 q158 => ?_)
      obtain ⟨rfl, hfr2, hS2⟩ := q158
      refine wm_iinc (n := 164) dX6_send_161 rfl rfl rfl (by first | omega | (simp [up] at * <;> omega)) ?_
      refine wm_goto (t := 140) dX6_send_164 (by decide) ?_
      exact ih (n + 1) _ _ (by omega) (by push_cast; omega) (frM_trans hfr hfr2) hS2

set_option maxHeartbeats 4000000 in
set_option maxRecDepth 100000 in
theorem lM_send169 {M0 P S : sw_M} {Q : sw_R} {t m : Int} (hW : WFP P) (ht : 0 ≤ t ∧ t < 100) (hm : 0 ≤ m ∧ m ≤ 4000) (hI : INV P S t m) (hP : RPs M0 P (M0 0 0 27)) (hk : ∀ (M : sw_M) (v : sw_V), frM M0 M → RSM M (up (aRec S t 4) 14 0 t 1) → WM shM mX6_send Q 196 [sR 0 0, sI t, v] [] M) : ∀ (r n : Nat) (F : Int) (M : sw_M), n + r = 4 → F = (n : Int) → frM M0 M → (RSM M (aRec S t n) ∧ ∀ p, 0 ≤ p → p < (n : Int) → M 15 0 (4 * t + p) = S 4 0 p) → WM shM mX6_send Q 169 [sR 0 0, sI t, sI F] [] M := by
  intro r
  induction r with
  | zero =>
    intro n F M hn hF hfr hS
    subst hF
    refine wm_iload_n (n := 170) dX6_send_169 rfl rfl ?_
    refine wm_iconst (n := 171) dX6_send_170 rfl (by omega) ?_
    refine wm_icmp_ge (t := 196) (n := 174) dX6_send_171 (by decide) rfl (fun c171 => ?_) (fun c171 => ?_)
    · have e : n = 4 := by omega
      subst e
      exact hk M _ hfr (RSM_mark hS.1 (fun p p0 p1 => by rw [hS.2 p p0 (by simpa using p1), aRec_11 S t 4 p p0 (by simpa using p1)]))
    · exfalso; omega
  | succ r ih =>
    intro n F M hn hF hfr hS
    subst hF
    refine wm_iload_n (n := 170) dX6_send_169 rfl rfl ?_
    refine wm_iconst (n := 171) dX6_send_170 rfl (by omega) ?_
    refine wm_icmp_ge (t := 196) (n := 174) dX6_send_171 (by decide) rfl (fun c171 => ?_) (fun c171 => ?_)
    · exfalso; omega
    · refine wm_aload_n (n := 175) dX6_send_174 rfl rfl ?_
      refine wm_getr (n := 178) (jj := 20) dX6_send_175 rfl fkX6_53 rfl rfl rfl (by first | omega | (simp [up] at * <;> omega)) ?_
      refine wm_iconst (n := 179) dX6_send_178 rfl (by omega) ?_
      refine wm_iload_n (n := 180) dX6_send_179 rfl rfl ?_
      refine wm_imul (n := 181) dX6_send_180 rfl (by first | omega | (simp [up] at * <;> omega)) ?_
      refine wm_iload_n (n := 182) dX6_send_181 rfl rfl ?_
      refine wm_iadd (n := 183) dX6_send_182 rfl (by first | omega | (simp [up] at * <;> omega)) ?_
      refine wm_aload_n (n := 184) dX6_send_183 rfl rfl ?_
      refine wm_getr (n := 187) (jj := 21) dX6_send_184 rfl fkX6_56 rfl rfl rfl (by first | omega | (simp [up] at * <;> omega)) ?_
      refine wm_iload_n (n := 188) dX6_send_187 rfl rfl ?_
      refine wm_iaload (N := M) (n := 189) dX6_send_188 rfl rfl (by first | omega | (simp [up] at * <;> omega)) (by first | omega | (simp [up] at * <;> omega)) rfl ?_
      refine wm_iastore (n := 190) dX6_send_189 rfl rfl (by first | omega | (simp [up] at * <;> omega)) (by first | omega | (simp [up] at * <;> omega)) ?_
      refine wm_iinc (n := 193) dX6_send_190 rfl rfl rfl (by first | omega | (simp [up] at * <;> omega)) ?_
      refine wm_goto (t := 169) dX6_send_193 (by decide) ?_
      have hh : aRec S t n 4 0 (n : Int) = S 4 0 (n : Int) := by rw [aRec_4]
      have hmm : M 16 0 (n : Int) = S 4 0 (n : Int) := by rw [← hh]; exact (hS.1.2.2.2.2.1 (n : Int) (by omega) (by omega)).1
      refine ih (n + 1) _ _ (by omega) (by push_cast; omega) (frM_up hfr (by decide)) ⟨?_, fun p p0 p1 => ?_⟩
      · have := RSM_hb (t := t) (p := (n : Int)) (by omega) hS.1
        rw [hh] at this
        exact this
      · by_cases e : p = (n : Int)
        · subst e; simp [up, hmm]
        · have e2 : ¬ 4 * t + p = 4 * t + (n : Int) := by omega
          have := hS.2 p p0 (by push_cast at p1; omega)
          simpa [up, e2] using this

set_option maxHeartbeats 4000000 in
set_option maxRecDepth 100000 in
theorem lM_send105 {M0 P : sw_M} (hW : WFP P) (hP : RPs M0 P (M0 0 0 27)) : ∀ (r n : Nat) (F : Int) (x : sw_V) (M : sw_M), n + r = 100 → F = (n : Int) → frM M0 M → RSM M (aSim P n) → WM shM mX6_send (fun r M' => r = some (sI (lateOf P)) ∧ frM M0 M' ∧ RSM M' (sim P)) 105 [sR 0 0, sI F, x] [] M := by
  intro r
  induction r with
  | zero =>
    intro n F x M hn hF hfr hS
    subst hF
    refine wm_iload_n (n := 106) dX6_send_105 rfl rfl ?_
    refine wm_bipush (n := 108) dX6_send_106 rfl (by omega) (by decide) ?_
    refine wm_icmp_ge (t := 202) (n := 111) dX6_send_108 (by decide) rfl (fun c108 => ?_) (fun c108 => ?_)
    · refine wm_aload_n (n := 203) dX6_send_202 rfl rfl ?_
      refine wm_geti (N := M) (n := 206) (jj := 25) dX6_send_203 rfl fkX6_149 rfl rfl rfl (by first | omega | (simp [up] at * <;> omega)) rfl ?_
      refine wm_ireturn dX6_send_206 rfl ?_
      exact ⟨by unfold lateOf sim; rw [show (100 : Nat) = n by omega]; rw [hS.2.1], hfr, by unfold sim; rw [show (100 : Nat) = n by omega]; exact hS⟩
    · exfalso; omega
  | succ r ih =>
    intro n F x M hn hF hfr hS
    subst hF
    have hI := INV_sim hW n
    have ht : (0 : Int) ≤ (n : Int) ∧ (n : Int) < 100 := by omega
    have h1 := INV_shows hW ht.1 hI 4 (Nat.le_refl 4)
    have h2 := INV_sends hW ht.1 h1 (P 3 0 1).toNat
    have hw3 := hW.2.2
    refine wm_iload_n (n := 106) dX6_send_105 rfl rfl ?_
    refine wm_bipush (n := 108) dX6_send_106 rfl (by omega) (by decide) ?_
    refine wm_icmp_ge (t := 202) (n := 111) dX6_send_108 (by decide) rfl (fun c108 => ?_) (fun c108 => ?_)
    · exfalso; omega
    · refine wm_iconst (n := 112) dX6_send_111 rfl (by omega) ?_
      refine wm_istore_n (n := 113) dX6_send_112 rfl (Nat.le_of_ble_eq_true rfl) ?_
      refine lM_send113 hW ht (by omega) hI hP (fun M1 v hf1 hS1 => ?_) 4 0 _ _ rfl rfl hfr hS
      refine wm_iconst (n := 139) dX6_send_138 rfl (by omega) ?_
      refine wm_istore_n (n := 140) dX6_send_139 rfl (Nat.le_of_ble_eq_true rfl) ?_
      refine lM_send140 hW ht (by push_cast; omega) h1 hP (fun M2 v hf2 hS2 => ?_) (P 3 0 1).toNat 0 _ _ (by omega) rfl hf1 hS1
      refine wm_iconst (n := 168) dX6_send_167 rfl (by omega) ?_
      refine wm_istore_n (n := 169) dX6_send_168 rfl (Nat.le_of_ble_eq_true rfl) ?_
      refine lM_send169 hW ht (by push_cast; omega) h2 hP (fun M3 v hf3 hS3 => ?_) 4 0 _ _ rfl rfl hf2 ⟨hS2, fun p p0 p1 => by simp at p1; omega⟩
      refine wm_iinc (n := 199) dX6_send_196 rfl rfl rfl (by omega) ?_
      refine wm_goto (t := 105) dX6_send_199 (by decide) ?_
      exact ih (n + 1) _ _ _ (by omega) (by push_cast; omega) hf3 hS3

set_option maxHeartbeats 4000000 in
set_option maxRecDepth 100000 in
theorem sM_send {M0 P : sw_M} (hW : WFP P) (hP : RPs M0 P (M0 0 0 27)) : Sp shM yX6_send mX6_send [sR 0 0] M0 (fun r M' => r = some (sI (lateOf P)) ∧ frM M0 M' ∧ RSM M' (sim P)) := by
  refine Sp.of [sR 0 0, sU, sU] (by decide) rfl rfl (Nat.le_of_ble_eq_true rfl) ?_
  refine wm_aload_n (n := 1) dX6_send_0 rfl rfl ?_
  refine wm_iconst (n := 2) dX6_send_1 rfl (by omega) ?_
  refine wm_put (n := 5) (jj := 25) dX6_send_2 rfl pkX6_149 rfl rfl rfl (by first | omega | (simp [up] at * <;> omega)) rfl rfl ?_
  refine wm_aload_n (n := 6) dX6_send_5 rfl rfl ?_
  refine wm_bipush (n := 8) dX6_send_6 rfl (by omega) (by decide) ?_
  refine wm_put (n := 11) (jj := 26) dX6_send_8 rfl pkX6_152 rfl rfl rfl (by first | omega | (simp [up] at * <;> omega)) rfl rfl ?_
  refine wm_aload_n (n := 12) dX6_send_11 rfl rfl ?_
  refine wm_bipush (n := 14) dX6_send_12 rfl (by omega) (by decide) ?_
  refine wm_put (n := 17) (jj := 24) dX6_send_14 rfl pkX6_161 rfl rfl rfl (by first | omega | (simp [up] at * <;> omega)) rfl rfl ?_
  refine wm_aload_n (n := 18) dX6_send_17 rfl rfl ?_
  refine wm_getr (n := 21) (jj := 22) dX6_send_18 rfl fkX6_59 rfl rfl rfl (by first | omega | (simp [up] at * <;> omega)) ?_
  refine wm_iconst (n := 22) dX6_send_21 rfl (by omega) ?_
  refine wm_iconst (n := 23) dX6_send_22 rfl (by omega) ?_
  refine wm_iastore (n := 24) dX6_send_23 rfl rfl (by first | omega | (simp [up] at * <;> omega)) (by first | omega | (simp [up] at * <;> omega)) ?_
  refine wm_iconst (n := 25) dX6_send_24 rfl (by omega) ?_
  refine wm_istore_n (n := 26) dX6_send_25 rfl (Nat.le_of_ble_eq_true rfl) ?_
  refine lM_send26 (M0 := M0) (fun M1 v x hf1 hI1 => ?_) 4 0 _ _ _ rfl rfl (frM_up (frM_up0 (frM_up0 (frM_up0 (frM_refl M0) (by decide)) (by decide)) (by decide)) (by decide)) ⟨by simp [up], by simp [up], by simp [up], by simp [up], fun p p0 p1 => by simp at p1; omega⟩
  refine wm_iconst (n := 60) dX6_send_59 rfl (by omega) ?_
  refine wm_istore_n (n := 61) dX6_send_60 rfl (Nat.le_of_ble_eq_true rfl) ?_
  refine lM_send61 (M0 := M0) (fun M2 v x hf2 hI2 hJ2 => ?_) 40 0 _ _ _ rfl rfl hf1 hI1 (fun k k0 k1 => by simp at k1; omega)
  refine wm_iconst (n := 104) dX6_send_103 rfl (by omega) ?_
  refine wm_istore_n (n := 105) dX6_send_104 rfl (Nat.le_of_ble_eq_true rfl) ?_
  exact lM_send105 hW hP 100 0 _ _ _ rfl rfl hf2 (RSM_zero hI2 hJ2)
end
section
/-! What the calls answer, and what the two sides hold between calls. A plan P, images I 0 and I 1 (kept: the bits of kp), a line L of n signs, the last fault told. -/
/-- a plan laid out in a row of 94 numbers -/
def RPv (g : Int → Int) (P : sw_M) : Prop := (∀ p, 0 ≤ p → p < 4 → g p = P 0 p 0 ∧ g (4 + p) = P 0 p 1 ∧ g (8 + p) = P 0 p 2 ∧ ∀ f, 0 ≤ f → f < P 0 p 2 → g (12 + 10 * p + f) = P 1 p f ∧ g (52 + 10 * p + f) = P 2 p f) ∧ g 92 = P 3 0 0 ∧ g 93 = P 3 0 1
theorem RPs_of {M P : sw_M} (h : RPv (fun j => M 1 0 j) P) : RPs M P (-6) := ⟨fun p p0 p1 => ⟨fun _ => h.1 p p0 p1, fun z => by omega⟩, h.2⟩
theorem RPv_of {M P : sw_M} (h : RPs M P (-6)) : RPv (fun j => M 1 0 j) P := ⟨fun p p0 p1 => (h.1 p p0 p1).1 (by omega), h.2⟩
def RM (M P : sw_M) (I : Int → sw_M) (kp n told : Int) (L : Int → Int) : Prop :=
  RPv (fun j => M 1 0 j) P ∧ M 0 0 27 = -6 ∧ (M 0 0 4 = n ∧ ∀ k, 0 ≤ k → k < n → M 4 0 k = L k) ∧ M 1 0 94 = told ∧ (M 3 0 0 = kp % 2 ∧ M 3 0 1 = kp / 2) ∧ (kp % 2 = 1 → RPv (fun j => M 2 0 j) (I 0)) ∧ (kp / 2 = 1 → RPv (fun j => M 2 0 (95 + j)) (I 1))
def WFA (P : sw_M) (I : Int → sw_M) (kp n : Int) (L : Int → Int) : Prop := WFP P ∧ (kp % 2 = 1 → WFP (I 0)) ∧ (kp / 2 = 1 → WFP (I 1)) ∧ (0 ≤ kp ∧ kp ≤ 3) ∧ (0 ≤ n ∧ n ≤ 20) ∧ ∀ k, 0 ≤ k → k < n → 32 ≤ L k ∧ L k ≤ 126
theorem RM_fr {M M' P : sw_M} {I : Int → sw_M} {kp n told : Int} {L : Int → Int} (h : RM M P I kp n told L) (hf : frM M M') : RM M' P I kp n told L := by
  obtain ⟨f1, f2, f3, f4, f5, f6⟩ := hf
  obtain ⟨h1, h2, h3, h4, h5, h6⟩ := h
  refine ⟨?_, by rw [f6]; exact h2, ⟨by rw [f5 4 (by omega)]; exact h3.1, fun k k0 k1 => by rw [f4]; exact h3.2 k k0 k1⟩, by rw [f1]; exact h4, by rw [f3]; exact h5, ?_⟩
  · rw [f1]; exact h1
  · rw [f2]; exact h6
/-- frames of the first n programmes -/
def mnyn (P : sw_M) : Nat → Int
  | 0 => 0
  | n + 1 => mnyn P n + P 0 (n : Int) 2
/-- packets of the first n programmes -/
def pkn (P : sw_M) : Nat → Int
  | 0 => 0
  | n + 1 => pkn P n + szn P (n : Int) (P 0 (n : Int) 2).toNat
/-- the most of the first n ticks -/
def mxn (S : sw_M) (p : Int) : Nat → Int
  | 0 => 0
  | n + 1 => if mxn S p n < S 11 p (n : Int) then S 11 p (n : Int) else mxn S p n
def ansTold (P : sw_M) (p what : Int) : Int := if ¬ ((0 ≤ p ∧ p ≤ 3) ∧ (0 ≤ what ∧ what ≤ 4)) then -2 else if what = 0 then P 0 p 0 else if what = 1 then P 0 p 1 else if what = 2 then P 0 p 2 else if what = 3 then (if P 0 p 2 = 0 then -6 else P 2 p (P 0 p 2 - 1)) else szn P p (P 0 p 2).toNat
def ansCount (P : sw_M) (kp n told what : Int) : Int := if what = 0 then P 3 0 1 else if what = 1 then P 3 0 0 else if what = 2 then mnyn P 4 else if what = 3 then n else if what = 4 then told else if what = 5 then kp else -2
def ansPacket (P : sw_M) (t i what : Int) : Int := if ¬ ((0 ≤ t ∧ t ≤ 99) ∧ (0 ≤ i ∧ i ≤ P 3 0 1 - 1) ∧ (0 ≤ what ∧ what ≤ 3)) then -2 else if what = 0 then sim P 7 0 (4 * t + i) else if what = 1 then sim P 8 0 (4 * t + i) else if what = 2 then sim P 9 0 (4 * t + i) else sim P 10 0 (4 * t + i)
def ansHeld (P : sw_M) (p t : Int) : Int := if ¬ ((0 ≤ p ∧ p ≤ 3) ∧ (0 ≤ t ∧ t ≤ 99)) then -2 else sim P 11 p t
def ansMost (P : sw_M) (p : Int) : Int := if ¬ (0 ≤ p ∧ p ≤ 3) then -2 else mxn (sim P) p 100
def ansFrame (P : sw_M) (p f what : Int) : Int := if ¬ ((0 ≤ p ∧ p ≤ 3) ∧ (0 ≤ what ∧ what ≤ 5)) then -2 else if ¬ (0 ≤ f ∧ f ≤ P 0 p 2 - 1) then -6 else if what = 0 then P 1 p f else if what = 1 then P 2 p f else if what = 2 then sim P 1 p f else if what = 3 then sim P 2 p f else if what = 4 then sim P 3 p f else (if sim P 1 p f = P 1 p f then 1 else 0)
def ansSent (P : sw_M) (what : Int) : Int := if ¬ (0 ≤ what ∧ what ≤ 7) then -2 else if what = 4 then sim P 0 0 3 else if what = 5 then sim P 0 0 1 else if what = 6 then sim P 0 0 4 else if what = 7 then sim P 0 0 2 else sim P 12 0 what
/-- the plan without programme p -/
def wo (P : sw_M) (p : Int) : sw_M := up (up P 0 p 2 0) 0 p 1 0
def ansWithout (P : sw_M) (p : Int) : Int := if ¬ (0 ≤ p ∧ p ≤ 3) then -2 else lateOf (wo P p)
/-- the least v of 1 to top, the last k of them, by which nothing is late -/
def leastL (g : Int → sw_M) (top : Int) : Nat → Int
  | 0 => -6
  | k + 1 => if lateOf (g (top - (k : Int))) = 0 then top - (k : Int) else leastL g top k
def ansNeeds (P : sw_M) : Int := leastL (fun v => up P 3 0 1 v) 4 4
def ansRoom (P : sw_M) (p : Int) : Int := if ¬ (0 ≤ p ∧ p ≤ 3) then -2 else leastL (fun v => up P 0 p 0 v) 40 40
/-- that image k is kept -/
def bit (kp k : Int) : Int := if k = 0 then kp % 2 else kp / 2
def setb (kp k : Int) : Int := if k = 0 then kp / 2 * 2 + 1 else kp % 2 + 2
def seti (I : Int → sw_M) (k : Int) (P : sw_M) : Int → sw_M := fun q => if q = k then P else I q
-- slots and ticks of a stream that are past
theorem WFP_wo {P : sw_M} (h : WFP P) (p : Int) : WFP (wo P p) := by
  refine ⟨fun q q0 q1 => ?_, by simpa [wo, up] using h.2.1, by simpa [wo, up] using h.2.2⟩
  have hq := h.1 q q0 q1
  by_cases e : q = p
  · subst e
    refine ⟨by simpa [wo, up] using hq.1, by simp [wo, up], by simp [wo, up], fun f f0 f1 => ?_, fun f f0 f1 => ?_⟩
    · simp [wo, up] at f1; omega
    · simp [wo, up] at f1; omega
  · refine ⟨by simpa [wo, up, e] using hq.1, by simpa [wo, up, e] using hq.2.1, by simpa [wo, up, e] using hq.2.2.1, fun f f0 f1 => ?_, fun f f0 f1 => ?_⟩
    · simpa [wo, up] using hq.2.2.2.1 f f0 (by simpa [wo, up, e] using f1)
    · simpa [wo, up] using hq.2.2.2.2 f f0 (by simpa [wo, up, e] using f1)
theorem WFP_wide {P : sw_M} (h : WFP P) {v : Int} (hv : 1 ≤ v ∧ v ≤ 4) : WFP (up P 3 0 1 v) := by
  refine ⟨fun q q0 q1 => by simpa [up] using h.1 q q0 q1, by simpa [up] using h.2.1, by simpa [up] using hv⟩
theorem WFP_room {P : sw_M} (h : WFP P) {p v : Int} (hv : 1 ≤ v ∧ v ≤ 40) : WFP (up P 0 p 0 v) := by
  refine ⟨fun q q0 q1 => ?_, by simpa [up] using h.2.1, by simpa [up] using h.2.2⟩
  have hq := h.1 q q0 q1
  by_cases e : q = p
  · subst e
    exact ⟨by simpa [up] using hv, by simpa [up] using hq.2.1, by simpa [up] using hq.2.2.1, by simpa [up] using hq.2.2.2.1, by simpa [up] using hq.2.2.2.2⟩
  · exact ⟨by simpa [up, e] using hq.1, by simpa [up] using hq.2.1, by simpa [up] using hq.2.2.1, by simpa [up] using hq.2.2.2.1, by simpa [up] using hq.2.2.2.2⟩
/-- marks: what is past stays past -/
theorem mk_show {P S : sw_M} {t p : Int} : aShow P S t p 13 = S 13 ∧ aShow P S t p 14 = S 14 := by
  unfold aShow
  split
  · split <;> exact ⟨rfl, rfl⟩
  · exact ⟨rfl, rfl⟩
theorem mk_shows {P S : sw_M} {t : Int} : ∀ n : Nat, aShows P S t n 13 = S 13 ∧ aShows P S t n 14 = S 14
  | 0 => ⟨rfl, rfl⟩
  | n + 1 => ⟨mk_show.1.trans (mk_shows n).1, mk_show.2.trans (mk_shows n).2⟩
theorem mk_send {P S : sw_M} {t s : Int} : (∀ x, aSend P S t s 13 0 x = if x = s then 1 else S 13 0 x) ∧ aSend P S t s 14 = S 14 := by
  unfold aSend
  split
  · exact ⟨fun x => by simp [aNote, up], rfl⟩
  · split
    · exact ⟨fun x => by simp [aNote, up], rfl⟩
    · split
      · exact ⟨fun x => by simp [aNote, aFrame, up], rfl⟩
      · exact ⟨fun x => by simp [aNote, up], rfl⟩
theorem mk_sends {P S : sw_M} {t : Int} : ∀ n : Nat, (∀ x, S 13 0 x = 1 → aSends P S t n 13 0 x = 1) ∧ (∀ i, 0 ≤ i → i < (n : Int) → aSends P S t n 13 0 (4 * t + i) = 1) ∧ aSends P S t n 14 = S 14
  | 0 => ⟨fun x h => h, fun i h0 h1 => by simp at h1; omega, rfl⟩
  | n + 1 => by
    obtain ⟨a, b, c⟩ := mk_sends (P := P) (S := S) (t := t) n
    have m := mk_send (P := P) (S := aSends P S t n) (t := t) (s := 4 * t + (n : Int))
    refine ⟨fun x h => ?_, fun i h0 h1 => ?_, m.2.trans c⟩
    · rw [aSends, m.1]; split
      · rfl
      · exact a x h
    · rw [aSends, m.1]; split
      · rfl
      · exact b i h0 (by push_cast at h1; omega)
theorem mk_rec {S : sw_M} {t : Int} : ∀ n : Nat, aRec S t n 13 = S 13 ∧ aRec S t n 14 = S 14
  | 0 => ⟨rfl, rfl⟩
  | n + 1 => mk_rec n
theorem mk_sim {P : sw_M} (hW : WFP P) : ∀ n : Nat, (∀ t i, 0 ≤ t → t < (n : Int) → 0 ≤ i → i < P 3 0 1 → aSim P n 13 0 (4 * t + i) = 1) ∧ ∀ t, 0 ≤ t → t < (n : Int) → aSim P n 14 0 t = 1
  | 0 => ⟨fun t i h0 h1 => by simp at h1; omega, fun t h0 h1 => by simp at h1; omega⟩
  | n + 1 => by
    obtain ⟨a, b⟩ := mk_sim hW n
    have hw := hW.2.2
    have h1 := mk_shows (P := P) (S := aSim P n) (t := (n : Int)) 4
    have h2 := mk_sends (P := P) (S := aShows P (aSim P n) (n : Int) 4) (t := (n : Int)) (P 3 0 1).toNat
    have h3 := mk_rec (S := aSends P (aShows P (aSim P n) (n : Int) 4) (n : Int) (P 3 0 1).toNat) (t := (n : Int)) 4
    have e13 : aSim P (n + 1) 13 = aSends P (aShows P (aSim P n) (n : Int) 4) (n : Int) (P 3 0 1).toNat 13 := h3.1
    refine ⟨fun t i h0 ht i0 i1 => ?_, fun t h0 ht => ?_⟩
    · rw [e13]
      by_cases e : t = (n : Int)
      · subst e; exact h2.2.1 i i0 (by omega)
      · exact h2.1 _ (by rw [h1.1]; exact a t i h0 (by push_cast at ht; omega) i0 i1)
    · show up _ 14 0 (n : Int) 1 14 0 t = 1
      by_cases e : t = (n : Int)
      · subst e; simp [up]
      · have := b t h0 (by push_cast at ht; omega)
        simp only [up, e, and_false, if_true, if_false]
        rw [h3.2, h2.2.2, h1.2]; exact this
theorem mk_all {P : sw_M} (hW : WFP P) : (∀ t i, 0 ≤ t → t ≤ 99 → 0 ≤ i → i ≤ P 3 0 1 - 1 → sim P 13 0 (4 * t + i) = 1) ∧ ∀ t, 0 ≤ t → t ≤ 99 → sim P 14 0 t = 1 := by
  have := mk_sim hW 100
  exact ⟨fun t i h0 h1 i0 i1 => this.1 t i h0 (by simpa using (by omega : t < 100)) i0 (by omega), fun t h0 h1 => this.2 t h0 (by simpa using (by omega : t < 100))⟩
end
section
/-! The reference: told, count, packet, held, most, without, needs, room, image, restore. -/
theorem mnyn_bd {P : sw_M} (hW : WFP P) : ∀ n : Nat, n ≤ 4 → 0 ≤ mnyn P n ∧ mnyn P n ≤ 10 * (n : Int)
  | 0, _ => ⟨Int.le_refl _, Int.le_refl _⟩
  | n + 1, hn => by
    have h := mnyn_bd hW n (by omega)
    have h2 := (hW.1 (n : Int) (by omega) (by omega)).2.2.1
    rw [mnyn]; push_cast; omega

set_option maxHeartbeats 4000000 in
set_option maxRecDepth 100000 in
theorem lM_allFrames {M P : sw_M} (hW : WFP P) (hP : RPv (fun j => M 1 0 j) P) : ∀ (r n : Nat) (F cn : Int), n + r = 4 → F = (n : Int) → cn = mnyn P n → WM shM mX6_allFrames (isr (some (sI (mnyn P 4))) M) 4 [sR 0 0, sI cn, sI F] [] M := by
  intro r
  induction r with
  | zero =>
    intro n F cn hn hF hc
    refine wm_iload_n (n := 5) dX6_allFrames_4 rfl rfl ?_
    refine wm_iconst (n := 6) dX6_allFrames_5 rfl (by omega) ?_
    refine wm_icmp_ge (t := 27) (n := 9) dX6_allFrames_6 (by decide) rfl (fun c6 => ?_) (fun c6 => ?_)
    · refine wm_iload_n (n := 28) dX6_allFrames_27 rfl rfl ?_
      refine wm_ireturn dX6_allFrames_28 rfl ?_
      exact ⟨by rw [hc, show n = 4 by omega], rfl⟩
    · exfalso; omega
  | succ r ih =>
    intro n F cn hn hF hc
    subst hF; subst hc
    have hq : M 1 0 (8 + (n : Int)) = P 0 (n : Int) 2 := (hP.1 (n : Int) (by omega) (by omega)).2.2.1
    have hw := (hW.1 (n : Int) (by omega) (by omega)).2.2.1
    have hbd := mnyn_bd hW n (by omega)
    refine wm_iload_n (n := 5) dX6_allFrames_4 rfl rfl ?_
    refine wm_iconst (n := 6) dX6_allFrames_5 rfl (by omega) ?_
    refine wm_icmp_ge (t := 27) (n := 9) dX6_allFrames_6 (by decide) rfl (fun c6 => ?_) (fun c6 => ?_)
    · exfalso; omega
    · refine wm_iload_n (n := 10) dX6_allFrames_9 rfl rfl ?_
      refine wm_aload_n (n := 11) dX6_allFrames_10 rfl rfl ?_
      refine wm_getr (n := 14) (jj := 0) dX6_allFrames_11 rfl fkX6_7 rfl rfl rfl (by first | omega | (simp [up] at * <;> omega)) ?_
      refine wm_bipush (n := 16) dX6_allFrames_14 rfl (by omega) (by decide) ?_
      refine wm_iload_n (n := 17) dX6_allFrames_16 rfl rfl ?_
      refine wm_iadd (n := 18) dX6_allFrames_17 rfl (by first | omega | (simp [up] at * <;> omega)) ?_
      refine wm_iaload (N := M) (n := 19) dX6_allFrames_18 rfl rfl (by first | omega | (simp [up] at * <;> omega)) (by first | omega | (simp [up] at * <;> omega)) rfl ?_
      refine wm_iadd (n := 20) dX6_allFrames_19 rfl (by first | omega | (simp [up] at * <;> omega)) ?_
      refine wm_istore_n (n := 21) dX6_allFrames_20 rfl (Nat.le_of_ble_eq_true rfl) ?_
      refine wm_iinc (n := 24) dX6_allFrames_21 rfl rfl rfl (by first | omega | (simp [up] at * <;> omega)) ?_
      refine wm_goto (t := 4) dX6_allFrames_24 (by decide) ?_
      exact ih (n + 1) _ _ (by omega) (by push_cast; omega) (by rw [mnyn]; omega)

set_option maxHeartbeats 4000000 in
set_option maxRecDepth 100000 in
theorem sM_allFrames {M P : sw_M} (hW : WFP P) (hP : RPv (fun j => M 1 0 j) P) : Sp shM yX6_allFrames mX6_allFrames [sR 0 0] M (isr (some (sI (mnyn P 4))) M) := by
  refine Sp.of [sR 0 0, sU, sU] (by decide) rfl rfl (Nat.le_of_ble_eq_true rfl) ?_
  refine wm_iconst (n := 1) dX6_allFrames_0 rfl (by omega) ?_
  refine wm_istore_n (n := 2) dX6_allFrames_1 rfl (Nat.le_of_ble_eq_true rfl) ?_
  refine wm_iconst (n := 3) dX6_allFrames_2 rfl (by omega) ?_
  refine wm_istore_n (n := 4) dX6_allFrames_3 rfl (Nat.le_of_ble_eq_true rfl) ?_
  exact lM_allFrames hW hP 4 0 _ _ rfl rfl rfl

set_option maxHeartbeats 4000000 in
set_option maxRecDepth 100000 in
theorem aM_told {M P : sw_M} {I : Int → sw_M} {kp n told : Int} {L : Int → Int} (p what : Int) (hA : WFA P I kp n L) (hM : RM M P I kp n told L) : Sp shM yX6_told mX6_told [sR 0 0, sI p, sI what] M (fun r M' => r = some (sI (ansTold P p what)) ∧ RM M' P I kp n told L) := by
  have hW := hA.1
  have hwd := hM.1.2.2
  have hwb := hW.2.2
  have hPs : RPs M P (M 0 0 27) := by rw [hM.2.1]; exact RPs_of hM.1
  refine Sp.of [sR 0 0, sI p, sI what, sU] (by decide) rfl rfl (Nat.le_of_ble_eq_true rfl) ?_
  refine wm_iload_n (n := 1) dX6_told_0 rfl rfl ?_
  refine wm_callsB (n := 4) dX6_told_1 rfl csX6_111 (And.intro (Nat.le_of_ble_eq_true rfl) (Nat.le_of_ble_eq_true rfl)) (bM_isProgramme _ _) rfl rfl (Nat.le_of_ble_eq_true rfl) (fun c1 => ?_) (fun c1 => ?_)
  · refine wm_if_eq (t := 16) (n := 7) dX6_told_4 (by decide) rfl (fun z => absurd z (by decide)) (fun _ => ?_)
    refine wm_iload_n (n := 8) dX6_told_7 rfl rfl ?_
    refine wm_iconst (n := 9) dX6_told_8 rfl (by omega) ?_
    refine wm_iconst (n := 10) dX6_told_9 rfl (by omega) ?_
    refine wm_callsB (n := 13) dX6_told_10 rfl csX6_69 (And.intro (Nat.le_of_ble_eq_true rfl) (Nat.le_of_ble_eq_true rfl)) (bM_in _ _ _ _) rfl rfl (Nat.le_of_ble_eq_true rfl) (fun c10 => ?_) (fun c10 => ?_)
    · refine wm_if_ne (t := 19) (n := 16) dX6_told_13 (by decide) rfl (fun _ => ?_) (fun z => absurd z (by decide))
      have a := hM.1.1 p (by omega) (by omega)
      have hw := hW.1 p (by omega) (by omega)
      have a0 : M 1 0 p = P 0 p 0 := a.1
      have a1 : M 1 0 (4 + p) = P 0 p 1 := a.2.1
      have a2 : M 1 0 (8 + p) = P 0 p 2 := a.2.2.1
      have hd : 0 < P 0 p 2 → M 1 0 (52 + 10 * p + (M 1 0 (8 + p) - 1)) = P 2 p (P 0 p 2 - 1) := fun z => by rw [a2]; exact (a.2.2.2 (P 0 p 2 - 1) (by omega) (by omega)).2
      have hs : (what = 0 → M 1 0 (4 * what + p) = P 0 p 0) ∧ (what = 1 → M 1 0 (4 * what + p) = P 0 p 1) ∧ (what = 2 → M 1 0 (4 * what + p) = P 0 p 2) := ⟨fun e => by subst e; simpa using a0, fun e => by subst e; simpa using a1, fun e => by subst e; simpa using a2⟩
      refine wm_aload_n (n := 20) dX6_told_19 rfl rfl ?_
      refine wm_getr (n := 23) (jj := 0) dX6_told_20 rfl fkX6_7 rfl rfl rfl (by first | omega | (simp [up] at * <;> omega)) ?_
      refine wm_bipush (n := 25) dX6_told_23 rfl (by omega) (by decide) ?_
      refine wm_iload_n (n := 26) dX6_told_25 rfl rfl ?_
      refine wm_iadd (n := 27) dX6_told_26 rfl (by first | omega | (simp [up] at * <;> omega)) ?_
      refine wm_iaload (N := M) (n := 28) dX6_told_27 rfl rfl (by first | omega | (simp [up] at * <;> omega)) (by first | omega | (simp [up] at * <;> omega)) rfl ?_
      refine wm_istore_n (n := 29) dX6_told_28 rfl (Nat.le_of_ble_eq_true rfl) ?_
      refine wm_iload_n (n := 30) dX6_told_29 rfl rfl ?_
      refine wm_iconst (n := 31) dX6_told_30 rfl (by omega) ?_
      refine wm_icmp_ne (t := 54) (n := 34) dX6_told_31 (by decide) rfl (fun c31 => ?_) (fun c31 => ?_)
      · refine wm_iload_n (n := 55) dX6_told_54 rfl rfl ?_
        refine wm_iconst (n := 56) dX6_told_55 rfl (by omega) ?_
        refine wm_icmp_ne (t := 67) (n := 59) dX6_told_56 (by decide) rfl (fun c56 => ?_) (fun c56 => ?_)
        · refine wm_aload_n (n := 68) dX6_told_67 rfl rfl ?_
          refine wm_getr (n := 71) (jj := 0) dX6_told_68 rfl fkX6_7 rfl rfl rfl (by first | omega | (simp [up] at * <;> omega)) ?_
          refine wm_iconst (n := 72) dX6_told_71 rfl (by omega) ?_
          refine wm_iload_n (n := 73) dX6_told_72 rfl rfl ?_
          refine wm_imul (n := 74) dX6_told_73 rfl (by first | omega | (simp [up] at * <;> omega)) ?_
          refine wm_iload_n (n := 75) dX6_told_74 rfl rfl ?_
          refine wm_iadd (n := 76) dX6_told_75 rfl (by first | omega | (simp [up] at * <;> omega)) ?_
          refine wm_iaload (N := M) (n := 77) dX6_told_76 rfl rfl (by first | omega | (simp [up] at * <;> omega)) (by first | omega | (simp [up] at * <;> omega)) rfl ?_
          refine wm_ireturn dX6_told_77 rfl ?_
          refine ⟨congrArg (fun z => some (sI z)) ?_, hM⟩
          unfold ansTold
          (repeat' split) <;> omega
        · refine wm_aload_n (n := 60) dX6_told_59 rfl rfl ?_
          refine wm_iload_n (n := 61) dX6_told_60 rfl rfl ?_
          refine wm_callv (n := 64) dX6_told_61 rfl cvX6_146 (And.intro (Nat.le_of_ble_eq_true rfl) (Nat.le_of_ble_eq_true rfl)) (sM_packetsOf (P := P) (by omega) hw.2.2.1 a2 hW (fun f f0 f1 => (a.2.2.2 f f0 f1).1)) rfl rfl rfl rfl (by first | omega | (simp [up] at * <;> omega)) (Nat.le_of_ble_eq_true rfl) ?_
          refine wm_goto (t := 77) dX6_told_64 (by decide) ?_
          refine wm_ireturn dX6_told_77 rfl ?_
          refine ⟨congrArg (fun z => some (sI z)) ?_, hM⟩
          unfold ansTold
          (repeat' split) <;> omega
      · refine wm_iload_n (n := 35) dX6_told_34 rfl rfl ?_
        refine wm_if_ne (t := 43) (n := 38) dX6_told_35 (by decide) rfl (fun c35 => ?_) (fun c35 => ?_)
        · refine wm_aload_n (n := 44) dX6_told_43 rfl rfl ?_
          refine wm_iload_n (n := 45) dX6_told_44 rfl rfl ?_
          refine wm_iload_n (n := 46) dX6_told_45 rfl rfl ?_
          refine wm_iconst (n := 47) dX6_told_46 rfl (by omega) ?_
          refine wm_isub (n := 48) dX6_told_47 rfl (by first | omega | (simp [up] at * <;> omega)) ?_
          refine wm_callv (n := 51) dX6_told_48 rfl cvX6_108 (And.intro (Nat.le_of_ble_eq_true rfl) (Nat.le_of_ble_eq_true rfl)) (sM_dueOf _ _ _ (by omega) (by omega)) rfl rfl rfl rfl (by first | omega | (simp [up] at * <;> omega)) (Nat.le_of_ble_eq_true rfl) ?_
          refine wm_goto (t := 77) dX6_told_51 (by decide) ?_
          refine wm_ireturn dX6_told_77 rfl ?_
          refine ⟨congrArg (fun z => some (sI z)) ?_, hM⟩
          unfold ansTold
          (repeat' split) <;> omega
        · refine wm_bipush (n := 40) dX6_told_38 rfl (by omega) (by decide) ?_
          refine wm_goto (t := 77) dX6_told_40 (by decide) ?_
          refine wm_ireturn dX6_told_77 rfl ?_
          refine ⟨congrArg (fun z => some (sI z)) ?_, hM⟩
          unfold ansTold
          (repeat' split) <;> omega
    · refine wm_if_ne (t := 19) (n := 16) dX6_told_13 (by decide) rfl (fun z => absurd z (by decide)) (fun _ => ?_)
      refine wm_bipush (n := 18) dX6_told_16 rfl (by omega) (by decide) ?_
      refine wm_ireturn dX6_told_18 rfl ?_
      refine ⟨congrArg (fun z => some (sI z)) ?_, hM⟩
      unfold ansTold
      (repeat' split) <;> omega
  · refine wm_if_eq (t := 16) (n := 7) dX6_told_4 (by decide) rfl (fun _ => ?_) (fun z => absurd z (by decide))
    refine wm_bipush (n := 18) dX6_told_16 rfl (by omega) (by decide) ?_
    refine wm_ireturn dX6_told_18 rfl ?_
    refine ⟨congrArg (fun z => some (sI z)) ?_, hM⟩
    unfold ansTold
    (repeat' split) <;> omega

set_option maxHeartbeats 4000000 in
set_option maxRecDepth 100000 in
theorem aM_count {M P : sw_M} {I : Int → sw_M} {kp n told : Int} {L : Int → Int} (what : Int) (hA : WFA P I kp n L) (hM : RM M P I kp n told L) : Sp shM yX6_count mX6_count [sR 0 0, sI what] M (fun r M' => r = some (sI (ansCount P kp n told what)) ∧ RM M' P I kp n told L) := by
  have hW := hA.1
  have hwd := hM.1.2.2
  have hwb := hW.2.2
  have hPs : RPs M P (M 0 0 27) := by rw [hM.2.1]; exact RPs_of hM.1
  have h3 := hM.2.2.2.2.1
  have h4 := hM.2.2.2.1
  have h5 := hM.2.2.1.1
  have h6 : M 1 0 92 = P 3 0 0 := hM.1.2.1
  have h7 : M 1 0 93 = P 3 0 1 := hM.1.2.2
  have hkp := hA.2.2.2.1
  refine Sp.of [sR 0 0, sI what] (by decide) rfl rfl (Nat.le_of_ble_eq_true rfl) ?_
  refine wm_iload_n (n := 1) dX6_count_0 rfl rfl ?_
  refine wm_tsw (td := 104) [40, 48, 56, 61, 66, 74] dX6_count_1 (by decide) (by decide) (by decide) (fun c1_d => ?_) (And.intro (fun c1_0 => ?_) (And.intro (fun c1_1 => ?_) (And.intro (fun c1_2 => ?_) (And.intro (fun c1_3 => ?_) (And.intro (fun c1_4 => ?_) (And.intro (fun c1_5 => ?_) trivial))))))
  · refine wm_bipush (n := 106) dX6_count_104 rfl (by omega) (by decide) ?_
    refine wm_ireturn dX6_count_106 rfl ?_
    refine ⟨congrArg (fun z => some (sI z)) ?_, hM⟩
    unfold ansCount
    (repeat' split) <;> omega
  · refine wm_aload_n (n := 41) dX6_count_40 rfl rfl ?_
    refine wm_getr (n := 44) (jj := 0) dX6_count_41 rfl fkX6_7 rfl rfl rfl (by first | omega | (simp [up] at * <;> omega)) ?_
    refine wm_bipush (n := 46) dX6_count_44 rfl (by omega) (by decide) ?_
    refine wm_iaload (N := M) (n := 47) dX6_count_46 rfl rfl (by first | omega | (simp [up] at * <;> omega)) (by first | omega | (simp [up] at * <;> omega)) rfl ?_
    refine wm_ireturn dX6_count_47 rfl ?_
    refine ⟨congrArg (fun z => some (sI z)) ?_, hM⟩
    unfold ansCount
    (repeat' split) <;> omega
  · refine wm_aload_n (n := 49) dX6_count_48 rfl rfl ?_
    refine wm_getr (n := 52) (jj := 0) dX6_count_49 rfl fkX6_7 rfl rfl rfl (by first | omega | (simp [up] at * <;> omega)) ?_
    refine wm_bipush (n := 54) dX6_count_52 rfl (by omega) (by decide) ?_
    refine wm_iaload (N := M) (n := 55) dX6_count_54 rfl rfl (by first | omega | (simp [up] at * <;> omega)) (by first | omega | (simp [up] at * <;> omega)) rfl ?_
    refine wm_ireturn dX6_count_55 rfl ?_
    refine ⟨congrArg (fun z => some (sI z)) ?_, hM⟩
    unfold ansCount
    (repeat' split) <;> omega
  · refine wm_aload_n (n := 57) dX6_count_56 rfl rfl ?_
    refine wm_callv (n := 60) dX6_count_57 rfl cvX6_184 (And.intro (Nat.le_of_ble_eq_true rfl) (Nat.le_of_ble_eq_true rfl)) (sM_allFrames hW hM.1) rfl rfl rfl rfl (by first | omega | (simp [up] at * <;> omega)) (Nat.le_of_ble_eq_true rfl) ?_
    refine wm_ireturn dX6_count_60 rfl ?_
    refine ⟨congrArg (fun z => some (sI z)) ?_, hM⟩
    unfold ansCount
    (repeat' split) <;> omega
  · refine wm_aload_n (n := 62) dX6_count_61 rfl rfl ?_
    refine wm_geti (N := M) (n := 65) (jj := 4) dX6_count_62 rfl fkX6_73 rfl rfl rfl (by first | omega | (simp [up] at * <;> omega)) rfl ?_
    refine wm_ireturn dX6_count_65 rfl ?_
    refine ⟨congrArg (fun z => some (sI z)) ?_, hM⟩
    unfold ansCount
    (repeat' split) <;> omega
  · refine wm_aload_n (n := 67) dX6_count_66 rfl rfl ?_
    refine wm_getr (n := 70) (jj := 0) dX6_count_67 rfl fkX6_7 rfl rfl rfl (by first | omega | (simp [up] at * <;> omega)) ?_
    refine wm_bipush (n := 72) dX6_count_70 rfl (by omega) (by decide) ?_
    refine wm_iaload (N := M) (n := 73) dX6_count_72 rfl rfl (by first | omega | (simp [up] at * <;> omega)) (by first | omega | (simp [up] at * <;> omega)) rfl ?_
    refine wm_ireturn dX6_count_73 rfl ?_
    refine ⟨congrArg (fun z => some (sI z)) ?_, hM⟩
    unfold ansCount
    (repeat' split) <;> omega
  · refine wm_aload_n (n := 75) dX6_count_74 rfl rfl ?_
    refine wm_getr (n := 78) (jj := 2) dX6_count_75 rfl fkX6_16 rfl rfl rfl (by first | omega | (simp [up] at * <;> omega)) ?_
    refine wm_iconst (n := 79) dX6_count_78 rfl (by omega) ?_
    refine wm_zaload (N := M) (n := 80) dX6_count_79 rfl rfl (by first | omega | (simp [up] at * <;> omega)) (by first | omega | (simp [up] at * <;> omega)) rfl ?_
    refine wm_if_eq (t := 87) (n := 83) dX6_count_80 (by decide) rfl (fun c80 => ?_) (fun c80 => ?_)
    · refine wm_iconst (n := 88) dX6_count_87 rfl (by omega) ?_
      refine wm_aload_n (n := 89) dX6_count_88 rfl rfl ?_
      refine wm_getr (n := 92) (jj := 2) dX6_count_89 rfl fkX6_16 rfl rfl rfl (by first | omega | (simp [up] at * <;> omega)) ?_
      refine wm_iconst (n := 93) dX6_count_92 rfl (by omega) ?_
      refine wm_zaload (N := M) (n := 94) dX6_count_93 rfl rfl (by first | omega | (simp [up] at * <;> omega)) (by first | omega | (simp [up] at * <;> omega)) rfl ?_
      refine wm_if_eq (t := 101) (n := 97) dX6_count_94 (by decide) rfl (fun c94 => ?_) (fun c94 => ?_)
      · refine wm_iconst (n := 102) dX6_count_101 rfl (by omega) ?_
        refine wm_iadd (n := 103) dX6_count_102 rfl (by first | omega | (simp [up] at * <;> omega)) ?_
        refine wm_ireturn dX6_count_103 rfl ?_
        refine ⟨congrArg (fun z => some (sI z)) ?_, hM⟩
        unfold ansCount
        (repeat' split) <;> omega
      · refine wm_iconst (n := 98) dX6_count_97 rfl (by omega) ?_
        refine wm_goto (t := 102) dX6_count_98 (by decide) ?_
        refine wm_iadd (n := 103) dX6_count_102 rfl (by first | omega | (simp [up] at * <;> omega)) ?_
        refine wm_ireturn dX6_count_103 rfl ?_
        refine ⟨congrArg (fun z => some (sI z)) ?_, hM⟩
        unfold ansCount
        (repeat' split) <;> omega
    · refine wm_iconst (n := 84) dX6_count_83 rfl (by omega) ?_
      refine wm_goto (t := 88) dX6_count_84 (by decide) ?_
      refine wm_aload_n (n := 89) dX6_count_88 rfl rfl ?_
      refine wm_getr (n := 92) (jj := 2) dX6_count_89 rfl fkX6_16 rfl rfl rfl (by first | omega | (simp [up] at * <;> omega)) ?_
      refine wm_iconst (n := 93) dX6_count_92 rfl (by omega) ?_
      refine wm_zaload (N := M) (n := 94) dX6_count_93 rfl rfl (by first | omega | (simp [up] at * <;> omega)) (by first | omega | (simp [up] at * <;> omega)) rfl ?_
      refine wm_if_eq (t := 101) (n := 97) dX6_count_94 (by decide) rfl (fun c94 => ?_) (fun c94 => ?_)
      · refine wm_iconst (n := 102) dX6_count_101 rfl (by omega) ?_
        refine wm_iadd (n := 103) dX6_count_102 rfl (by first | omega | (simp [up] at * <;> omega)) ?_
        refine wm_ireturn dX6_count_103 rfl ?_
        refine ⟨congrArg (fun z => some (sI z)) ?_, hM⟩
        unfold ansCount
        (repeat' split) <;> omega
      · refine wm_iconst (n := 98) dX6_count_97 rfl (by omega) ?_
        refine wm_goto (t := 102) dX6_count_98 (by decide) ?_
        refine wm_iadd (n := 103) dX6_count_102 rfl (by first | omega | (simp [up] at * <;> omega)) ?_
        refine wm_ireturn dX6_count_103 rfl ?_
        refine ⟨congrArg (fun z => some (sI z)) ?_, hM⟩
        unfold ansCount
        (repeat' split) <;> omega

set_option maxHeartbeats 4000000 in
set_option maxRecDepth 100000 in
theorem aM_packet {M P : sw_M} {I : Int → sw_M} {kp n told : Int} {L : Int → Int} (t i what : Int) (hA : WFA P I kp n L) (hM : RM M P I kp n told L) : Sp shM yX6_packet mX6_packet [sR 0 0, sI t, sI i, sI what] M (fun r M' => r = some (sI (ansPacket P t i what)) ∧ RM M' P I kp n told L) := by
  have hW := hA.1
  have hwd := hM.1.2.2
  have hwb := hW.2.2
  have hPs : RPs M P (M 0 0 27) := by rw [hM.2.1]; exact RPs_of hM.1
  have hwd2 : M 1 0 93 = P 3 0 1 := hwd
  refine Sp.of [sR 0 0, sI t, sI i, sI what, sU] (by decide) rfl rfl (Nat.le_of_ble_eq_true rfl) ?_
  refine wm_iload_n (n := 1) dX6_packet_0 rfl rfl ?_
  refine wm_iconst (n := 2) dX6_packet_1 rfl (by omega) ?_
  refine wm_bipush (n := 4) dX6_packet_2 rfl (by omega) (by decide) ?_
  refine wm_callsB (n := 7) dX6_packet_4 rfl csX6_69 (And.intro (Nat.le_of_ble_eq_true rfl) (Nat.le_of_ble_eq_true rfl)) (bM_in _ _ _ _) rfl rfl (Nat.le_of_ble_eq_true rfl) (fun c4 => ?_) (fun c4 => ?_)
  · refine wm_if_eq (t := 36) (n := 10) dX6_packet_7 (by decide) rfl (fun z => absurd z (by decide)) (fun _ => ?_)
    refine wm_iload_n (n := 11) dX6_packet_10 rfl rfl ?_
    refine wm_iconst (n := 12) dX6_packet_11 rfl (by omega) ?_
    refine wm_aload_n (n := 13) dX6_packet_12 rfl rfl ?_
    refine wm_getr (n := 16) (jj := 0) dX6_packet_13 rfl fkX6_7 rfl rfl rfl (by first | omega | (simp [up] at * <;> omega)) ?_
    refine wm_bipush (n := 18) dX6_packet_16 rfl (by omega) (by decide) ?_
    refine wm_iaload (N := M) (n := 19) dX6_packet_18 rfl rfl (by first | omega | (simp [up] at * <;> omega)) (by first | omega | (simp [up] at * <;> omega)) rfl ?_
    refine wm_iconst (n := 20) dX6_packet_19 rfl (by omega) ?_
    refine wm_isub (n := 21) dX6_packet_20 rfl (by first | omega | (simp [up] at * <;> omega)) ?_
    refine wm_callsB (n := 24) dX6_packet_21 rfl csX6_69 (And.intro (Nat.le_of_ble_eq_true rfl) (Nat.le_of_ble_eq_true rfl)) (bM_in _ _ _ _) rfl rfl (Nat.le_of_ble_eq_true rfl) (fun c21 => ?_) (fun c21 => ?_)
    · refine wm_if_eq (t := 36) (n := 27) dX6_packet_24 (by decide) rfl (fun z => absurd z (by decide)) (fun _ => ?_)
      refine wm_iload_n (n := 28) dX6_packet_27 rfl rfl ?_
      refine wm_iconst (n := 29) dX6_packet_28 rfl (by omega) ?_
      refine wm_iconst (n := 30) dX6_packet_29 rfl (by omega) ?_
      refine wm_callsB (n := 33) dX6_packet_30 rfl csX6_69 (And.intro (Nat.le_of_ble_eq_true rfl) (Nat.le_of_ble_eq_true rfl)) (bM_in _ _ _ _) rfl rfl (Nat.le_of_ble_eq_true rfl) (fun c30 => ?_) (fun c30 => ?_)
      · refine wm_if_ne (t := 39) (n := 36) dX6_packet_33 (by decide) rfl (fun _ => ?_) (fun z => absurd z (by decide))
        refine wm_aload_n (n := 40) dX6_packet_39 rfl rfl ?_
        refine wm_callvQ (n := 43) dX6_packet_40 rfl cvX6_181 (And.intro (Nat.le_of_ble_eq_true rfl) (Nat.le_of_ble_eq_true rfl)) (sM_send hW hPs) rfl rfl rfl rfl (by first | omega | (simp [up] at * <;> omega)) (Nat.le_of_ble_eq_true rfl) (fun r40 M40 q40 => ?_)
        obtain ⟨rfl, hfr, hS⟩ := q40
        have hsl := hS.2.2.2.2.2.1 (4 * t + i) ((mk_all hW).1 t i (by omega) (by omega) (by omega) (by omega))
        refine wm_pop (n := 44) dX6_packet_43 rfl ?_
        refine wm_iconst (n := 45) dX6_packet_44 rfl (by omega) ?_
        refine wm_iload_n (n := 46) dX6_packet_45 rfl rfl ?_
        refine wm_imul (n := 47) dX6_packet_46 rfl (by first | omega | (simp [up] at * <;> omega)) ?_
        refine wm_iload_n (n := 48) dX6_packet_47 rfl rfl ?_
        refine wm_iadd (n := 49) dX6_packet_48 rfl (by first | omega | (simp [up] at * <;> omega)) ?_
        refine wm_istore (n := 51) dX6_packet_49 rfl (Nat.le_of_ble_eq_true rfl) ?_
        refine wm_iload_n (n := 52) dX6_packet_51 rfl rfl ?_
        refine wm_if_ne (t := 65) (n := 55) dX6_packet_52 (by decide) rfl (fun c52 => ?_) (fun c52 => ?_)
        · refine wm_iload_n (n := 66) dX6_packet_65 rfl rfl ?_
          refine wm_iconst (n := 67) dX6_packet_66 rfl (by omega) ?_
          refine wm_icmp_ne (t := 80) (n := 70) dX6_packet_67 (by decide) rfl (fun c67 => ?_) (fun c67 => ?_)
          · refine wm_iload_n (n := 81) dX6_packet_80 rfl rfl ?_
            refine wm_iconst (n := 82) dX6_packet_81 rfl (by omega) ?_
            refine wm_icmp_ne (t := 95) (n := 85) dX6_packet_82 (by decide) rfl (fun c82 => ?_) (fun c82 => ?_)
            · refine wm_aload_n (n := 96) dX6_packet_95 rfl rfl ?_
              refine wm_getr (n := 99) (jj := 15) dX6_packet_96 rfl fkX6_38 rfl rfl rfl (by first | omega | (simp [up] at * <;> omega)) ?_
              refine wm_iload (n := 101) dX6_packet_99 rfl rfl ?_
              refine wm_iaload (N := M40) (n := 102) dX6_packet_101 rfl rfl (by first | omega | (simp [up] at * <;> omega)) (by first | omega | (simp [up] at * <;> omega)) rfl ?_
              refine wm_ireturn dX6_packet_102 rfl ?_
              refine ⟨congrArg (fun z => some (sI z)) ?_, RM_fr hM hfr⟩
              unfold ansPacket
              (repeat' split) <;> omega
            · refine wm_aload_n (n := 86) dX6_packet_85 rfl rfl ?_
              refine wm_getr (n := 89) (jj := 14) dX6_packet_86 rfl fkX6_35 rfl rfl rfl (by first | omega | (simp [up] at * <;> omega)) ?_
              refine wm_iload (n := 91) dX6_packet_89 rfl rfl ?_
              refine wm_iaload (N := M40) (n := 92) dX6_packet_91 rfl rfl (by first | omega | (simp [up] at * <;> omega)) (by first | omega | (simp [up] at * <;> omega)) rfl ?_
              refine wm_goto (t := 102) dX6_packet_92 (by decide) ?_
              refine wm_ireturn dX6_packet_102 rfl ?_
              refine ⟨congrArg (fun z => some (sI z)) ?_, RM_fr hM hfr⟩
              unfold ansPacket
              (repeat' split) <;> omega
          · refine wm_aload_n (n := 71) dX6_packet_70 rfl rfl ?_
            refine wm_getr (n := 74) (jj := 13) dX6_packet_71 rfl fkX6_32 rfl rfl rfl (by first | omega | (simp [up] at * <;> omega)) ?_
            refine wm_iload (n := 76) dX6_packet_74 rfl rfl ?_
            refine wm_iaload (N := M40) (n := 77) dX6_packet_76 rfl rfl (by first | omega | (simp [up] at * <;> omega)) (by first | omega | (simp [up] at * <;> omega)) rfl ?_
            refine wm_goto (t := 102) dX6_packet_77 (by decide) ?_
            refine wm_ireturn dX6_packet_102 rfl ?_
            refine ⟨congrArg (fun z => some (sI z)) ?_, RM_fr hM hfr⟩
            unfold ansPacket
            (repeat' split) <;> omega
        · refine wm_aload_n (n := 56) dX6_packet_55 rfl rfl ?_
          refine wm_getr (n := 59) (jj := 12) dX6_packet_56 rfl fkX6_29 rfl rfl rfl (by first | omega | (simp [up] at * <;> omega)) ?_
          refine wm_iload (n := 61) dX6_packet_59 rfl rfl ?_
          refine wm_iaload (N := M40) (n := 62) dX6_packet_61 rfl rfl (by first | omega | (simp [up] at * <;> omega)) (by first | omega | (simp [up] at * <;> omega)) rfl ?_
          refine wm_goto (t := 102) dX6_packet_62 (by decide) ?_
          refine wm_ireturn dX6_packet_102 rfl ?_
          refine ⟨congrArg (fun z => some (sI z)) ?_, RM_fr hM hfr⟩
          unfold ansPacket
          (repeat' split) <;> omega
      · refine wm_if_ne (t := 39) (n := 36) dX6_packet_33 (by decide) rfl (fun z => absurd z (by decide)) (fun _ => ?_)
        refine wm_bipush (n := 38) dX6_packet_36 rfl (by omega) (by decide) ?_
        refine wm_ireturn dX6_packet_38 rfl ?_
        refine ⟨congrArg (fun z => some (sI z)) ?_, hM⟩
        unfold ansPacket
        (repeat' split) <;> omega
    · refine wm_if_eq (t := 36) (n := 27) dX6_packet_24 (by decide) rfl (fun _ => ?_) (fun z => absurd z (by decide))
      refine wm_bipush (n := 38) dX6_packet_36 rfl (by omega) (by decide) ?_
      refine wm_ireturn dX6_packet_38 rfl ?_
      refine ⟨congrArg (fun z => some (sI z)) ?_, hM⟩
      unfold ansPacket
      (repeat' split) <;> omega
  · refine wm_if_eq (t := 36) (n := 10) dX6_packet_7 (by decide) rfl (fun _ => ?_) (fun z => absurd z (by decide))
    refine wm_bipush (n := 38) dX6_packet_36 rfl (by omega) (by decide) ?_
    refine wm_ireturn dX6_packet_38 rfl ?_
    refine ⟨congrArg (fun z => some (sI z)) ?_, hM⟩
    unfold ansPacket
    (repeat' split) <;> omega

set_option maxHeartbeats 4000000 in
set_option maxRecDepth 100000 in
theorem aM_held {M P : sw_M} {I : Int → sw_M} {kp n told : Int} {L : Int → Int} (p t : Int) (hA : WFA P I kp n L) (hM : RM M P I kp n told L) : Sp shM yX6_held mX6_held [sR 0 0, sI p, sI t] M (fun r M' => r = some (sI (ansHeld P p t)) ∧ RM M' P I kp n told L) := by
  have hW := hA.1
  have hwd := hM.1.2.2
  have hwb := hW.2.2
  have hPs : RPs M P (M 0 0 27) := by rw [hM.2.1]; exact RPs_of hM.1
  refine Sp.of [sR 0 0, sI p, sI t] (by decide) rfl rfl (Nat.le_of_ble_eq_true rfl) ?_
  refine wm_iload_n (n := 1) dX6_held_0 rfl rfl ?_
  refine wm_callsB (n := 4) dX6_held_1 rfl csX6_111 (And.intro (Nat.le_of_ble_eq_true rfl) (Nat.le_of_ble_eq_true rfl)) (bM_isProgramme _ _) rfl rfl (Nat.le_of_ble_eq_true rfl) (fun c1 => ?_) (fun c1 => ?_)
  · refine wm_if_eq (t := 17) (n := 7) dX6_held_4 (by decide) rfl (fun z => absurd z (by decide)) (fun _ => ?_)
    refine wm_iload_n (n := 8) dX6_held_7 rfl rfl ?_
    refine wm_iconst (n := 9) dX6_held_8 rfl (by omega) ?_
    refine wm_bipush (n := 11) dX6_held_9 rfl (by omega) (by decide) ?_
    refine wm_callsB (n := 14) dX6_held_11 rfl csX6_69 (And.intro (Nat.le_of_ble_eq_true rfl) (Nat.le_of_ble_eq_true rfl)) (bM_in _ _ _ _) rfl rfl (Nat.le_of_ble_eq_true rfl) (fun c11 => ?_) (fun c11 => ?_)
    · refine wm_if_ne (t := 20) (n := 17) dX6_held_14 (by decide) rfl (fun _ => ?_) (fun z => absurd z (by decide))
      refine wm_aload_n (n := 21) dX6_held_20 rfl rfl ?_
      refine wm_callvQ (n := 24) dX6_held_21 rfl cvX6_181 (And.intro (Nat.le_of_ble_eq_true rfl) (Nat.le_of_ble_eq_true rfl)) (sM_send hW hPs) rfl rfl rfl rfl (by first | omega | (simp [up] at * <;> omega)) (Nat.le_of_ble_eq_true rfl) (fun r21 M21 q21 => ?_)
      obtain ⟨rfl, hfr, hS⟩ := q21
      have hsl := hS.2.2.2.2.2.2 t ((mk_all hW).2 t (by omega) (by omega)) p (by omega) (by omega)
      refine wm_pop (n := 25) dX6_held_24 rfl ?_
      refine wm_aload_n (n := 26) dX6_held_25 rfl rfl ?_
      refine wm_getr (n := 29) (jj := 20) dX6_held_26 rfl fkX6_53 rfl rfl rfl (by first | omega | (simp [up] at * <;> omega)) ?_
      refine wm_iconst (n := 30) dX6_held_29 rfl (by omega) ?_
      refine wm_iload_n (n := 31) dX6_held_30 rfl rfl ?_
      refine wm_imul (n := 32) dX6_held_31 rfl (by first | omega | (simp [up] at * <;> omega)) ?_
      refine wm_iload_n (n := 33) dX6_held_32 rfl rfl ?_
      refine wm_iadd (n := 34) dX6_held_33 rfl (by first | omega | (simp [up] at * <;> omega)) ?_
      refine wm_iaload (N := M21) (n := 35) dX6_held_34 rfl rfl (by first | omega | (simp [up] at * <;> omega)) (by first | omega | (simp [up] at * <;> omega)) rfl ?_
      refine wm_ireturn dX6_held_35 rfl ?_
      refine ⟨congrArg (fun z => some (sI z)) ?_, RM_fr hM hfr⟩
      unfold ansHeld
      (repeat' split) <;> omega
    · refine wm_if_ne (t := 20) (n := 17) dX6_held_14 (by decide) rfl (fun z => absurd z (by decide)) (fun _ => ?_)
      refine wm_bipush (n := 19) dX6_held_17 rfl (by omega) (by decide) ?_
      refine wm_ireturn dX6_held_19 rfl ?_
      refine ⟨congrArg (fun z => some (sI z)) ?_, hM⟩
      unfold ansHeld
      (repeat' split) <;> omega
  · refine wm_if_eq (t := 17) (n := 7) dX6_held_4 (by decide) rfl (fun _ => ?_) (fun z => absurd z (by decide))
    refine wm_bipush (n := 19) dX6_held_17 rfl (by omega) (by decide) ?_
    refine wm_ireturn dX6_held_19 rfl ?_
    refine ⟨congrArg (fun z => some (sI z)) ?_, hM⟩
    unfold ansHeld
    (repeat' split) <;> omega

set_option maxHeartbeats 4000000 in
set_option maxRecDepth 100000 in
theorem lM_most {M P : sw_M} {I : Int → sw_M} {kp n0 told : Int} {L : Int → Int} {p : Int} (hp : 0 ≤ p ∧ p ≤ 3) (hR : RM M P I kp n0 told L) (hb : ∀ t, 0 ≤ t → t ≤ 99 → M 15 0 (4 * t + p) = sim P 11 p t) : ∀ (r n : Nat) (F cn : Int) (x : sw_V), n + r = 100 → F = (n : Int) → cn = mxn (sim P) p n → WM shM mX6_most (fun r M' => r = some (sI (ansMost P p)) ∧ RM M' P I kp n0 told L) 19 [sR 0 0, sI p, sI cn, sI F, x] [] M := by
  intro r
  induction r with
  | zero =>
    intro n F cn x hn hF hc
    refine wm_iload_n (n := 20) dX6_most_19 rfl rfl ?_
    refine wm_bipush (n := 22) dX6_most_20 rfl (by omega) (by decide) ?_
    refine wm_icmp_ge (t := 56) (n := 25) dX6_most_22 (by decide) rfl (fun c22 => ?_) (fun c22 => ?_)
    · refine wm_iload_n (n := 57) dX6_most_56 rfl rfl ?_
      refine wm_ireturn dX6_most_57 rfl ?_
      exact ⟨by rw [hc]; unfold ansMost; rw [if_neg (by omega), show (100 : Nat) = n by omega], hR⟩
    · exfalso; omega
  | succ r ih =>
    intro n F cn x hn hF hc
    subst hF; subst hc
    have hq := hb (n : Int) (by omega) (by omega)
    refine wm_iload_n (n := 20) dX6_most_19 rfl rfl ?_
    refine wm_bipush (n := 22) dX6_most_20 rfl (by omega) (by decide) ?_
    refine wm_icmp_ge (t := 56) (n := 25) dX6_most_22 (by decide) rfl (fun c22 => ?_) (fun c22 => ?_)
    · exfalso; omega
    · refine wm_aload_n (n := 26) dX6_most_25 rfl rfl ?_
      refine wm_getr (n := 29) (jj := 20) dX6_most_26 rfl fkX6_53 rfl rfl rfl (by first | omega | (simp [up] at * <;> omega)) ?_
      refine wm_iconst (n := 30) dX6_most_29 rfl (by omega) ?_
      refine wm_iload_n (n := 31) dX6_most_30 rfl rfl ?_
      refine wm_imul (n := 32) dX6_most_31 rfl (by first | omega | (simp [up] at * <;> omega)) ?_
      refine wm_iload_n (n := 33) dX6_most_32 rfl rfl ?_
      refine wm_iadd (n := 34) dX6_most_33 rfl (by first | omega | (simp [up] at * <;> omega)) ?_
      refine wm_iaload (N := M) (n := 35) dX6_most_34 rfl rfl (by first | omega | (simp [up] at * <;> omega)) (by first | omega | (simp [up] at * <;> omega)) rfl ?_
      refine wm_istore (n := 37) dX6_most_35 rfl (Nat.le_of_ble_eq_true rfl) ?_
      refine wm_iload (n := 39) dX6_most_37 rfl rfl ?_
      refine wm_iload_n (n := 40) dX6_most_39 rfl rfl ?_
      refine wm_icmp_le (t := 48) (n := 43) dX6_most_40 (by decide) rfl (fun c40 => ?_) (fun c40 => ?_)
      · refine wm_iload_n (n := 49) dX6_most_48 rfl rfl ?_
        refine wm_istore_n (n := 50) dX6_most_49 rfl (Nat.le_of_ble_eq_true rfl) ?_
        refine wm_iinc (n := 53) dX6_most_50 rfl rfl rfl (by first | omega | (simp [up] at * <;> omega)) ?_
        refine wm_goto (t := 19) dX6_most_53 (by decide) ?_
        exact ih (n + 1) _ _ _ (by omega) (by push_cast; omega) (by rw [mxn]; split <;> omega)
      · refine wm_iload (n := 45) dX6_most_43 rfl rfl ?_
        refine wm_goto (t := 49) dX6_most_45 (by decide) ?_
        refine wm_istore_n (n := 50) dX6_most_49 rfl (Nat.le_of_ble_eq_true rfl) ?_
        refine wm_iinc (n := 53) dX6_most_50 rfl rfl rfl (by first | omega | (simp [up] at * <;> omega)) ?_
        refine wm_goto (t := 19) dX6_most_53 (by decide) ?_
        exact ih (n + 1) _ _ _ (by omega) (by push_cast; omega) (by rw [mxn]; split <;> omega)

set_option maxHeartbeats 4000000 in
set_option maxRecDepth 100000 in
theorem aM_most {M P : sw_M} {I : Int → sw_M} {kp n told : Int} {L : Int → Int} (p : Int) (hA : WFA P I kp n L) (hM : RM M P I kp n told L) : Sp shM yX6_most mX6_most [sR 0 0, sI p] M (fun r M' => r = some (sI (ansMost P p)) ∧ RM M' P I kp n told L) := by
  have hW := hA.1
  have hwd := hM.1.2.2
  have hwb := hW.2.2
  have hPs : RPs M P (M 0 0 27) := by rw [hM.2.1]; exact RPs_of hM.1
  refine Sp.of [sR 0 0, sI p, sU, sU, sU] (by decide) rfl rfl (Nat.le_of_ble_eq_true rfl) ?_
  refine wm_iload_n (n := 1) dX6_most_0 rfl rfl ?_
  refine wm_callsB (n := 4) dX6_most_1 rfl csX6_111 (And.intro (Nat.le_of_ble_eq_true rfl) (Nat.le_of_ble_eq_true rfl)) (bM_isProgramme _ _) rfl rfl (Nat.le_of_ble_eq_true rfl) (fun c1 => ?_) (fun c1 => ?_)
  · refine wm_if_ne (t := 10) (n := 7) dX6_most_4 (by decide) rfl (fun _ => ?_) (fun z => absurd z (by decide))
    refine wm_aload_n (n := 11) dX6_most_10 rfl rfl ?_
    refine wm_callvQ (n := 14) dX6_most_11 rfl cvX6_181 (And.intro (Nat.le_of_ble_eq_true rfl) (Nat.le_of_ble_eq_true rfl)) (sM_send hW hPs) rfl rfl rfl rfl (by first | omega | (simp [up] at * <;> omega)) (Nat.le_of_ble_eq_true rfl) (fun r11 M11 q11 => ?_)
    obtain ⟨rfl, hfr, hS⟩ := q11
    refine wm_pop (n := 15) dX6_most_14 rfl ?_
    refine wm_iconst (n := 16) dX6_most_15 rfl (by omega) ?_
    refine wm_istore_n (n := 17) dX6_most_16 rfl (Nat.le_of_ble_eq_true rfl) ?_
    refine wm_iconst (n := 18) dX6_most_17 rfl (by omega) ?_
    refine wm_istore_n (n := 19) dX6_most_18 rfl (Nat.le_of_ble_eq_true rfl) ?_
    exact lM_most (by omega) (RM_fr hM hfr) (fun t t0 t1 => hS.2.2.2.2.2.2 t ((mk_all hW).2 t t0 t1) p (by omega) (by omega)) 100 0 _ _ _ rfl rfl rfl
  · refine wm_if_ne (t := 10) (n := 7) dX6_most_4 (by decide) rfl (fun z => absurd z (by decide)) (fun _ => ?_)
    refine wm_bipush (n := 9) dX6_most_7 rfl (by omega) (by decide) ?_
    refine wm_ireturn dX6_most_9 rfl ?_
    refine ⟨congrArg (fun z => some (sI z)) ?_, hM⟩
    unfold ansMost
    (repeat' split) <;> omega

theorem RPs_wo {M P : sw_M} {p : Int} (hp : 0 ≤ p ∧ p ≤ 3) (h : RPv (fun j => M 1 0 j) P) : RPs M (wo P p) p := by
  refine ⟨fun q q0 q1 => ⟨fun hne => ?_, fun e => ?_⟩, by simpa [wo, up] using h.2.1, by simpa [wo, up] using h.2.2⟩
  · have a := h.1 q q0 q1
    refine ⟨by simpa [wo, up] using a.1, by simpa [wo, up, hne] using a.2.1, by simpa [wo, up, hne] using a.2.2.1, fun f f0 f1 => ?_⟩
    simpa [wo, up] using a.2.2.2 f f0 (by simpa [wo, up, hne] using f1)
  · subst e; simp [wo, up]
theorem RM_lo {M P : sw_M} {I : Int → sw_M} {kp n told : Int} {L : Int → Int} {M1 : sw_M} {p : Int} (h : RM M P I kp n told L) (hf : frM (up M 0 0 27 p) M1) : RM (up M1 0 0 27 (-6)) P I kp n told L := by
  obtain ⟨f1, f2, f3, f4, f5, f6⟩ := hf
  obtain ⟨h1, h2, h3, h4, h5, h6⟩ := h
  have e1 : up M1 0 0 27 (-6) 1 = M 1 := f1
  have e2 : up M1 0 0 27 (-6) 2 = M 2 := f2
  have e3 : up M1 0 0 27 (-6) 3 = M 3 := f3
  have e4 : up M1 0 0 27 (-6) 4 = M 4 := f4
  have e0 : up M1 0 0 27 (-6) 0 0 4 = M 0 0 4 := by
    have := f5 4 (by omega)
    simpa [up] using this
  refine ⟨by rw [e1]; exact h1, by simp [up], ⟨by rw [e0]; exact h3.1, fun k k0 k1 => by rw [e4]; exact h3.2 k k0 k1⟩, by rw [e1]; exact h4, by rw [e3]; exact h5, ?_⟩
  rw [e2]; exact h6

set_option maxHeartbeats 4000000 in
set_option maxRecDepth 100000 in
theorem aM_without {M P : sw_M} {I : Int → sw_M} {kp n told : Int} {L : Int → Int} (p : Int) (hA : WFA P I kp n L) (hM : RM M P I kp n told L) : Sp shM yX6_without mX6_without [sR 0 0, sI p] M (fun r M' => r = some (sI (ansWithout P p)) ∧ RM M' P I kp n told L) := by
  have hW := hA.1
  have hwd := hM.1.2.2
  have hwb := hW.2.2
  have hPs : RPs M P (M 0 0 27) := by rw [hM.2.1]; exact RPs_of hM.1
  refine Sp.of [sR 0 0, sI p, sU] (by decide) rfl rfl (Nat.le_of_ble_eq_true rfl) ?_
  refine wm_iload_n (n := 1) dX6_without_0 rfl rfl ?_
  refine wm_callsB (n := 4) dX6_without_1 rfl csX6_111 (And.intro (Nat.le_of_ble_eq_true rfl) (Nat.le_of_ble_eq_true rfl)) (bM_isProgramme _ _) rfl rfl (Nat.le_of_ble_eq_true rfl) (fun c1 => ?_) (fun c1 => ?_)
  · refine wm_if_ne (t := 10) (n := 7) dX6_without_4 (by decide) rfl (fun _ => ?_) (fun z => absurd z (by decide))
    refine wm_aload_n (n := 11) dX6_without_10 rfl rfl ?_
    refine wm_iload_n (n := 12) dX6_without_11 rfl rfl ?_
    refine wm_put (n := 15) (jj := 27) dX6_without_12 rfl pkX6_65 rfl rfl rfl (by first | omega | (simp [up] at * <;> omega)) rfl rfl ?_
    refine wm_aload_n (n := 16) dX6_without_15 rfl rfl ?_
    refine wm_callvQ (n := 19) dX6_without_16 rfl cvX6_181 (And.intro (Nat.le_of_ble_eq_true rfl) (Nat.le_of_ble_eq_true rfl)) (sM_send (P := wo P p) (WFP_wo hW p) (by simpa [up] using RPs_wo (M := up M 0 0 27 p) (by omega) hM.1)) rfl rfl rfl rfl (by first | omega | (simp [up] at * <;> omega)) (Nat.le_of_ble_eq_true rfl) (fun r16 M16 q16 => ?_)
    obtain ⟨rfl, hfr, hS⟩ := q16
    refine wm_istore_n (n := 20) dX6_without_19 rfl (Nat.le_of_ble_eq_true rfl) ?_
    refine wm_aload_n (n := 21) dX6_without_20 rfl rfl ?_
    refine wm_bipush (n := 23) dX6_without_21 rfl (by omega) (by decide) ?_
    refine wm_put (n := 26) (jj := 27) dX6_without_23 rfl pkX6_65 rfl rfl rfl (by first | omega | (simp [up] at * <;> omega)) rfl rfl ?_
    refine wm_iload_n (n := 27) dX6_without_26 rfl rfl ?_
    refine wm_ireturn dX6_without_27 rfl ?_
    refine ⟨by unfold ansWithout; rw [if_neg (by omega)], RM_lo hM hfr⟩
  · refine wm_if_ne (t := 10) (n := 7) dX6_without_4 (by decide) rfl (fun z => absurd z (by decide)) (fun _ => ?_)
    refine wm_bipush (n := 9) dX6_without_7 rfl (by omega) (by decide) ?_
    refine wm_ireturn dX6_without_9 rfl ?_
    refine ⟨congrArg (fun z => some (sI z)) ?_, hM⟩
    unfold ansWithout
    (repeat' split) <;> omega

def frL (M M' : sw_M) (a : Int) : Prop := M' 2 = M 2 ∧ M' 3 = M 3 ∧ M' 4 = M 4 ∧ (∀ j, j < 24 → M' 0 0 j = M 0 0 j) ∧ M' 0 0 27 = M 0 0 27 ∧ ∀ j, j ≠ a → M' 1 0 j = M 1 0 j
theorem frL_up {M M1 : sw_M} {a v : Int} (h : frL M M1 a) : frL M (up M1 1 0 a v) a := ⟨h.1, h.2.1, h.2.2.1, h.2.2.2.1, h.2.2.2.2.1, fun j hj => by have := h.2.2.2.2.2 j hj; simpa [up, hj] using this⟩
theorem frL_fr {M M1 M2 : sw_M} {a : Int} (h : frL M M1 a) (h2 : frM M1 M2) : frL M M2 a := ⟨h2.2.1.trans h.1, h2.2.2.1.trans h.2.1, h2.2.2.2.1.trans h.2.2.1, fun j hj => (h2.2.2.2.2.1 j hj).trans (h.2.2.2.1 j hj), h2.2.2.2.2.2.trans h.2.2.2.2.1, fun j hj => by rw [h2.1]; exact h.2.2.2.2.2 j hj⟩
theorem RM_L {M P : sw_M} {I : Int → sw_M} {kp n told : Int} {L : Int → Int} {M1 : sw_M} {a : Int} (h : RM M P I kp n told L) (hf : frL M M1 a) : RM (up M1 1 0 a (M 1 0 a)) P I kp n told L := by
  have h2 := frL_up (v := M 1 0 a) hf
  obtain ⟨f2, f3, f4, f5, f6, f1⟩ := h2
  have e1 : ∀ j, up M1 1 0 a (M 1 0 a) 1 0 j = M 1 0 j := fun j => by
    by_cases e : j = a
    · subst e; simp [up]
    · exact f1 j e
  have e1' : (fun j => up M1 1 0 a (M 1 0 a) 1 0 j) = (fun j => M 1 0 j) := funext e1
  obtain ⟨h1, h2, h3, h4, h5, h6⟩ := h
  refine ⟨by rw [e1']; exact h1, by rw [f6]; exact h2, ⟨by rw [f5 4 (by omega)]; exact h3.1, fun k k0 k1 => by rw [f4]; exact h3.2 k k0 k1⟩, by rw [e1]; exact h4, by rw [f3]; exact h5, ?_⟩
  rw [f2]; exact h6
theorem leastL_bd (g : Int → sw_M) (top : Int) : ∀ k : Nat, leastL g top k = -6 ∨ (top - (k : Int) < leastL g top k ∧ leastL g top k ≤ top)
  | 0 => Or.inl rfl
  | k + 1 => by
    rw [leastL]
    split
    · right; push_cast; omega
    · rcases leastL_bd g top k with h | h
      · exact Or.inl h
      · right; push_cast; omega

set_option maxHeartbeats 4000000 in
set_option maxRecDepth 100000 in
theorem lM_leastAt {M0 P : sw_M} {I : Int → sw_M} {kp n0 told : Int} {L : Int → Int} {g : Int → sw_M} {a top : Int} (ha : 0 ≤ a ∧ a < 94) (hto : 1 ≤ top ∧ top ≤ 40) (hM : RM M0 P I kp n0 told L) (hg : ∀ v, 1 ≤ v → v ≤ top → WFP (g v) ∧ ∀ M' : sw_M, (∀ j, j ≠ a → M' 1 0 j = M0 1 0 j) → M' 1 0 a = v → RPv (fun j => M' 1 0 j) (g v)) : ∀ (r n : Nat) (F fd was : Int) (M : sw_M), n + r = top.toNat → F = top - (n : Int) → fd = leastL g top n → was = M0 1 0 a → frL M0 M a → WM shM mX6_leastAt (fun r M' => r = some (sI (leastL g top top.toNat)) ∧ RM M' P I kp n0 told L) 14 [sR 0 0, sI a, sI top, sI was, sI fd, sI F] [] M := by
  intro r
  induction r with
  | zero =>
    intro n F fd was M hn hF hfd hwas hfL
    refine wm_iload (n := 16) dX6_leastAt_14 rfl rfl ?_
    refine wm_if_le (t := 49) (n := 19) dX6_leastAt_16 (by decide) rfl (fun c16 => ?_) (fun c16 => ?_)
    · refine wm_aload_n (n := 50) dX6_leastAt_49 rfl rfl ?_
      refine wm_getr (n := 53) (jj := 0) dX6_leastAt_50 rfl fkX6_7 rfl rfl rfl (by first | omega | (simp [up] at * <;> omega)) ?_
      refine wm_iload_n (n := 54) dX6_leastAt_53 rfl rfl ?_
      refine wm_iload_n (n := 55) dX6_leastAt_54 rfl rfl ?_
      refine wm_iastore (n := 56) dX6_leastAt_55 rfl rfl (by first | omega | (simp [up] at * <;> omega)) (by first | omega | (simp [up] at * <;> omega)) ?_
      refine wm_iload (n := 58) dX6_leastAt_56 rfl rfl ?_
      refine wm_ireturn dX6_leastAt_58 rfl ?_
      exact ⟨by rw [hfd, show n = top.toNat by omega], by rw [hwas]; exact RM_L hM hfL⟩
    · exfalso; omega
  | succ r ih =>
    intro n F fd was M hn hF hfd hwas hfL
    subst hF; subst hfd
    refine wm_iload (n := 16) dX6_leastAt_14 rfl rfl ?_
    refine wm_if_le (t := 49) (n := 19) dX6_leastAt_16 (by decide) rfl (fun c16 => ?_) (fun c16 => ?_)
    · exfalso; omega
    · refine wm_aload_n (n := 20) dX6_leastAt_19 rfl rfl ?_
      refine wm_getr (n := 23) (jj := 0) dX6_leastAt_20 rfl fkX6_7 rfl rfl rfl (by first | omega | (simp [up] at * <;> omega)) ?_
      refine wm_iload_n (n := 24) dX6_leastAt_23 rfl rfl ?_
      refine wm_iload (n := 26) dX6_leastAt_24 rfl rfl ?_
      refine wm_iastore (n := 27) dX6_leastAt_26 rfl rfl (by first | omega | (simp [up] at * <;> omega)) (by first | omega | (simp [up] at * <;> omega)) ?_
      have hgv := hg (top - (n : Int)) (by omega) (by omega)
      have hlo : up M 1 0 a (top - (n : Int)) 0 0 27 = -6 := hfL.2.2.2.2.1.trans hM.2.1
      have hps : RPs (up M 1 0 a (top - (n : Int))) (g (top - (n : Int))) (up M 1 0 a (top - (n : Int)) 0 0 27) := by
        rw [hlo]
        exact RPs_of (hgv.2 _ (frL_up hfL).2.2.2.2.2 (by simp [up]))
      refine wm_aload_n (n := 28) dX6_leastAt_27 rfl rfl ?_
      refine wm_callvQ (n := 31) dX6_leastAt_28 rfl cvX6_181 (And.intro (Nat.le_of_ble_eq_true rfl) (Nat.le_of_ble_eq_true rfl)) (sM_send (P := g (top - (n : Int))) hgv.1 hps) rfl rfl rfl rfl (by first | omega | (simp [up] at * <;> omega)) (Nat.le_of_ble_eq_true rfl) (fun r28 M28 q28 => ?_)
      obtain ⟨rfl, hfr, hS⟩ := q28
      have hfr2 := frL_fr (frL_up hfL) hfr
      refine wm_if_ne (t := 39) (n := 34) dX6_leastAt_31 (by decide) rfl (fun c31 => ?_) (fun c31 => ?_)
      · refine wm_iload (n := 41) dX6_leastAt_39 rfl rfl ?_
        refine wm_istore (n := 43) dX6_leastAt_41 rfl (Nat.le_of_ble_eq_true rfl) ?_
        refine wm_iinc (n := 46) dX6_leastAt_43 rfl rfl rfl (by first | omega | (simp [up] at * <;> omega)) ?_
        refine wm_goto (t := 14) dX6_leastAt_46 (by decide) ?_
        exact ih (n + 1) _ _ _ _ (by omega) (by push_cast; omega) (by rw [leastL]; split <;> omega) hwas hfr2
      · refine wm_iload (n := 36) dX6_leastAt_34 rfl rfl ?_
        refine wm_goto (t := 41) dX6_leastAt_36 (by decide) ?_
        refine wm_istore (n := 43) dX6_leastAt_41 rfl (Nat.le_of_ble_eq_true rfl) ?_
        refine wm_iinc (n := 46) dX6_leastAt_43 rfl rfl rfl (by first | omega | (simp [up] at * <;> omega)) ?_
        refine wm_goto (t := 14) dX6_leastAt_46 (by decide) ?_
        exact ih (n + 1) _ _ _ _ (by omega) (by push_cast; omega) (by rw [leastL]; split <;> omega) hwas hfr2

set_option maxHeartbeats 4000000 in
set_option maxRecDepth 100000 in
theorem sM_leastAt {M0 P : sw_M} {I : Int → sw_M} {kp n0 told : Int} {L : Int → Int} (g : Int → sw_M) {a top : Int} (ha : 0 ≤ a ∧ a < 94) (hto : 1 ≤ top ∧ top ≤ 40) (hM : RM M0 P I kp n0 told L) (hg : ∀ v, 1 ≤ v → v ≤ top → WFP (g v) ∧ ∀ M' : sw_M, (∀ j, j ≠ a → M' 1 0 j = M0 1 0 j) → M' 1 0 a = v → RPv (fun j => M' 1 0 j) (g v)) : Sp shM yX6_leastAt mX6_leastAt [sR 0 0, sI a, sI top] M0 (fun r M' => r = some (sI (leastL g top top.toNat)) ∧ RM M' P I kp n0 told L) := by
  refine Sp.of [sR 0 0, sI a, sI top, sU, sU, sU] (by decide) rfl rfl (Nat.le_of_ble_eq_true rfl) ?_
  refine wm_aload_n (n := 1) dX6_leastAt_0 rfl rfl ?_
  refine wm_getr (n := 4) (jj := 0) dX6_leastAt_1 rfl fkX6_7 rfl rfl rfl (by first | omega | (simp [up] at * <;> omega)) ?_
  refine wm_iload_n (n := 5) dX6_leastAt_4 rfl rfl ?_
  refine wm_iaload (N := M0) (n := 6) dX6_leastAt_5 rfl rfl (by first | omega | (simp [up] at * <;> omega)) (by first | omega | (simp [up] at * <;> omega)) rfl ?_
  refine wm_istore_n (n := 7) dX6_leastAt_6 rfl (Nat.le_of_ble_eq_true rfl) ?_
  refine wm_bipush (n := 9) dX6_leastAt_7 rfl (by omega) (by decide) ?_
  refine wm_istore (n := 11) dX6_leastAt_9 rfl (Nat.le_of_ble_eq_true rfl) ?_
  refine wm_iload_n (n := 12) dX6_leastAt_11 rfl rfl ?_
  refine wm_istore (n := 14) dX6_leastAt_12 rfl (Nat.le_of_ble_eq_true rfl) ?_
  exact lM_leastAt ha hto hM hg top.toNat 0 _ _ _ _ (by omega) (by simp) rfl rfl ⟨rfl, rfl, rfl, fun _ _ => rfl, rfl, fun _ _ => rfl⟩

theorem RPv_wide {M M0 P : sw_M} {v : Int} (h : RPv (fun j => M0 1 0 j) P) (hW : WFP P) (hj : ∀ j, j ≠ 93 → M 1 0 j = M0 1 0 j) (hv : M 1 0 93 = v) : RPv (fun j => M 1 0 j) (up P 3 0 1 v) := by
  refine ⟨fun p p0 p1 => ?_, ?_, by simpa [up] using hv⟩
  · have a := h.1 p p0 p1
    have hw := (hW.1 p p0 p1).2.2.1
    refine ⟨by show M 1 0 p = _; rw [hj _ (by omega)]; exact a.1, by show M 1 0 (4 + p) = _; rw [hj _ (by omega)]; exact a.2.1, by show M 1 0 (8 + p) = _; rw [hj _ (by omega)]; exact a.2.2.1, fun f f0 f1 => ?_⟩
    have f1' : f < P 0 p 2 := f1
    have b := a.2.2.2 f f0 f1'
    exact ⟨by show M 1 0 (12 + 10 * p + f) = _; rw [hj _ (by omega)]; exact b.1, by show M 1 0 (52 + 10 * p + f) = _; rw [hj _ (by omega)]; exact b.2⟩
  · show M 1 0 92 = _
    rw [hj _ (by omega)]; exact h.2.1
theorem RPv_room {M M0 P : sw_M} {v q : Int} (hq : 0 ≤ q ∧ q < 4) (h : RPv (fun j => M0 1 0 j) P) (hj : ∀ j, j ≠ q → M 1 0 j = M0 1 0 j) (hv : M 1 0 q = v) : RPv (fun j => M 1 0 j) (up P 0 q 0 v) := by
  refine ⟨fun p p0 p1 => ?_, ?_, ?_⟩
  · have a := h.1 p p0 p1
    refine ⟨?_, by show M 1 0 (4 + p) = _; rw [hj _ (by omega)]; simpa [up] using a.2.1, by show M 1 0 (8 + p) = _; rw [hj _ (by omega)]; simpa [up] using a.2.2.1, fun f f0 f1 => ?_⟩
    · by_cases e : p = q
      · subst e; simpa [up] using hv
      · show M 1 0 p = _
        rw [hj _ e]; simpa [up, e] using a.1
    · have b := a.2.2.2 f f0 (by simpa [up] using f1)
      exact ⟨by show M 1 0 (12 + 10 * p + f) = _; rw [hj _ (by omega)]; exact b.1, by show M 1 0 (52 + 10 * p + f) = _; rw [hj _ (by omega)]; exact b.2⟩
  · show M 1 0 92 = _
    rw [hj _ (by omega)]; exact h.2.1
  · show M 1 0 93 = _
    rw [hj _ (by omega)]; exact h.2.2

set_option maxHeartbeats 4000000 in
set_option maxRecDepth 100000 in
theorem aM_needs {M P : sw_M} {I : Int → sw_M} {kp n told : Int} {L : Int → Int} (hA : WFA P I kp n L) (hM : RM M P I kp n told L) : Sp shM yX6_needs mX6_needs [sR 0 0] M (fun r M' => r = some (sI (ansNeeds P)) ∧ RM M' P I kp n told L) := by
  have hW := hA.1
  have hwd := hM.1.2.2
  have hwb := hW.2.2
  have hPs : RPs M P (M 0 0 27) := by rw [hM.2.1]; exact RPs_of hM.1
  refine Sp.of [sR 0 0] (by decide) rfl rfl (Nat.le_of_ble_eq_true rfl) ?_
  refine wm_aload_n (n := 1) dX6_needs_0 rfl rfl ?_
  refine wm_bipush (n := 3) dX6_needs_1 rfl (by omega) (by decide) ?_
  refine wm_iconst (n := 4) dX6_needs_3 rfl (by omega) ?_
  refine wm_callvQ (n := 7) dX6_needs_4 rfl cvX6_193 (And.intro (Nat.le_of_ble_eq_true rfl) (Nat.le_of_ble_eq_true rfl)) (sM_leastAt (fun v => up P 3 0 1 v) (by omega) (by omega) hM (fun v v0 v1 => ⟨WFP_wide hW ⟨v0, v1⟩, fun M1 hj hv => RPv_wide hM.1 hW hj hv⟩)) rfl rfl rfl rfl (by first | omega | (simp [up] at * <;> omega)) (Nat.le_of_ble_eq_true rfl) (fun r4 M4 q4 => ?_)
  obtain ⟨rfl, hM2⟩ := q4
  refine wm_ireturn dX6_needs_7 rfl ?_
  exact ⟨rfl, hM2⟩

set_option maxHeartbeats 4000000 in
set_option maxRecDepth 100000 in
theorem aM_room {M P : sw_M} {I : Int → sw_M} {kp n told : Int} {L : Int → Int} (p : Int) (hA : WFA P I kp n L) (hM : RM M P I kp n told L) : Sp shM yX6_room mX6_room [sR 0 0, sI p] M (fun r M' => r = some (sI (ansRoom P p)) ∧ RM M' P I kp n told L) := by
  have hW := hA.1
  have hwd := hM.1.2.2
  have hwb := hW.2.2
  have hPs : RPs M P (M 0 0 27) := by rw [hM.2.1]; exact RPs_of hM.1
  refine Sp.of [sR 0 0, sI p] (by decide) rfl rfl (Nat.le_of_ble_eq_true rfl) ?_
  refine wm_iload_n (n := 1) dX6_room_0 rfl rfl ?_
  refine wm_callsB (n := 4) dX6_room_1 rfl csX6_111 (And.intro (Nat.le_of_ble_eq_true rfl) (Nat.le_of_ble_eq_true rfl)) (bM_isProgramme _ _) rfl rfl (Nat.le_of_ble_eq_true rfl) (fun c1 => ?_) (fun c1 => ?_)
  · refine wm_if_eq (t := 19) (n := 7) dX6_room_4 (by decide) rfl (fun z => absurd z (by decide)) (fun _ => ?_)
    refine wm_aload_n (n := 8) dX6_room_7 rfl rfl ?_
    refine wm_iconst (n := 9) dX6_room_8 rfl (by omega) ?_
    refine wm_iload_n (n := 10) dX6_room_9 rfl rfl ?_
    refine wm_iadd (n := 11) dX6_room_10 rfl (by first | omega | (simp [up] at * <;> omega)) ?_
    refine wm_bipush (n := 13) dX6_room_11 rfl (by omega) (by decide) ?_
    refine wm_callvQ (n := 16) dX6_room_13 rfl cvX6_193 (And.intro (Nat.le_of_ble_eq_true rfl) (Nat.le_of_ble_eq_true rfl)) (sM_leastAt (fun v => up P 0 p 0 v) (by omega) (by omega) hM (fun v v0 v1 => ⟨WFP_room hW ⟨v0, v1⟩, fun M1 hj hv => by rw [Int.zero_add] at hj hv; exact RPv_room (by omega) hM.1 hj hv⟩)) rfl rfl rfl rfl (by first | omega | (simp [up] at * <;> omega)) (Nat.le_of_ble_eq_true rfl) (fun r13 M13 q13 => ?_)
    obtain ⟨rfl, hM2⟩ := q13
    refine wm_goto (t := 21) dX6_room_16 (by decide) ?_
    refine wm_ireturn dX6_room_21 rfl ?_
    first
      | exact ⟨by unfold ansRoom; rw [if_neg (by omega)]; rfl, hM2⟩
      | exact ⟨by unfold ansRoom; rw [if_pos (by omega)], hM⟩
  · refine wm_if_eq (t := 19) (n := 7) dX6_room_4 (by decide) rfl (fun _ => ?_) (fun z => absurd z (by decide))
    refine wm_bipush (n := 21) dX6_room_19 rfl (by omega) (by decide) ?_
    refine wm_ireturn dX6_room_21 rfl ?_
    first
      | exact ⟨by unfold ansRoom; rw [if_neg (by omega)]; rfl, hM2⟩
      | exact ⟨by unfold ansRoom; rw [if_pos (by omega)], hM⟩
end
section
/-! Pure rows: what is shown, late, never sent; how many of each kind. -/
/-- what is wanting of the first n frames of p -/
def dfn (P S : sw_M) (p : Int) : Nat → Int
  | 0 => 0
  | n + 1 => dfn P S p n + (P 1 p (n : Int) - S 1 p (n : Int))
def gsn (S : sw_M) (p : Int) : Nat → Int
  | 0 => 0
  | n + 1 => gsn S p n + S 1 p (n : Int)
theorem dfn_congr {P S S' : sw_M} {p : Int} : ∀ n : Nat, (∀ f, 0 ≤ f → f < (n : Int) → S' 1 p f = S 1 p f) → dfn P S' p n = dfn P S p n
  | 0, _ => rfl
  | n + 1, h => by rw [dfn, dfn, dfn_congr n (fun f f0 f1 => h f f0 (by push_cast; omega)), h (n : Int) (by omega) (by push_cast; omega)]
theorem gsn_congr {S S' : sw_M} {p : Int} : ∀ n : Nat, (∀ f, 0 ≤ f → f < (n : Int) → S' 1 p f = S 1 p f) → gsn S' p n = gsn S p n
  | 0, _ => rfl
  | n + 1, h => by rw [gsn, gsn, gsn_congr n (fun f f0 f1 => h f f0 (by push_cast; omega)), h (n : Int) (by omega) (by push_cast; omega)]
theorem gsn_up {S S' : sw_M} {p f0 : Int} (h0 : 0 ≤ f0) : ∀ n : Nat, f0 < (n : Int) → S' 1 p f0 = S 1 p f0 + 1 → (∀ f, f ≠ f0 → S' 1 p f = S 1 p f) → gsn S' p n = gsn S p n + 1
  | 0, h, _, _ => by simp at h; omega
  | n + 1, h, h1, h2 => by
    rw [gsn, gsn]
    by_cases e : f0 = (n : Int)
    · subst e
      rw [gsn_congr n (fun f _ f1 => h2 f (by omega)), h1]; omega
    · rw [gsn_up h0 n (by push_cast at h; omega) h1 h2, h2 (n : Int) (Ne.symm e)]; omega
theorem dfn_szn {P S : sw_M} {p : Int} : ∀ n : Nat, dfn P S p n = szn P p n - gsn S p n
  | 0 => rfl
  | n + 1 => by rw [dfn, szn, gsn, dfn_szn n]; omega
/-- at nu: how many frames of each programme are past -/
def INV2 (P S : sw_M) (nu : Int → Int) : Prop :=
  S 0 0 3 + S 0 0 1 = nu 0 + nu 1 + nu 2 + nu 3 ∧ S 0 0 4 = dfn P S 0 (nu 0).toNat + dfn P S 1 (nu 1).toNat + dfn P S 2 (nu 2).toNat + dfn P S 3 (nu 3).toNat ∧
  S 12 0 3 = gsn S 0 (P 0 0 2).toNat + gsn S 1 (P 0 1 2).toNat + gsn S 2 (P 0 2 2).toNat + gsn S 3 (P 0 3 2).toNat ∧ ∀ p f, 0 ≤ p → p < 4 → 0 ≤ f → f < nu p → S 15 p f = if S 1 p f = P 1 p f then 1 else 0
theorem INV2_step {P S S' : sw_M} {t p : Int} {nu : Int → Int} (hW : WFP P) (hp : 0 ≤ p ∧ p < 4) (hn : nu p = nD P p t) (h : INV2 P S nu) (hc : nD P p t < P 0 p 2 ∧ P 2 p (nD P p t) = t) (e1 : S' 1 = S 1) (es : S' 0 0 3 + S' 0 0 1 = S 0 0 3 + S 0 0 1 + 1) (e4 : S' 0 0 4 = S 0 0 4 + (P 1 p (nD P p t) - S 1 p (nD P p t))) (e12 : S' 12 0 3 = S 12 0 3) (e15 : ∀ q f, S' 15 q f = if q = p ∧ f = nD P p t then (if S 1 p (nD P p t) = P 1 p (nD P p t) then 1 else 0) else S 15 q f) : INV2 P S' (fun q => if q = p then nD P p (t + 1) else nu q) := by
  have hnx := nD_next hW (t := t) hp
  have hb := nD_bd (P := P) (p := p) (t := t) (hW.1 p hp.1 hp.2).2.2.1.1
  obtain ⟨a, b, c, d⟩ := h
  rw [if_pos hc] at hnx
  have hN : (nD P p (t + 1)).toNat = (nD P p t).toNat + 1 := by omega
  have hK : (((nD P p t).toNat : Nat) : Int) = nD P p t := by omega
  have hst : dfn P S' p (nD P p (t + 1)).toNat = dfn P S p (nD P p t).toNat + (P 1 p (nD P p t) - S 1 p (nD P p t)) := by
    rw [hN, dfn, hK, dfn_congr (S := S) _ (fun f _ _ => by rw [e1]), e1]
  have hot : ∀ (q : Int) (k : Nat), dfn P S' q k = dfn P S q k := fun q k => dfn_congr k (fun f _ _ => by rw [e1])
  have hg : ∀ (q : Int) (k : Nat), gsn S' q k = gsn S q k := fun q k => gsn_congr k (fun f _ _ => by rw [e1])
  refine ⟨?_, ?_, ?_, fun q f q0 q1 f0 f1 => ?_⟩
  · rw [es]
    rcases (show p = 0 ∨ p = 1 ∨ p = 2 ∨ p = 3 by omega) with rfl | rfl | rfl | rfl <;> simp <;> omega
  · rw [e4, b]
    rcases (show p = 0 ∨ p = 1 ∨ p = 2 ∨ p = 3 by omega) with rfl | rfl | rfl | rfl
    · simp only [if_true]; rw [hst, hn, if_neg (by decide), if_neg (by decide), if_neg (by decide), hot, hot, hot]; omega
    · simp only [if_true]; rw [hst, hn, if_neg (by decide), if_neg (by decide), if_neg (by decide), hot, hot, hot]; omega
    · simp only [if_true]; rw [hst, hn, if_neg (by decide), if_neg (by decide), if_neg (by decide), hot, hot, hot]; omega
    · simp only [if_true]; rw [hst, hn, if_neg (by decide), if_neg (by decide), if_neg (by decide), hot, hot, hot]; omega
  · rw [e12, c, hg, hg, hg, hg]
  · rw [e15 q f, e1]
    by_cases e : q = p ∧ f = nD P p t
    · rw [if_pos e, e.1, e.2]
    · rw [if_neg e]
      refine d q f q0 q1 f0 ?_
      by_cases e2 : q = p
      · subst e2
        simp at f1
        have : f ≠ nD P q t := fun z => e ⟨rfl, z⟩
        omega
      · simpa [e2] using f1
theorem INV2_show {P S : sw_M} {t p : Int} {nu : Int → Int} (hW : WFP P) (hp : 0 ≤ p ∧ p < 4) (hn : nu p = nD P p t) (h : INV2 P S nu) : INV2 P (aShow P S t p) (fun q => if q = p then nD P p (t + 1) else nu q) := by
  by_cases hc : nD P p t < P 0 p 2 ∧ P 2 p (nD P p t) = t
  · unfold aShow
    rw [if_pos hc]
    split
    · next hs =>
      refine INV2_step hW hp hn h hc rfl ?_ ?_ ?_ (fun q f => ?_)
      · simp [up]; omega
      · simp [up]; omega
      · simp [up]
      · simp [up, hs]
    · next hs =>
      refine INV2_step hW hp hn h hc rfl ?_ ?_ ?_ (fun q f => ?_)
      · simp [up]; omega
      · simp [up]
      · simp [up]
      · simp [up, hs]
  · have hnx := nD_next hW (t := t) hp
    unfold aShow
    rw [if_neg hc] at hnx ⊢
    have e : (fun q => if q = p then nD P p (t + 1) else nu q) = nu := funext fun q => by
      by_cases e : q = p
      · subst e; simp; omega
      · simp [e]
    rw [e]; exact h
theorem INV2_ext {P S : sw_M} {nu nu' : Int → Int} (h : INV2 P S nu) (he : ∀ p, 0 ≤ p → p < 4 → nu' p = nu p) : INV2 P S nu' := by
  obtain ⟨a, b, c, d⟩ := h
  have h0 := he 0 (by omega) (by omega)
  have h1 := he 1 (by omega) (by omega)
  have h2 := he 2 (by omega) (by omega)
  have h3 := he 3 (by omega) (by omega)
  exact ⟨by rw [h0, h1, h2, h3]; exact a, by rw [h0, h1, h2, h3]; exact b, c, fun p f p0 p1 f0 f1 => d p f p0 p1 f0 (by rw [← he p p0 p1]; exact f1)⟩
theorem INV2_shows {P S : sw_M} {t : Int} (hW : WFP P) (h : INV2 P S (fun p => nD P p t)) : ∀ n : Nat, n ≤ 4 → INV2 P (aShows P S t n) (fun p => if p < (n : Int) then nD P p (t + 1) else nD P p t)
  | 0, _ => INV2_ext h (fun p p0 p1 => by simp; omega)
  | n + 1, hn => by
    have := INV2_show (t := t) (p := (n : Int)) hW (by omega) (by simp) (INV2_shows hW h n (by omega))
    refine INV2_ext this (fun p p0 p1 => ?_)
    by_cases e : p = (n : Int)
    · subst e; simp; omega
    · by_cases e2 : p < (n : Int)
      · have e3 : p < ((n + 1 : Nat) : Int) := by push_cast; omega
        simp only [e, e2, e3, if_true, if_false]
      · have e3 : ¬ p < ((n + 1 : Nat) : Int) := by push_cast; omega
        simp only [e, e2, e3, if_false]
/-- a packet: only a frame that is not due yet gets one -/
theorem INV2_same {P S S' : sw_M} {nu : Int → Int} (h : INV2 P S nu) (e1 : S' 1 = S 1) (e0 : S' 0 0 3 = S 0 0 3 ∧ S' 0 0 1 = S 0 0 1 ∧ S' 0 0 4 = S 0 0 4) (e12 : S' 12 0 3 = S 12 0 3) (e15 : S' 15 = S 15) : INV2 P S' nu := by
  obtain ⟨a, b, c, d⟩ := h
  have hot : ∀ (q : Int) (k : Nat), dfn P S' q k = dfn P S q k := fun q k => dfn_congr k (fun f _ _ => by rw [e1])
  have hg : ∀ (q : Int) (k : Nat), gsn S' q k = gsn S q k := fun q k => gsn_congr k (fun f _ _ => by rw [e1])
  refine ⟨by rw [e0.1, e0.2.1]; exact a, by rw [e0.2.2, hot, hot, hot, hot]; exact b, by rw [e12, hg, hg, hg, hg]; exact c, fun p f p0 p1 f0 f1 => by rw [e15, e1]; exact d p f p0 p1 f0 f1⟩
theorem INV2_one {P S S' : sw_M} {nu : Int → Int} {p f : Int} (hp : 0 ≤ p ∧ p < 4) (hf : 0 ≤ f ∧ f < P 0 p 2) (hnu : nu p ≤ f) (h : INV2 P S nu) (e1 : S' 1 p f = S 1 p f + 1) (e1' : ∀ q g, ¬ (q = p ∧ g = f) → S' 1 q g = S 1 q g) (e0 : S' 0 0 3 = S 0 0 3 ∧ S' 0 0 1 = S 0 0 1 ∧ S' 0 0 4 = S 0 0 4) (e12 : S' 12 0 3 = S 12 0 3 + 1) (e15 : S' 15 = S 15) : INV2 P S' nu := by
  obtain ⟨a, b, c, d⟩ := h
  have hot : ∀ (q : Int), dfn P S' q (nu q).toNat = dfn P S q (nu q).toNat := fun q => dfn_congr _ (fun g g0 g1 => e1' q g (fun z => by have z1 := z.1; have z2 := z.2; subst z1; omega))
  have hg : ∀ (q : Int) (k : Nat), q ≠ p → gsn S' q k = gsn S q k := fun q k hq => gsn_congr k (fun g _ _ => e1' q g (fun z => hq z.1))
  have hgp : gsn S' p (P 0 p 2).toNat = gsn S p (P 0 p 2).toNat + 1 := gsn_up hf.1 _ (by omega) e1 (fun g hgf => e1' p g (fun z => hgf z.2))
  refine ⟨by rw [e0.1, e0.2.1]; exact a, by rw [e0.2.2, hot, hot, hot, hot]; exact b, ?_, fun q g q0 q1 g0 g1 => ?_⟩
  · rw [e12, c]
    rcases (show p = 0 ∨ p = 1 ∨ p = 2 ∨ p = 3 by omega) with rfl | rfl | rfl | rfl
    · rw [hgp, hg 1 _ (by decide), hg 2 _ (by decide), hg 3 _ (by decide)]; omega
    · rw [hgp, hg 0 _ (by decide), hg 2 _ (by decide), hg 3 _ (by decide)]; omega
    · rw [hgp, hg 0 _ (by decide), hg 1 _ (by decide), hg 3 _ (by decide)]; omega
    · rw [hgp, hg 0 _ (by decide), hg 1 _ (by decide), hg 2 _ (by decide)]; omega
  · have hne : ¬ (q = p ∧ g = f) := fun z => by have z1 := z.1; have z2 := z.2; subst z1; omega
    rw [e15, e1' q g hne]; exact d q g q0 q1 g0 g1
theorem INV2_send {P S : sw_M} {t s : Int} (hW : WFP P) (h : INV2 P S (fun p => nD P p (t + 1))) : INV2 P (aSend P S t s) (fun p => nD P p (t + 1)) := by
  unfold aSend
  split
  · refine INV2_same h rfl ?_ ?_ rfl <;> simp [aNote, up]
  · split
    · refine INV2_same h rfl ?_ ?_ rfl <;> simp [aNote, up]
    · split
      · next hc =>
        obtain ⟨hp, hf, hd, ho⟩ := pgn_open hW hc
        have hs := nD_split hW (t := t + 1) hp
        refine INV2_one (p := pgn P S t 4) (f := op P S t (pgn P S t 4)) hp hf ?_ h ?_ (fun q g hne => ?_) ?_ ?_ rfl
        · rcases Int.lt_or_le (op P S t (pgn P S t 4)) (nD P (pgn P S t 4) (t + 1)) with q | q
          · have := hs.1 _ hf.1 q; omega
          · exact q
        · simp [aNote, aFrame, up]
        · simp [aNote, aFrame, up, hne]
        · simp [aNote, aFrame, up]
        · simp [aNote, aFrame, up]
      · refine INV2_same h rfl ?_ ?_ rfl <;> simp [aNote, up]
theorem INV2_sends {P S : sw_M} {t : Int} (hW : WFP P) (h : INV2 P S (fun p => nD P p (t + 1))) : ∀ n : Nat, INV2 P (aSends P S t n) (fun p => nD P p (t + 1))
  | 0 => h
  | n + 1 => INV2_send hW (INV2_sends hW h n)
theorem INV2_rec {P S : sw_M} {t : Int} {nu : Int → Int} (h : INV2 P S nu) : ∀ n : Nat, INV2 P (aRec S t n) nu
  | 0 => h
  | n + 1 => INV2_same (INV2_rec h n) rfl ⟨rfl, rfl, rfl⟩ rfl rfl
theorem INV2_zero {P : sw_M} (hW : WFP P) : INV2 P aS0 (fun p => nD P p 0) := by
  have hz : ∀ p, 0 ≤ p → p < 4 → nD P p 0 = 0 := fun p p0 p1 => by
    have hw := hW.1 p p0 p1
    have hb := nD_bd (P := P) (p := p) (t := 0) hw.2.2.1.1
    rcases Int.lt_or_le 0 (nD P p 0) with q | q
    · have a1 := (nD_split hW (t := 0) ⟨p0, p1⟩).1 0 (by omega) q
      have a2 := (hw.2.2.2.1 0 (by omega) (by omega)).2
      omega
    · omega
  have hg : ∀ (q : Int) (k : Nat), gsn aS0 q k = 0 := by
    intro q k
    induction k with
    | zero => rfl
    | succ k ih => rw [gsn, ih]; simp [aS0]
  refine ⟨?_, ?_, ?_, fun p f p0 p1 f0 f1 => ?_⟩
  · simp only [hz 0 (by omega) (by omega), hz 1 (by omega) (by omega), hz 2 (by omega) (by omega), hz 3 (by omega) (by omega)]; simp [aS0]
  · simp only [hz 0 (by omega) (by omega), hz 1 (by omega) (by omega), hz 2 (by omega) (by omega), hz 3 (by omega) (by omega)]; simp [aS0, dfn]
  · rw [hg, hg, hg, hg]; simp [aS0]
  · have := hz p p0 p1
    simp only at f1; omega
theorem INV2_sim {P : sw_M} (hW : WFP P) : ∀ n : Nat, INV2 P (aSim P n) (fun p => nD P p (n : Int))
  | 0 => INV2_zero hW
  | n + 1 => by
    have h1 := INV2_shows hW (INV2_sim hW n) 4 (Nat.le_refl 4)
    have h1' : INV2 P (aShows P (aSim P n) (n : Int) 4) (fun p => nD P p ((n : Int) + 1)) := INV2_ext h1 (fun p p0 p1 => by
      have e : p < ((4 : Nat) : Int) := by simpa using p1
      simp only [e, if_true])
    have h2 := INV2_rec (t := (n : Int)) (INV2_sends hW h1' (P 3 0 1).toNat) 4
    have h3 := INV2_same (S' := aSim P (n + 1)) h2 rfl ⟨rfl, rfl, rfl⟩ rfl rfl
    exact INV2_ext h3 (fun p _ _ => by push_cast; rfl)
theorem nD_end {P : sw_M} (hW : WFP P) {p : Int} (hp : 0 ≤ p ∧ p < 4) : nD P p 100 = P 0 p 2 := by
  have hw := hW.1 p hp.1 hp.2
  have hb := nD_bd (P := P) (p := p) (t := 100) hw.2.2.1.1
  rcases Int.lt_or_le (nD P p 100) (P 0 p 2) with q | q
  · have a1 := (nD_split hW (t := 100) hp).2 _ (Int.le_refl _) q
    have a2 := (hw.2.2.2.1 _ hb.1 q).2
    omega
  · omega
/-- the whole stream's sums -/
theorem sim_sums {P : sw_M} (hW : WFP P) : sim P 0 0 3 = mnyn P 4 - sim P 0 0 1 ∧ sim P 0 0 4 = pkn P 4 - sim P 12 0 3 ∧ ∀ p f, 0 ≤ p → p < 4 → 0 ≤ f → f < P 0 p 2 → sim P 15 p f = if sim P 1 p f = P 1 p f then 1 else 0 := by
  have h := INV2_ext (nu' := fun p => P 0 p 2) (INV2_sim hW 100) (fun p p0 p1 => (nD_end hW ⟨p0, p1⟩).symm)
  obtain ⟨a, b, c, d⟩ := h
  refine ⟨?_, ?_, d⟩
  · show aSim P 100 0 0 3 = mnyn P 4 - aSim P 100 0 0 1
    simp only [mnyn]
    simp only at a
    push_cast
    omega
  · show aSim P 100 0 0 4 = pkn P 4 - aSim P 100 12 0 3
    simp only [dfn_szn] at b
    simp only [pkn]
    push_cast
    omega
-- kinds, slot by slot
def ciK (S : sw_M) (t k : Int) : Nat → Int
  | 0 => 0
  | i + 1 => ciK S t k i + (if S 7 0 (4 * t + (i : Int)) = k then 1 else 0)
def cnK (S : sw_M) (w : Nat) (k : Int) : Nat → Int
  | 0 => 0
  | t + 1 => cnK S w k t + ciK S (t : Int) k w
theorem ciK_congr {S S' : sw_M} {t k : Int} : ∀ n : Nat, (∀ i, 0 ≤ i → i < (n : Int) → S' 7 0 (4 * t + i) = S 7 0 (4 * t + i)) → ciK S' t k n = ciK S t k n
  | 0, _ => rfl
  | n + 1, h => by rw [ciK, ciK, ciK_congr n (fun i i0 i1 => h i i0 (by push_cast; omega)), h (n : Int) (by omega) (by push_cast; omega)]
theorem cnK_congr {S S' : sw_M} {w : Nat} {k : Int} : ∀ n : Nat, (∀ t i, 0 ≤ t → t < (n : Int) → 0 ≤ i → i < (w : Int) → S' 7 0 (4 * t + i) = S 7 0 (4 * t + i)) → cnK S' w k n = cnK S w k n
  | 0, _ => rfl
  | n + 1, h => by rw [cnK, cnK, cnK_congr n (fun t i t0 t1 i0 i1 => h t i t0 (by push_cast; omega) i0 i1), ciK_congr w (fun i i0 i1 => h (n : Int) i (by omega) (by push_cast; omega) i0 i1)]
theorem kd_show {P S : sw_M} {t p : Int} : aShow P S t p 7 = S 7 ∧ aShow P S t p 12 = S 12 := by
  unfold aShow
  split
  · split <;> exact ⟨rfl, rfl⟩
  · exact ⟨rfl, rfl⟩
theorem kd_shows {P S : sw_M} {t : Int} : ∀ n : Nat, aShows P S t n 7 = S 7 ∧ aShows P S t n 12 = S 12
  | 0 => ⟨rfl, rfl⟩
  | n + 1 => ⟨kd_show.1.trans (kd_shows n).1, kd_show.2.trans (kd_shows n).2⟩
theorem kd_note {S : sw_M} {s w p f num k : Int} : (∀ x, x ≠ s → aNote S s w p f num 7 0 x = S 7 0 x) ∧ aNote S s w p f num 12 0 k = S 12 0 k + (if aNote S s w p f num 7 0 s = k then 1 else 0) := by
  refine ⟨fun x hx => by simp [aNote, up, hx], ?_⟩
  by_cases e : k = w
  · subst e; simp [aNote, up]
  · simp [aNote, up, e, Ne.symm e]
theorem kd_send {P S : sw_M} {t s k : Int} : (∀ x, x ≠ s → aSend P S t s 7 0 x = S 7 0 x) ∧ aSend P S t s 12 0 k = S 12 0 k + (if aSend P S t s 7 0 s = k then 1 else 0) := by
  unfold aSend
  split
  · exact ⟨fun x hx => (kd_note (k := k)).1 x hx, kd_note.2⟩
  · split
    · exact ⟨fun x hx => (kd_note (k := k)).1 x hx, kd_note.2⟩
    · split
      · exact ⟨fun x hx => (kd_note (k := k)).1 x hx, kd_note.2⟩
      · exact ⟨fun x hx => (kd_note (k := k)).1 x hx, kd_note.2⟩
theorem kd_sends {P S : sw_M} {t k : Int} : ∀ n : Nat, (∀ x, (∀ i, 0 ≤ i → i < (n : Int) → x ≠ 4 * t + i) → aSends P S t n 7 0 x = S 7 0 x) ∧ aSends P S t n 12 0 k = S 12 0 k + ciK (aSends P S t n) t k n
  | 0 => ⟨fun _ _ => rfl, by simp [aSends, ciK]⟩
  | n + 1 => by
    obtain ⟨a, b⟩ := kd_sends (P := P) (S := S) (t := t) (k := k) n
    have m := kd_send (P := P) (S := aSends P S t n) (t := t) (s := 4 * t + (n : Int)) (k := k)
    refine ⟨fun x hx => ?_, ?_⟩
    · rw [aSends, m.1 x (hx (n : Int) (by omega) (by push_cast; omega))]
      exact a x (fun i i0 i1 => hx i i0 (by push_cast; omega))
    · rw [aSends, m.2, b, ciK, ciK_congr (S := aSends P S t n) n (fun i i0 i1 => m.1 _ (by omega))]
      omega
theorem kd_sim {P : sw_M} (hW : WFP P) (k : Int) : ∀ n : Nat, aSim P n 12 0 k = cnK (aSim P n) (P 3 0 1).toNat k n
  | 0 => by simp [aSim, cnK, aS0]
  | n + 1 => by
    have hw := hW.2.2
    have h1 := kd_shows (P := P) (S := aSim P n) (t := (n : Int)) 4
    have h2 := kd_sends (P := P) (S := aShows P (aSim P n) (n : Int) 4) (t := (n : Int)) (k := k) (P 3 0 1).toNat
    have e7 : aSim P (n + 1) 7 = aSends P (aShows P (aSim P n) (n : Int) 4) (n : Int) (P 3 0 1).toNat 7 := rfl
    have e12 : aSim P (n + 1) 12 = aSends P (aShows P (aSim P n) (n : Int) 4) (n : Int) (P 3 0 1).toNat 12 := rfl
    rw [e12, h2.2, h1.2, kd_sim hW k n, cnK]
    have c1 : cnK (aSim P (n + 1)) (P 3 0 1).toNat k n = cnK (aSim P n) (P 3 0 1).toNat k n := cnK_congr n (fun t i t0 t1 i0 i1 => by
      rw [e7, h2.1 _ (fun i' i0' i1' => by omega), h1.1])
    have c2 : ciK (aSim P (n + 1)) (n : Int) k (P 3 0 1).toNat = ciK (aSends P (aShows P (aSim P n) (n : Int) 4) (n : Int) (P 3 0 1).toNat) (n : Int) k (P 3 0 1).toNat := ciK_congr _ (fun i _ _ => by rw [e7])
    rw [c1, c2]
theorem ciK_bd {S : sw_M} {t k : Int} : ∀ n : Nat, 0 ≤ ciK S t k n ∧ ciK S t k n ≤ (n : Int)
  | 0 => ⟨Int.le_refl _, Int.le_refl _⟩
  | n + 1 => by
    have := ciK_bd (S := S) (t := t) (k := k) n
    rw [ciK]; split <;> (push_cast; omega)
theorem cnK_bd {S : sw_M} {w : Nat} {k : Int} : ∀ n : Nat, 0 ≤ cnK S w k n ∧ cnK S w k n ≤ (n : Int) * (w : Int)
  | 0 => ⟨Int.le_refl _, by simp [cnK]⟩
  | n + 1 => by
    have h := cnK_bd (S := S) (w := w) (k := k) n
    have h2 := ciK_bd (S := S) (t := (n : Int)) (k := k) w
    have e : ((n + 1 : Nat) : Int) * (w : Int) = (n : Int) * (w : Int) + (w : Int) := by push_cast; rw [Int.add_mul, Int.one_mul]
    rw [cnK, e]; omega
end
