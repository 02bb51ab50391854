section
/-! names: the skeleton's part A (the tables' words), then the printed names; written by wip/whole/mknames.py -/
/-- a private method of a class that the tables say can be made, by its rows of tables_1 -/
def lw_okq (q : MethodName × Nat) : Prop := (q.1.cls ≠ "java/lang/invoke/MethodHandle" ∧ q.1.cls ≠ "java/lang/invoke/VarHandle") ∧ Cond.instantiable q.1.cls q.2 ∈ tables_1 ∧ Cond.privateMethod q.1 ∈ tables_1 ∧ Cond.instanceMethod q.1 ∈ tables_1
theorem lw_p0 : lw_okq (⟨"StreamWeave", "obey", "([I)I"⟩, 8) := ⟨⟨by decide +kernel, by decide +kernel⟩, List.mem_of_getElem? (i := 21) (by decide +kernel), List.mem_of_getElem? (i := 333) (by decide +kernel), List.mem_of_getElem? (i := 334) (by decide +kernel)⟩
theorem lw_p1 : lw_okq (⟨"StreamWeave", "addFrame", "(III)I"⟩, 8) := ⟨⟨by decide +kernel, by decide +kernel⟩, List.mem_of_getElem? (i := 21) (by decide +kernel), List.mem_of_getElem? (i := 337) (by decide +kernel), List.mem_of_getElem? (i := 338) (by decide +kernel)⟩
theorem lw_p2 : lw_okq (⟨"StreamWeave", "setRoom", "(II)I"⟩, 8) := ⟨⟨by decide +kernel, by decide +kernel⟩, List.mem_of_getElem? (i := 21) (by decide +kernel), List.mem_of_getElem? (i := 355) (by decide +kernel), List.mem_of_getElem? (i := 356) (by decide +kernel)⟩
theorem lw_p3 : lw_okq (⟨"StreamWeave", "setClock", "(II)I"⟩, 8) := ⟨⟨by decide +kernel, by decide +kernel⟩, List.mem_of_getElem? (i := 21) (by decide +kernel), List.mem_of_getElem? (i := 359) (by decide +kernel), List.mem_of_getElem? (i := 360) (by decide +kernel)⟩
theorem lw_p4 : lw_okq (⟨"StreamWeave", "setTable", "(I)I"⟩, 8) := ⟨⟨by decide +kernel, by decide +kernel⟩, List.mem_of_getElem? (i := 21) (by decide +kernel), List.mem_of_getElem? (i := 363) (by decide +kernel), List.mem_of_getElem? (i := 364) (by decide +kernel)⟩
theorem lw_p5 : lw_okq (⟨"StreamWeave", "setWide", "(I)I"⟩, 8) := ⟨⟨by decide +kernel, by decide +kernel⟩, List.mem_of_getElem? (i := 21) (by decide +kernel), List.mem_of_getElem? (i := 367) (by decide +kernel), List.mem_of_getElem? (i := 368) (by decide +kernel)⟩
theorem lw_p6 : lw_okq (⟨"StreamWeave", "dropFrames", "(I)I"⟩, 8) := ⟨⟨by decide +kernel, by decide +kernel⟩, List.mem_of_getElem? (i := 21) (by decide +kernel), List.mem_of_getElem? (i := 371) (by decide +kernel), List.mem_of_getElem? (i := 372) (by decide +kernel)⟩
theorem lw_p7 : lw_okq (⟨"StreamWeave", "swapFrames", "(III)I"⟩, 8) := ⟨⟨by decide +kernel, by decide +kernel⟩, List.mem_of_getElem? (i := 21) (by decide +kernel), List.mem_of_getElem? (i := 375) (by decide +kernel), List.mem_of_getElem? (i := 376) (by decide +kernel)⟩
theorem lw_p8 : lw_okq (⟨"StreamWeave", "weave", "()V"⟩, 8) := ⟨⟨by decide +kernel, by decide +kernel⟩, List.mem_of_getElem? (i := 21) (by decide +kernel), List.mem_of_getElem? (i := 596) (by decide +kernel), List.mem_of_getElem? (i := 597) (by decide +kernel)⟩
theorem lw_p9 : lw_okq (⟨"StreamWeave", "trialShowsAll", "()Z"⟩, 8) := ⟨⟨by decide +kernel, by decide +kernel⟩, List.mem_of_getElem? (i := 21) (by decide +kernel), List.mem_of_getElem? (i := 706) (by decide +kernel), List.mem_of_getElem? (i := 707) (by decide +kernel)⟩
theorem lw_p10 : lw_okq (⟨"StreamWeaveModel", "isLine", "()Z"⟩, 28) := ⟨⟨by decide +kernel, by decide +kernel⟩, List.mem_of_getElem? (i := 740) (by decide +kernel), List.mem_of_getElem? (i := 847) (by decide +kernel), List.mem_of_getElem? (i := 848) (by decide +kernel)⟩
theorem lw_p11 : lw_okq (⟨"StreamWeaveModel", "readAs", "(I)I"⟩, 28) := ⟨⟨by decide +kernel, by decide +kernel⟩, List.mem_of_getElem? (i := 740) (by decide +kernel), List.mem_of_getElem? (i := 851) (by decide +kernel), List.mem_of_getElem? (i := 852) (by decide +kernel)⟩
theorem lw_p12 : lw_okq (⟨"StreamWeaveModel", "doLine", "()I"⟩, 28) := ⟨⟨by decide +kernel, by decide +kernel⟩, List.mem_of_getElem? (i := 740) (by decide +kernel), List.mem_of_getElem? (i := 868) (by decide +kernel), List.mem_of_getElem? (i := 869) (by decide +kernel)⟩
theorem lw_p13 : lw_okq (⟨"StreamWeaveModel", "frameMore", "(III)I"⟩, 28) := ⟨⟨by decide +kernel, by decide +kernel⟩, List.mem_of_getElem? (i := 740) (by decide +kernel), List.mem_of_getElem? (i := 875) (by decide +kernel), List.mem_of_getElem? (i := 876) (by decide +kernel)⟩
theorem lw_p14 : lw_okq (⟨"StreamWeaveModel", "dueOf", "(II)I"⟩, 28) := ⟨⟨by decide +kernel, by decide +kernel⟩, List.mem_of_getElem? (i := 740) (by decide +kernel), List.mem_of_getElem? (i := 879) (by decide +kernel), List.mem_of_getElem? (i := 880) (by decide +kernel)⟩
theorem lw_p15 : lw_okq (⟨"StreamWeaveModel", "setAt", "(II)I"⟩, 28) := ⟨⟨by decide +kernel, by decide +kernel⟩, List.mem_of_getElem? (i := 740) (by decide +kernel), List.mem_of_getElem? (i := 883) (by decide +kernel), List.mem_of_getElem? (i := 884) (by decide +kernel)⟩
def lw_privs_1 : List (MethodName × Nat) := [(⟨"StreamWeave", "obey", "([I)I"⟩, 8), (⟨"StreamWeave", "addFrame", "(III)I"⟩, 8), (⟨"StreamWeave", "setRoom", "(II)I"⟩, 8), (⟨"StreamWeave", "setClock", "(II)I"⟩, 8), (⟨"StreamWeave", "setTable", "(I)I"⟩, 8), (⟨"StreamWeave", "setWide", "(I)I"⟩, 8), (⟨"StreamWeave", "dropFrames", "(I)I"⟩, 8), (⟨"StreamWeave", "swapFrames", "(III)I"⟩, 8), (⟨"StreamWeave", "weave", "()V"⟩, 8), (⟨"StreamWeave", "trialShowsAll", "()Z"⟩, 8), (⟨"StreamWeaveModel", "isLine", "()Z"⟩, 28), (⟨"StreamWeaveModel", "readAs", "(I)I"⟩, 28), (⟨"StreamWeaveModel", "doLine", "()I"⟩, 28), (⟨"StreamWeaveModel", "frameMore", "(III)I"⟩, 28), (⟨"StreamWeaveModel", "dueOf", "(II)I"⟩, 28), (⟨"StreamWeaveModel", "setAt", "(II)I"⟩, 28)]
theorem lw_r1 : ∀ q ∈ lw_privs_1, lw_okq q := List.forall_mem_cons.mpr ⟨lw_p0, List.forall_mem_cons.mpr ⟨lw_p1, List.forall_mem_cons.mpr ⟨lw_p2, List.forall_mem_cons.mpr ⟨lw_p3, List.forall_mem_cons.mpr ⟨lw_p4, List.forall_mem_cons.mpr ⟨lw_p5, List.forall_mem_cons.mpr ⟨lw_p6, List.forall_mem_cons.mpr ⟨lw_p7, List.forall_mem_cons.mpr ⟨lw_p8, List.forall_mem_cons.mpr ⟨lw_p9, List.forall_mem_cons.mpr ⟨lw_p10, List.forall_mem_cons.mpr ⟨lw_p11, List.forall_mem_cons.mpr ⟨lw_p12, List.forall_mem_cons.mpr ⟨lw_p13, List.forall_mem_cons.mpr ⟨lw_p14, List.forall_mem_cons.mpr ⟨lw_p15, fun _ h => absurd h List.not_mem_nil⟩⟩⟩⟩⟩⟩⟩⟩⟩⟩⟩⟩⟩⟩⟩⟩
theorem lw_p16 : lw_okq (⟨"StreamWeaveModel", "swap", "(III)I"⟩, 28) := ⟨⟨by decide +kernel, by decide +kernel⟩, List.mem_of_getElem? (i := 740) (by decide +kernel), List.mem_of_getElem? (i := 887) (by decide +kernel), List.mem_of_getElem? (i := 888) (by decide +kernel)⟩
theorem lw_p17 : lw_okq (⟨"StreamWeaveModel", "before", "(II)I"⟩, 28) := ⟨⟨by decide +kernel, by decide +kernel⟩, List.mem_of_getElem? (i := 740) (by decide +kernel), List.mem_of_getElem? (i := 891) (by decide +kernel), List.mem_of_getElem? (i := 892) (by decide +kernel)⟩
theorem lw_p18 : lw_okq (⟨"StreamWeaveModel", "sizeOf", "(II)I"⟩, 28) := ⟨⟨by decide +kernel, by decide +kernel⟩, List.mem_of_getElem? (i := 740) (by decide +kernel), List.mem_of_getElem? (i := 895) (by decide +kernel), List.mem_of_getElem? (i := 896) (by decide +kernel)⟩
theorem lw_p19 : lw_okq (⟨"StreamWeaveModel", "isFrame", "(II)Z"⟩, 28) := ⟨⟨by decide +kernel, by decide +kernel⟩, List.mem_of_getElem? (i := 740) (by decide +kernel), List.mem_of_getElem? (i := 903) (by decide +kernel), List.mem_of_getElem? (i := 904) (by decide +kernel)⟩
theorem lw_p20 : lw_okq (⟨"StreamWeaveModel", "writeNumber", "(I)V"⟩, 28) := ⟨⟨by decide +kernel, by decide +kernel⟩, List.mem_of_getElem? (i := 740) (by decide +kernel), List.mem_of_getElem? (i := 907) (by decide +kernel), List.mem_of_getElem? (i := 908) (by decide +kernel)⟩
theorem lw_p21 : lw_okq (⟨"StreamWeaveModel", "packetsOf", "(I)I"⟩, 28) := ⟨⟨by decide +kernel, by decide +kernel⟩, List.mem_of_getElem? (i := 740) (by decide +kernel), List.mem_of_getElem? (i := 915) (by decide +kernel), List.mem_of_getElem? (i := 916) (by decide +kernel)⟩
theorem lw_p22 : lw_okq (⟨"StreamWeaveModel", "send", "()I"⟩, 28) := ⟨⟨by decide +kernel, by decide +kernel⟩, List.mem_of_getElem? (i := 740) (by decide +kernel), List.mem_of_getElem? (i := 923) (by decide +kernel), List.mem_of_getElem? (i := 924) (by decide +kernel)⟩
theorem lw_p23 : lw_okq (⟨"StreamWeaveModel", "showDue", "(II)V"⟩, 28) := ⟨⟨by decide +kernel, by decide +kernel⟩, List.mem_of_getElem? (i := 740) (by decide +kernel), List.mem_of_getElem? (i := 927) (by decide +kernel), List.mem_of_getElem? (i := 928) (by decide +kernel)⟩
theorem lw_p24 : lw_okq (⟨"StreamWeaveModel", "sendOne", "(II)V"⟩, 28) := ⟨⟨by decide +kernel, by decide +kernel⟩, List.mem_of_getElem? (i := 740) (by decide +kernel), List.mem_of_getElem? (i := 931) (by decide +kernel), List.mem_of_getElem? (i := 932) (by decide +kernel)⟩
theorem lw_p25 : lw_okq (⟨"StreamWeaveModel", "put", "(IIII)V"⟩, 28) := ⟨⟨by decide +kernel, by decide +kernel⟩, List.mem_of_getElem? (i := 740) (by decide +kernel), List.mem_of_getElem? (i := 938) (by decide +kernel), List.mem_of_getElem? (i := 939) (by decide +kernel)⟩
theorem lw_p26 : lw_okq (⟨"StreamWeaveModel", "clockNow", "(I)I"⟩, 28) := ⟨⟨by decide +kernel, by decide +kernel⟩, List.mem_of_getElem? (i := 740) (by decide +kernel), List.mem_of_getElem? (i := 942) (by decide +kernel), List.mem_of_getElem? (i := 943) (by decide +kernel)⟩
theorem lw_p27 : lw_okq (⟨"StreamWeaveModel", "programmeNow", "(I)I"⟩, 28) := ⟨⟨by decide +kernel, by decide +kernel⟩, List.mem_of_getElem? (i := 740) (by decide +kernel), List.mem_of_getElem? (i := 946) (by decide +kernel), List.mem_of_getElem? (i := 947) (by decide +kernel)⟩
theorem lw_p28 : lw_okq (⟨"StreamWeaveModel", "frameOf", "(II)I"⟩, 28) := ⟨⟨by decide +kernel, by decide +kernel⟩, List.mem_of_getElem? (i := 740) (by decide +kernel), List.mem_of_getElem? (i := 950) (by decide +kernel), List.mem_of_getElem? (i := 951) (by decide +kernel)⟩
theorem lw_p29 : lw_okq (⟨"StreamWeaveModel", "allFrames", "()I"⟩, 28) := ⟨⟨by decide +kernel, by decide +kernel⟩, List.mem_of_getElem? (i := 740) (by decide +kernel), List.mem_of_getElem? (i := 966) (by decide +kernel), List.mem_of_getElem? (i := 967) (by decide +kernel)⟩
theorem lw_p30 : lw_okq (⟨"StreamWeaveModel", "allPackets", "()I"⟩, 28) := ⟨⟨by decide +kernel, by decide +kernel⟩, List.mem_of_getElem? (i := 740) (by decide +kernel), List.mem_of_getElem? (i := 970) (by decide +kernel), List.mem_of_getElem? (i := 971) (by decide +kernel)⟩
theorem lw_p31 : lw_okq (⟨"StreamWeaveModel", "ofSort", "(I)I"⟩, 28) := ⟨⟨by decide +kernel, by decide +kernel⟩, List.mem_of_getElem? (i := 740) (by decide +kernel), List.mem_of_getElem? (i := 974) (by decide +kernel), List.mem_of_getElem? (i := 975) (by decide +kernel)⟩
def lw_privs_2 : List (MethodName × Nat) := [(⟨"StreamWeaveModel", "swap", "(III)I"⟩, 28), (⟨"StreamWeaveModel", "before", "(II)I"⟩, 28), (⟨"StreamWeaveModel", "sizeOf", "(II)I"⟩, 28), (⟨"StreamWeaveModel", "isFrame", "(II)Z"⟩, 28), (⟨"StreamWeaveModel", "writeNumber", "(I)V"⟩, 28), (⟨"StreamWeaveModel", "packetsOf", "(I)I"⟩, 28), (⟨"StreamWeaveModel", "send", "()I"⟩, 28), (⟨"StreamWeaveModel", "showDue", "(II)V"⟩, 28), (⟨"StreamWeaveModel", "sendOne", "(II)V"⟩, 28), (⟨"StreamWeaveModel", "put", "(IIII)V"⟩, 28), (⟨"StreamWeaveModel", "clockNow", "(I)I"⟩, 28), (⟨"StreamWeaveModel", "programmeNow", "(I)I"⟩, 28), (⟨"StreamWeaveModel", "frameOf", "(II)I"⟩, 28), (⟨"StreamWeaveModel", "allFrames", "()I"⟩, 28), (⟨"StreamWeaveModel", "allPackets", "()I"⟩, 28), (⟨"StreamWeaveModel", "ofSort", "(I)I"⟩, 28)]
theorem lw_r2 : ∀ q ∈ lw_privs_2, lw_okq q := List.forall_mem_cons.mpr ⟨lw_p16, List.forall_mem_cons.mpr ⟨lw_p17, List.forall_mem_cons.mpr ⟨lw_p18, List.forall_mem_cons.mpr ⟨lw_p19, List.forall_mem_cons.mpr ⟨lw_p20, List.forall_mem_cons.mpr ⟨lw_p21, List.forall_mem_cons.mpr ⟨lw_p22, List.forall_mem_cons.mpr ⟨lw_p23, List.forall_mem_cons.mpr ⟨lw_p24, List.forall_mem_cons.mpr ⟨lw_p25, List.forall_mem_cons.mpr ⟨lw_p26, List.forall_mem_cons.mpr ⟨lw_p27, List.forall_mem_cons.mpr ⟨lw_p28, List.forall_mem_cons.mpr ⟨lw_p29, List.forall_mem_cons.mpr ⟨lw_p30, List.forall_mem_cons.mpr ⟨lw_p31, fun _ h => absurd h List.not_mem_nil⟩⟩⟩⟩⟩⟩⟩⟩⟩⟩⟩⟩⟩⟩⟩⟩
theorem lw_p32 : lw_okq (⟨"StreamWeaveModel", "leastAt", "(II)I"⟩, 28) := ⟨⟨by decide +kernel, by decide +kernel⟩, List.mem_of_getElem? (i := 740) (by decide +kernel), List.mem_of_getElem? (i := 986) (by decide +kernel), List.mem_of_getElem? (i := 987) (by decide +kernel)⟩
def lw_privs_3 : List (MethodName × Nat) := [(⟨"StreamWeaveModel", "leastAt", "(II)I"⟩, 28)]
theorem lw_r3 : ∀ q ∈ lw_privs_3, lw_okq q := List.forall_mem_cons.mpr ⟨lw_p32, fun _ h => absurd h List.not_mem_nil⟩
def lw_privs : List (MethodName × Nat) := lw_privs_1 ++ (lw_privs_2 ++ (lw_privs_3))
def lw_tbl : List Cond := k2_sels lw_privs ++ tables_1
theorem lw_privs_ok : ∀ q ∈ lw_privs, lw_okq q := by
  show ∀ q ∈ lw_privs_1 ++ (lw_privs_2 ++ (lw_privs_3)), lw_okq q
  exact List.forall_mem_append.mpr ⟨lw_r1, List.forall_mem_append.mpr ⟨lw_r2, lw_r3⟩⟩

def RX0 : String := "StreamWeave$Channel"
def TX0 : u_T := fun k => match k with
  | 0 => ("StreamWeave$Channel", "gone", "[I", true)
  | 1 => ("StreamWeave$Channel", "firstTick", "[I", true)
  | 2 => ("StreamWeave$Channel", "lastTick", "[I", true)
  | 3 => ("StreamWeave$Channel", "heldBehind", "[I", true)
  | 4 => ("StreamWeave$Channel", "holds", "I", false)
  | 5 => ("StreamWeave$Channel", "packetsSent", "I", false)
  | 6 => ("StreamWeave$Channel", "lastClock", "I", false)
  | 7 => ("StreamWeave$Channel", "nextDue", "I", false)
  | _ => ("StreamWeave$Channel", "nextOpen", "I", false)
def tyX0 : Nat → FieldType := fun k => match k with
  | 0 => .array .int
  | 1 => .array .int
  | 2 => .array .int
  | 3 => .array .int
  | 4 => .int
  | 5 => .int
  | 6 => .int
  | 7 => .int
  | _ => .int
abbrev wsX00 : List Cond := u_ws RX0 TX0 9
theorem nmX0 : ∀ a, a < 9 → ∀ b, b < 9 → a ≠ b → (TX0 a).2.1 ≠ (TX0 b).2.1 := by decide +kernel
theorem tyX0_ok : ∀ k, k < 9 → parseFieldDescriptor (TX0 k).2.2.1 = some (tyX0 k) := by decide +kernel
abbrev cX0_init : ByteArray := prog_2_method_1_code
def yX0_init : MethodName := ⟨RX0, "<init>", "()V"⟩
abbrev cX0_begin : ByteArray := prog_2_method_2_code
def yX0_begin : MethodName := ⟨RX0, "begin", "()V"⟩
abbrev cX0_takeDue : ByteArray := prog_2_method_3_code
def yX0_takeDue : MethodName := ⟨RX0, "takeDue", "(LStreamWeave$Programme;I)I"⟩
abbrev cX0_openFrame : ByteArray := prog_2_method_4_code
def yX0_openFrame : MethodName := ⟨RX0, "openFrame", "(LStreamWeave$Programme;I)I"⟩
abbrev cX0_sendOf : ByteArray := prog_2_method_5_code
def yX0_sendOf : MethodName := ⟨RX0, "sendOf", "(II)V"⟩
abbrev cX0_nextCounter : ByteArray := prog_2_method_6_code
def yX0_nextCounter : MethodName := ⟨RX0, "nextCounter", "()I"⟩
abbrev cX0_mostHeld : ByteArray := prog_2_method_7_code
def yX0_mostHeld : MethodName := ⟨RX0, "mostHeld", "()I"⟩
def RX1 : String := "StreamWeave$Line"
def TX1 : u_T := fun k => match k with
  | 0 => ("StreamWeave$Line", "signs", "[I", true)
  | 1 => ("StreamWeave$Line", "numbers", "[I", true)
  | 2 => ("StreamWeave$Line", "length", "I", false)
  | _ => ("StreamWeave$Line", "word", "I", false)
def tyX1 : Nat → FieldType := fun k => match k with
  | 0 => .array .int
  | 1 => .array .int
  | 2 => .int
  | _ => .int
abbrev wsX10 : List Cond := u_ws RX1 TX1 4
theorem nmX1 : ∀ a, a < 4 → ∀ b, b < 4 → a ≠ b → (TX1 a).2.1 ≠ (TX1 b).2.1 := by decide +kernel
theorem tyX1_ok : ∀ k, k < 4 → parseFieldDescriptor (TX1 k).2.2.1 = some (tyX1 k) := by decide +kernel
abbrev cX1_init : ByteArray := prog_3_method_1_code
def yX1_init : MethodName := ⟨RX1, "<init>", "()V"⟩
abbrev cX1_text : ByteArray := prog_3_method_2_code
def yX1_text : MethodName := ⟨RX1, "text", "(I)Ljava/lang/String;"⟩
abbrev cX1_numbersBehind : ByteArray := prog_3_method_3_code
def yX1_numbersBehind : MethodName := ⟨RX1, "numbersBehind", "(I)I"⟩
abbrev cX1_add : ByteArray := prog_3_method_4_code
def yX1_add : MethodName := ⟨RX1, "add", "(I)Z"⟩
abbrev cX1_read : ByteArray := prog_3_method_5_code
def yX1_read : MethodName := ⟨RX1, "read", "()I"⟩
abbrev cX1_commonSigns : ByteArray := prog_3_method_6_code
def yX1_commonSigns : MethodName := ⟨RX1, "commonSigns", "(Ljava/lang/String;)I"⟩
abbrev cX1_readNumbers : ByteArray := prog_3_method_7_code
def yX1_readNumbers : MethodName := ⟨RX1, "readNumbers", "(I)I"⟩
abbrev cX1_isSign : ByteArray := prog_3_method_8_code
def yX1_isSign : MethodName := ⟨RX1, "isSign", "(IC)Z"⟩
abbrev cX1_isFigure : ByteArray := prog_3_method_9_code
def yX1_isFigure : MethodName := ⟨RX1, "isFigure", "(I)Z"⟩
def RX2 : String := "StreamWeave$Plan"
def TX2 : u_T := fun k => match k with
  | 0 => ("StreamWeave$Plan", "programmes", "[LStreamWeave$Programme;", true)
  | 1 => ("StreamWeave$Plan", "table", "I", false)
  | _ => ("StreamWeave$Plan", "wide", "I", false)
def tyX2 : Nat → FieldType := fun k => match k with
  | 0 => .array (.object "StreamWeave$Programme")
  | 1 => .int
  | _ => .int
abbrev wsX20 : List Cond := u_ws RX2 TX2 3
theorem nmX2 : ∀ a, a < 3 → ∀ b, b < 3 → a ≠ b → (TX2 a).2.1 ≠ (TX2 b).2.1 := by decide +kernel
theorem tyX2_ok : ∀ k, k < 3 → parseFieldDescriptor (TX2 k).2.2.1 = some (tyX2 k) := by decide +kernel
abbrev cX2_init : ByteArray := prog_4_method_1_code
def yX2_init : MethodName := ⟨RX2, "<init>", "()V"⟩
abbrev cX2_framesInAll : ByteArray := prog_4_method_2_code
def yX2_framesInAll : MethodName := ⟨RX2, "framesInAll", "()I"⟩
abbrev cX2_copyFrom : ByteArray := prog_4_method_3_code
def yX2_copyFrom : MethodName := ⟨RX2, "copyFrom", "(LStreamWeave$Plan;)V"⟩
def RX3 : String := "StreamWeave$Programme"
def TX3 : u_T := fun k => match k with
  | 0 => ("StreamWeave$Programme", "size", "[I", true)
  | 1 => ("StreamWeave$Programme", "due", "[I", true)
  | 2 => ("StreamWeave$Programme", "frames", "I", false)
  | 3 => ("StreamWeave$Programme", "room", "I", false)
  | _ => ("StreamWeave$Programme", "clock", "I", false)
def tyX3 : Nat → FieldType := fun k => match k with
  | 0 => .array .int
  | 1 => .array .int
  | 2 => .int
  | 3 => .int
  | _ => .int
abbrev wsX30 : List Cond := u_ws RX3 TX3 5
theorem nmX3 : ∀ a, a < 5 → ∀ b, b < 5 → a ≠ b → (TX3 a).2.1 ≠ (TX3 b).2.1 := by decide +kernel
theorem tyX3_ok : ∀ k, k < 5 → parseFieldDescriptor (TX3 k).2.2.1 = some (tyX3 k) := by decide +kernel
abbrev cX3_init : ByteArray := prog_5_method_1_code
def yX3_init : MethodName := ⟨RX3, "<init>", "()V"⟩
abbrev cX3_hasFrame : ByteArray := prog_5_method_2_code
def yX3_hasFrame : MethodName := ⟨RX3, "hasFrame", "(I)Z"⟩
abbrev cX3_add : ByteArray := prog_5_method_3_code
def yX3_add : MethodName := ⟨RX3, "add", "(II)Z"⟩
abbrev cX3_lastDue : ByteArray := prog_5_method_4_code
def yX3_lastDue : MethodName := ⟨RX3, "lastDue", "()I"⟩
abbrev cX3_packets : ByteArray := prog_5_method_5_code
def yX3_packets : MethodName := ⟨RX3, "packets", "()I"⟩
abbrev cX3_framesBefore : ByteArray := prog_5_method_6_code
def yX3_framesBefore : MethodName := ⟨RX3, "framesBefore", "(I)I"⟩
abbrev cX3_copyFrom : ByteArray := prog_5_method_7_code
def yX3_copyFrom : MethodName := ⟨RX3, "copyFrom", "(LStreamWeave$Programme;)V"⟩
def RX4 : String := "StreamWeave$Stream"
def TX4 : u_T := fun k => match k with
  | 0 => ("StreamWeave$Stream", "kind", "[I", true)
  | 1 => ("StreamWeave$Stream", "programme", "[I", true)
  | 2 => ("StreamWeave$Stream", "frame", "[I", true)
  | 3 => ("StreamWeave$Stream", "counter", "[I", true)
  | 4 => ("StreamWeave$Stream", "channels", "[LStreamWeave$Channel;", true)
  | 5 => ("StreamWeave$Stream", "ofKind", "[I", true)
  | 6 => ("StreamWeave$Stream", "lastTable", "I", false)
  | 7 => ("StreamWeave$Stream", "shown", "I", false)
  | 8 => ("StreamWeave$Stream", "late", "I", false)
  | 9 => ("StreamWeave$Stream", "neverSent", "I", false)
  | _ => ("StreamWeave$Stream", "firstLate", "I", false)
def tyX4 : Nat → FieldType := fun k => match k with
  | 0 => .array .int
  | 1 => .array .int
  | 2 => .array .int
  | 3 => .array .int
  | 4 => .array (.object "StreamWeave$Channel")
  | 5 => .array .int
  | 6 => .int
  | 7 => .int
  | 8 => .int
  | 9 => .int
  | _ => .int
abbrev wsX40 : List Cond := u_ws RX4 TX4 11
theorem nmX4 : ∀ a, a < 11 → ∀ b, b < 11 → a ≠ b → (TX4 a).2.1 ≠ (TX4 b).2.1 := by decide +kernel
theorem tyX4_ok : ∀ k, k < 11 → parseFieldDescriptor (TX4 k).2.2.1 = some (tyX4 k) := by decide +kernel
abbrev cX4_init : ByteArray := prog_6_method_1_code
def yX4_init : MethodName := ⟨RX4, "<init>", "()V"⟩
abbrev cX4_slot : ByteArray := prog_6_method_2_code
def yX4_slot : MethodName := ⟨RX4, "slot", "(II)I"⟩
abbrev cX4_sentOfKind : ByteArray := prog_6_method_3_code
def yX4_sentOfKind : MethodName := ⟨RX4, "sentOfKind", "(I)I"⟩
abbrev cX4_weaveWhole : ByteArray := prog_6_method_4_code
def yX4_weaveWhole : MethodName := ⟨RX4, "weaveWhole", "(LStreamWeave$Plan;)V"⟩
abbrev cX4_showsAll : ByteArray := prog_6_method_5_code
def yX4_showsAll : MethodName := ⟨RX4, "showsAll", "(LStreamWeave$Plan;)Z"⟩
abbrev cX4_begin : ByteArray := prog_6_method_6_code
def yX4_begin : MethodName := ⟨RX4, "begin", "()V"⟩
abbrev cX4_weaveTick : ByteArray := prog_6_method_7_code
def yX4_weaveTick : MethodName := ⟨RX4, "weaveTick", "(LStreamWeave$Plan;I)V"⟩
abbrev cX4_showDue : ByteArray := prog_6_method_8_code
def yX4_showDue : MethodName := ⟨RX4, "showDue", "(LStreamWeave$Programme;LStreamWeave$Channel;I)V"⟩
abbrev cX4_sendOne : ByteArray := prog_6_method_9_code
def yX4_sendOne : MethodName := ⟨RX4, "sendOne", "(LStreamWeave$Plan;II)V"⟩
abbrev cX4_sendTable : ByteArray := prog_6_method_10_code
def yX4_sendTable : MethodName := ⟨RX4, "sendTable", "(II)V"⟩
abbrev cX4_note : ByteArray := prog_6_method_11_code
def yX4_note : MethodName := ⟨RX4, "note", "(IIIII)V"⟩
abbrev cX4_clockProgramme : ByteArray := prog_6_method_12_code
def yX4_clockProgramme : MethodName := ⟨RX4, "clockProgramme", "(LStreamWeave$Plan;I)I"⟩
abbrev cX4_frameProgramme : ByteArray := prog_6_method_13_code
def yX4_frameProgramme : MethodName := ⟨RX4, "frameProgramme", "(LStreamWeave$Plan;I)I"⟩
abbrev cX4_comesAgain : ByteArray := prog_6_method_14_code
def yX4_comesAgain : MethodName := ⟨RX4, "comesAgain", "(III)Z"⟩
def RX5 : String := "StreamWeave"
def TX5 : u_T := fun k => match k with
  | 0 => ("StreamWeave", "typed", "LStreamWeave$Line;", true)
  | 1 => ("StreamWeave", "plan", "LStreamWeave$Plan;", true)
  | 2 => ("StreamWeave", "trial", "LStreamWeave$Plan;", true)
  | 3 => ("StreamWeave", "images", "[LStreamWeave$Plan;", true)
  | 4 => ("StreamWeave", "stream", "LStreamWeave$Stream;", true)
  | 5 => ("StreamWeave", "keptImages", "I", false)
  | 6 => ("StreamWeave", "lastFault", "I", false)
  | _ => ("StreamWeave", "woven", "Z", false)
def tyX5 : Nat → FieldType := fun k => match k with
  | 0 => .object "StreamWeave$Line"
  | 1 => .object "StreamWeave$Plan"
  | 2 => .object "StreamWeave$Plan"
  | 3 => .array (.object "StreamWeave$Plan")
  | 4 => .object "StreamWeave$Stream"
  | 5 => .int
  | 6 => .int
  | _ => .boolean
abbrev wsX50 : List Cond := u_ws RX5 TX5 8
theorem nmX5 : ∀ a, a < 8 → ∀ b, b < 8 → a ≠ b → (TX5 a).2.1 ≠ (TX5 b).2.1 := by decide +kernel
theorem tyX5_ok : ∀ k, k < 8 → parseFieldDescriptor (TX5 k).2.2.1 = some (tyX5 k) := by decide +kernel
abbrev cX5_init : ByteArray := prog_1_method_1_code
def yX5_init : MethodName := ⟨RX5, "<init>", "()V"⟩
abbrev cX5_say : ByteArray := prog_1_method_2_code
def yX5_say : MethodName := ⟨RX5, "say", "(I)I"⟩
abbrev cX5_wipe : ByteArray := prog_1_method_3_code
def yX5_wipe : MethodName := ⟨RX5, "wipe", "()I"⟩
abbrev cX5_line : ByteArray := prog_1_method_4_code
def yX5_line : MethodName := ⟨RX5, "line", "()I"⟩
abbrev cX5_fault : ByteArray := prog_1_method_5_code
def yX5_fault : MethodName := ⟨RX5, "fault", "()I"⟩
abbrev cX5_written : ByteArray := prog_1_method_6_code
def yX5_written : MethodName := ⟨RX5, "written", "(III)I"⟩
abbrev cX5_told : ByteArray := prog_1_method_7_code
def yX5_told : MethodName := ⟨RX5, "told", "(II)I"⟩
abbrev cX5_packet : ByteArray := prog_1_method_8_code
def yX5_packet : MethodName := ⟨RX5, "packet", "(III)I"⟩
abbrev cX5_held : ByteArray := prog_1_method_9_code
def yX5_held : MethodName := ⟨RX5, "held", "(II)I"⟩
abbrev cX5_frame : ByteArray := prog_1_method_10_code
def yX5_frame : MethodName := ⟨RX5, "frame", "(III)I"⟩
abbrev cX5_sent : ByteArray := prog_1_method_11_code
def yX5_sent : MethodName := ⟨RX5, "sent", "(I)I"⟩
abbrev cX5_most : ByteArray := prog_1_method_12_code
def yX5_most : MethodName := ⟨RX5, "most", "(I)I"⟩
abbrev cX5_needs : ByteArray := prog_1_method_13_code
def yX5_needs : MethodName := ⟨RX5, "needs", "()I"⟩
abbrev cX5_room : ByteArray := prog_1_method_14_code
def yX5_room : MethodName := ⟨RX5, "room", "(I)I"⟩
abbrev cX5_without : ByteArray := prog_1_method_15_code
def yX5_without : MethodName := ⟨RX5, "without", "(I)I"⟩
abbrev cX5_image : ByteArray := prog_1_method_16_code
def yX5_image : MethodName := ⟨RX5, "image", "(I)I"⟩
abbrev cX5_restore : ByteArray := prog_1_method_17_code
def yX5_restore : MethodName := ⟨RX5, "restore", "(I)I"⟩
abbrev cX5_count : ByteArray := prog_1_method_18_code
def yX5_count : MethodName := ⟨RX5, "count", "(I)I"⟩
abbrev cX5_obey : ByteArray := prog_1_method_19_code
def yX5_obey : MethodName := ⟨RX5, "obey", "([I)I"⟩
abbrev cX5_addFrame : ByteArray := prog_1_method_20_code
def yX5_addFrame : MethodName := ⟨RX5, "addFrame", "(III)I"⟩
abbrev cX5_setRoom : ByteArray := prog_1_method_21_code
def yX5_setRoom : MethodName := ⟨RX5, "setRoom", "(II)I"⟩
abbrev cX5_setClock : ByteArray := prog_1_method_22_code
def yX5_setClock : MethodName := ⟨RX5, "setClock", "(II)I"⟩
abbrev cX5_setTable : ByteArray := prog_1_method_23_code
def yX5_setTable : MethodName := ⟨RX5, "setTable", "(I)I"⟩
abbrev cX5_setWide : ByteArray := prog_1_method_24_code
def yX5_setWide : MethodName := ⟨RX5, "setWide", "(I)I"⟩
abbrev cX5_dropFrames : ByteArray := prog_1_method_25_code
def yX5_dropFrames : MethodName := ⟨RX5, "dropFrames", "(I)I"⟩
abbrev cX5_swapFrames : ByteArray := prog_1_method_26_code
def yX5_swapFrames : MethodName := ⟨RX5, "swapFrames", "(III)I"⟩
abbrev cX5_weave : ByteArray := prog_1_method_27_code
def yX5_weave : MethodName := ⟨RX5, "weave", "()V"⟩
abbrev cX5_trialShowsAll : ByteArray := prog_1_method_28_code
def yX5_trialShowsAll : MethodName := ⟨RX5, "trialShowsAll", "()Z"⟩
abbrev cX5_isWithin : ByteArray := prog_1_method_29_code
def yX5_isWithin : MethodName := ⟨RX5, "isWithin", "(III)Z"⟩
abbrev cX5_isProgramme : ByteArray := prog_1_method_30_code
def yX5_isProgramme : MethodName := ⟨RX5, "isProgramme", "(I)Z"⟩
abbrev cX5_isTick : ByteArray := prog_1_method_31_code
def yX5_isTick : MethodName := ⟨RX5, "isTick", "(I)Z"⟩
abbrev cX5_isDue : ByteArray := prog_1_method_32_code
def yX5_isDue : MethodName := ⟨RX5, "isDue", "(I)Z"⟩
def RX6 : String := "StreamWeaveModel"
def TX6 : u_T := fun k => match k with
  | 0 => ("StreamWeaveModel", "state", "[I", true)
  | 1 => ("StreamWeaveModel", "images", "[I", true)
  | 2 => ("StreamWeaveModel", "isKept", "[Z", true)
  | 3 => ("StreamWeaveModel", "line", "[I", true)
  | 4 => ("StreamWeaveModel", "signs", "I", false)
  | 5 => ("StreamWeaveModel", "numbers", "[I", true)
  | 6 => ("StreamWeaveModel", "numberMany", "I", false)
  | 7 => ("StreamWeaveModel", "isWhole", "Z", false)
  | 8 => ("StreamWeaveModel", "wordNow", "I", false)
  | 9 => ("StreamWeaveModel", "faultPlace", "I", false)
  | 10 => ("StreamWeaveModel", "row", "[I", true)
  | 11 => ("StreamWeaveModel", "rowLong", "I", false)
  | 12 => ("StreamWeaveModel", "sort", "[I", true)
  | 13 => ("StreamWeaveModel", "whose", "[I", true)
  | 14 => ("StreamWeaveModel", "which", "[I", true)
  | 15 => ("StreamWeaveModel", "counter", "[I", true)
  | 16 => ("StreamWeaveModel", "sentOf", "[I", true)
  | 17 => ("StreamWeaveModel", "firstSent", "[I", true)
  | 18 => ("StreamWeaveModel", "lastSent", "[I", true)
  | 19 => ("StreamWeaveModel", "isShown", "[Z", true)
  | 20 => ("StreamWeaveModel", "heldBehind", "[I", true)
  | 21 => ("StreamWeaveModel", "held", "[I", true)
  | 22 => ("StreamWeaveModel", "countOf", "[I", true)
  | 23 => ("StreamWeaveModel", "lastClock", "[I", true)
  | 24 => ("StreamWeaveModel", "lastTable", "I", false)
  | 25 => ("StreamWeaveModel", "late", "I", false)
  | 26 => ("StreamWeaveModel", "firstLate", "I", false)
  | _ => ("StreamWeaveModel", "leftOut", "I", false)
def tyX6 : Nat → FieldType := fun k => match k with
  | 0 => .array .int
  | 1 => .array .int
  | 2 => .array .boolean
  | 3 => .array .int
  | 4 => .int
  | 5 => .array .int
  | 6 => .int
  | 7 => .boolean
  | 8 => .int
  | 9 => .int
  | 10 => .array .int
  | 11 => .int
  | 12 => .array .int
  | 13 => .array .int
  | 14 => .array .int
  | 15 => .array .int
  | 16 => .array .int
  | 17 => .array .int
  | 18 => .array .int
  | 19 => .array .boolean
  | 20 => .array .int
  | 21 => .array .int
  | 22 => .array .int
  | 23 => .array .int
  | 24 => .int
  | 25 => .int
  | 26 => .int
  | _ => .int
abbrev wsX60 : List Cond := u_ws RX6 TX6 28
theorem nmX6 : ∀ a, a < 28 → ∀ b, b < 28 → a ≠ b → (TX6 a).2.1 ≠ (TX6 b).2.1 := by decide +kernel
theorem tyX6_ok : ∀ k, k < 28 → parseFieldDescriptor (TX6 k).2.2.1 = some (tyX6 k) := by decide +kernel
abbrev cX6_init : ByteArray := prog_8_method_1_code
def yX6_init : MethodName := ⟨RX6, "<init>", "()V"⟩
abbrev cX6_in : ByteArray := prog_8_method_2_code
def yX6_in : MethodName := ⟨RX6, "in", "(III)Z"⟩
abbrev cX6_isProgramme : ByteArray := prog_8_method_3_code
def yX6_isProgramme : MethodName := ⟨RX6, "isProgramme", "(I)Z"⟩
abbrev cX6_isFrame : ByteArray := prog_8_method_4_code
def yX6_isFrame : MethodName := ⟨RX6, "isFrame", "(II)Z"⟩
abbrev cX6_sizeOf : ByteArray := prog_8_method_5_code
def yX6_sizeOf : MethodName := ⟨RX6, "sizeOf", "(II)I"⟩
abbrev cX6_dueOf : ByteArray := prog_8_method_6_code
def yX6_dueOf : MethodName := ⟨RX6, "dueOf", "(II)I"⟩
abbrev cX6_say : ByteArray := prog_8_method_7_code
def yX6_say : MethodName := ⟨RX6, "say", "(I)I"⟩
abbrev cX6_wipe : ByteArray := prog_8_method_8_code
def yX6_wipe : MethodName := ⟨RX6, "wipe", "()I"⟩
abbrev cX6_pick : ByteArray := prog_8_method_9_code
def yX6_pick : MethodName := ⟨RX6, "pick", "(IIIIII)I"⟩
abbrev cX6_signOf : ByteArray := prog_8_method_10_code
def yX6_signOf : MethodName := ⟨RX6, "signOf", "(II)I"⟩
abbrev cX6_numbersOf : ByteArray := prog_8_method_11_code
def yX6_numbersOf : MethodName := ⟨RX6, "numbersOf", "(I)I"⟩
abbrev cX6_readAs : ByteArray := prog_8_method_12_code
def yX6_readAs : MethodName := ⟨RX6, "readAs", "(I)I"⟩
abbrev cX6_isLine : ByteArray := prog_8_method_13_code
def yX6_isLine : MethodName := ⟨RX6, "isLine", "()Z"⟩
abbrev cX6_fault : ByteArray := prog_8_method_14_code
def yX6_fault : MethodName := ⟨RX6, "fault", "()I"⟩
abbrev cX6_frameMore : ByteArray := prog_8_method_15_code
def yX6_frameMore : MethodName := ⟨RX6, "frameMore", "(III)I"⟩
abbrev cX6_setAt : ByteArray := prog_8_method_16_code
def yX6_setAt : MethodName := ⟨RX6, "setAt", "(II)I"⟩
abbrev cX6_before : ByteArray := prog_8_method_17_code
def yX6_before : MethodName := ⟨RX6, "before", "(II)I"⟩
abbrev cX6_swap : ByteArray := prog_8_method_18_code
def yX6_swap : MethodName := ⟨RX6, "swap", "(III)I"⟩
abbrev cX6_doLine : ByteArray := prog_8_method_19_code
def yX6_doLine : MethodName := ⟨RX6, "doLine", "()I"⟩
abbrev cX6_line : ByteArray := prog_8_method_20_code
def yX6_line : MethodName := ⟨RX6, "line", "()I"⟩
abbrev cX6_writeNumber : ByteArray := prog_8_method_21_code
def yX6_writeNumber : MethodName := ⟨RX6, "writeNumber", "(I)V"⟩
abbrev cX6_written : ByteArray := prog_8_method_22_code
def yX6_written : MethodName := ⟨RX6, "written", "(III)I"⟩
abbrev cX6_packetsOf : ByteArray := prog_8_method_23_code
def yX6_packetsOf : MethodName := ⟨RX6, "packetsOf", "(I)I"⟩
abbrev cX6_told : ByteArray := prog_8_method_24_code
def yX6_told : MethodName := ⟨RX6, "told", "(II)I"⟩
abbrev cX6_showDue : ByteArray := prog_8_method_25_code
def yX6_showDue : MethodName := ⟨RX6, "showDue", "(II)V"⟩
abbrev cX6_isAgain : ByteArray := prog_8_method_26_code
def yX6_isAgain : MethodName := ⟨RX6, "isAgain", "(III)Z"⟩
abbrev cX6_clockNow : ByteArray := prog_8_method_27_code
def yX6_clockNow : MethodName := ⟨RX6, "clockNow", "(I)I"⟩
abbrev cX6_frameOf : ByteArray := prog_8_method_28_code
def yX6_frameOf : MethodName := ⟨RX6, "frameOf", "(II)I"⟩
abbrev cX6_programmeNow : ByteArray := prog_8_method_29_code
def yX6_programmeNow : MethodName := ⟨RX6, "programmeNow", "(I)I"⟩
abbrev cX6_put : ByteArray := prog_8_method_30_code
def yX6_put : MethodName := ⟨RX6, "put", "(IIII)V"⟩
abbrev cX6_sendOne : ByteArray := prog_8_method_31_code
def yX6_sendOne : MethodName := ⟨RX6, "sendOne", "(II)V"⟩
abbrev cX6_send : ByteArray := prog_8_method_32_code
def yX6_send : MethodName := ⟨RX6, "send", "()I"⟩
abbrev cX6_packet : ByteArray := prog_8_method_33_code
def yX6_packet : MethodName := ⟨RX6, "packet", "(III)I"⟩
abbrev cX6_held : ByteArray := prog_8_method_34_code
def yX6_held : MethodName := ⟨RX6, "held", "(II)I"⟩
abbrev cX6_frame : ByteArray := prog_8_method_35_code
def yX6_frame : MethodName := ⟨RX6, "frame", "(III)I"⟩
abbrev cX6_ofSort : ByteArray := prog_8_method_36_code
def yX6_ofSort : MethodName := ⟨RX6, "ofSort", "(I)I"⟩
abbrev cX6_allFrames : ByteArray := prog_8_method_37_code
def yX6_allFrames : MethodName := ⟨RX6, "allFrames", "()I"⟩
abbrev cX6_allPackets : ByteArray := prog_8_method_38_code
def yX6_allPackets : MethodName := ⟨RX6, "allPackets", "()I"⟩
abbrev cX6_sent : ByteArray := prog_8_method_39_code
def yX6_sent : MethodName := ⟨RX6, "sent", "(I)I"⟩
abbrev cX6_most : ByteArray := prog_8_method_40_code
def yX6_most : MethodName := ⟨RX6, "most", "(I)I"⟩
abbrev cX6_leastAt : ByteArray := prog_8_method_41_code
def yX6_leastAt : MethodName := ⟨RX6, "leastAt", "(II)I"⟩
abbrev cX6_needs : ByteArray := prog_8_method_42_code
def yX6_needs : MethodName := ⟨RX6, "needs", "()I"⟩
abbrev cX6_room : ByteArray := prog_8_method_43_code
def yX6_room : MethodName := ⟨RX6, "room", "(I)I"⟩
abbrev cX6_without : ByteArray := prog_8_method_44_code
def yX6_without : MethodName := ⟨RX6, "without", "(I)I"⟩
abbrev cX6_image : ByteArray := prog_8_method_45_code
def yX6_image : MethodName := ⟨RX6, "image", "(I)I"⟩
abbrev cX6_restore : ByteArray := prog_8_method_46_code
def yX6_restore : MethodName := ⟨RX6, "restore", "(I)I"⟩
abbrev cX6_count : ByteArray := prog_8_method_47_code
def yX6_count : MethodName := ⟨RX6, "count", "(I)I"⟩
def RJx145de : String := "java/io/Serializable"
def TJx145de : u_T := fun k => match k with
  | _ => ("", "", "", false)
def tyJx145de : Nat → FieldType := fun k => match k with
  | _ => .int
abbrev wsJx145de0 : List Cond := u_ws RJx145de TJx145de 0
theorem nmJx145de : ∀ a, a < 0 → ∀ b, b < 0 → a ≠ b → (TJx145de a).2.1 ≠ (TJx145de b).2.1 := by decide +kernel
theorem tyJx145de_ok : ∀ k, k < 0 → parseFieldDescriptor (TJx145de k).2.2.1 = some (tyJx145de k) := by decide +kernel
def RJ5 : String := "java/lang/AbstractStringBuilder"
def TJ5 : u_T := fun k => match k with
  | _ => ("", "", "", false)
def tyJ5 : Nat → FieldType := fun k => match k with
  | _ => .int
abbrev wsJ50 : List Cond := u_ws RJ5 TJ5 0
theorem nmJ5 : ∀ a, a < 0 → ∀ b, b < 0 → a ≠ b → (TJ5 a).2.1 ≠ (TJ5 b).2.1 := by decide +kernel
theorem tyJ5_ok : ∀ k, k < 0 → parseFieldDescriptor (TJ5 k).2.2.1 = some (tyJ5 k) := by decide +kernel
abbrev cJ5_init_d00df : ByteArray := prog_9_method_2_code
def yJ5_init_d00df : MethodName := ⟨RJ5, "<init>", "(I)V"⟩
abbrev cJ5_length_8abf5 : ByteArray := prog_9_method_6_code
def yJ5_length_8abf5 : MethodName := ⟨RJ5, "length", "()I"⟩
abbrev cJ5_ensureCapacityInternal_d00df : ByteArray := prog_9_method_9_code
def yJ5_ensureCapacityInternal_d00df : MethodName := ⟨RJ5, "ensureCapacityInternal", "(I)V"⟩
abbrev cJ5_newCapacity_0f7a4 : ByteArray := prog_9_method_10_code
def yJ5_newCapacity_0f7a4 : MethodName := ⟨RJ5, "newCapacity", "(I)I"⟩
abbrev cJ5_inflate_da8c8 : ByteArray := prog_9_method_11_code
def yJ5_inflate_da8c8 : MethodName := ⟨RJ5, "inflate", "()V"⟩
abbrev cJ5_charAt_5068e : ByteArray := prog_9_method_14_code
def yJ5_charAt_5068e : MethodName := ⟨RJ5, "charAt", "(I)C"⟩
abbrev cJ5_append_cf1ce : ByteArray := prog_9_method_22_code
def yJ5_append_cf1ce : MethodName := ⟨RJ5, "append", "(Ljava/lang/String;)Ljava/lang/AbstractStringBuilder;"⟩
abbrev cJ5_appendNull_278bc : ByteArray := prog_9_method_26_code
def yJ5_appendNull_278bc : MethodName := ⟨RJ5, "appendNull", "()Ljava/lang/AbstractStringBuilder;"⟩
abbrev cJ5_append_3fe6f : ByteArray := prog_9_method_31_code
def yJ5_append_3fe6f : MethodName := ⟨RJ5, "append", "(C)Ljava/lang/AbstractStringBuilder;"⟩
abbrev cJ5_append_c97b9 : ByteArray := prog_9_method_32_code
def yJ5_append_c97b9 : MethodName := ⟨RJ5, "append", "(I)Ljava/lang/AbstractStringBuilder;"⟩
abbrev cJ5_isLatin1_aae02 : ByteArray := prog_9_method_68_code
def yJ5_isLatin1_aae02 : MethodName := ⟨RJ5, "isLatin1", "()Z"⟩
abbrev cJ5_inflateIfNeededFor_a7421 : ByteArray := prog_9_method_71_code
def yJ5_inflateIfNeededFor_a7421 : MethodName := ⟨RJ5, "inflateIfNeededFor", "(Ljava/lang/String;)V"⟩
abbrev cJ5_putStringAt_47b60 : ByteArray := prog_9_method_73_code
def yJ5_putStringAt_47b60 : MethodName := ⟨RJ5, "putStringAt", "(ILjava/lang/String;)V"⟩
def RJx2cfe8 : String := "java/lang/Appendable"
def TJx2cfe8 : u_T := fun k => match k with
  | _ => ("", "", "", false)
def tyJx2cfe8 : Nat → FieldType := fun k => match k with
  | _ => .int
abbrev wsJx2cfe80 : List Cond := u_ws RJx2cfe8 TJx2cfe8 0
theorem nmJx2cfe8 : ∀ a, a < 0 → ∀ b, b < 0 → a ≠ b → (TJx2cfe8 a).2.1 ≠ (TJx2cfe8 b).2.1 := by decide +kernel
theorem tyJx2cfe8_ok : ∀ k, k < 0 → parseFieldDescriptor (TJx2cfe8 k).2.2.1 = some (tyJx2cfe8 k) := by decide +kernel
def RJx9f9b0 : String := "java/lang/CharSequence"
def TJx9f9b0 : u_T := fun k => match k with
  | _ => ("", "", "", false)
def tyJx9f9b0 : Nat → FieldType := fun k => match k with
  | _ => .int
abbrev wsJx9f9b00 : List Cond := u_ws RJx9f9b0 TJx9f9b0 0
theorem nmJx9f9b0 : ∀ a, a < 0 → ∀ b, b < 0 → a ≠ b → (TJx9f9b0 a).2.1 ≠ (TJx9f9b0 b).2.1 := by decide +kernel
theorem tyJx9f9b0_ok : ∀ k, k < 0 → parseFieldDescriptor (TJx9f9b0 k).2.2.1 = some (tyJx9f9b0 k) := by decide +kernel
def RJx8e188 : String := "java/lang/Cloneable"
def TJx8e188 : u_T := fun k => match k with
  | _ => ("", "", "", false)
def tyJx8e188 : Nat → FieldType := fun k => match k with
  | _ => .int
abbrev wsJx8e1880 : List Cond := u_ws RJx8e188 TJx8e188 0
theorem nmJx8e188 : ∀ a, a < 0 → ∀ b, b < 0 → a ≠ b → (TJx8e188 a).2.1 ≠ (TJx8e188 b).2.1 := by decide +kernel
theorem tyJx8e188_ok : ∀ k, k < 0 → parseFieldDescriptor (TJx8e188 k).2.2.1 = some (tyJx8e188 k) := by decide +kernel
def RJxb160c : String := "java/lang/Comparable"
def TJxb160c : u_T := fun k => match k with
  | _ => ("", "", "", false)
def tyJxb160c : Nat → FieldType := fun k => match k with
  | _ => .int
abbrev wsJxb160c0 : List Cond := u_ws RJxb160c TJxb160c 0
theorem nmJxb160c : ∀ a, a < 0 → ∀ b, b < 0 → a ≠ b → (TJxb160c a).2.1 ≠ (TJxb160c b).2.1 := by decide +kernel
theorem tyJxb160c_ok : ∀ k, k < 0 → parseFieldDescriptor (TJxb160c k).2.2.1 = some (tyJxb160c k) := by decide +kernel
def RJ6 : String := "java/lang/Integer"
def TJ6 : u_T := fun k => match k with
  | _ => ("", "", "", false)
def tyJ6 : Nat → FieldType := fun k => match k with
  | _ => .int
abbrev wsJ60 : List Cond := u_ws RJ6 TJ6 0
theorem nmJ6 : ∀ a, a < 0 → ∀ b, b < 0 → a ≠ b → (TJ6 a).2.1 ≠ (TJ6 b).2.1 := by decide +kernel
theorem tyJ6_ok : ∀ k, k < 0 → parseFieldDescriptor (TJ6 k).2.2.1 = some (tyJ6 k) := by decide +kernel
abbrev cJ6_getChars_ba4f3 : ByteArray := prog_11_method_12_code
def yJ6_getChars_ba4f3 : MethodName := ⟨RJ6, "getChars", "(II[B)I"⟩
abbrev cJ6_stringSize_0f7a4 : ByteArray := prog_11_method_13_code
def yJ6_stringSize_0f7a4 : MethodName := ⟨RJ6, "stringSize", "(I)I"⟩
def RJ9 : String := "java/lang/Math"
def TJ9 : u_T := fun k => match k with
  | _ => ("", "", "", false)
def tyJ9 : Nat → FieldType := fun k => match k with
  | _ => .int
abbrev wsJ90 : List Cond := u_ws RJ9 TJ9 0
theorem nmJ9 : ∀ a, a < 0 → ∀ b, b < 0 → a ≠ b → (TJ9 a).2.1 ≠ (TJ9 b).2.1 := by decide +kernel
theorem tyJ9_ok : ∀ k, k < 0 → parseFieldDescriptor (TJ9 k).2.2.1 = some (tyJ9 k) := by decide +kernel
abbrev cJ9_max_7cf53 : ByteArray := prog_12_method_65_code
def yJ9_max_7cf53 : MethodName := ⟨RJ9, "max", "(II)I"⟩
abbrev cJ9_min_7cf53 : ByteArray := prog_12_method_69_code
def yJ9_min_7cf53 : MethodName := ⟨RJ9, "min", "(II)I"⟩
def RJxd2413 : String := "java/lang/Number"
def TJxd2413 : u_T := fun k => match k with
  | _ => ("", "", "", false)
def tyJxd2413 : Nat → FieldType := fun k => match k with
  | _ => .int
abbrev wsJxd24130 : List Cond := u_ws RJxd2413 TJxd2413 0
theorem nmJxd2413 : ∀ a, a < 0 → ∀ b, b < 0 → a ≠ b → (TJxd2413 a).2.1 ≠ (TJxd2413 b).2.1 := by decide +kernel
theorem tyJxd2413_ok : ∀ k, k < 0 → parseFieldDescriptor (TJxd2413 k).2.2.1 = some (tyJxd2413 k) := by decide +kernel
def RJ0 : String := "java/lang/String"
def TJ0 : u_T := fun k => match k with
  | _ => ("", "", "", false)
def tyJ0 : Nat → FieldType := fun k => match k with
  | _ => .int
abbrev wsJ00 : List Cond := u_ws RJ0 TJ0 0
theorem nmJ0 : ∀ a, a < 0 → ∀ b, b < 0 → a ≠ b → (TJ0 a).2.1 ≠ (TJ0 b).2.1 := by decide +kernel
theorem tyJ0_ok : ∀ k, k < 0 → parseFieldDescriptor (TJ0 k).2.2.1 = some (tyJ0 k) := by decide +kernel
abbrev cJ0_length_8abf5 : ByteArray := prog_14_method_54_code
def yJ0_length_8abf5 : MethodName := ⟨RJ0, "length", "()I"⟩
abbrev cJ0_charAt_5068e : ByteArray := prog_14_method_56_code
def yJ0_charAt_5068e : MethodName := ⟨RJ0, "charAt", "(I)C"⟩
abbrev cJ0_getBytes_840e7 : ByteArray := prog_14_method_147_code
def yJ0_getBytes_840e7 : MethodName := ⟨RJ0, "getBytes", "([BIB)V"⟩
abbrev cJ0_coder_7d493 : ByteArray := prog_14_method_152_code
def yJ0_coder_7d493 : MethodName := ⟨RJ0, "coder", "()B"⟩
abbrev cJ0_isLatin1_aae02 : ByteArray := prog_14_method_154_code
def yJ0_isLatin1_aae02 : MethodName := ⟨RJ0, "isLatin1", "()Z"⟩
abbrev cJ0_checkIndex_df160 : ByteArray := prog_14_method_155_code
def yJ0_checkIndex_df160 : MethodName := ⟨RJ0, "checkIndex", "(II)V"⟩
abbrev cJ0_checkBoundsOffCount_cabcc : ByteArray := prog_14_method_157_code
def yJ0_checkBoundsOffCount_cabcc : MethodName := ⟨RJ0, "checkBoundsOffCount", "(III)I"⟩
abbrev cJ0_checkBoundsBeginEnd_23922 : ByteArray := prog_14_method_158_code
def yJ0_checkBoundsBeginEnd_23922 : MethodName := ⟨RJ0, "checkBoundsBeginEnd", "(III)V"⟩
def RJ4 : String := "java/lang/StringBuilder"
def TJ4 : u_T := fun k => match k with
  | 0 => ("java/lang/AbstractStringBuilder", "value", "[B", false)
  | 1 => ("java/lang/AbstractStringBuilder", "coder", "B", false)
  | 2 => ("java/lang/AbstractStringBuilder", "maybeLatin1", "Z", false)
  | _ => ("java/lang/AbstractStringBuilder", "count", "I", false)
def tyJ4 : Nat → FieldType := fun k => match k with
  | 0 => .array .byte
  | 1 => .byte
  | 2 => .boolean
  | _ => .int
abbrev wsJ40 : List Cond := u_ws RJ4 TJ4 4
theorem nmJ4 : ∀ a, a < 4 → ∀ b, b < 4 → a ≠ b → (TJ4 a).2.1 ≠ (TJ4 b).2.1 := by decide +kernel
theorem tyJ4_ok : ∀ k, k < 4 → parseFieldDescriptor (TJ4 k).2.2.1 = some (tyJ4 k) := by decide +kernel
abbrev cJ4_init_da8c8 : ByteArray := prog_15_method_1_code
def yJ4_init_da8c8 : MethodName := ⟨RJ4, "<init>", "()V"⟩
abbrev cJ4_append_15ec4 : ByteArray := prog_15_method_7_code
def yJ4_append_15ec4 : MethodName := ⟨RJ4, "append", "(Ljava/lang/String;)Ljava/lang/StringBuilder;"⟩
abbrev cJ4_append_cf468 : ByteArray := prog_15_method_14_code
def yJ4_append_cf468 : MethodName := ⟨RJ4, "append", "(C)Ljava/lang/StringBuilder;"⟩
abbrev cJ4_append_bf812 : ByteArray := prog_15_method_15_code
def yJ4_append_bf812 : MethodName := ⟨RJ4, "append", "(I)Ljava/lang/StringBuilder;"⟩
abbrev cJ4_charAt_5068e : ByteArray := prog_15_method_88_code
def yJ4_charAt_5068e : MethodName := ⟨RJ4, "charAt", "(I)C"⟩
abbrev cJ4_length_8abf5 : ByteArray := prog_15_method_93_code
def yJ4_length_8abf5 : MethodName := ⟨RJ4, "length", "()I"⟩
def RJ1 : String := "java/lang/StringLatin1"
def TJ1 : u_T := fun k => match k with
  | _ => ("", "", "", false)
def tyJ1 : Nat → FieldType := fun k => match k with
  | _ => .int
abbrev wsJ10 : List Cond := u_ws RJ1 TJ1 0
theorem nmJ1 : ∀ a, a < 0 → ∀ b, b < 0 → a ≠ b → (TJ1 a).2.1 ≠ (TJ1 b).2.1 := by decide +kernel
theorem tyJ1_ok : ∀ k, k < 0 → parseFieldDescriptor (TJ1 k).2.2.1 = some (tyJ1 k) := by decide +kernel
abbrev cJ1_charAt_3b067 : ByteArray := prog_16_method_2_code
def yJ1_charAt_3b067 : MethodName := ⟨RJ1, "charAt", "([BI)C"⟩
abbrev cJ1_canEncode_fc78d : ByteArray := prog_16_method_3_code
def yJ1_canEncode_fc78d : MethodName := ⟨RJ1, "canEncode", "(C)Z"⟩
abbrev cJ1_inflate_0e8fd : ByteArray := prog_16_method_50_code
def yJ1_inflate_0e8fd : MethodName := ⟨RJ1, "inflate", "([BI[BII)V"⟩
def RJ2 : String := "java/lang/StringUTF16"
def TJ2 : u_T := fun k => match k with
  | _ => ("", "", "", false)
def tyJ2 : Nat → FieldType := fun k => match k with
  | _ => .int
abbrev wsJ20 : List Cond := u_ws RJ2 TJ2 0
theorem nmJ2 : ∀ a, a < 0 → ∀ b, b < 0 → a ≠ b → (TJ2 a).2.1 ≠ (TJ2 b).2.1 := by decide +kernel
theorem tyJ2_ok : ∀ k, k < 0 → parseFieldDescriptor (TJ2 k).2.2.1 = some (tyJ2 k) := by decide +kernel
abbrev cJ2_newBytesFor_77867 : ByteArray := prog_17_method_2_code
def yJ2_newBytesFor_77867 : MethodName := ⟨RJ2, "newBytesFor", "(I)[B"⟩
abbrev cJ2_newBytesLength_0f7a4 : ByteArray := prog_17_method_3_code
def yJ2_newBytesLength_0f7a4 : MethodName := ⟨RJ2, "newBytesLength", "(I)I"⟩
abbrev cJ2_putChar_b72d1 : ByteArray := prog_17_method_4_code
def yJ2_putChar_b72d1 : MethodName := ⟨RJ2, "putChar", "([BII)V"⟩
abbrev cJ2_getChar_3b067 : ByteArray := prog_17_method_5_code
def yJ2_getChar_3b067 : MethodName := ⟨RJ2, "getChar", "([BI)C"⟩
abbrev cJ2_length_9d52b : ByteArray := prog_17_method_6_code
def yJ2_length_9d52b : MethodName := ⟨RJ2, "length", "([B)I"⟩
abbrev cJ2_putCharSB_b72d1 : ByteArray := prog_17_method_71_code
def yJ2_putCharSB_b72d1 : MethodName := ⟨RJ2, "putCharSB", "([BII)V"⟩
abbrev cJ2_getChars_46870 : ByteArray := prog_17_method_77_code
def yJ2_getChars_46870 : MethodName := ⟨RJ2, "getChars", "(III[B)I"⟩
abbrev cJ2_putCharsAt_cd4e5 : ByteArray := prog_17_method_81_code
def yJ2_putCharsAt_cd4e5 : MethodName := ⟨RJ2, "putCharsAt", "([BICCCC)I"⟩
abbrev cJ2_charAt_3b067 : ByteArray := prog_17_method_83_code
def yJ2_charAt_3b067 : MethodName := ⟨RJ2, "charAt", "([BI)C"⟩
abbrev cJ2_inflate_0e8fd : ByteArray := prog_17_method_86_code
def yJ2_inflate_0e8fd : MethodName := ⟨RJ2, "inflate", "([BI[BII)V"⟩
abbrev cJ2_getChars_ba4f3 : ByteArray := prog_17_method_89_code
def yJ2_getChars_ba4f3 : MethodName := ⟨RJ2, "getChars", "(II[B)I"⟩
abbrev cJ2_checkIndex_2214a : ByteArray := prog_17_method_91_code
def yJ2_checkIndex_2214a : MethodName := ⟨RJ2, "checkIndex", "(I[B)V"⟩
abbrev cJ2_checkBoundsBeginEnd_d044e : ByteArray := prog_17_method_93_code
def yJ2_checkBoundsBeginEnd_d044e : MethodName := ⟨RJ2, "checkBoundsBeginEnd", "(II[B)V"⟩
abbrev cJ2_checkBoundsOffCount_d044e : ByteArray := prog_17_method_94_code
def yJ2_checkBoundsOffCount_d044e : MethodName := ⟨RJ2, "checkBoundsOffCount", "(II[B)V"⟩
def RJ10 : String := "java/lang/System"
def TJ10 : u_T := fun k => match k with
  | _ => ("", "", "", false)
def tyJ10 : Nat → FieldType := fun k => match k with
  | _ => .int
abbrev wsJ100 : List Cond := u_ws RJ10 TJ10 0
theorem nmJ10 : ∀ a, a < 0 → ∀ b, b < 0 → a ≠ b → (TJ10 a).2.1 ≠ (TJ10 b).2.1 := by decide +kernel
theorem tyJ10_ok : ∀ k, k < 0 → parseFieldDescriptor (TJ10 k).2.2.1 = some (tyJ10 k) := by decide +kernel
def RJxfd54e : String := "java/lang/constant/Constable"
def TJxfd54e : u_T := fun k => match k with
  | _ => ("", "", "", false)
def tyJxfd54e : Nat → FieldType := fun k => match k with
  | _ => .int
abbrev wsJxfd54e0 : List Cond := u_ws RJxfd54e TJxfd54e 0
theorem nmJxfd54e : ∀ a, a < 0 → ∀ b, b < 0 → a ≠ b → (TJxfd54e a).2.1 ≠ (TJxfd54e b).2.1 := by decide +kernel
theorem tyJxfd54e_ok : ∀ k, k < 0 → parseFieldDescriptor (TJxfd54e k).2.2.1 = some (tyJxfd54e k) := by decide +kernel
def RJx3cf43 : String := "java/lang/constant/ConstantDesc"
def TJx3cf43 : u_T := fun k => match k with
  | _ => ("", "", "", false)
def tyJx3cf43 : Nat → FieldType := fun k => match k with
  | _ => .int
abbrev wsJx3cf430 : List Cond := u_ws RJx3cf43 TJx3cf43 0
theorem nmJx3cf43 : ∀ a, a < 0 → ∀ b, b < 0 → a ≠ b → (TJx3cf43 a).2.1 ≠ (TJx3cf43 b).2.1 := by decide +kernel
theorem tyJx3cf43_ok : ∀ k, k < 0 → parseFieldDescriptor (TJx3cf43 k).2.2.1 = some (tyJx3cf43 k) := by decide +kernel
def RJ7 : String := "java/util/Arrays"
def TJ7 : u_T := fun k => match k with
  | _ => ("", "", "", false)
def tyJ7 : Nat → FieldType := fun k => match k with
  | _ => .int
abbrev wsJ70 : List Cond := u_ws RJ7 TJ7 0
theorem nmJ7 : ∀ a, a < 0 → ∀ b, b < 0 → a ≠ b → (TJ7 a).2.1 ≠ (TJ7 b).2.1 := by decide +kernel
theorem tyJ7_ok : ∀ k, k < 0 → parseFieldDescriptor (TJ7 k).2.2.1 = some (tyJ7 k) := by decide +kernel
abbrev cJ7_fill_53178 : ByteArray := prog_19_method_103_code
def yJ7_fill_53178 : MethodName := ⟨RJ7, "fill", "([II)V"⟩
abbrev cJ7_copyOf_9075b : ByteArray := prog_19_method_121_code
def yJ7_copyOf_9075b : MethodName := ⟨RJ7, "copyOf", "([BI)[B"⟩
def RJ8 : String := "jdk/internal/util/ArraysSupport"
def TJ8 : u_T := fun k => match k with
  | _ => ("", "", "", false)
def tyJ8 : Nat → FieldType := fun k => match k with
  | _ => .int
abbrev wsJ80 : List Cond := u_ws RJ8 TJ8 0
theorem nmJ8 : ∀ a, a < 0 → ∀ b, b < 0 → a ≠ b → (TJ8 a).2.1 ≠ (TJ8 b).2.1 := by decide +kernel
theorem tyJ8_ok : ∀ k, k < 0 → parseFieldDescriptor (TJ8 k).2.2.1 = some (tyJ8 k) := by decide +kernel
abbrev cJ8_newLength_cabcc : ByteArray := prog_20_method_27_code
def yJ8_newLength_cabcc : MethodName := ⟨RJ8, "newLength", "(III)I"⟩
abbrev cJ8_hugeLength_7cf53 : ByteArray := prog_20_method_28_code
def yJ8_hugeLength_7cf53 : MethodName := ⟨RJ8, "hugeLength", "(II)I"⟩
def RJ3 : String := "jdk/internal/util/Preconditions"
def TJ3 : u_T := fun k => match k with
  | _ => ("", "", "", false)
def tyJ3 : Nat → FieldType := fun k => match k with
  | _ => .int
abbrev wsJ30 : List Cond := u_ws RJ3 TJ3 0
theorem nmJ3 : ∀ a, a < 0 → ∀ b, b < 0 → a ≠ b → (TJ3 a).2.1 ≠ (TJ3 b).2.1 := by decide +kernel
theorem tyJ3_ok : ∀ k, k < 0 → parseFieldDescriptor (TJ3 k).2.2.1 = some (tyJ3 k) := by decide +kernel
abbrev cJ3_checkIndex_8e157 : ByteArray := prog_21_method_11_code
def yJ3_checkIndex_8e157 : MethodName := ⟨RJ3, "checkIndex", "(IILjava/util/function/BiFunction;)I"⟩
abbrev cJ3_checkFromToIndex_8c36e : ByteArray := prog_21_method_12_code
def yJ3_checkFromToIndex_8c36e : MethodName := ⟨RJ3, "checkFromToIndex", "(IIILjava/util/function/BiFunction;)I"⟩
abbrev cJ3_checkFromIndexSize_8c36e : ByteArray := prog_21_method_13_code
def yJ3_checkFromIndexSize_8c36e : MethodName := ⟨RJ3, "checkFromIndexSize", "(IIILjava/util/function/BiFunction;)I"⟩
def RL : String := "StreamWeaveLaw"
abbrev cL_law : ByteArray := code
def yL_law : MethodName := ⟨RL, "law", "([I)Z"⟩
abbrev vwCl : List vw_C := [(RJ4, TJ4, 4), (RX0, TX0, 9), (RX1, TX1, 4), (RX2, TX2, 3), (RX3, TX3, 5), (RX4, TX4, 11), (RX5, TX5, 8), (RX6, TX6, 28)]
/-- the words that stay: all of the tables but the nest links, the literals and the arrays of references -/
def tbG : List Cond := lw_tbl.filter goodWord
theorem tbG_sub : ∀ w ∈ tbG, w ∈ lw_tbl := fun _ h => (List.mem_filter.mp h).1
theorem tbG_at {w : Cond} (i : Nat) (h : lw_tbl[i]? = some w) (hg : goodWord w = true) : w ∈ tbG := List.mem_filter.mpr ⟨List.mem_of_getElem? h, hg⟩
theorem tbG_good : ∀ w ∈ tbG, ((w.onTables && w.keeps) = true ∨ ∃ ty, w = .arrayClass ty) := fun _ h => good_of_word (List.mem_filter.mp h).2
def nsL : List (String × Nat × MethodName × String) := [("StreamWeave$Line", 77, ⟨"StreamWeave", "isWithin", "(III)Z"⟩, "StreamWeave"), ("StreamWeave$Programme", 28, ⟨"StreamWeave", "isWithin", "(III)Z"⟩, "StreamWeave"), ("StreamWeave$Stream", 50, ⟨"StreamWeave", "isWithin", "(III)Z"⟩, "StreamWeave")]
end
section
/-! A small machine over a fixed graph of cells. A value is a number or a reference to the cell (kind, index); the memory gives the number at (kind, index, place). The shape says of each kind how many cells it has and what stands in them. WM: from here the method returns r with memory M'. Sp: a method's contract at given arguments and memory. -/
abbrev sw_V : Type := Int ⊕ Option (Nat × Int)
abbrev sI (a : Int) : sw_V := .inl a
abbrev sR (k : Nat) (i : Int) : sw_V := .inr (some (k, i))
abbrev sU : sw_V := .inr none
abbrev sw_M : Type := Nat → Int → Int → Int
def sw_ok (a : Int) : Prop := -2147483648 ≤ a ∧ a ≤ 2147483647
def sw_okV (v : sw_V) : Prop := match v with
  | .inl a => sw_ok a
  | .inr _ => True
def sw_okM (M : sw_M) : Prop := ∀ k i j, sw_ok (M k i j)
/-- the memory with v at (k, i, j) -/
def up (M : sw_M) (k : Nat) (i j v : Int) : sw_M := fun k' => if k' = k then (fun i' j' => if i' = i ∧ j' = j then v else M k' i' j') else M k'
theorem sw_okM_up {M : sw_M} (h : sw_okM M) {k : Nat} {i j v : Int} (hv : sw_ok v) : sw_okM (up M k i j v) := by
  intro k' i' j'
  unfold up
  by_cases hk : k' = k
  · rw [if_pos hk]
    by_cases hq : i' = i ∧ j' = j
    · simp only [hq, and_self, if_true]; exact hv
    · simp only [hq, if_false]; exact h _ _ _
  · rw [if_neg hk]; exact h _ _ _
/-- a field or an element: a number, or a reference to (kind, the function of the cell's index and the place) -/
abbrev sw_F : Type := Option (Nat × (Int → Int → Int))
/-- how many cells; an object (its number in vwCl, its fields) or an array (its elements' type, its length, what they are) -/
abbrev sw_K : Type := Int × ((Nat × List sw_F) ⊕ (FieldType × Nat × sw_F))
abbrev sw_Sh : Type := Nat → Option sw_K
/-- addresses, array classes by kind, the classes' numbers and slots -/
abbrev sw_E : Type := (Nat → Int → Nat) × (Nat → ClassId) × va_G
def sw_vl (E : sw_E) (v : sw_V) : Value := match v with
  | .inl a => .int (Int32.ofInt a)
  | .inr (some q) => .ref (E.1 q.1 q.2)
  | .inr none => .null
def sw_fv (E : sw_E) (M : sw_M) (k : Nat) (i j : Int) (f : sw_F) : Value := match f with
  | none => .int (Int32.ofInt (M k i j))
  | some q => .ref (E.1 q.1 (q.2 i j))
def sw_cell (E : sw_E) (M : sw_M) (k : Nat) (i : Int) (x : (Nat × List sw_F) ⊕ (FieldType × Nat × sw_F)) : va_E := match x with
  | .inl o => .inr (o.1, o.2.mapIdx (fun j f => sw_fv E M k i (j : Int) f))
  | .inr (_, n, none) => .inl (E.2.1 k, n, .inl (fun j => Int32.ofInt (M k i (j : Int))))
  | .inr (_, n, some q) => .inl (E.2.1 k, n, .inr (.inr (.inr (.inr (fun j => some (E.1 q.1 (q.2 i (j : Int))))))))
def sw_P (sh : sw_Sh) (E : sw_E) (M : sw_M) (H : Heap) : Prop := ∀ (k : Nat) (i : Int) (K : sw_K), sh k = some K → 0 ≤ i → i < K.1 → va_at E.2.2 vwCl (E.1 k i, sw_cell E M k i K.2) H
def sw_A (sh : sw_Sh) (E : sw_E) : Nat → Prop := fun q => ∃ (k : Nat) (i : Int) (K : sw_K), sh k = some K ∧ 0 ≤ i ∧ i < K.1 ∧ q = E.1 k i
def sw_J (sh : sw_Sh) (E : sw_E) : Prop := ∀ (k k' : Nat) (i i' : Int) (K K' : sw_K), sh k = some K → 0 ≤ i → i < K.1 → sh k' = some K' → 0 ≤ i' → i' < K'.1 → E.1 k i = E.1 k' i' → k = k' ∧ i = i'
def sw_T (sh : sw_Sh) (E : sw_E) (U : State) : Prop := ∀ (k : Nat) (c : Int) (ty : FieldType) (n : Nat) (f : sw_F), sh k = some (c, .inr (ty, n, f)) → ArrOfT U (E.2.1 k) ty ∧ va_RA U (E.2.1 k) ty
def sw_N (U : State) : Prop := ∀ q ∈ nsL, va_Nw (.methodLinkNest q.1 q.2.1 q.2.2.1 q.2.2.2) U
/-- the literals of StreamWeave$Line, in the order of the words: their entries, texts, bytes -/
def jsT : List (Nat × String) := [(25, "frame"), (27, "room"), (29, "clock"), (31, "table"), (33, "wide"), (35, "drop"), (37, "swap")]
def jsLen : List Nat := [5, 4, 5, 5, 4, 4, 4]
def jsB : List (List Int32) := [[102, 114, 97, 109, 101], [114, 111, 111, 109], [99, 108, 111, 99, 107], [116, 97, 98, 108, 101], [119, 105, 100, 101], [100, 114, 111, 112], [115, 119, 97, 112]]
/-- what the JDK's own cells hold: the literals (kind 100: the texts, 101: their bytes), the switch of compact strings, the formatter, the tables of figures (102, 103) -/
def sw_X (E : sw_E) (A : Nat → Prop) (U : State) (H : Heap) : Prop :=
  vk_S 7 jsLen jsB (fun i => E.1 100 (i : Int)) (fun i => E.1 101 (i : Int)) A U H ∧ va_Z "java/lang/String" "COMPACT_STRINGS" "Z" (.int 1) A U H ∧ va_Zq "jdk/internal/util/Preconditions" "SIOOBE_FORMATTER" "Ljava/util/function/BiFunction;" A U H ∧
  (va_Z "java/lang/Integer" "DigitOnes" "[B" (.ref (E.1 102 0)) A U H ∧ va_T .byte (E.1 102 0) 100 (fun j => .int (Int32.ofNat (48 + j % 10))) A U H) ∧
  (va_Z "java/lang/Integer" "DigitTens" "[B" (.ref (E.1 103 0)) A U H ∧ va_T .byte (E.1 103 0) 100 (fun j => .int (Int32.ofNat (48 + j / 10))) A U H) ∧
  ∀ (i : Nat) (q : Nat × String), jsT[i]? = some q → vk_R "StreamWeave$Line" q.1 q.2 (E.1 100 (i : Int)) U
theorem sw_Zq_kept {C n d : String} {A : Nat → Prop} {U : State} {H H1 : Heap} (h : va_Zq C n d A U H) (hq : ∀ a : Nat, a < H.size → ¬ A a → H1[a]? = H[a]?) : va_Zq C n d A U H1 := h.elim (fun z => Or.inl (z.kept hq)) (fun ⟨t, z⟩ => Or.inr ⟨t, z.kept hq⟩)
theorem sw_Zq_moved {C n d : String} {A : Nat → Prop} {u U : State} {H : Heap} (hvm : u.vm.Alike U.vm) (h : va_Zq C n d A u H) : va_Zq C n d A U H := h.elim (fun z => Or.inl (z.moved hvm)) (fun ⟨t, z⟩ => Or.inr ⟨t, z.moved hvm⟩)
theorem sw_Zq_narrow {C n d : String} {A B : Nat → Prop} {U : State} {H : Heap} (h : va_Zq C n d A U H) (hAB : ∀ q, B q → A q) : va_Zq C n d B U H := h.elim (fun z => Or.inl (z.narrow hAB)) (fun ⟨t, z⟩ => Or.inr ⟨t, z.narrow hAB⟩)
theorem sw_X.kept {E : sw_E} {A : Nat → Prop} {U : State} {H H1 : Heap} (h : sw_X E A U H) (hq : ∀ a : Nat, a < H.size → ¬ A a → H1[a]? = H[a]?) : sw_X E A U H1 :=
  ⟨h.1.kept hq, h.2.1.kept hq, sw_Zq_kept h.2.2.1 hq, ⟨h.2.2.2.1.1.kept hq, h.2.2.2.1.2.kept hq⟩, ⟨h.2.2.2.2.1.1.kept hq, h.2.2.2.2.1.2.kept hq⟩, h.2.2.2.2.2⟩
theorem sw_X.narrow {E : sw_E} {A B : Nat → Prop} {U : State} {H : Heap} (h : sw_X E A U H) (hAB : ∀ q, B q → A q) : sw_X E B U H :=
  ⟨h.1.narrow hAB, h.2.1.narrow hAB, sw_Zq_narrow h.2.2.1 hAB, ⟨h.2.2.2.1.1.narrow hAB, h.2.2.2.1.2.narrow hAB⟩, ⟨h.2.2.2.2.1.1.narrow hAB, h.2.2.2.2.1.2.narrow hAB⟩, h.2.2.2.2.2⟩
theorem sw_X.warm {E : sw_E} {A : Nat → Prop} {s U : State} {H : Heap} (hW : s.WarmedH U.vm) (h : sw_X E A s H) : sw_X E A U H :=
  ⟨h.1.moved hW.alike, h.2.1.moved hW.alike, sw_Zq_moved hW.alike h.2.2.1, ⟨h.2.2.2.1.1.moved hW.alike, h.2.2.2.1.2.moved hW.alike⟩, ⟨h.2.2.2.2.1.1.moved hW.alike, h.2.2.2.2.1.2.moved hW.alike⟩, fun i q hi => (h.2.2.2.2.2 i q hi).warm hW⟩
theorem sw_N.warm {s U : State} (hW : s.WarmedH U.vm) (h : sw_N s) : sw_N U := fun q hq => (h q hq).warmM hW
theorem sw_T.moved {sh : sw_Sh} {E : sw_E} {u U : State} (hvm : u.vm.Alike U.vm) (h : sw_T sh E u) : sw_T sh E U := fun k c ty n f hk => ⟨arrOfT_moved hvm (h k c ty n f hk).1, (h k c ty n f hk).2.moved hvm⟩
/-- a method: its code, its class, its locals, what it returns, its room -/
abbrev sw_D : Type := ByteArray × String × Nat × Option FieldType × Room
/-- the standing of a method's frame -/
def sw_C (sh : sw_Sh) (d : sw_D) (p : Program) (s : State) (m : MethodId) (args : Array Value) (meth : Method) (c : Code) (E : sw_E) : Prop :=
  p.tables.exec = Jvm.exec ∧ c.code = d.1 ∧ meth.sig.returnType = d.2.2.2.1 ∧ c.maxLocals = d.2.2.1 ∧ s.vm.findClass d.2.1 = some m.cls ∧ meth.locks = false ∧ (∀ w ∈ tbG, w.before args s = true) ∧ va_K E.2.2 vwCl [] s ∧ sw_T sh E s ∧ sw_J sh E ∧ sw_N s ∧ sw_X E (sw_A sh E) s s.heap
/-- what moves -/
def sw_G (sh : sw_Sh) (d : sw_D) (s : State) (E : sw_E) (H : Heap) (locs : List Loc) (lsA : Array Slot) (ls st : List sw_V) (M : sw_M) : Prop :=
  sw_P sh E M H ∧ sw_okM M ∧ (va_S (sw_A sh E) s.heap H locs ∧ H.size = s.heap.size) ∧ (lsA.size = d.2.2.1 ∧ lv_wf lsA ∧ (∀ (j : Nat) (v : sw_V), ls[j]? = some v → v ≠ sU → lsA[j]? = some (.val (sw_vl E v))) ∧ (∀ v ∈ ls, sw_okV v) ∧ ls.length ≤ d.2.2.1) ∧ ∀ v ∈ st, sw_okV v
/-- what a method leaves: its result and the memory -/
abbrev sw_R : Type := Option sw_V → sw_M → Prop
/-- just this result and this memory -/
def isr (r : Option sw_V) (M : sw_M) : sw_R := fun r1 M1 => r1 = r ∧ M1 = M
def sw_Q (sh : sw_Sh) (E : sw_E) (Q : sw_R) : Array Value → State → Outcome → State → Prop := fun _ st o t => ∃ (r : Option sw_V) (M' : sw_M), Q r M' ∧ o = .returned (r.map (sw_vl E)) ∧ sw_P sh E M' t.heap ∧ sw_okM M' ∧ (∀ v, r = some v → sw_okV v) ∧ va_F (sw_A sh E) st t ∧ t.heap.size = st.heap.size
def WM (sh : sw_Sh) (d : sw_D) (Q : sw_R) (pc : Nat) (ls st : List sw_V) (M : sw_M) : Prop :=
  ∀ (p : Program) (l : Launch) (e : Env) (s : State) (m : MethodId) (args : Array Value) (below : List Frame) (meth : Method) (c : Code) (E : sw_E) (H : Heap) (locs : List Loc) (lsA : Array Slot),
    sw_C sh d p s m args meth c E → sw_G sh d s E H locs lsA ls st M → W p l e d.2.2.2.2 s m args below meth c H locs 0 0 (MQ below (sw_Q sh E Q) args s 0 0 (sw_A sh E)) (F0 m pc lsA (st.map (sw_vl E)))
def sw_Pc (sh : sw_Sh) (E : sw_E) (as : List sw_V) (M : sw_M) : Array Value → State → Prop := fun v U => v = (as.map (sw_vl E)).toArray ∧ sw_P sh E M U.heap ∧ sw_okM M ∧ (∀ v ∈ as, sw_okV v) ∧ va_K E.2.2 vwCl [] U ∧ sw_T sh E U ∧ sw_J sh E ∧ sw_N U ∧ sw_X E (sw_A sh E) U U.heap
def Sp (sh : sw_Sh) (y : MethodName) (d : sw_D) (as : List sw_V) (M : sw_M) (Q : sw_R) : Prop :=
  ∀ (l : Launch) (E : sw_E), Met l y (Cond.code y d.1 d.2.2.1 d.2.2.2.1 :: tbG) d.2.2.2.2 (sw_Pc sh E as M) (sw_Q sh E Q) 0 0 (sw_A sh E)
theorem sw_G.st {sh : sw_Sh} {d : sw_D} {s : State} {E : sw_E} {H : Heap} {locs : List Loc} {lsA : Array Slot} {ls st st' : List sw_V} {M : sw_M} (G : sw_G sh d s E H locs lsA ls st M) (h : ∀ v ∈ st', sw_okV v) : sw_G sh d s E H locs lsA ls st' M := ⟨G.1, G.2.1, G.2.2.1, G.2.2.2.1, h⟩
-- numbers
theorem sw_toInt {a : Int} (h : sw_ok a) : (Int32.ofInt a).toInt = a := by
  rw [Int32.toInt_ofInt]
  apply Int.bmod_eq_of_le <;> (unfold sw_ok at h; simp only [Int32.size] at *; omega)
theorem sw_lt {a b : Int} (ha : sw_ok a) (hb : sw_ok b) : Int32.ofInt a < Int32.ofInt b ↔ a < b := by rw [Int32.lt_iff_toInt_lt, sw_toInt ha, sw_toInt hb]
theorem sw_le {a b : Int} (ha : sw_ok a) (hb : sw_ok b) : Int32.ofInt a ≤ Int32.ofInt b ↔ a ≤ b := by rw [Int32.le_iff_toInt_le, sw_toInt ha, sw_toInt hb]
theorem sw_eq {a b : Int} (ha : sw_ok a) (hb : sw_ok b) : Int32.ofInt a = Int32.ofInt b ↔ a = b := by
  constructor
  · intro h
    have := congrArg Int32.toInt h
    rwa [sw_toInt ha, sw_toInt hb] at this
  · intro h; rw [h]
theorem sw_cl {a : Int} (ha : sw_ok a) : (Int32.ofInt a).toNatClampNeg = a.toNat := by
  show (Int32.ofInt a).toInt.toNat = a.toNat
  rw [sw_toInt ha]
theorem sw_ok0 : sw_ok 0 := ⟨by decide, by decide⟩
theorem sw_vin {a : Int} {n : Nat} (ha : sw_ok a) (h0 : 0 ≤ a) (h1 : a < (n : Int)) : vp_in (Int32.ofInt a) n := by
  intro h
  rcases h with h | h
  · have : Int32.ofInt a < Int32.ofInt 0 := h
    rw [sw_lt ha sw_ok0] at this; omega
  · rw [sw_cl ha] at h; omega
end
section
/-! The small machine's rows: one a kind of instruction. -/
theorem sw_hd {v : sw_V} {l : List sw_V} (h : ∀ u ∈ v :: l, sw_okV u) : sw_okV v := h v List.mem_cons_self
theorem sw_tl {v : sw_V} {l : List sw_V} (h : ∀ u ∈ v :: l, sw_okV u) : ∀ u ∈ l, sw_okV u := fun u hu => h u (List.mem_cons_of_mem _ hu)
theorem sw_cn {v : sw_V} {l : List sw_V} (h1 : sw_okV v) (h2 : ∀ u ∈ l, sw_okV u) : ∀ u ∈ v :: l, sw_okV u := List.forall_mem_cons.mpr ⟨h1, h2⟩
theorem sw_cat (E : sw_E) (v : sw_V) : (sw_vl E v).category = 1 := by
  rcases v with a | q
  · rfl
  · cases q <;> rfl
/-- the locals as the kit lists them -/
def sw_on (E : sw_E) (j : Nat) (v : sw_V) : Option (Nat × Value) := match v with
  | .inl a => some (j, sw_vl E (.inl a))
  | .inr (some q) => some (j, sw_vl E (.inr (some q)))
  | .inr none => none
def sw_lv (E : sw_E) (ls : List sw_V) : List (Nat × Value) := (List.range ls.length).filterMap (fun j => (ls[j]?).bind (sw_on E j))
theorem sw_lv_mem {E : sw_E} {ls : List sw_V} {j : Nat} {v : sw_V} (h : ls[j]? = some v) (hv : v ≠ sU) : (j, sw_vl E v) ∈ sw_lv E ls := by
  refine List.mem_filterMap.mpr ⟨j, List.mem_range.mpr (List.getElem?_eq_some_iff.mp h).1, ?_⟩
  rw [h]
  rcases v with a | q
  · rfl
  · cases q with
    | none => exact absurd rfl hv
    | some q => rfl
theorem sw_lv_of {E : sw_E} {ls : List sw_V} {q : Nat × Value} (h : q ∈ sw_lv E ls) : ∃ v, ls[q.1]? = some v ∧ v ≠ sU ∧ q.2 = sw_vl E v := by
  obtain ⟨j, hj, hq⟩ := List.mem_filterMap.mp h
  cases he : ls[j]? with
  | none => rw [he] at hq; cases hq
  | some v =>
    rw [he] at hq
    rcases v with a | w
    · have hq : some (j, sw_vl E (.inl a)) = some q := hq
      cases hq
      exact ⟨.inl a, he, fun z => (by cases z), rfl⟩
    · cases w with
      | none => cases hq
      | some w =>
        have hq : some (j, sw_vl E (.inr (some w))) = some q := hq
        cases hq
        exact ⟨.inr (some w), he, fun z => (by cases z), rfl⟩
section MROWS
variable {sh : sw_Sh} {d : sw_D} {Q : sw_R} {M : sw_M} {pc n : Nat} {ls st : List sw_V}
theorem sw_G.has {s : State} {E : sw_E} {H : Heap} {locs : List Loc} {lsA : Array Slot} (G : sw_G sh d s E H locs lsA ls st M) : lv_has lsA d.2.2.1 (sw_lv E ls) := ⟨G.2.2.2.1.1, G.2.2.2.1.2.1, fun q hq => by
  obtain ⟨v, h1, h2, h3⟩ := sw_lv_of hq
  rw [h3]; exact G.2.2.2.1.2.2.1 q.1 v h1 h2⟩
theorem sw_G.loc {s : State} {E : sw_E} {H : Heap} {locs : List Loc} {lsA : Array Slot} (G : sw_G sh d s E H locs lsA ls st M) {j : Nat} {v : sw_V} (h : ls[j]? = some v) (hv : v ≠ sU) : lsA[j]? = some (.val (sw_vl E v)) := G.2.2.2.1.2.2.1 j v h hv
theorem sw_G.okl {s : State} {E : sw_E} {H : Heap} {locs : List Loc} {lsA : Array Slot} (G : sw_G sh d s E H locs lsA ls st M) {j : Nat} {v : sw_V} (h : ls[j]? = some v) : sw_okV v := G.2.2.2.1.2.2.2.1 v (List.mem_of_getElem? h)
theorem sw_G.len {s : State} {E : sw_E} {H : Heap} {locs : List Loc} {lsA : Array Slot} (G : sw_G sh d s E H locs lsA ls st M) : ls.length ≤ d.2.2.1 := G.2.2.2.1.2.2.2.2
theorem sw_G.sto {s : State} {E : sw_E} {H : Heap} {locs : List Loc} {lsA ls' : Array Slot} {i : Nat} {v : sw_V} {st' : List sw_V} (G : sw_G sh d s E H locs lsA ls st M) (hv : sw_okV v) (h : lv_has ls' d.2.2.1 ((i, sw_vl E v) :: (sw_lv E ls).filter (fun q => !(q.1 == i) && !(q.1 + 1 == i && q.2.category == 2)))) (hst : ∀ u ∈ st', sw_okV u) : sw_G sh d s E H locs ls' (ls.set i v) st' M := by
  refine ⟨G.1, G.2.1, G.2.2.1, ⟨h.1, h.2.1, fun j u hj hu => ?_, fun u hu => ?_, by rw [List.length_set]; exact G.len⟩, hst⟩
  · by_cases e : j = i
    · subst e
      have hl : j < ls.length := by
        have := (List.getElem?_eq_some_iff.mp hj).1
        rwa [List.length_set] at this
      rw [List.getElem?_set_self hl] at hj
      cases hj
      exact h.2.2 _ List.mem_cons_self
    · rw [List.getElem?_set_ne (Ne.symm e)] at hj
      refine h.2.2 (j, sw_vl E u) (List.mem_cons_of_mem _ (List.mem_filter.mpr ⟨sw_lv_mem hj hu, ?_⟩))
      simp [e, sw_cat]
  · rcases List.mem_or_eq_of_mem_set hu with h1 | h1
    · exact G.2.2.2.1.2.2.2.1 u h1
    · rw [h1]; exact hv
/-- ranges that the machine itself keeps -/
theorem wm_okM (kk : sw_okM M → WM sh d Q pc ls st M) : WM sh d Q pc ls st M := fun p l e s m args below meth c E H locs lsA C G => kk G.2.1 p l e s m args below meth c E H locs lsA C G
theorem wm_okl {j : Nat} {a : Int} (h : ls[j]? = some (sI a)) (kk : (-2147483648 ≤ a ∧ a ≤ 2147483647) → WM sh d Q pc ls st M) : WM sh d Q pc ls st M := fun p l e s m args below meth c E H locs lsA C G => kk (G.okl h) p l e s m args below meth c E H locs lsA C G
theorem wm_oks {a : Int} (kk : (-2147483648 ≤ a ∧ a ≤ 2147483647) → WM sh d Q pc ls (sI a :: st) M) : WM sh d Q pc ls (sI a :: st) M := fun p l e s m args below meth c E H locs lsA C G => kk (sw_hd G.2.2.2.2) p l e s m args below meth c E H locs lsA C G
/-- a stronger end -/
theorem wm_cons {Q1 : sw_R} (h : ∀ r1 M1, Q1 r1 M1 → Q r1 M1) (kk : WM sh d Q1 pc ls st M) : WM sh d Q pc ls st M := by
  intro p l e s m args below meth c E H locs lsA C G T hT X
  obtain ⟨t, a1, o, b1, b2, ⟨r1, M1, q1, q2⟩, b3⟩ := kk p l e s m args below meth c E H locs lsA C G T hT X
  exact ⟨t, a1, o, b1, b2, ⟨r1, M1, h r1 M1 q1, q2⟩, b3⟩
/-- the same end, said otherwise -/
theorem wm_is {r r1 : Option sw_V} {M' M1 : sw_M} (hr : r = r1) (hM : M' = M1) (kk : WM sh d (isr r1 M1) pc ls st M) : WM sh d (isr r M') pc ls st M := by subst hr; subst hM; exact kk
theorem wm_iconst {v : Int} (hd : decode d.1 pc = .ok (.iconst v, 1)) (hn : pc + 1 = n) (hv : -2147483648 ≤ v ∧ v ≤ 2147483647) (kk : WM sh d Q n ls (sI v :: st) M) : WM sh d Q pc ls st M := by
  intro p l e s m args below meth c E H locs lsA C G
  subst hn
  exact lv_iconst C.1 C.2.1 hd rfl (kk p l e s m args below meth c E H locs lsA C (G.st (sw_cn hv G.2.2.2.2)))
theorem wm_bipush {v : Int} (hd : decode d.1 pc = .ok (.bipush v, 2)) (hn : pc + 2 = n) (hv : -2147483648 ≤ v ∧ v ≤ 2147483647) (hc : (Int8.ofInt v).toInt32 = Int32.ofInt v) (kk : WM sh d Q n ls (sI v :: st) M) : WM sh d Q pc ls st M := by
  intro p l e s m args below meth c E H locs lsA C G
  subst hn
  exact lv_bipush C.1 C.2.1 hd hc (kk p l e s m args below meth c E H locs lsA C (G.st (sw_cn hv G.2.2.2.2)))
theorem wm_sipush {v : Int} (hd : decode d.1 pc = .ok (.sipush v, 3)) (hn : pc + 3 = n) (hv : -2147483648 ≤ v ∧ v ≤ 2147483647) (hc : (Int16.ofInt v).toInt32 = Int32.ofInt v) (kk : WM sh d Q n ls (sI v :: st) M) : WM sh d Q pc ls st M := by
  intro p l e s m args below meth c E H locs lsA C G
  subst hn
  exact lv_sipush C.1 C.2.1 hd hc (kk p l e s m args below meth c E H locs lsA C (G.st (sw_cn hv G.2.2.2.2)))
theorem wm_iload_n {k : Fin 4} {a : Int} (hd : decode d.1 pc = .ok (.iload_n k, 1)) (hn : pc + 1 = n) (hl : ls[(k : Nat)]? = some (sI a)) (kk : WM sh d Q n ls (sI a :: st) M) : WM sh d Q pc ls st M := by
  intro p l e s m args below meth c E H locs lsA C G
  subst hn
  exact lv_iload_n C.1 C.2.1 hd rfl (G.loc hl (fun z => by cases z)) (kk p l e s m args below meth c E H locs lsA C (G.st (sw_cn (G.okl hl) G.2.2.2.2)))
theorem wm_iload {k : Nat} {a : Int} (hd : decode d.1 pc = .ok (.iload k, 2)) (hn : pc + 2 = n) (hl : ls[k]? = some (sI a)) (kk : WM sh d Q n ls (sI a :: st) M) : WM sh d Q pc ls st M := by
  intro p l e s m args below meth c E H locs lsA C G
  subst hn
  exact lv_iload C.1 C.2.1 hd (G.loc hl (fun z => by cases z)) (kk p l e s m args below meth c E H locs lsA C (G.st (sw_cn (G.okl hl) G.2.2.2.2)))
theorem wm_aload_n {k : Fin 4} {kd : Nat} {i : Int} (hd : decode d.1 pc = .ok (.aload_n k, 1)) (hn : pc + 1 = n) (hl : ls[(k : Nat)]? = some (sR kd i)) (kk : WM sh d Q n ls (sR kd i :: st) M) : WM sh d Q pc ls st M := by
  intro p l e s m args below meth c E H locs lsA C G
  subst hn
  exact lv_aload_n C.1 C.2.1 hd rfl (G.loc hl (fun z => by cases z)) (kk p l e s m args below meth c E H locs lsA C (G.st (sw_cn trivial G.2.2.2.2)))
theorem wm_aload {k : Nat} {kd : Nat} {i : Int} (hd : decode d.1 pc = .ok (.aload k, 2)) (hn : pc + 2 = n) (hl : ls[k]? = some (sR kd i)) (kk : WM sh d Q n ls (sR kd i :: st) M) : WM sh d Q pc ls st M := by
  intro p l e s m args below meth c E H locs lsA C G
  subst hn
  exact lv_aload C.1 C.2.1 hd (G.loc hl (fun z => by cases z)) (kk p l e s m args below meth c E H locs lsA C (G.st (sw_cn trivial G.2.2.2.2)))
theorem wm_istore_n {k : Fin 4} {a : Int} (hd : decode d.1 pc = .ok (.istore_n k, 1)) (hn : pc + 1 = n) (hk : (k : Nat) < ls.length) (kk : WM sh d Q n (ls.set (k : Nat) (sI a)) st M) : WM sh d Q pc ls (sI a :: st) M := by
  intro p l e s m args below meth c E H locs lsA C G
  subst hn
  exact lv_istore_n C.1 C.2.1 hd rfl G.has (Nat.lt_of_lt_of_le hk G.len) rfl (fun ls' hl => kk p l e s m args below meth c E H locs ls' C (G.sto (sw_hd G.2.2.2.2) hl (sw_tl G.2.2.2.2)))
theorem wm_istore {k : Nat} {a : Int} (hd : decode d.1 pc = .ok (.istore k, 2)) (hn : pc + 2 = n) (hk : k < ls.length) (kk : WM sh d Q n (ls.set k (sI a)) st M) : WM sh d Q pc ls (sI a :: st) M := by
  intro p l e s m args below meth c E H locs lsA C G
  subst hn
  exact lv_istore C.1 C.2.1 hd G.has (Nat.lt_of_lt_of_le hk G.len) rfl (fun ls' hl => kk p l e s m args below meth c E H locs ls' C (G.sto (sw_hd G.2.2.2.2) hl (sw_tl G.2.2.2.2)))
theorem wm_astore_n {k : Fin 4} {kd : Nat} {i : Int} (hd : decode d.1 pc = .ok (.astore_n k, 1)) (hn : pc + 1 = n) (hk : (k : Nat) < ls.length) (kk : WM sh d Q n (ls.set (k : Nat) (sR kd i)) st M) : WM sh d Q pc ls (sR kd i :: st) M := by
  intro p l e s m args below meth c E H locs lsA C G
  subst hn
  exact lv_astore_n C.1 C.2.1 hd rfl G.has (Nat.lt_of_lt_of_le hk G.len) rfl (fun ls' hl => kk p l e s m args below meth c E H locs ls' C (G.sto (sw_hd G.2.2.2.2) hl (sw_tl G.2.2.2.2)))
theorem wm_astore {k : Nat} {kd : Nat} {i : Int} (hd : decode d.1 pc = .ok (.astore k, 2)) (hn : pc + 2 = n) (hk : k < ls.length) (kk : WM sh d Q n (ls.set k (sR kd i)) st M) : WM sh d Q pc ls (sR kd i :: st) M := by
  intro p l e s m args below meth c E H locs lsA C G
  subst hn
  exact lv_astore C.1 C.2.1 hd G.has (Nat.lt_of_lt_of_le hk G.len) rfl (fun ls' hl => kk p l e s m args below meth c E H locs ls' C (G.sto (sw_hd G.2.2.2.2) hl (sw_tl G.2.2.2.2)))
theorem wm_iinc {k : Nat} {a v w : Int} (hd : decode d.1 pc = .ok (.iinc k v, 3)) (hn : pc + 3 = n) (hl : ls[k]? = some (sI a)) (hw : a + v = w) (ho : -2147483648 ≤ w ∧ w ≤ 2147483647) (kk : WM sh d Q n (ls.set k (sI w)) st M) : WM sh d Q pc ls st M := by
  intro p l e s m args below meth c E H locs lsA C G
  subst hn; subst hw
  obtain ⟨q, hq⟩ := List.getElem?_of_mem (sw_lv_mem (E := E) hl (fun z => by cases z))
  have hv : Int32.ofInt a + Int32.ofInt v = Int32.ofInt (a + v) := (Int32.ofInt_add ..).symm
  exact lv_iinc C.1 C.2.1 hd G.has hq hv (Nat.lt_of_lt_of_le (List.getElem?_eq_some_iff.mp hl).1 G.len) rfl (fun ls' hl => kk p l e s m args below meth c E H locs ls' C (G.sto (v := sI (a + v)) ho hl G.2.2.2.2))
theorem wm_iadd {a b : Int} (hd : decode d.1 pc = .ok (.iadd, 1)) (hn : pc + 1 = n) (ho : -2147483648 ≤ a + b ∧ a + b ≤ 2147483647) (kk : WM sh d Q n ls (sI (a + b) :: st) M) : WM sh d Q pc ls (sI b :: sI a :: st) M := by
  intro p l e s m args below meth c E H locs lsA C G
  subst hn
  have K := kk p l e s m args below meth c E H locs lsA C (G.st (sw_cn ho (sw_tl (sw_tl G.2.2.2.2))))
  have hv : Int32.ofInt a + Int32.ofInt b = Int32.ofInt (a + b) := (Int32.ofInt_add ..).symm
  refine lv_iadd C.1 C.2.1 hd ?_
  rw [hv]; exact K
theorem wm_isub {a b : Int} (hd : decode d.1 pc = .ok (.isub, 1)) (hn : pc + 1 = n) (ho : -2147483648 ≤ a - b ∧ a - b ≤ 2147483647) (kk : WM sh d Q n ls (sI (a - b) :: st) M) : WM sh d Q pc ls (sI b :: sI a :: st) M := by
  intro p l e s m args below meth c E H locs lsA C G
  subst hn
  have K := kk p l e s m args below meth c E H locs lsA C (G.st (sw_cn ho (sw_tl (sw_tl G.2.2.2.2))))
  have hv : Int32.ofInt a - Int32.ofInt b = Int32.ofInt (a - b) := (Int32.ofInt_sub ..).symm
  refine lv_isub C.1 C.2.1 hd ?_
  rw [hv]; exact K
theorem wm_imul {a b : Int} (hd : decode d.1 pc = .ok (.imul, 1)) (hn : pc + 1 = n) (ho : -2147483648 ≤ a * b ∧ a * b ≤ 2147483647) (kk : WM sh d Q n ls (sI (a * b) :: st) M) : WM sh d Q pc ls (sI b :: sI a :: st) M := by
  intro p l e s m args below meth c E H locs lsA C G
  subst hn
  have K := kk p l e s m args below meth c E H locs lsA C (G.st (sw_cn ho (sw_tl (sw_tl G.2.2.2.2))))
  have hv : Int32.ofInt a * Int32.ofInt b = Int32.ofInt (a * b) := (Int32.ofInt_mul ..).symm
  refine lv_imul C.1 C.2.1 hd ?_
  rw [hv]; exact K
theorem wm_irem {a b : Int} (hd : decode d.1 pc = .ok (.irem, 1)) (hn : pc + 1 = n) (ha : 0 ≤ a) (hb : 0 < b) (kk : WM sh d Q n ls (sI (a % b) :: st) M) : WM sh d Q pc ls (sI b :: sI a :: st) M := by
  intro p l e s m args below meth c E H locs lsA C G
  subst hn
  have ga : sw_ok a := sw_hd (sw_tl G.2.2.2.2)
  have gb : sw_ok b := sw_hd G.2.2.2.2
  have e0 : 0 ≤ a % b := Int.emod_nonneg a (by omega)
  have e1 : a % b < b := Int.emod_lt_of_pos a hb
  have go : sw_ok (a % b) := ⟨by omega, by unfold sw_ok at gb; omega⟩
  have K := kk p l e s m args below meth c E H locs lsA C (G.st (sw_cn (v := sI (a % b)) go (sw_tl (sw_tl G.2.2.2.2))))
  refine lv_irem C.1 C.2.1 hd (fun z => ?_) ?_
  · have := (sw_eq gb sw_ok0).mp z; omega
  · have hq : Int32.ofInt a / Int32.ofInt b = Int32.ofInt (a / b) := by
      rw [← Int32.toInt_inj, Int32.toInt_div, sw_toInt ga, sw_toInt gb, Int.tdiv_eq_ediv_of_nonneg ha, Int32.toInt_ofInt]
    have hv : Int32.ofInt a - Int32.ofInt a / Int32.ofInt b * Int32.ofInt b = Int32.ofInt (a % b) := by
      rw [hq, ← Int32.ofInt_mul, ← Int32.ofInt_sub, Int.emod_def, Int.mul_comm b]
    rw [hv]; exact K
theorem wm_idiv {a b : Int} (hd : decode d.1 pc = .ok (.idiv, 1)) (hn : pc + 1 = n) (ha : 0 ≤ a) (hb : 0 < b) (kk : WM sh d Q n ls (sI (a / b) :: st) M) : WM sh d Q pc ls (sI b :: sI a :: st) M := by
  intro p l e s m args below meth c E H locs lsA C G
  subst hn
  have ga : sw_ok a := sw_hd (sw_tl G.2.2.2.2)
  have gb : sw_ok b := sw_hd G.2.2.2.2
  have e0 : 0 ≤ a / b := Int.ediv_nonneg ha (by omega)
  have e1 : a / b ≤ a := Int.ediv_le_self b ha
  have go : sw_ok (a / b) := ⟨by omega, by unfold sw_ok at ga; omega⟩
  have K := kk p l e s m args below meth c E H locs lsA C (G.st (sw_cn (v := sI (a / b)) go (sw_tl (sw_tl G.2.2.2.2))))
  refine lv_idiv C.1 C.2.1 hd (fun z => ?_) ?_
  · have := (sw_eq gb sw_ok0).mp z; omega
  · have hq : Int32.ofInt a / Int32.ofInt b = Int32.ofInt (a / b) := by
      rw [← Int32.toInt_inj, Int32.toInt_div, sw_toInt ga, sw_toInt gb, Int.tdiv_eq_ediv_of_nonneg ha, Int32.toInt_ofInt]
    rw [hq]; exact K
/-- and, or, shl over written numbers: by their value -/
theorem wm_iand {a b v : Int} (hd : decode d.1 pc = .ok (.iand, 1)) (hn : pc + 1 = n) (hv : Int32.ofInt a &&& Int32.ofInt b = Int32.ofInt v) (ho : -2147483648 ≤ v ∧ v ≤ 2147483647) (kk : WM sh d Q n ls (sI v :: st) M) : WM sh d Q pc ls (sI b :: sI a :: st) M := by
  intro p l e s m args below meth c E H locs lsA C G
  subst hn
  have K := kk p l e s m args below meth c E H locs lsA C (G.st (sw_cn (v := sI v) ho (sw_tl (sw_tl G.2.2.2.2))))
  refine lv_iand C.1 C.2.1 hd ?_
  rw [hv]; exact K
theorem wm_ior {a b v : Int} (hd : decode d.1 pc = .ok (.ior, 1)) (hn : pc + 1 = n) (hv : Int32.ofInt a ||| Int32.ofInt b = Int32.ofInt v) (ho : -2147483648 ≤ v ∧ v ≤ 2147483647) (kk : WM sh d Q n ls (sI v :: st) M) : WM sh d Q pc ls (sI b :: sI a :: st) M := by
  intro p l e s m args below meth c E H locs lsA C G
  subst hn
  have K := kk p l e s m args below meth c E H locs lsA C (G.st (sw_cn (v := sI v) ho (sw_tl (sw_tl G.2.2.2.2))))
  refine lv_ior C.1 C.2.1 hd ?_
  rw [hv]; exact K
theorem wm_ishl {a b v : Int} (hd : decode d.1 pc = .ok (.ishl, 1)) (hn : pc + 1 = n) (hv : Int32.ofInt a <<< (Int32.ofInt b &&& 31) = Int32.ofInt v) (ho : -2147483648 ≤ v ∧ v ≤ 2147483647) (kk : WM sh d Q n ls (sI v :: st) M) : WM sh d Q pc ls (sI b :: sI a :: st) M := by
  intro p l e s m args below meth c E H locs lsA C G
  subst hn
  have K := kk p l e s m args below meth c E H locs lsA C (G.st (sw_cn (v := sI v) ho (sw_tl (sw_tl G.2.2.2.2))))
  refine lv_ishl C.1 C.2.1 hd ?_
  rw [hv]; exact K
theorem wm_ishr {a b v : Int} (hd : decode d.1 pc = .ok (.ishr, 1)) (hn : pc + 1 = n) (hv : Int32.ofInt a >>> (Int32.ofInt b &&& 31) = Int32.ofInt v) (ho : -2147483648 ≤ v ∧ v ≤ 2147483647) (kk : WM sh d Q n ls (sI v :: st) M) : WM sh d Q pc ls (sI b :: sI a :: st) M := by
  intro p l e s m args below meth c E H locs lsA C G
  subst hn
  have K := kk p l e s m args below meth c E H locs lsA C (G.st (sw_cn (v := sI v) ho (sw_tl (sw_tl G.2.2.2.2))))
  refine lv_ishr C.1 C.2.1 hd ?_
  rw [hv]; exact K
theorem wm_dup {v : sw_V} (hd : decode d.1 pc = .ok (.dup, 1)) (hn : pc + 1 = n) (kk : WM sh d Q n ls (v :: v :: st) M) : WM sh d Q pc ls (v :: st) M := by
  intro p l e s m args below meth c E H locs lsA C G
  subst hn
  exact lv_dup C.1 C.2.1 hd (sw_cat E v) (kk p l e s m args below meth c E H locs lsA C (G.st (sw_cn (sw_hd G.2.2.2.2) G.2.2.2.2)))
theorem wm_pop {v : sw_V} (hd : decode d.1 pc = .ok (.pop, 1)) (hn : pc + 1 = n) (kk : WM sh d Q n ls st M) : WM sh d Q pc ls (v :: st) M := by
  intro p l e s m args below meth c E H locs lsA C G
  subst hn
  exact lv_pop C.1 C.2.1 hd (sw_cat E v) (kk p l e s m args below meth c E H locs lsA C (G.st (sw_tl G.2.2.2.2)))
theorem wm_dup2 {v w : sw_V} (hd : decode d.1 pc = .ok (.dup2, 1)) (hn : pc + 1 = n) (kk : WM sh d Q n ls (v :: w :: v :: w :: st) M) : WM sh d Q pc ls (v :: w :: st) M := by
  intro p l e s m args below meth c E H locs lsA C G
  subst hn
  exact lv_dup2_11 C.1 C.2.1 hd (sw_cat E v) (sw_cat E w) (kk p l e s m args below meth c E H locs lsA C (G.st (sw_cn (sw_hd G.2.2.2.2) (sw_cn (sw_hd (sw_tl G.2.2.2.2)) G.2.2.2.2))))
theorem wm_dup_x1 {v w : sw_V} (hd : decode d.1 pc = .ok (.dup_x1, 1)) (hn : pc + 1 = n) (kk : WM sh d Q n ls (v :: w :: v :: st) M) : WM sh d Q pc ls (v :: w :: st) M := by
  intro p l e s m args below meth c E H locs lsA C G
  subst hn
  exact lv_dup_x1 C.1 C.2.1 hd (sw_cat E v) (sw_cat E w) (kk p l e s m args below meth c E H locs lsA C (G.st (sw_cn (sw_hd G.2.2.2.2) (sw_cn (sw_hd (sw_tl G.2.2.2.2)) (sw_cn (sw_hd G.2.2.2.2) (sw_tl (sw_tl G.2.2.2.2)))))))
theorem wm_goto {off : Int} {t : Nat} (hd : decode d.1 pc = .ok (.goto off, 3)) (ht : (pc : Int) + off = (t : Int)) (kk : WM sh d Q t ls st M) : WM sh d Q pc ls st M := by
  intro p l e s m args below meth c E H locs lsA C G
  exact lv_goto C.1 C.2.1 hd ht (kk p l e s m args below meth c E H locs lsA C G)
theorem wm_icmp_eq {a b off : Int} {t : Nat} (hd : decode d.1 pc = .ok (.if_icmp .eq off, 3)) (ht : (pc : Int) + off = (t : Int)) (hn : pc + 3 = n) (kt : a = b → WM sh d Q t ls st M) (kf : ¬ (a = b) → WM sh d Q n ls st M) : WM sh d Q pc ls (sI b :: sI a :: st) M := by
  intro p l e s m args below meth c E H locs lsA C G
  subst hn
  have ga : sw_ok a := sw_hd (sw_tl G.2.2.2.2)
  have gb : sw_ok b := sw_hd G.2.2.2.2
  have hi := sw_eq ga gb
  exact lv_icmp_eq C.1 C.2.1 hd ht (fun z => kt (hi.mp z) p l e s m args below meth c E H locs lsA C (G.st (sw_tl (sw_tl G.2.2.2.2)))) (fun z => kf (fun q => z (hi.mpr q)) p l e s m args below meth c E H locs lsA C (G.st (sw_tl (sw_tl G.2.2.2.2))))
theorem wm_if_eq {a off : Int} {t : Nat} (hd : decode d.1 pc = .ok (.ifCond .eq off, 3)) (ht : (pc : Int) + off = (t : Int)) (hn : pc + 3 = n) (kt : a = 0 → WM sh d Q t ls st M) (kf : ¬ (a = 0) → WM sh d Q n ls st M) : WM sh d Q pc ls (sI a :: st) M := by
  intro p l e s m args below meth c E H locs lsA C G
  subst hn
  have ga : sw_ok a := sw_hd G.2.2.2.2
  have hi := sw_eq ga sw_ok0
  exact lv_if_eq C.1 C.2.1 hd ht (fun z => kt (hi.mp z) p l e s m args below meth c E H locs lsA C (G.st (sw_tl G.2.2.2.2))) (fun z => kf (fun q => z (hi.mpr q)) p l e s m args below meth c E H locs lsA C (G.st (sw_tl G.2.2.2.2)))
theorem wm_icmp_lt {a b off : Int} {t : Nat} (hd : decode d.1 pc = .ok (.if_icmp .lt off, 3)) (ht : (pc : Int) + off = (t : Int)) (hn : pc + 3 = n) (kt : a < b → WM sh d Q t ls st M) (kf : ¬ (a < b) → WM sh d Q n ls st M) : WM sh d Q pc ls (sI b :: sI a :: st) M := by
  intro p l e s m args below meth c E H locs lsA C G
  subst hn
  have ga : sw_ok a := sw_hd (sw_tl G.2.2.2.2)
  have gb : sw_ok b := sw_hd G.2.2.2.2
  have hi := sw_lt ga gb
  exact lv_icmp_lt C.1 C.2.1 hd ht (fun z => kt (hi.mp z) p l e s m args below meth c E H locs lsA C (G.st (sw_tl (sw_tl G.2.2.2.2)))) (fun z => kf (fun q => z (hi.mpr q)) p l e s m args below meth c E H locs lsA C (G.st (sw_tl (sw_tl G.2.2.2.2))))
theorem wm_if_lt {a off : Int} {t : Nat} (hd : decode d.1 pc = .ok (.ifCond .lt off, 3)) (ht : (pc : Int) + off = (t : Int)) (hn : pc + 3 = n) (kt : a < 0 → WM sh d Q t ls st M) (kf : ¬ (a < 0) → WM sh d Q n ls st M) : WM sh d Q pc ls (sI a :: st) M := by
  intro p l e s m args below meth c E H locs lsA C G
  subst hn
  have ga : sw_ok a := sw_hd G.2.2.2.2
  have hi := sw_lt ga sw_ok0
  exact lv_if_lt C.1 C.2.1 hd ht (fun z => kt (hi.mp z) p l e s m args below meth c E H locs lsA C (G.st (sw_tl G.2.2.2.2))) (fun z => kf (fun q => z (hi.mpr q)) p l e s m args below meth c E H locs lsA C (G.st (sw_tl G.2.2.2.2)))
theorem wm_icmp_ge {a b off : Int} {t : Nat} (hd : decode d.1 pc = .ok (.if_icmp .ge off, 3)) (ht : (pc : Int) + off = (t : Int)) (hn : pc + 3 = n) (kt : b ≤ a → WM sh d Q t ls st M) (kf : ¬ (b ≤ a) → WM sh d Q n ls st M) : WM sh d Q pc ls (sI b :: sI a :: st) M := by
  intro p l e s m args below meth c E H locs lsA C G
  subst hn
  have ga : sw_ok a := sw_hd (sw_tl G.2.2.2.2)
  have gb : sw_ok b := sw_hd G.2.2.2.2
  have hi := sw_le gb ga
  exact lv_icmp_ge C.1 C.2.1 hd ht (fun z => kt (hi.mp z) p l e s m args below meth c E H locs lsA C (G.st (sw_tl (sw_tl G.2.2.2.2)))) (fun z => kf (fun q => z (hi.mpr q)) p l e s m args below meth c E H locs lsA C (G.st (sw_tl (sw_tl G.2.2.2.2))))
theorem wm_if_ge {a off : Int} {t : Nat} (hd : decode d.1 pc = .ok (.ifCond .ge off, 3)) (ht : (pc : Int) + off = (t : Int)) (hn : pc + 3 = n) (kt : 0 ≤ a → WM sh d Q t ls st M) (kf : ¬ (0 ≤ a) → WM sh d Q n ls st M) : WM sh d Q pc ls (sI a :: st) M := by
  intro p l e s m args below meth c E H locs lsA C G
  subst hn
  have ga : sw_ok a := sw_hd G.2.2.2.2
  have hi := sw_le sw_ok0 ga
  exact lv_if_ge C.1 C.2.1 hd ht (fun z => kt (hi.mp z) p l e s m args below meth c E H locs lsA C (G.st (sw_tl G.2.2.2.2))) (fun z => kf (fun q => z (hi.mpr q)) p l e s m args below meth c E H locs lsA C (G.st (sw_tl G.2.2.2.2)))
theorem wm_icmp_gt {a b off : Int} {t : Nat} (hd : decode d.1 pc = .ok (.if_icmp .gt off, 3)) (ht : (pc : Int) + off = (t : Int)) (hn : pc + 3 = n) (kt : b < a → WM sh d Q t ls st M) (kf : ¬ (b < a) → WM sh d Q n ls st M) : WM sh d Q pc ls (sI b :: sI a :: st) M := by
  intro p l e s m args below meth c E H locs lsA C G
  subst hn
  have ga : sw_ok a := sw_hd (sw_tl G.2.2.2.2)
  have gb : sw_ok b := sw_hd G.2.2.2.2
  have hi := sw_lt gb ga
  exact lv_icmp_gt C.1 C.2.1 hd ht (fun z => kt (hi.mp z) p l e s m args below meth c E H locs lsA C (G.st (sw_tl (sw_tl G.2.2.2.2)))) (fun z => kf (fun q => z (hi.mpr q)) p l e s m args below meth c E H locs lsA C (G.st (sw_tl (sw_tl G.2.2.2.2))))
theorem wm_if_gt {a off : Int} {t : Nat} (hd : decode d.1 pc = .ok (.ifCond .gt off, 3)) (ht : (pc : Int) + off = (t : Int)) (hn : pc + 3 = n) (kt : 0 < a → WM sh d Q t ls st M) (kf : ¬ (0 < a) → WM sh d Q n ls st M) : WM sh d Q pc ls (sI a :: st) M := by
  intro p l e s m args below meth c E H locs lsA C G
  subst hn
  have ga : sw_ok a := sw_hd G.2.2.2.2
  have hi := sw_lt sw_ok0 ga
  exact lv_if_gt C.1 C.2.1 hd ht (fun z => kt (hi.mp z) p l e s m args below meth c E H locs lsA C (G.st (sw_tl G.2.2.2.2))) (fun z => kf (fun q => z (hi.mpr q)) p l e s m args below meth c E H locs lsA C (G.st (sw_tl G.2.2.2.2)))
theorem wm_icmp_le {a b off : Int} {t : Nat} (hd : decode d.1 pc = .ok (.if_icmp .le off, 3)) (ht : (pc : Int) + off = (t : Int)) (hn : pc + 3 = n) (kt : a ≤ b → WM sh d Q t ls st M) (kf : ¬ (a ≤ b) → WM sh d Q n ls st M) : WM sh d Q pc ls (sI b :: sI a :: st) M := by
  intro p l e s m args below meth c E H locs lsA C G
  subst hn
  have ga : sw_ok a := sw_hd (sw_tl G.2.2.2.2)
  have gb : sw_ok b := sw_hd G.2.2.2.2
  have hi := sw_le ga gb
  exact lv_icmp_le C.1 C.2.1 hd ht (fun z => kt (hi.mp z) p l e s m args below meth c E H locs lsA C (G.st (sw_tl (sw_tl G.2.2.2.2)))) (fun z => kf (fun q => z (hi.mpr q)) p l e s m args below meth c E H locs lsA C (G.st (sw_tl (sw_tl G.2.2.2.2))))
theorem wm_if_le {a off : Int} {t : Nat} (hd : decode d.1 pc = .ok (.ifCond .le off, 3)) (ht : (pc : Int) + off = (t : Int)) (hn : pc + 3 = n) (kt : a ≤ 0 → WM sh d Q t ls st M) (kf : ¬ (a ≤ 0) → WM sh d Q n ls st M) : WM sh d Q pc ls (sI a :: st) M := by
  intro p l e s m args below meth c E H locs lsA C G
  subst hn
  have ga : sw_ok a := sw_hd G.2.2.2.2
  have hi := sw_le ga sw_ok0
  exact lv_if_le C.1 C.2.1 hd ht (fun z => kt (hi.mp z) p l e s m args below meth c E H locs lsA C (G.st (sw_tl G.2.2.2.2))) (fun z => kf (fun q => z (hi.mpr q)) p l e s m args below meth c E H locs lsA C (G.st (sw_tl G.2.2.2.2)))
theorem wm_icmp_ne {a b off : Int} {t : Nat} (hd : decode d.1 pc = .ok (.if_icmp .ne off, 3)) (ht : (pc : Int) + off = (t : Int)) (hn : pc + 3 = n) (kt : a ≠ b → WM sh d Q t ls st M) (kf : a = b → WM sh d Q n ls st M) : WM sh d Q pc ls (sI b :: sI a :: st) M := by
  intro p l e s m args below meth c E H locs lsA C G
  subst hn
  have ga : sw_ok a := sw_hd (sw_tl G.2.2.2.2)
  have gb : sw_ok b := sw_hd G.2.2.2.2
  have hi := sw_eq ga gb
  exact lv_icmp_ne C.1 C.2.1 hd ht (fun z => kt (fun q => z (hi.mpr q)) p l e s m args below meth c E H locs lsA C (G.st (sw_tl (sw_tl G.2.2.2.2)))) (fun z => kf (hi.mp z) p l e s m args below meth c E H locs lsA C (G.st (sw_tl (sw_tl G.2.2.2.2))))
theorem wm_if_ne {a off : Int} {t : Nat} (hd : decode d.1 pc = .ok (.ifCond .ne off, 3)) (ht : (pc : Int) + off = (t : Int)) (hn : pc + 3 = n) (kt : a ≠ 0 → WM sh d Q t ls st M) (kf : a = 0 → WM sh d Q n ls st M) : WM sh d Q pc ls (sI a :: st) M := by
  intro p l e s m args below meth c E H locs lsA C G
  subst hn
  have ga : sw_ok a := sw_hd G.2.2.2.2
  have hi := sw_eq ga sw_ok0
  exact lv_if_ne C.1 C.2.1 hd ht (fun z => kt (fun q => z (hi.mpr q)) p l e s m args below meth c E H locs lsA C (G.st (sw_tl G.2.2.2.2))) (fun z => kf (hi.mp z) p l e s m args below meth c E H locs lsA C (G.st (sw_tl G.2.2.2.2)))
/-- a switch: a goal a case -/
def sw_sw (a : Int) (K : Nat → Prop) : Int → List Nat → Prop
  | _, [] => True
  | lo, t :: ts => (a = lo → K t) ∧ sw_sw a K (lo + 1) ts
theorem sw_sw_at {a : Int} {K : Nat → Prop} : ∀ (ts : List Nat) (lo : Int) (q t : Nat), sw_sw a K lo ts → ts[q]? = some t → a = lo + q → K t
  | [], _, _, _, _, h, _ => by simp at h
  | t0 :: ts, lo, 0, t, hs, h, e => by
    simp at h; subst h
    exact hs.1 (by simpa using e)
  | t0 :: ts, lo, q + 1, t, hs, h, e => sw_sw_at ts (lo + 1) q t hs.2 (by simpa using h) (by rw [e]; push_cast; omega)
theorem wm_tsw {a dflt lo hi : Int} {offs : Array Int} {len td : Nat} (ts : List Nat) (hd : decode d.1 pc = .ok (.tableswitch dflt lo hi offs, len)) (hts : offs.toList.map (fun q => (pc : Int) + q) = ts.map Int.ofNat) (hl : hi - lo + 1 = ts.length) (hdf : (pc : Int) + dflt = (td : Int)) (kd : (a < lo ∨ hi < a) → WM sh d Q td ls st M) (kk : sw_sw a (fun t => WM sh d Q t ls st M) lo ts) : WM sh d Q pc ls (sI a :: st) M := by
  intro p l e s m args below meth c E H locs lsA C G
  have ga : sw_ok a := sw_hd G.2.2.2.2
  have e0 := sw_toInt ga
  by_cases hc : a < lo ∨ hi < a
  · exact lv_tableOut C.1 C.2.1 hd (by rw [e0]; exact hc) hdf (kd hc p l e s m args below meth c E H locs lsA C (G.st (sw_tl G.2.2.2.2)))
  · have h1 : ¬ a < lo := fun z => hc (Or.inl z)
    have h2 : ¬ hi < a := fun z => hc (Or.inr z)
    have hq : (a - lo).toNat < ts.length := by omega
    have hlen : offs.toList.length = ts.length := by
      have := congrArg List.length hts
      simpa using this
    have hq2 : (a - lo).toNat < offs.toList.length := by omega
    have e1 : offs.toList[(a - lo).toNat]? = some offs.toList[(a - lo).toNat] := List.getElem?_eq_getElem hq2
    have e2 : ts[(a - lo).toNat]? = some ts[(a - lo).toNat] := List.getElem?_eq_getElem hq
    have e3 : (pc : Int) + offs.toList[(a - lo).toNat] = ((ts[(a - lo).toNat] : Nat) : Int) := by
      have := congrArg (fun q => q[(a - lo).toNat]?) hts
      simp only [List.getElem?_map, e1, e2, Option.map_some] at this
      exact Option.some.inj this
    exact lv_tableIn C.1 C.2.1 hd (by rw [e0]; exact h1) (by rw [e0]; exact h2) (off := offs.toList[(a - lo).toNat]) (by rw [e0, ← Array.getElem?_toList]; exact e1) e3 (sw_sw_at ts lo _ _ kk e2 (by omega) p l e s m args below meth c E H locs lsA C (G.st (sw_tl G.2.2.2.2)))
end MROWS
end
section
/-! The small machine's rows over cells: fields, arrays, calls, returns, entries. -/
theorem sw_cell_congr {E : sw_E} {M1 M2 : sw_M} {k : Nat} {i : Int} (h : ∀ j, M1 k i j = M2 k i j) (x : (Nat × List sw_F) ⊕ (FieldType × Nat × sw_F)) : sw_cell E M1 k i x = sw_cell E M2 k i x := by
  have hf : ∀ j f, sw_fv E M1 k i j f = sw_fv E M2 k i j f := by
    intro j f
    cases f with
    | none => show Value.int _ = Value.int _; rw [h]
    | some q => rfl
  rcases x with o | ⟨ty, n, f⟩
  · have e : (fun (j : Nat) f => sw_fv E M1 k i (j : Int) f) = (fun (j : Nat) f => sw_fv E M2 k i (j : Int) f) := funext fun j => funext fun f => hf _ f
    show Sum.inr (o.1, o.2.mapIdx (fun (j : Nat) f => sw_fv E M1 k i (j : Int) f)) = Sum.inr (o.1, o.2.mapIdx (fun (j : Nat) f => sw_fv E M2 k i (j : Int) f))
    rw [e]
  · cases f with
    | none =>
      have e : (fun j : Nat => Int32.ofInt (M1 k i (j : Int))) = (fun j : Nat => Int32.ofInt (M2 k i (j : Int))) := funext fun j => by rw [h]
      show Sum.inl (E.2.1 k, n, Sum.inl (fun j : Nat => Int32.ofInt (M1 k i (j : Int)))) = Sum.inl (E.2.1 k, n, Sum.inl (fun j : Nat => Int32.ofInt (M2 k i (j : Int))))
      rw [e]
    | some q => rfl
theorem up_same {M : sw_M} {k : Nat} {i j v : Int} : up M k i j v k i j = v := by simp [up]
theorem up_ne {M : sw_M} {k k' : Nat} {i j v i' j' : Int} (h : ¬ (k' = k ∧ i' = i ∧ j' = j)) : up M k i j v k' i' j' = M k' i' j' := by
  unfold up
  by_cases hk : k' = k
  · rw [if_pos hk]
    have : ¬ (i' = i ∧ j' = j) := fun z => h ⟨hk, z⟩
    simp only [this, if_false]
  · rw [if_neg hk]
theorem sw_P_set {sh : sw_Sh} {E : sw_E} {M M2 : sw_M} {H H' : Heap} {k : Nat} {i : Int} {K : sw_K} (hP : sw_P sh E M H) (hJ : sw_J sh E) (hk : sh k = some K) (h0 : 0 ≤ i) (h1 : i < K.1) (oq : ∀ q, q ≠ E.1 k i → H'[q]? = H[q]?) (hM : ∀ k' i' j', ¬ (k' = k ∧ i' = i) → M2 k' i' j' = M k' i' j') (hc : va_at E.2.2 vwCl (E.1 k i, sw_cell E M2 k i K.2) H') : sw_P sh E M2 H' := by
  intro k' i' K' hk' h0' h1'
  by_cases hq : k' = k ∧ i' = i
  · obtain ⟨rfl, rfl⟩ := hq
    cases hk.symm.trans hk'
    exact hc
  · rw [sw_cell_congr (M2 := M) (fun j => hM k' i' j hq)]
    exact (hP k' i' K' hk' h0' h1').kept (oq _ (fun z => hq (hJ k' k i' i K' K hk' h0' h1' hk h0 h1 z)))
def sw_fk (own : String) (ix ci j : Nat) : Prop := ∃ (C : String) (T : u_T) (N : Nat), vwCl[ci]? = some (C, T, N) ∧ j < N ∧ (∀ w ∈ u_ws C T N, w ∈ tbG) ∧ Cond.fieldLink own ix (T j).1 (T j).2.1 (T j).2.2.1 ∈ tbG
def sw_pk (own : String) (ix ci j : Nat) (ty : FieldType) : Prop := ∃ (C : String) (T : u_T) (N : Nat) (ty0 : Nat → FieldType), vwCl[ci]? = some (C, T, N) ∧ j < N ∧ (∀ w ∈ u_ws C T N, w ∈ tbG) ∧ Cond.fieldLink own ix (T j).1 (T j).2.1 (T j).2.2.1 ∈ tbG ∧ (∀ k, k < N → parseFieldDescriptor (T k).2.2.1 = some (ty0 k)) ∧ (∀ a, a < N → ∀ b, b < N → a ≠ b → (T a).2.1 ≠ (T b).2.1) ∧ (T j).2.2.2 = false ∧ ty0 j = ty
section HROWS
variable {sh : sw_Sh} {d : sw_D} {Q : sw_R} {M : sw_M} {pc n : Nat} {ls st : List sw_V}
theorem sw_PP {E : sw_E} {H : Heap} {k : Nat} {i : Int} {K : sw_K} (hP : sw_P sh E M H) (hk : sh k = some K) (hi : 0 ≤ i ∧ i < K.1) : va_P E.2.2 vwCl [(E.1 k i, sw_cell E M k i K.2)] H := by
  intro q x hq
  cases q with
  | zero => cases hq; exact hP k i K hk hi.1 hi.2
  | succ q => simp at hq
theorem wm_geti {N : sw_M} {k ci j ix : Nat} {i jj cnt : Int} {fs : List sw_F} (hd : decode d.1 pc = .ok (.getfield ix, 3)) (hn : pc + 3 = n) (hk : sw_fk d.2.1 ix ci j) (hsh : sh k = some (cnt, .inl (ci, fs))) (hf : fs[j]? = some none) (hj : (j : Int) = jj) (hi : 0 ≤ i ∧ i < cnt) (hN : M k = N k) (kk : WM sh d Q n ls (sI (N k i jj) :: st) M) : WM sh d Q pc ls (sR k i :: st) M := by
  intro p l e s m args below meth c E H locs lsA C G
  subst hn; subst hj
  rw [← hN] at kk
  obtain ⟨Cn, T, N, hc, hlt, hin, hl⟩ := hk
  have hP := sw_PP (E := E) G.1 hsh hi
  refine va_get (D := E.2.2) (ci := ci) (v := sw_vl E (sI (M k i (j : Int)))) (C := Cn) (T := T) (N := N) C.1 C.2.1 C.2.2.2.2.2.2.1 hin C.2.2.2.2.1 C.2.2.2.2.2.2.2.1 hP 0 rfl hc j hlt (C.2.2.2.2.2.2.1 _ hl) (fun _ h9 => h9) ?_ hd (kk p l e s m args below meth c E H locs lsA C (G.st (sw_cn (v := sI (M k i (j : Int))) (G.2.1 k i j) (sw_tl G.2.2.2.2))))
  rw [List.getElem?_mapIdx, hf]; rfl
theorem wm_getr {k ci j ix k2 : Nat} {g : Int → Int → Int} {i jj cnt : Int} {fs : List sw_F} (hd : decode d.1 pc = .ok (.getfield ix, 3)) (hn : pc + 3 = n) (hk : sw_fk d.2.1 ix ci j) (hsh : sh k = some (cnt, .inl (ci, fs))) (hf : fs[j]? = some (some (k2, g))) (hj : (j : Int) = jj) (hi : 0 ≤ i ∧ i < cnt) (kk : WM sh d Q n ls (sR k2 (g i jj) :: st) M) : WM sh d Q pc ls (sR k i :: st) M := by
  intro p l e s m args below meth c E H locs lsA C G
  subst hn; subst hj
  obtain ⟨Cn, T, N, hc, hlt, hin, hl⟩ := hk
  have hP := sw_PP (E := E) G.1 hsh hi
  refine va_get (D := E.2.2) (ci := ci) (v := sw_vl E (sR k2 (g i (j : Int)))) (C := Cn) (T := T) (N := N) C.1 C.2.1 C.2.2.2.2.2.2.1 hin C.2.2.2.2.1 C.2.2.2.2.2.2.2.1 hP 0 rfl hc j hlt (C.2.2.2.2.2.2.1 _ hl) (fun _ h9 => h9) ?_ hd (kk p l e s m args below meth c E H locs lsA C (G.st (sw_cn (v := sR k2 (g i (j : Int))) trivial (sw_tl G.2.2.2.2))))
  rw [List.getElem?_mapIdx, hf]; rfl
theorem sw_mapIdx_up {E : sw_E} {k : Nat} {i : Int} {fs : List sw_F} {j : Nat} {a : Int} (hf : fs[j]? = some none) : (fs.mapIdx (fun q f => sw_fv E M k i (q : Int) f)).set j (.int (Int32.ofInt a)) = fs.mapIdx (fun q f => sw_fv E (up M k i (j : Int) a) k i (q : Int) f) := by
  apply List.ext_getElem?
  intro q
  by_cases hq : q = j
  · subst hq
    have hl : q < (fs.mapIdx (fun q f => sw_fv E M k i (q : Int) f)).length := by
      rw [List.length_mapIdx]; exact (List.getElem?_eq_some_iff.mp hf).1
    rw [List.getElem?_set_self hl, List.getElem?_mapIdx, hf]
    show some _ = some _
    congr 1
    show Value.int _ = Value.int _
    rw [up_same]
  · rw [List.getElem?_set_ne (Ne.symm hq), List.getElem?_mapIdx, List.getElem?_mapIdx]
    cases hx : fs[q]? with
    | none => rfl
    | some f =>
      show some _ = some _
      congr 1
      cases f with
      | none =>
        show Value.int _ = Value.int _
        rw [up_ne (fun z => hq (by have := z.2.2; omega))]
      | some w => rfl
theorem wm_put {k ci j ix : Nat} {i jj cnt a : Int} {fs : List sw_F} {ty : FieldType} (hd : decode d.1 pc = .ok (.putfield ix, 3)) (hn : pc + 3 = n) (hk : sw_pk d.2.1 ix ci j ty) (hsh : sh k = some (cnt, .inl (ci, fs))) (hf : fs[j]? = some none) (hj : (j : Int) = jj) (hi : 0 ≤ i ∧ i < cnt) (hnr : narrow ty (.int (Int32.ofInt a)) = .int (Int32.ofInt a)) (hft : fits ty (.int (Int32.ofInt a)) = true) (kk : WM sh d Q n ls st (up M k i jj a)) : WM sh d Q pc ls (sI a :: sR k i :: st) M := by
  intro p l e s m args below meth c E H locs lsA C G
  subst hn; subst hj
  obtain ⟨Cn, T, N, ty0, hc, hlt, hin, hl, hty, hnm, hfin, hty0⟩ := hk
  have hA : sw_A sh E (E.1 k i) := ⟨k, i, _, hsh, hi.1, hi.2, rfl⟩
  have hP := sw_PP (E := E) G.1 hsh hi
  have hap := va_apart (own := d.2.1) C.2.2.2.2.2.2.1 hin ty0 hty hnm C.2.2.2.2.2.2.2.1 hc
  obtain ⟨r0, h1, cell, q1, q2, q3, q4⟩ := hP 0 _ rfl
  have hr : r0 = (Cn, T, N) := Option.some.inj (h1.symm.trans hc)
  subst hr
  obtain ⟨hS, hfc, kC, hkC, hkind⟩ := C.2.2.2.2.2.2.2.1.1 ci _ hc
  obtain ⟨cf, kf, fi, f, hi2, hsl⟩ := hS j hlt
  have hlay := C.2.2.2.2.2.2.1 _ (hin _ (u_in_lay hlt))
  unfold u_lay at hlay
  rw [if_neg (by rw [hfin]; decide)] at hlay
  have hst := (u_facts hfc hkC (u_lays C.2.2.2.2.2.2.1 hin hlt) hi2).1
  have h6 := u_store hfc hkC hkind hlay hi2 (by rw [hty j hlt, hty0]) hnr hft
  have hjl : j < (fs.mapIdx (fun q f => sw_fv E M k i (q : Int) f)).length := by rw [List.length_mapIdx]; exact (List.getElem?_eq_some_iff.mp hf).1
  refine W.putK C.1 C.2.1 (f := f) ⟨C.2.2.2.2.1, C.2.2.2.2.2.2.1 _ hl, ⟨_, _, _, hi2⟩, hst⟩ (by rw [q2]; exact h6) q1 q3 (by rw [hsl]; exact k2_hasslot (q4 j hlt)) rfl rfl hd fun H' e1 e2 e3 => ?_
  rw [hsl] at e1 ⊢
  refine kk p l e s m args below meth c E H' _ lsA C ⟨?_, sw_okM_up G.2.1 (sw_hd G.2.2.2.2), ⟨G.2.2.1.1.put e2 e3 hA, e2.trans G.2.2.1.2⟩, G.2.2.2.1, sw_tl (sw_tl G.2.2.2.2)⟩
  refine sw_P_set G.1 C.2.2.2.2.2.2.2.2.2.1 hsh hi.1 hi.2 e3 (fun k' i' j' hne => up_ne (fun z => hne ⟨z.1, z.2.1⟩)) ?_
  refine ⟨_, hc, t_OB.to (V := updV (vp_V (fs.mapIdx (fun q f => sw_fv E M k i (q : Int) f))) j (.int (Int32.ofInt a))) ⟨_, e1, q2, q3, t_set q4 hap hlt _⟩ (fun q _ => ?_)⟩
  rw [vp_updV_set hjl]
  show vp_V _ q = vp_V _ q
  congr 1
  exact sw_mapIdx_up hf
/-- arrays of numbers -/
theorem sw_PK {E : sw_E} {s : State} {k : Nat} {cnt : Int} {ty : FieldType} {len : Nat} {f : sw_F} (hT : sw_T sh E s) (hK : va_K E.2.2 vwCl [] s) (hsh : sh k = some (cnt, .inr (ty, len, f))) : va_K E.2.2 vwCl [(E.2.1 k, ty)] s := ⟨hK.1, fun q x hq => by
  cases q with
  | zero => cases hq; exact hT k cnt ty len f hsh
  | succ q => simp at hq⟩
theorem wm_iaload {N : sw_M} {k len : Nat} {i j cnt : Int} (hd : decode d.1 pc = .ok (.iaload, 1)) (hn : pc + 1 = n) (hsh : sh k = some (cnt, .inr (.int, len, none))) (hi : 0 ≤ i ∧ i < cnt) (hj : 0 ≤ j ∧ j < (len : Int)) (hN : M k = N k) (kk : WM sh d Q n ls (sI (N k i j) :: st) M) : WM sh d Q pc ls (sI j :: sR k i :: st) M := by
  intro p l e s m args below meth c E H locs lsA C G
  subst hn
  rw [← hN] at kk
  have gj : sw_ok j := sw_hd G.2.2.2.2
  have K := kk p l e s m args below meth c E H locs lsA C (G.st (sw_cn (v := sI (M k i j)) (G.2.1 k i j) (sw_tl (sw_tl G.2.2.2.2))))
  refine va_iald (D := E.2.2) C.1 C.2.1 (sw_PK C.2.2.2.2.2.2.2.2.1 C.2.2.2.2.2.2.2.1 hsh) (sw_PP (E := E) G.1 hsh hi) 0 0 (f := fun q => Int32.ofInt (M k i (q : Int))) rfl rfl (sw_vin gj hj.1 hj.2) hd ?_
  show W _ _ _ _ _ _ _ _ _ _ _ _ _ _ _ (F0 m (pc + 1) lsA (.int (Int32.ofInt (M k i (((Int32.ofInt j).toNatClampNeg : Nat) : Int))) :: _))
  rw [sw_cl gj, Int.toNat_of_nonneg hj.1]
  exact K
theorem wm_zaload {N : sw_M} {k len : Nat} {i j cnt : Int} (hd : decode d.1 pc = .ok (.baload, 1)) (hn : pc + 1 = n) (hsh : sh k = some (cnt, .inr (.boolean, len, none))) (hi : 0 ≤ i ∧ i < cnt) (hj : 0 ≤ j ∧ j < (len : Int)) (hN : M k = N k) (kk : WM sh d Q n ls (sI (N k i j) :: st) M) : WM sh d Q pc ls (sI j :: sR k i :: st) M := by
  intro p l e s m args below meth c E H locs lsA C G
  subst hn
  rw [← hN] at kk
  have gj : sw_ok j := sw_hd G.2.2.2.2
  have K := kk p l e s m args below meth c E H locs lsA C (G.st (sw_cn (v := sI (M k i j)) (G.2.1 k i j) (sw_tl (sw_tl G.2.2.2.2))))
  refine va_zald (D := E.2.2) C.1 C.2.1 (sw_PK C.2.2.2.2.2.2.2.2.1 C.2.2.2.2.2.2.2.1 hsh) (sw_PP (E := E) G.1 hsh hi) 0 0 (f := fun q => Int32.ofInt (M k i (q : Int))) rfl rfl (sw_vin gj hj.1 hj.2) hd ?_
  show W _ _ _ _ _ _ _ _ _ _ _ _ _ _ _ (F0 m (pc + 1) lsA (.int (Int32.ofInt (M k i (((Int32.ofInt j).toNatClampNeg : Nat) : Int))) :: _))
  rw [sw_cl gj, Int.toNat_of_nonneg hj.1]
  exact K
theorem wm_baload {N : sw_M} {k len : Nat} {i j cnt : Int} (hd : decode d.1 pc = .ok (.baload, 1)) (hn : pc + 1 = n) (hsh : sh k = some (cnt, .inr (.byte, len, none))) (hi : 0 ≤ i ∧ i < cnt) (hj : 0 ≤ j ∧ j < (len : Int)) (hN : M k = N k) (kk : WM sh d Q n ls (sI (N k i j) :: st) M) : WM sh d Q pc ls (sI j :: sR k i :: st) M := by
  intro p l e s m args below meth c E H locs lsA C G
  subst hn
  rw [← hN] at kk
  have gj : sw_ok j := sw_hd G.2.2.2.2
  have K := kk p l e s m args below meth c E H locs lsA C (G.st (sw_cn (v := sI (M k i j)) (G.2.1 k i j) (sw_tl (sw_tl G.2.2.2.2))))
  refine va_bald (D := E.2.2) C.1 C.2.1 (sw_PK C.2.2.2.2.2.2.2.2.1 C.2.2.2.2.2.2.2.1 hsh) (sw_PP (E := E) G.1 hsh hi) 0 0 (f := fun q => Int32.ofInt (M k i (q : Int))) rfl rfl (sw_vin gj hj.1 hj.2) hd ?_
  show W _ _ _ _ _ _ _ _ _ _ _ _ _ _ _ (F0 m (pc + 1) lsA (.int (Int32.ofInt (M k i (((Int32.ofInt j).toNatClampNeg : Nat) : Int))) :: _))
  rw [sw_cl gj, Int.toNat_of_nonneg hj.1]
  exact K
theorem wm_aaload {k len k2 : Nat} {C0 : String} {g : Int → Int → Int} {i j cnt : Int} (hd : decode d.1 pc = .ok (.aaload, 1)) (hn : pc + 1 = n) (hsh : sh k = some (cnt, .inr (.object C0, len, some (k2, g)))) (hi : 0 ≤ i ∧ i < cnt) (hj : 0 ≤ j ∧ j < (len : Int)) (kk : WM sh d Q n ls (sR k2 (g i j) :: st) M) : WM sh d Q pc ls (sI j :: sR k i :: st) M := by
  intro p l e s m args below meth c E H locs lsA C G
  subst hn
  have gj : sw_ok j := sw_hd G.2.2.2.2
  have K := kk p l e s m args below meth c E H locs lsA C (G.st (sw_cn (v := sR k2 (g i j)) trivial (sw_tl (sw_tl G.2.2.2.2))))
  refine va_aldq (D := E.2.2) C.1 C.2.1 (sw_PK C.2.2.2.2.2.2.2.2.1 C.2.2.2.2.2.2.2.1 hsh) (sw_PP (E := E) G.1 hsh hi) 0 0 (f := fun q => some (E.1 k2 (g i (q : Int)))) rfl rfl (sw_vin gj hj.1 hj.2) hd ?_
  show W _ _ _ _ _ _ _ _ _ _ _ _ _ _ _ (F0 m (pc + 1) lsA (.ref (E.1 k2 (g i (((Int32.ofInt j).toNatClampNeg : Nat) : Int))) :: _))
  rw [sw_cl gj, Int.toNat_of_nonneg hj.1]
  exact K
theorem wm_alen {k len : Nat} {i cnt : Int} {ty : FieldType} {v : Int} (hd : decode d.1 pc = .ok (.arraylength, 1)) (hn : pc + 1 = n) (hsh : sh k = some (cnt, .inr (ty, len, none))) (hi : 0 ≤ i ∧ i < cnt) (hv : (len : Int) = v) (ho : v ≤ 2147483647) (kk : WM sh d Q n ls (sI v :: st) M) : WM sh d Q pc ls (sR k i :: st) M := by
  intro p l e s m args below meth c E H locs lsA C G
  subst hn; subst hv
  exact va_alen (D := E.2.2) C.1 C.2.1 (sw_PK C.2.2.2.2.2.2.2.2.1 C.2.2.2.2.2.2.2.1 hsh) (sw_PP (E := E) G.1 hsh hi) 0 0 (x := (len, .inl (fun q => Int32.ofInt (M k i (q : Int))))) rfl rfl (v := Int32.ofInt (len : Int)) (by rfl) hd (kk p l e s m args below meth c E H locs lsA C (G.st (sw_cn (v := sI (len : Int)) (show sw_ok (len : Int) from ⟨by omega, ho⟩) (sw_tl G.2.2.2.2))))
theorem sw_arr_up {E : sw_E} {k len : Nat} {i j a : Int} {H1 : Heap} (hj : 0 ≤ j) (e : H1[E.1 k i]? = some ((vp_cell (E.2.1 k) (len, .inl (fun q => Int32.ofInt (M k i (q : Int))))).setSlot j.toNat (.int (Int32.ofInt a)))) {ty : FieldType} : va_at E.2.2 vwCl (E.1 k i, sw_cell E (up M k i j a) k i (.inr (ty, len, none))) H1 := by
  show H1[E.1 k i]? = some (vp_cell (E.2.1 k) (len, .inl (fun q => Int32.ofInt (up M k i j a k i (q : Int)))))
  rw [e, vp_cell_i, vp_cell_i, arrV_store]
  congr 2
  funext q
  by_cases hq : q = j.toNat
  · subst hq
    simp only [updV, if_true]
    rw [Int.toNat_of_nonneg hj, up_same]
  · simp only [updV, if_neg hq]
    rw [up_ne (fun z => hq (by have := z.2.2; omega))]
theorem wm_iastore {k len : Nat} {i j cnt a : Int} (hd : decode d.1 pc = .ok (.iastore, 1)) (hn : pc + 1 = n) (hsh : sh k = some (cnt, .inr (.int, len, none))) (hi : 0 ≤ i ∧ i < cnt) (hj : 0 ≤ j ∧ j < (len : Int)) (kk : WM sh d Q n ls st (up M k i j a)) : WM sh d Q pc ls (sI a :: sI j :: sR k i :: st) M := by
  intro p l e s m args below meth c E H locs lsA C G
  subst hn
  have gj : sw_ok j := sw_hd (sw_tl G.2.2.2.2)
  have hA : sw_A sh E (E.1 k i) := ⟨k, i, _, hsh, hi.1, hi.2, rfl⟩
  have hin := sw_vin gj hj.1 hj.2
  refine W.iast C.1 C.2.1 (sw_PP (E := E) G.1 hsh hi 0 _ rfl) ((C.2.2.2.2.2.2.2.2.1 k cnt .int len none hsh).1 len (fun q => .int (Int32.ofInt (M k i (q : Int))))) (fun q => by cases q) (by show ¬ (_ ∨ (arrV _ _ _).slots.size ≤ _); rw [arrV_size]; exact hin) rfl rfl hd fun H1 e1 e2 e3 => ?_
  rw [sw_cl gj] at e1
  refine kk p l e s m args below meth c E H1 _ lsA C ⟨?_, sw_okM_up G.2.1 (sw_hd G.2.2.2.2), ⟨G.2.2.1.1.put e2 e3 hA, e2.trans G.2.2.1.2⟩, G.2.2.2.1, sw_tl (sw_tl (sw_tl G.2.2.2.2))⟩
  exact sw_P_set G.1 C.2.2.2.2.2.2.2.2.2.1 hsh hi.1 hi.2 e3 (fun k' i' j' hne => up_ne (fun z => hne ⟨z.1, z.2.1⟩)) (sw_arr_up hj.1 e1)
theorem wm_zastore {k len : Nat} {i j cnt a : Int} (hd : decode d.1 pc = .ok (.bastore, 1)) (hn : pc + 1 = n) (hsh : sh k = some (cnt, .inr (.boolean, len, none))) (hi : 0 ≤ i ∧ i < cnt) (hj : 0 ≤ j ∧ j < (len : Int)) (hz : narrow .boolean (.int (Int32.ofInt a)) = .int (Int32.ofInt a)) (kk : WM sh d Q n ls st (up M k i j a)) : WM sh d Q pc ls (sI a :: sI j :: sR k i :: st) M := by
  intro p l e s m args below meth c E H locs lsA C G
  subst hn
  have gj : sw_ok j := sw_hd (sw_tl G.2.2.2.2)
  have hA : sw_A sh E (E.1 k i) := ⟨k, i, _, hsh, hi.1, hi.2, rfl⟩
  have hin := sw_vin gj hj.1 hj.2
  refine W.zast C.1 C.2.1 (sw_PP (E := E) G.1 hsh hi 0 _ rfl) ((C.2.2.2.2.2.2.2.2.1 k cnt .boolean len none hsh).1 len (fun q => .int (Int32.ofInt (M k i (q : Int))))) (fun q => by cases q) (by show ¬ (_ ∨ (arrV _ _ _).slots.size ≤ _); rw [arrV_size]; exact hin) rfl rfl hd fun H1 e1 e2 e3 => ?_
  rw [sw_cl gj] at e1
  have e1 : H1[E.1 k i]? = some ((vp_cell (E.2.1 k) (len, .inl (fun q => Int32.ofInt (M k i (q : Int))))).setSlot j.toNat (.int (Int32.ofInt a))) := by
    rw [e1]; first | rfl | rw [hz] | (simp only [hz]; rfl)
  refine kk p l e s m args below meth c E H1 _ lsA C ⟨?_, sw_okM_up G.2.1 (sw_hd G.2.2.2.2), ⟨G.2.2.1.1.put e2 e3 hA, e2.trans G.2.2.1.2⟩, G.2.2.2.1, sw_tl (sw_tl (sw_tl G.2.2.2.2))⟩
  exact sw_P_set G.1 C.2.2.2.2.2.2.2.2.2.1 hsh hi.1 hi.2 e3 (fun k' i' j' hne => up_ne (fun z => hne ⟨z.1, z.2.1⟩)) (sw_arr_up hj.1 e1)
/-- ends -/
theorem wm_ireturn {a : Int} (hd : decode d.1 pc = .ok (.ireturn, 1)) (hrt : d.2.2.2.1 = some .int) (hQ : Q (some (sI a)) M) : WM sh d Q pc ls [sI a] M := by
  intro p l e s m args below meth c E H locs lsA C G
  have hlk := C.2.2.2.2.2.1
  exact W.iret (v := Int32.ofInt a) C.1 C.2.1 (C.2.2.1.trans hrt) (fun t ht hW => ⟨_, _, hQ, rfl, by rw [ht]; exact G.1, G.2.1, fun v hv => by cases hv; exact sw_hd G.2.2.2.2, G.2.2.1.1.F ht, by rw [ht]; exact G.2.2.1.2⟩) G.2.2.1.1.2.2 hd
theorem wm_zreturn {a : Int} {ty : FieldType} (hd : decode d.1 pc = .ok (.ireturn, 1)) (hrt : d.2.2.2.1 = some ty) (hz : narrow ty (.int (Int32.ofInt a)) = .int (Int32.ofInt a)) (hQ : Q (some (sI a)) M) : WM sh d Q pc ls [sI a] M := by
  intro p l e s m args below meth c E H locs lsA C G
  have hlk := C.2.2.2.2.2.1
  exact W.zret (v := Int32.ofInt a) C.1 C.2.1 (C.2.2.1.trans hrt) hz (fun t ht hW => ⟨_, _, hQ, rfl, by rw [ht]; exact G.1, G.2.1, fun v hv => by cases hv; exact sw_hd G.2.2.2.2, G.2.2.1.1.F ht, by rw [ht]; exact G.2.2.1.2⟩) G.2.2.1.1.2.2 hd
theorem wm_areturn {k : Nat} {i : Int} {rt : FieldType} (hd : decode d.1 pc = .ok (.areturn, 1)) (hrt : d.2.2.2.1 = some rt) (hc : (∃ n, rt = .object n) ∨ ∃ t, rt = .array t) (hQ : Q (some (sR k i)) M) : WM sh d Q pc ls [sR k i] M := by
  intro p l e s m args below meth c E H locs lsA C G
  have hlk := C.2.2.2.2.2.1
  exact W.aret (v := .ref (E.1 k i)) C.1 C.2.1 (C.2.2.1.trans hrt) hc (Or.inr ⟨_, rfl⟩) (fun t ht hW => ⟨_, _, hQ, rfl, by rw [ht]; exact G.1, G.2.1, fun v hv => by cases hv; exact sw_hd G.2.2.2.2, G.2.2.1.1.F ht, by rw [ht]; exact G.2.2.1.2⟩) G.2.2.1.1.2.2 hd
theorem wm_return (hd : decode d.1 pc = .ok (.return_, 1)) (hrt : d.2.2.2.1 = none) (hQ : Q none M) : WM sh d Q pc ls [] M := by
  intro p l e s m args below meth c E H locs lsA C G
  have hlk := C.2.2.2.2.2.1
  exact W.vret C.1 C.2.1 (C.2.2.1.trans hrt) (fun t ht hW => ⟨_, _, hQ, rfl, by rw [ht]; exact G.1, G.2.1, fun v hv => (by cases hv), G.2.2.1.1.F ht, by rw [ht]; exact G.2.2.1.2⟩) G.2.2.1.1.2.2 hd
end HROWS
end
