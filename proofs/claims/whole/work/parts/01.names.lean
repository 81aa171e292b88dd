-- ===== PART A: goes FIRST, ahead of the names: the tables' words, and 'selects' of the private methods out of them =====
/-- a private method of a class that the tables say can be made, by its rows of tables_1 -/
def lw_okq (q : MethodName × Nat) : Prop := (q.1.cls ≠ "java/lang/invoke/MethodHandle" ∧ q.1.cls ≠ "java/lang/invoke/VarHandle") ∧ Cond.instantiable q.1.cls q.2 ∈ tables_1 ∧ Cond.privateMethod q.1 ∈ tables_1 ∧ Cond.instanceMethod q.1 ∈ tables_1
theorem lw_p0 : lw_okq (⟨"TinkerTrials", "machineAt", "(I)LTinkerTrials$Machine;"⟩, 15) := ⟨⟨by decide +kernel, by decide +kernel⟩, List.mem_of_getElem? (i := 10) (by decide +kernel), List.mem_of_getElem? (i := 110) (by decide +kernel), List.mem_of_getElem? (i := 111) (by decide +kernel)⟩
theorem lw_p1 : lw_okq (⟨"TinkerTrials", "found", "(I)I"⟩, 15) := ⟨⟨by decide +kernel, by decide +kernel⟩, List.mem_of_getElem? (i := 10) (by decide +kernel), List.mem_of_getElem? (i := 118) (by decide +kernel), List.mem_of_getElem? (i := 119) (by decide +kernel)⟩
theorem lw_p2 : lw_okq (⟨"TinkerTrials", "sheetAt", "(I)LTinkerTrials$Sheet;"⟩, 15) := ⟨⟨by decide +kernel, by decide +kernel⟩, List.mem_of_getElem? (i := 10) (by decide +kernel), List.mem_of_getElem? (i := 150) (by decide +kernel), List.mem_of_getElem? (i := 151) (by decide +kernel)⟩
theorem lw_p3 : lw_okq (⟨"TinkerTrials$Sheet", "cut", "(J)J"⟩, 3) := ⟨⟨by decide +kernel, by decide +kernel⟩, List.mem_of_getElem? (i := 121) (by decide +kernel), List.mem_of_getElem? (i := 166) (by decide +kernel), List.mem_of_getElem? (i := 167) (by decide +kernel)⟩
theorem lw_p4 : lw_okq (⟨"TinkerTrials", "worthOf", "(LTinkerTrials$Machine;I)LTinkerTrials$Fraction;"⟩, 15) := ⟨⟨by decide +kernel, by decide +kernel⟩, List.mem_of_getElem? (i := 10) (by decide +kernel), List.mem_of_getElem? (i := 304) (by decide +kernel), List.mem_of_getElem? (i := 305) (by decide +kernel)⟩
theorem lw_p5 : lw_okq (⟨"TinkerTrials$Reckoner", "listStates", "(LTinkerTrials$Machine;II)I"⟩, 4) := ⟨⟨by decide +kernel, by decide +kernel⟩, List.mem_of_getElem? (i := 22) (by decide +kernel), List.mem_of_getElem? (i := 316) (by decide +kernel), List.mem_of_getElem? (i := 317) (by decide +kernel)⟩
theorem lw_p6 : lw_okq (⟨"TinkerTrials$Reckoner", "layRow", "(LTinkerTrials$Machine;IIII)V"⟩, 4) := ⟨⟨by decide +kernel, by decide +kernel⟩, List.mem_of_getElem? (i := 22) (by decide +kernel), List.mem_of_getElem? (i := 320) (by decide +kernel), List.mem_of_getElem? (i := 321) (by decide +kernel)⟩
theorem lw_p7 : lw_okq (⟨"TinkerTrials$Reckoner", "setCell", "(IIJ)V"⟩, 4) := ⟨⟨by decide +kernel, by decide +kernel⟩, List.mem_of_getElem? (i := 22) (by decide +kernel), List.mem_of_getElem? (i := 326) (by decide +kernel), List.mem_of_getElem? (i := 327) (by decide +kernel)⟩
theorem lw_p8 : lw_okq (⟨"TinkerTrials$Reckoner", "eliminate", "(I)V"⟩, 4) := ⟨⟨by decide +kernel, by decide +kernel⟩, List.mem_of_getElem? (i := 22) (by decide +kernel), List.mem_of_getElem? (i := 331) (by decide +kernel), List.mem_of_getElem? (i := 332) (by decide +kernel)⟩
theorem lw_p9 : lw_okq (⟨"TinkerTrials$Reckoner", "cellAt", "(II)J"⟩, 4) := ⟨⟨by decide +kernel, by decide +kernel⟩, List.mem_of_getElem? (i := 22) (by decide +kernel), List.mem_of_getElem? (i := 335) (by decide +kernel), List.mem_of_getElem? (i := 336) (by decide +kernel)⟩
theorem lw_p10 : lw_okq (⟨"TinkerTrials", "rankOf", "(LTinkerTrials$Machine;I)I"⟩, 15) := ⟨⟨by decide +kernel, by decide +kernel⟩, List.mem_of_getElem? (i := 10) (by decide +kernel), List.mem_of_getElem? (i := 386) (by decide +kernel), List.mem_of_getElem? (i := 387) (by decide +kernel)⟩
theorem lw_p11 : lw_okq (⟨"TinkerTrials", "bestMachine", "()I"⟩, 15) := ⟨⟨by decide +kernel, by decide +kernel⟩, List.mem_of_getElem? (i := 10) (by decide +kernel), List.mem_of_getElem? (i := 438) (by decide +kernel), List.mem_of_getElem? (i := 439) (by decide +kernel)⟩
theorem lw_p12 : lw_okq (⟨"TinkerTrials", "workOnce", "(LTinkerTrials$Machine;)I"⟩, 15) := ⟨⟨by decide +kernel, by decide +kernel⟩, List.mem_of_getElem? (i := 10) (by decide +kernel), List.mem_of_getElem? (i := 446) (by decide +kernel), List.mem_of_getElem? (i := 447) (by decide +kernel)⟩
theorem lw_p13 : lw_okq (⟨"TinkerTrials", "draw", "(I)I"⟩, 15) := ⟨⟨by decide +kernel, by decide +kernel⟩, List.mem_of_getElem? (i := 10) (by decide +kernel), List.mem_of_getElem? (i := 450) (by decide +kernel), List.mem_of_getElem? (i := 451) (by decide +kernel)⟩
theorem lw_p14 : lw_okq (⟨"TinkerTrialsModel", "meets", "(I)I"⟩, 30) := ⟨⟨by decide +kernel, by decide +kernel⟩, List.mem_of_getElem? (i := 516) (by decide +kernel), List.mem_of_getElem? (i := 637) (by decide +kernel), List.mem_of_getElem? (i := 638) (by decide +kernel)⟩
theorem lw_p15 : lw_okq (⟨"TinkerTrialsModel", "isSheet", "(I)Z"⟩, 30) := ⟨⟨by decide +kernel, by decide +kernel⟩, List.mem_of_getElem? (i := 516) (by decide +kernel), List.mem_of_getElem? (i := 645) (by decide +kernel), List.mem_of_getElem? (i := 646) (by decide +kernel)⟩
def lw_privs_1 : List (MethodName × Nat) := [(⟨"TinkerTrials", "machineAt", "(I)LTinkerTrials$Machine;"⟩, 15), (⟨"TinkerTrials", "found", "(I)I"⟩, 15), (⟨"TinkerTrials", "sheetAt", "(I)LTinkerTrials$Sheet;"⟩, 15), (⟨"TinkerTrials$Sheet", "cut", "(J)J"⟩, 3), (⟨"TinkerTrials", "worthOf", "(LTinkerTrials$Machine;I)LTinkerTrials$Fraction;"⟩, 15), (⟨"TinkerTrials$Reckoner", "listStates", "(LTinkerTrials$Machine;II)I"⟩, 4), (⟨"TinkerTrials$Reckoner", "layRow", "(LTinkerTrials$Machine;IIII)V"⟩, 4), (⟨"TinkerTrials$Reckoner", "setCell", "(IIJ)V"⟩, 4), (⟨"TinkerTrials$Reckoner", "eliminate", "(I)V"⟩, 4), (⟨"TinkerTrials$Reckoner", "cellAt", "(II)J"⟩, 4), (⟨"TinkerTrials", "rankOf", "(LTinkerTrials$Machine;I)I"⟩, 15), (⟨"TinkerTrials", "bestMachine", "()I"⟩, 15), (⟨"TinkerTrials", "workOnce", "(LTinkerTrials$Machine;)I"⟩, 15), (⟨"TinkerTrials", "draw", "(I)I"⟩, 15), (⟨"TinkerTrialsModel", "meets", "(I)I"⟩, 30), (⟨"TinkerTrialsModel", "isSheet", "(I)Z"⟩, 30)]
theorem lw_r1 : ∀ q ∈ lw_privs_1, lw_okq q := List.forall_mem_cons.mpr ⟨lw_p0, List.forall_mem_cons.mpr ⟨lw_p1, List.forall_mem_cons.mpr ⟨lw_p2, List.forall_mem_cons.mpr ⟨lw_p3, List.forall_mem_cons.mpr ⟨lw_p4, List.forall_mem_cons.mpr ⟨lw_p5, List.forall_mem_cons.mpr ⟨lw_p6, List.forall_mem_cons.mpr ⟨lw_p7, List.forall_mem_cons.mpr ⟨lw_p8, List.forall_mem_cons.mpr ⟨lw_p9, List.forall_mem_cons.mpr ⟨lw_p10, List.forall_mem_cons.mpr ⟨lw_p11, List.forall_mem_cons.mpr ⟨lw_p12, List.forall_mem_cons.mpr ⟨lw_p13, List.forall_mem_cons.mpr ⟨lw_p14, List.forall_mem_cons.mpr ⟨lw_p15, fun _ h => absurd h List.not_mem_nil⟩⟩⟩⟩⟩⟩⟩⟩⟩⟩⟩⟩⟩⟩⟩⟩
theorem lw_p16 : lw_okq (⟨"TinkerTrialsModel", "lacks", "(II)I"⟩, 30) := ⟨⟨by decide +kernel, by decide +kernel⟩, List.mem_of_getElem? (i := 516) (by decide +kernel), List.mem_of_getElem? (i := 653) (by decide +kernel), List.mem_of_getElem? (i := 654) (by decide +kernel)⟩
theorem lw_p17 : lw_okq (⟨"TinkerTrialsModel", "isMachine", "(I)Z"⟩, 30) := ⟨⟨by decide +kernel, by decide +kernel⟩, List.mem_of_getElem? (i := 516) (by decide +kernel), List.mem_of_getElem? (i := 673) (by decide +kernel), List.mem_of_getElem? (i := 674) (by decide +kernel)⟩
theorem lw_p18 : lw_okq (⟨"TinkerTrialsModel", "isState", "(II)Z"⟩, 30) := ⟨⟨by decide +kernel, by decide +kernel⟩, List.mem_of_getElem? (i := 516) (by decide +kernel), List.mem_of_getElem? (i := 687) (by decide +kernel), List.mem_of_getElem? (i := 688) (by decide +kernel)⟩
theorem lw_p19 : lw_okq (⟨"TinkerTrialsModel", "mayPay", "(II)Z"⟩, 30) := ⟨⟨by decide +kernel, by decide +kernel⟩, List.mem_of_getElem? (i := 516) (by decide +kernel), List.mem_of_getElem? (i := 691) (by decide +kernel), List.mem_of_getElem? (i := 692) (by decide +kernel)⟩
theorem lw_p20 : lw_okq (⟨"TinkerTrialsModel", "isAgeing", "(I)Z"⟩, 30) := ⟨⟨by decide +kernel, by decide +kernel⟩, List.mem_of_getElem? (i := 516) (by decide +kernel), List.mem_of_getElem? (i := 700) (by decide +kernel), List.mem_of_getElem? (i := 701) (by decide +kernel)⟩
theorem lw_p21 : lw_okq (⟨"TinkerTrialsModel", "sum", "(II)I"⟩, 30) := ⟨⟨by decide +kernel, by decide +kernel⟩, List.mem_of_getElem? (i := 516) (by decide +kernel), List.mem_of_getElem? (i := 704) (by decide +kernel), List.mem_of_getElem? (i := 705) (by decide +kernel)⟩
theorem lw_p22 : lw_okq (⟨"TinkerTrialsModel", "need", "(II)I"⟩, 30) := ⟨⟨by decide +kernel, by decide +kernel⟩, List.mem_of_getElem? (i := 516) (by decide +kernel), List.mem_of_getElem? (i := 736) (by decide +kernel), List.mem_of_getElem? (i := 737) (by decide +kernel)⟩
theorem lw_p23 : lw_okq (⟨"TinkerTrialsModel", "worthOf", "(II)V"⟩, 30) := ⟨⟨by decide +kernel, by decide +kernel⟩, List.mem_of_getElem? (i := 516) (by decide +kernel), List.mem_of_getElem? (i := 740) (by decide +kernel), List.mem_of_getElem? (i := 741) (by decide +kernel)⟩
theorem lw_p24 : lw_okq (⟨"TinkerTrialsModel", "value", "(III)V"⟩, 30) := ⟨⟨by decide +kernel, by decide +kernel⟩, List.mem_of_getElem? (i := 516) (by decide +kernel), List.mem_of_getElem? (i := 744) (by decide +kernel), List.mem_of_getElem? (i := 745) (by decide +kernel)⟩
theorem lw_p25 : lw_okq (⟨"TinkerTrialsModel", "layTable", "(IIIZ)V"⟩, 30) := ⟨⟨by decide +kernel, by decide +kernel⟩, List.mem_of_getElem? (i := 516) (by decide +kernel), List.mem_of_getElem? (i := 748) (by decide +kernel), List.mem_of_getElem? (i := 749) (by decide +kernel)⟩
theorem lw_p26 : lw_okq (⟨"TinkerTrialsModel", "determinant", "(I)J"⟩, 30) := ⟨⟨by decide +kernel, by decide +kernel⟩, List.mem_of_getElem? (i := 516) (by decide +kernel), List.mem_of_getElem? (i := 752) (by decide +kernel), List.mem_of_getElem? (i := 753) (by decide +kernel)⟩
theorem lw_p27 : lw_okq (⟨"TinkerTrialsModel", "fraction", "(JJ)V"⟩, 30) := ⟨⟨by decide +kernel, by decide +kernel⟩, List.mem_of_getElem? (i := 516) (by decide +kernel), List.mem_of_getElem? (i := 756) (by decide +kernel), List.mem_of_getElem? (i := 757) (by decide +kernel)⟩
theorem lw_p28 : lw_okq (⟨"TinkerTrialsModel", "tells", "()I"⟩, 30) := ⟨⟨by decide +kernel, by decide +kernel⟩, List.mem_of_getElem? (i := 516) (by decide +kernel), List.mem_of_getElem? (i := 769) (by decide +kernel), List.mem_of_getElem? (i := 770) (by decide +kernel)⟩
theorem lw_p29 : lw_okq (⟨"TinkerTrialsModel", "layWorths", "(I)V"⟩, 30) := ⟨⟨by decide +kernel, by decide +kernel⟩, List.mem_of_getElem? (i := 516) (by decide +kernel), List.mem_of_getElem? (i := 782) (by decide +kernel), List.mem_of_getElem? (i := 783) (by decide +kernel)⟩
theorem lw_p30 : lw_okq (⟨"TinkerTrialsModel", "between", "(II)I"⟩, 30) := ⟨⟨by decide +kernel, by decide +kernel⟩, List.mem_of_getElem? (i := 516) (by decide +kernel), List.mem_of_getElem? (i := 786) (by decide +kernel), List.mem_of_getElem? (i := 787) (by decide +kernel)⟩
theorem lw_p31 : lw_okq (⟨"TinkerTrialsModel", "works", "(I)I"⟩, 30) := ⟨⟨by decide +kernel, by decide +kernel⟩, List.mem_of_getElem? (i := 516) (by decide +kernel), List.mem_of_getElem? (i := 832) (by decide +kernel), List.mem_of_getElem? (i := 833) (by decide +kernel)⟩
def lw_privs_2 : List (MethodName × Nat) := [(⟨"TinkerTrialsModel", "lacks", "(II)I"⟩, 30), (⟨"TinkerTrialsModel", "isMachine", "(I)Z"⟩, 30), (⟨"TinkerTrialsModel", "isState", "(II)Z"⟩, 30), (⟨"TinkerTrialsModel", "mayPay", "(II)Z"⟩, 30), (⟨"TinkerTrialsModel", "isAgeing", "(I)Z"⟩, 30), (⟨"TinkerTrialsModel", "sum", "(II)I"⟩, 30), (⟨"TinkerTrialsModel", "need", "(II)I"⟩, 30), (⟨"TinkerTrialsModel", "worthOf", "(II)V"⟩, 30), (⟨"TinkerTrialsModel", "value", "(III)V"⟩, 30), (⟨"TinkerTrialsModel", "layTable", "(IIIZ)V"⟩, 30), (⟨"TinkerTrialsModel", "determinant", "(I)J"⟩, 30), (⟨"TinkerTrialsModel", "fraction", "(JJ)V"⟩, 30), (⟨"TinkerTrialsModel", "tells", "()I"⟩, 30), (⟨"TinkerTrialsModel", "layWorths", "(I)V"⟩, 30), (⟨"TinkerTrialsModel", "between", "(II)I"⟩, 30), (⟨"TinkerTrialsModel", "works", "(I)I"⟩, 30)]
theorem lw_r2 : ∀ q ∈ lw_privs_2, lw_okq q := List.forall_mem_cons.mpr ⟨lw_p16, List.forall_mem_cons.mpr ⟨lw_p17, List.forall_mem_cons.mpr ⟨lw_p18, List.forall_mem_cons.mpr ⟨lw_p19, List.forall_mem_cons.mpr ⟨lw_p20, List.forall_mem_cons.mpr ⟨lw_p21, List.forall_mem_cons.mpr ⟨lw_p22, List.forall_mem_cons.mpr ⟨lw_p23, List.forall_mem_cons.mpr ⟨lw_p24, List.forall_mem_cons.mpr ⟨lw_p25, List.forall_mem_cons.mpr ⟨lw_p26, List.forall_mem_cons.mpr ⟨lw_p27, List.forall_mem_cons.mpr ⟨lw_p28, List.forall_mem_cons.mpr ⟨lw_p29, List.forall_mem_cons.mpr ⟨lw_p30, List.forall_mem_cons.mpr ⟨lw_p31, fun _ h => absurd h List.not_mem_nil⟩⟩⟩⟩⟩⟩⟩⟩⟩⟩⟩⟩⟩⟩⟩⟩
def lw_privs : List (MethodName × Nat) := lw_privs_1 ++ (lw_privs_2)
def lw_tbl : List Cond := k2_sels lw_privs ++ tables_1
theorem lw_privs_ok : ∀ q ∈ lw_privs, lw_okq q := by
  show ∀ q ∈ lw_privs_1 ++ (lw_privs_2), lw_okq q
  exact List.forall_mem_append.mpr ⟨lw_r1, lw_r2⟩
def RX0 : String := "TinkerTrials$Fraction"
def TX0 : u_T := fun k => match k with
  | 0 => ("TinkerTrials$Fraction", "top", "J", false)
  | _ => ("TinkerTrials$Fraction", "bottom", "J", false)
def tyX0 : Nat → FieldType := fun k => match k with
  | 0 => .long
  | _ => .long
abbrev wsX00 : List Cond := u_ws RX0 TX0 2
theorem nmX0 : ∀ a, a < 2 → ∀ b, b < 2 → a ≠ b → (TX0 a).2.1 ≠ (TX0 b).2.1 := by decide +kernel
theorem tyX0_ok : ∀ k, k < 2 → parseFieldDescriptor (TX0 k).2.2.1 = some (tyX0 k) := by decide +kernel
abbrev cX0_init : ByteArray := prog_2_method_1_code
def yX0_init : MethodName := ⟨RX0, "<init>", "()V"⟩
abbrev cX0_take : ByteArray := prog_2_method_2_code
def yX0_take : MethodName := ⟨RX0, "take", "(LTinkerTrials$Fraction;)V"⟩
abbrev cX0_become : ByteArray := prog_2_method_3_code
def yX0_become : MethodName := ⟨RX0, "become", "(JJ)V"⟩
abbrev cX0_against : ByteArray := prog_2_method_4_code
def yX0_against : MethodName := ⟨RX0, "against", "(LTinkerTrials$Fraction;)I"⟩
abbrev cX0_common : ByteArray := prog_2_method_5_code
def yX0_common : MethodName := ⟨RX0, "common", "(JJ)J"⟩
abbrev cX0_weigh : ByteArray := prog_2_method_6_code
def yX0_weigh : MethodName := ⟨RX0, "weigh", "(JJJJ)I"⟩
def RX1 : String := "TinkerTrials$Machine"
def TX1 : u_T := fun k => match k with
  | 0 => ("TinkerTrials$Machine", "kind", "I", true)
  | 1 => ("TinkerTrials$Machine", "size", "I", true)
  | 2 => ("TinkerTrials$Machine", "pays", "[I", true)
  | 3 => ("TinkerTrials$Machine", "weights", "[I", true)
  | 4 => ("TinkerTrials$Machine", "worths", "[LTinkerTrials$Fraction;", true)
  | 5 => ("TinkerTrials$Machine", "weighed", "Z", false)
  | 6 => ("TinkerTrials$Machine", "stands", "I", false)
  | _ => ("TinkerTrials$Machine", "steps", "I", false)
def tyX1 : Nat → FieldType := fun k => match k with
  | 0 => .int
  | 1 => .int
  | 2 => .array .int
  | 3 => .array .int
  | 4 => .array (.object "TinkerTrials$Fraction")
  | 5 => .boolean
  | 6 => .int
  | _ => .int
abbrev wsX10 : List Cond := u_ws RX1 TX1 8
theorem nmX1 : ∀ a, a < 8 → ∀ b, b < 8 → a ≠ b → (TX1 a).2.1 ≠ (TX1 b).2.1 := by decide +kernel
theorem tyX1_ok : ∀ k, k < 8 → parseFieldDescriptor (TX1 k).2.2.1 = some (tyX1 k) := by decide +kernel
abbrev cX1_init : ByteArray := prog_3_method_1_code
def yX1_init : MethodName := ⟨RX1, "<init>", "(II)V"⟩
abbrev cX1_has : ByteArray := prog_3_method_2_code
def yX1_has : MethodName := ⟨RX1, "has", "(I)Z"⟩
abbrev cX1_isUnder : ByteArray := prog_3_method_3_code
def yX1_isUnder : MethodName := ⟨RX1, "isUnder", "(I)Z"⟩
abbrev cX1_mayPay : ByteArray := prog_3_method_4_code
def yX1_mayPay : MethodName := ⟨RX1, "mayPay", "(I)Z"⟩
abbrev cX1_payAt : ByteArray := prog_3_method_5_code
def yX1_payAt : MethodName := ⟨RX1, "payAt", "(I)I"⟩
abbrev cX1_setPay : ByteArray := prog_3_method_6_code
def yX1_setPay : MethodName := ⟨RX1, "setPay", "(II)V"⟩
abbrev cX1_weightAt : ByteArray := prog_3_method_7_code
def yX1_weightAt : MethodName := ⟨RX1, "weightAt", "(II)I"⟩
abbrev cX1_setWeight : ByteArray := prog_3_method_8_code
def yX1_setWeight : MethodName := ⟨RX1, "setWeight", "(III)V"⟩
abbrev cX1_sumOf : ByteArray := prog_3_method_9_code
def yX1_sumOf : MethodName := ⟨RX1, "sumOf", "(I)I"⟩
abbrev cX1_goal : ByteArray := prog_3_method_10_code
def yX1_goal : MethodName := ⟨RX1, "goal", "(I)I"⟩
abbrev cX1_worthAt : ByteArray := prog_3_method_11_code
def yX1_worthAt : MethodName := ⟨RX1, "worthAt", "(I)LTinkerTrials$Fraction;"⟩
def RX2 : String := "TinkerTrials$Reckoner"
def TX2 : u_T := fun k => match k with
  | 0 => ("TinkerTrials$Reckoner", "cells", "[J", true)
  | 1 => ("TinkerTrials$Reckoner", "states", "[I", true)
  | 2 => ("TinkerTrials$Reckoner", "value", "LTinkerTrials$Fraction;", true)
  | _ => ("TinkerTrials$Reckoner", "greatest", "LTinkerTrials$Fraction;", true)
def tyX2 : Nat → FieldType := fun k => match k with
  | 0 => .array .long
  | 1 => .array .int
  | 2 => .object "TinkerTrials$Fraction"
  | _ => .object "TinkerTrials$Fraction"
abbrev wsX20 : List Cond := u_ws RX2 TX2 4
theorem nmX2 : ∀ a, a < 4 → ∀ b, b < 4 → a ≠ b → (TX2 a).2.1 ≠ (TX2 b).2.1 := by decide +kernel
theorem tyX2_ok : ∀ k, k < 4 → parseFieldDescriptor (TX2 k).2.2.1 = some (tyX2 k) := by decide +kernel
abbrev cX2_init : ByteArray := prog_4_method_1_code
def yX2_init : MethodName := ⟨RX2, "<init>", "()V"⟩
abbrev cX2_valueOf : ByteArray := prog_4_method_2_code
def yX2_valueOf : MethodName := ⟨RX2, "valueOf", "(LTinkerTrials$Machine;IIII)LTinkerTrials$Fraction;"⟩
abbrev cX2_reckonWorths : ByteArray := prog_4_method_3_code
def yX2_reckonWorths : MethodName := ⟨RX2, "reckonWorths", "(LTinkerTrials$Machine;II)V"⟩
abbrev cX2_longestRow : ByteArray := prog_4_method_4_code
def yX2_longestRow : MethodName := ⟨RX2, "longestRow", "(LTinkerTrials$Machine;III)I"⟩
abbrev cX2_listStates : ByteArray := prog_4_method_5_code
def yX2_listStates : MethodName := ⟨RX2, "listStates", "(LTinkerTrials$Machine;II)I"⟩
abbrev cX2_layRow : ByteArray := prog_4_method_6_code
def yX2_layRow : MethodName := ⟨RX2, "layRow", "(LTinkerTrials$Machine;IIII)V"⟩
abbrev cX2_eliminate : ByteArray := prog_4_method_7_code
def yX2_eliminate : MethodName := ⟨RX2, "eliminate", "(I)V"⟩
abbrev cX2_cellAt : ByteArray := prog_4_method_8_code
def yX2_cellAt : MethodName := ⟨RX2, "cellAt", "(II)J"⟩
abbrev cX2_setCell : ByteArray := prog_4_method_9_code
def yX2_setCell : MethodName := ⟨RX2, "setCell", "(IIJ)V"⟩
def RX3 : String := "TinkerTrials$Sheet"
def TX3 : u_T := fun k => match k with
  | 0 => ("TinkerTrials$Sheet", "kind", "I", true)
  | 1 => ("TinkerTrials$Sheet", "places", "[J", true)
  | _ => ("TinkerTrials$Sheet", "missing", "Z", false)
def tyX3 : Nat → FieldType := fun k => match k with
  | 0 => .int
  | 1 => .array .long
  | _ => .boolean
abbrev wsX30 : List Cond := u_ws RX3 TX3 3
theorem nmX3 : ∀ a, a < 3 → ∀ b, b < 3 → a ≠ b → (TX3 a).2.1 ≠ (TX3 b).2.1 := by decide +kernel
theorem tyX3_ok : ∀ k, k < 3 → parseFieldDescriptor (TX3 k).2.2.1 = some (tyX3 k) := by decide +kernel
abbrev cX3_init : ByteArray := prog_5_method_1_code
def yX3_init : MethodName := ⟨RX3, "<init>", "(II)V"⟩
abbrev cX3_hasPlaces : ByteArray := prog_5_method_2_code
def yX3_hasPlaces : MethodName := ⟨RX3, "hasPlaces", "(II)Z"⟩
abbrev cX3_placeAt : ByteArray := prog_5_method_3_code
def yX3_placeAt : MethodName := ⟨RX3, "placeAt", "(I)J"⟩
abbrev cX3_put : ByteArray := prog_5_method_4_code
def yX3_put : MethodName := ⟨RX3, "put", "(IJ)V"⟩
abbrev cX3_cut : ByteArray := prog_5_method_5_code
def yX3_cut : MethodName := ⟨RX3, "cut", "(J)J"⟩
def RX4 : String := "TinkerTrials"
def TX4 : u_T := fun k => match k with
  | 0 => ("TinkerTrials", "machines", "[LTinkerTrials$Machine;", true)
  | 1 => ("TinkerTrials", "sheets", "[LTinkerTrials$Sheet;", true)
  | 2 => ("TinkerTrials", "reckoner", "LTinkerTrials$Reckoner;", true)
  | 3 => ("TinkerTrials", "toldLast", "LTinkerTrials$Fraction;", true)
  | 4 => ("TinkerTrials", "foundTimes", "[I", true)
  | 5 => ("TinkerTrials", "keptSteps", "[I", true)
  | 6 => ("TinkerTrials", "machineCount", "I", false)
  | 7 => ("TinkerTrials", "sheetCount", "I", false)
  | 8 => ("TinkerTrials", "shareUpper", "I", false)
  | 9 => ("TinkerTrials", "shareLower", "I", false)
  | 10 => ("TinkerTrials", "seedNow", "I", false)
  | 11 => ("TinkerTrials", "keptCount", "I", false)
  | 12 => ("TinkerTrials", "foundLast", "I", false)
  | 13 => ("TinkerTrials", "askedLast", "J", false)
  | _ => ("TinkerTrials", "paidEver", "J", false)
def tyX4 : Nat → FieldType := fun k => match k with
  | 0 => .array (.object "TinkerTrials$Machine")
  | 1 => .array (.object "TinkerTrials$Sheet")
  | 2 => .object "TinkerTrials$Reckoner"
  | 3 => .object "TinkerTrials$Fraction"
  | 4 => .array .int
  | 5 => .array .int
  | 6 => .int
  | 7 => .int
  | 8 => .int
  | 9 => .int
  | 10 => .int
  | 11 => .int
  | 12 => .int
  | 13 => .long
  | _ => .long
abbrev wsX40 : List Cond := u_ws RX4 TX4 15
theorem nmX4 : ∀ a, a < 15 → ∀ b, b < 15 → a ≠ b → (TX4 a).2.1 ≠ (TX4 b).2.1 := by decide +kernel
theorem tyX4_ok : ∀ k, k < 15 → parseFieldDescriptor (TX4 k).2.2.1 = some (tyX4 k) := by decide +kernel
abbrev cX4_init : ByteArray := prog_1_method_1_code
def yX4_init : MethodName := ⟨RX4, "<init>", "()V"⟩
abbrev cX4_share : ByteArray := prog_1_method_2_code
def yX4_share : MethodName := ⟨RX4, "share", "(II)I"⟩
abbrev cX4_sheet : ByteArray := prog_1_method_3_code
def yX4_sheet : MethodName := ⟨RX4, "sheet", "(II)I"⟩
abbrev cX4_tear : ByteArray := prog_1_method_4_code
def yX4_tear : MethodName := ⟨RX4, "tear", "(I)I"⟩
abbrev cX4_lay : ByteArray := prog_1_method_5_code
def yX4_lay : MethodName := ⟨RX4, "lay", "(IIJ)I"⟩
abbrev cX4_get : ByteArray := prog_1_method_6_code
def yX4_get : MethodName := ⟨RX4, "get", "(II)I"⟩
abbrev cX4_copy : ByteArray := prog_1_method_7_code
def yX4_copy : MethodName := ⟨RX4, "copy", "(IIIII)I"⟩
abbrev cX4_machine : ByteArray := prog_1_method_8_code
def yX4_machine : MethodName := ⟨RX4, "machine", "(II)I"⟩
abbrev cX4_is : ByteArray := prog_1_method_9_code
def yX4_is : MethodName := ⟨RX4, "is", "(II)I"⟩
abbrev cX4_told : ByteArray := prog_1_method_10_code
def yX4_told : MethodName := ⟨RX4, "told", "(II)I"⟩
abbrev cX4_pay : ByteArray := prog_1_method_11_code
def yX4_pay : MethodName := ⟨RX4, "pay", "(III)I"⟩
abbrev cX4_chance : ByteArray := prog_1_method_12_code
def yX4_chance : MethodName := ⟨RX4, "chance", "(IIII)I"⟩
abbrev cX4_fill : ByteArray := prog_1_method_13_code
def yX4_fill : MethodName := ⟨RX4, "fill", "(III)I"⟩
abbrev cX4_ask : ByteArray := prog_1_method_14_code
def yX4_ask : MethodName := ⟨RX4, "ask", "(III)I"⟩
abbrev cX4_stand : ByteArray := prog_1_method_15_code
def yX4_stand : MethodName := ⟨RX4, "stand", "(II)I"⟩
abbrev cX4_worth : ByteArray := prog_1_method_16_code
def yX4_worth : MethodName := ⟨RX4, "worth", "(II)I"⟩
abbrev cX4_way : ByteArray := prog_1_method_17_code
def yX4_way : MethodName := ⟨RX4, "way", "(III)I"⟩
abbrev cX4_upper : ByteArray := prog_1_method_18_code
def yX4_upper : MethodName := ⟨RX4, "upper", "()J"⟩
abbrev cX4_lower : ByteArray := prog_1_method_19_code
def yX4_lower : MethodName := ⟨RX4, "lower", "()J"⟩
abbrev cX4_order : ByteArray := prog_1_method_20_code
def yX4_order : MethodName := ⟨RX4, "order", "(II)I"⟩
abbrev cX4_goes : ByteArray := prog_1_method_21_code
def yX4_goes : MethodName := ⟨RX4, "goes", "(II)I"⟩
abbrev cX4_even : ByteArray := prog_1_method_22_code
def yX4_even : MethodName := ⟨RX4, "even", "(IIII)I"⟩
abbrev cX4_better : ByteArray := prog_1_method_23_code
def yX4_better : MethodName := ⟨RX4, "better", "(II)I"⟩
abbrev cX4_mean : ByteArray := prog_1_method_24_code
def yX4_mean : MethodName := ⟨RX4, "mean", "(II)I"⟩
abbrev cX4_row : ByteArray := prog_1_method_25_code
def yX4_row : MethodName := ⟨RX4, "row", "(II)I"⟩
abbrev cX4_least : ByteArray := prog_1_method_26_code
def yX4_least : MethodName := ⟨RX4, "least", "(I)I"⟩
abbrev cX4_compare : ByteArray := prog_1_method_27_code
def yX4_compare : MethodName := ⟨RX4, "compare", "(IIII)I"⟩
abbrev cX4_seed : ByteArray := prog_1_method_28_code
def yX4_seed : MethodName := ⟨RX4, "seed", "(I)I"⟩
abbrev cX4_best : ByteArray := prog_1_method_29_code
def yX4_best : MethodName := ⟨RX4, "best", "()I"⟩
abbrev cX4_work : ByteArray := prog_1_method_30_code
def yX4_work : MethodName := ⟨RX4, "work", "(I)I"⟩
abbrev cX4_run : ByteArray := prog_1_method_31_code
def yX4_run : MethodName := ⟨RX4, "run", "(I)I"⟩
abbrev cX4_step : ByteArray := prog_1_method_32_code
def yX4_step : MethodName := ⟨RX4, "step", "(I)I"⟩
abbrev cX4_worked : ByteArray := prog_1_method_33_code
def yX4_worked : MethodName := ⟨RX4, "worked", "(I)I"⟩
abbrev cX4_paid : ByteArray := prog_1_method_34_code
def yX4_paid : MethodName := ⟨RX4, "paid", "()J"⟩
abbrev cX4_fail : ByteArray := prog_1_method_35_code
def yX4_fail : MethodName := ⟨RX4, "fail", "(II)I"⟩
abbrev cX4_asked : ByteArray := prog_1_method_36_code
def yX4_asked : MethodName := ⟨RX4, "asked", "()J"⟩
abbrev cX4_count : ByteArray := prog_1_method_37_code
def yX4_count : MethodName := ⟨RX4, "count", "(I)I"⟩
abbrev cX4_finding : ByteArray := prog_1_method_38_code
def yX4_finding : MethodName := ⟨RX4, "finding", "()I"⟩
abbrev cX4_findings : ByteArray := prog_1_method_39_code
def yX4_findings : MethodName := ⟨RX4, "findings", "(I)I"⟩
abbrev cX4_digest : ByteArray := prog_1_method_40_code
def yX4_digest : MethodName := ⟨RX4, "digest", "()J"⟩
abbrev cX4_machineAt : ByteArray := prog_1_method_41_code
def yX4_machineAt : MethodName := ⟨RX4, "machineAt", "(I)LTinkerTrials$Machine;"⟩
abbrev cX4_sheetAt : ByteArray := prog_1_method_42_code
def yX4_sheetAt : MethodName := ⟨RX4, "sheetAt", "(I)LTinkerTrials$Sheet;"⟩
abbrev cX4_found : ByteArray := prog_1_method_43_code
def yX4_found : MethodName := ⟨RX4, "found", "(I)I"⟩
abbrev cX4_isPay : ByteArray := prog_1_method_44_code
def yX4_isPay : MethodName := ⟨RX4, "isPay", "(J)Z"⟩
abbrev cX4_fits : ByteArray := prog_1_method_45_code
def yX4_fits : MethodName := ⟨RX4, "fits", "(II)Z"⟩
abbrev cX4_asAnswer : ByteArray := prog_1_method_46_code
def yX4_asAnswer : MethodName := ⟨RX4, "asAnswer", "(I)I"⟩
abbrev cX4_worthOf : ByteArray := prog_1_method_47_code
def yX4_worthOf : MethodName := ⟨RX4, "worthOf", "(LTinkerTrials$Machine;I)LTinkerTrials$Fraction;"⟩
abbrev cX4_rankOf : ByteArray := prog_1_method_48_code
def yX4_rankOf : MethodName := ⟨RX4, "rankOf", "(LTinkerTrials$Machine;I)I"⟩
abbrev cX4_bestMachine : ByteArray := prog_1_method_49_code
def yX4_bestMachine : MethodName := ⟨RX4, "bestMachine", "()I"⟩
abbrev cX4_workOnce : ByteArray := prog_1_method_50_code
def yX4_workOnce : MethodName := ⟨RX4, "workOnce", "(LTinkerTrials$Machine;)I"⟩
abbrev cX4_draw : ByteArray := prog_1_method_51_code
def yX4_draw : MethodName := ⟨RX4, "draw", "(I)I"⟩
abbrev cX4_mix : ByteArray := prog_1_method_52_code
def yX4_mix : MethodName := ⟨RX4, "mix", "(JJ)J"⟩
abbrev cX4_mixMachine : ByteArray := prog_1_method_53_code
def yX4_mixMachine : MethodName := ⟨RX4, "mixMachine", "(JLTinkerTrials$Machine;)J"⟩
abbrev cX4_mixSheet : ByteArray := prog_1_method_54_code
def yX4_mixSheet : MethodName := ⟨RX4, "mixSheet", "(JLTinkerTrials$Sheet;)J"⟩
def RX5 : String := "TinkerTrialsModel"
def TX5 : u_T := fun k => match k with
  | 0 => ("TinkerTrialsModel", "latest", "I", false)
  | 1 => ("TinkerTrialsModel", "came", "[I", true)
  | 2 => ("TinkerTrialsModel", "p", "I", false)
  | 3 => ("TinkerTrialsModel", "q", "I", false)
  | 4 => ("TinkerTrialsModel", "sheets", "I", false)
  | 5 => ("TinkerTrialsModel", "sheetKind", "[I", true)
  | 6 => ("TinkerTrialsModel", "sheetSize", "[I", true)
  | 7 => ("TinkerTrialsModel", "sheet", "[J", true)
  | 8 => ("TinkerTrialsModel", "asked", "J", false)
  | 9 => ("TinkerTrialsModel", "copied", "[J", true)
  | 10 => ("TinkerTrialsModel", "machines", "I", false)
  | 11 => ("TinkerTrialsModel", "kindOf", "[I", true)
  | 12 => ("TinkerTrialsModel", "stateMany", "[I", true)
  | 13 => ("TinkerTrialsModel", "stands", "[I", true)
  | 14 => ("TinkerTrialsModel", "pays", "[I", true)
  | 15 => ("TinkerTrialsModel", "weights", "[I", true)
  | 16 => ("TinkerTrialsModel", "workedOn", "[I", true)
  | 17 => ("TinkerTrialsModel", "up", "J", false)
  | 18 => ("TinkerTrialsModel", "low", "J", false)
  | 19 => ("TinkerTrialsModel", "toldUpper", "J", false)
  | 20 => ("TinkerTrialsModel", "toldLower", "J", false)
  | 21 => ("TinkerTrialsModel", "table", "[J", true)
  | 22 => ("TinkerTrialsModel", "byset", "[J", true)
  | 23 => ("TinkerTrialsModel", "worthUp", "[J", true)
  | 24 => ("TinkerTrialsModel", "worthLow", "[J", true)
  | 25 => ("TinkerTrialsModel", "row", "[I", true)
  | 26 => ("TinkerTrialsModel", "seed", "I", false)
  | 27 => ("TinkerTrialsModel", "paid", "J", false)
  | 28 => ("TinkerTrialsModel", "ran", "I", false)
  | _ => ("TinkerTrialsModel", "ranOn", "[I", true)
def tyX5 : Nat → FieldType := fun k => match k with
  | 0 => .int
  | 1 => .array .int
  | 2 => .int
  | 3 => .int
  | 4 => .int
  | 5 => .array .int
  | 6 => .array .int
  | 7 => .array .long
  | 8 => .long
  | 9 => .array .long
  | 10 => .int
  | 11 => .array .int
  | 12 => .array .int
  | 13 => .array .int
  | 14 => .array .int
  | 15 => .array .int
  | 16 => .array .int
  | 17 => .long
  | 18 => .long
  | 19 => .long
  | 20 => .long
  | 21 => .array .long
  | 22 => .array .long
  | 23 => .array .long
  | 24 => .array .long
  | 25 => .array .int
  | 26 => .int
  | 27 => .long
  | 28 => .int
  | _ => .array .int
abbrev wsX50 : List Cond := u_ws RX5 TX5 30
theorem nmX5 : ∀ a, a < 30 → ∀ b, b < 30 → a ≠ b → (TX5 a).2.1 ≠ (TX5 b).2.1 := by decide +kernel
theorem tyX5_ok : ∀ k, k < 30 → parseFieldDescriptor (TX5 k).2.2.1 = some (tyX5 k) := by decide +kernel
abbrev cX5_init : ByteArray := prog_7_method_1_code
def yX5_init : MethodName := ⟨RX5, "<init>", "()V"⟩
abbrev cX5_in : ByteArray := prog_7_method_2_code
def yX5_in : MethodName := ⟨RX5, "in", "(JJJ)Z"⟩
abbrev cX5_meets : ByteArray := prog_7_method_3_code
def yX5_meets : MethodName := ⟨RX5, "meets", "(I)I"⟩
abbrev cX5_finding : ByteArray := prog_7_method_4_code
def yX5_finding : MethodName := ⟨RX5, "finding", "()I"⟩
abbrev cX5_findings : ByteArray := prog_7_method_5_code
def yX5_findings : MethodName := ⟨RX5, "findings", "(I)I"⟩
abbrev cX5_share : ByteArray := prog_7_method_6_code
def yX5_share : MethodName := ⟨RX5, "share", "(II)I"⟩
abbrev cX5_isSheet : ByteArray := prog_7_method_7_code
def yX5_isSheet : MethodName := ⟨RX5, "isSheet", "(I)Z"⟩
abbrev cX5_sheet : ByteArray := prog_7_method_8_code
def yX5_sheet : MethodName := ⟨RX5, "sheet", "(II)I"⟩
abbrev cX5_tear : ByteArray := prog_7_method_9_code
def yX5_tear : MethodName := ⟨RX5, "tear", "(I)I"⟩
abbrev cX5_lacks : ByteArray := prog_7_method_10_code
def yX5_lacks : MethodName := ⟨RX5, "lacks", "(II)I"⟩
abbrev cX5_lay : ByteArray := prog_7_method_11_code
def yX5_lay : MethodName := ⟨RX5, "lay", "(IIJ)I"⟩
abbrev cX5_get : ByteArray := prog_7_method_12_code
def yX5_get : MethodName := ⟨RX5, "get", "(II)I"⟩
abbrev cX5_copy : ByteArray := prog_7_method_13_code
def yX5_copy : MethodName := ⟨RX5, "copy", "(IIIII)I"⟩
abbrev cX5_isMachine : ByteArray := prog_7_method_14_code
def yX5_isMachine : MethodName := ⟨RX5, "isMachine", "(I)Z"⟩
abbrev cX5_isAgeing : ByteArray := prog_7_method_15_code
def yX5_isAgeing : MethodName := ⟨RX5, "isAgeing", "(I)Z"⟩
abbrev cX5_isState : ByteArray := prog_7_method_16_code
def yX5_isState : MethodName := ⟨RX5, "isState", "(II)Z"⟩
abbrev cX5_machine : ByteArray := prog_7_method_17_code
def yX5_machine : MethodName := ⟨RX5, "machine", "(II)I"⟩
abbrev cX5_is : ByteArray := prog_7_method_18_code
def yX5_is : MethodName := ⟨RX5, "is", "(II)I"⟩
abbrev cX5_told : ByteArray := prog_7_method_19_code
def yX5_told : MethodName := ⟨RX5, "told", "(II)I"⟩
abbrev cX5_mayPay : ByteArray := prog_7_method_20_code
def yX5_mayPay : MethodName := ⟨RX5, "mayPay", "(II)Z"⟩
abbrev cX5_pay : ByteArray := prog_7_method_21_code
def yX5_pay : MethodName := ⟨RX5, "pay", "(III)I"⟩
abbrev cX5_sum : ByteArray := prog_7_method_22_code
def yX5_sum : MethodName := ⟨RX5, "sum", "(II)I"⟩
abbrev cX5_chance : ByteArray := prog_7_method_23_code
def yX5_chance : MethodName := ⟨RX5, "chance", "(IIII)I"⟩
abbrev cX5_fill : ByteArray := prog_7_method_24_code
def yX5_fill : MethodName := ⟨RX5, "fill", "(III)I"⟩
abbrev cX5_ask : ByteArray := prog_7_method_25_code
def yX5_ask : MethodName := ⟨RX5, "ask", "(III)I"⟩
abbrev cX5_asked : ByteArray := prog_7_method_26_code
def yX5_asked : MethodName := ⟨RX5, "asked", "()J"⟩
abbrev cX5_stand : ByteArray := prog_7_method_27_code
def yX5_stand : MethodName := ⟨RX5, "stand", "(II)I"⟩
abbrev cX5_gcd : ByteArray := prog_7_method_28_code
def yX5_gcd : MethodName := ⟨RX5, "gcd", "(JJ)J"⟩
abbrev cX5_fraction : ByteArray := prog_7_method_29_code
def yX5_fraction : MethodName := ⟨RX5, "fraction", "(JJ)V"⟩
abbrev cX5_tells : ByteArray := prog_7_method_30_code
def yX5_tells : MethodName := ⟨RX5, "tells", "()I"⟩
abbrev cX5_upper : ByteArray := prog_7_method_31_code
def yX5_upper : MethodName := ⟨RX5, "upper", "()J"⟩
abbrev cX5_lower : ByteArray := prog_7_method_32_code
def yX5_lower : MethodName := ⟨RX5, "lower", "()J"⟩
abbrev cX5_cutDown : ByteArray := prog_7_method_33_code
def yX5_cutDown : MethodName := ⟨RX5, "cutDown", "(JJ)J"⟩
abbrev cX5_compared : ByteArray := prog_7_method_34_code
def yX5_compared : MethodName := ⟨RX5, "compared", "(JJJJ)I"⟩
abbrev cX5_determinant : ByteArray := prog_7_method_35_code
def yX5_determinant : MethodName := ⟨RX5, "determinant", "(I)J"⟩
abbrev cX5_layTable : ByteArray := prog_7_method_36_code
def yX5_layTable : MethodName := ⟨RX5, "layTable", "(IIIZ)V"⟩
abbrev cX5_value : ByteArray := prog_7_method_37_code
def yX5_value : MethodName := ⟨RX5, "value", "(III)V"⟩
abbrev cX5_worthOf : ByteArray := prog_7_method_38_code
def yX5_worthOf : MethodName := ⟨RX5, "worthOf", "(II)V"⟩
abbrev cX5_need : ByteArray := prog_7_method_39_code
def yX5_need : MethodName := ⟨RX5, "need", "(II)I"⟩
abbrev cX5_worth : ByteArray := prog_7_method_40_code
def yX5_worth : MethodName := ⟨RX5, "worth", "(II)I"⟩
abbrev cX5_way : ByteArray := prog_7_method_41_code
def yX5_way : MethodName := ⟨RX5, "way", "(III)I"⟩
abbrev cX5_layWorths : ByteArray := prog_7_method_42_code
def yX5_layWorths : MethodName := ⟨RX5, "layWorths", "(I)V"⟩
abbrev cX5_between : ByteArray := prog_7_method_43_code
def yX5_between : MethodName := ⟨RX5, "between", "(II)I"⟩
abbrev cX5_order : ByteArray := prog_7_method_44_code
def yX5_order : MethodName := ⟨RX5, "order", "(II)I"⟩
abbrev cX5_goes : ByteArray := prog_7_method_45_code
def yX5_goes : MethodName := ⟨RX5, "goes", "(II)I"⟩
abbrev cX5_even : ByteArray := prog_7_method_46_code
def yX5_even : MethodName := ⟨RX5, "even", "(IIII)I"⟩
abbrev cX5_better : ByteArray := prog_7_method_47_code
def yX5_better : MethodName := ⟨RX5, "better", "(II)I"⟩
abbrev cX5_mean : ByteArray := prog_7_method_48_code
def yX5_mean : MethodName := ⟨RX5, "mean", "(II)I"⟩
abbrev cX5_row : ByteArray := prog_7_method_49_code
def yX5_row : MethodName := ⟨RX5, "row", "(II)I"⟩
abbrev cX5_least : ByteArray := prog_7_method_50_code
def yX5_least : MethodName := ⟨RX5, "least", "(I)I"⟩
abbrev cX5_compare : ByteArray := prog_7_method_51_code
def yX5_compare : MethodName := ⟨RX5, "compare", "(IIII)I"⟩
abbrev cX5_seed : ByteArray := prog_7_method_52_code
def yX5_seed : MethodName := ⟨RX5, "seed", "(I)I"⟩
abbrev cX5_best : ByteArray := prog_7_method_53_code
def yX5_best : MethodName := ⟨RX5, "best", "()I"⟩
abbrev cX5_works : ByteArray := prog_7_method_54_code
def yX5_works : MethodName := ⟨RX5, "works", "(I)I"⟩
abbrev cX5_work : ByteArray := prog_7_method_55_code
def yX5_work : MethodName := ⟨RX5, "work", "(I)I"⟩
abbrev cX5_run : ByteArray := prog_7_method_56_code
def yX5_run : MethodName := ⟨RX5, "run", "(I)I"⟩
abbrev cX5_step : ByteArray := prog_7_method_57_code
def yX5_step : MethodName := ⟨RX5, "step", "(I)I"⟩
abbrev cX5_worked : ByteArray := prog_7_method_58_code
def yX5_worked : MethodName := ⟨RX5, "worked", "(I)I"⟩
abbrev cX5_paid : ByteArray := prog_7_method_59_code
def yX5_paid : MethodName := ⟨RX5, "paid", "()J"⟩
abbrev cX5_fail : ByteArray := prog_7_method_60_code
def yX5_fail : MethodName := ⟨RX5, "fail", "(II)I"⟩
abbrev cX5_count : ByteArray := prog_7_method_61_code
def yX5_count : MethodName := ⟨RX5, "count", "(I)I"⟩
abbrev cX5_digest : ByteArray := prog_7_method_62_code
def yX5_digest : MethodName := ⟨RX5, "digest", "()J"⟩
def RJ9 : String := "java/lang/Math"
abbrev cJ9_floorDiv_f86c9 : ByteArray := prog_8_method_49_code
def yJ9_floorDiv_f86c9 : MethodName := ⟨RJ9, "floorDiv", "(JJ)J"⟩
abbrev cJ9_abs_067f4 : ByteArray := prog_8_method_61_code
def yJ9_abs_067f4 : MethodName := ⟨RJ9, "abs", "(J)J"⟩
abbrev cJ9_max_7cf53 : ByteArray := prog_8_method_65_code
def yJ9_max_7cf53 : MethodName := ⟨RJ9, "max", "(II)I"⟩
abbrev cJ9_min_7cf53 : ByteArray := prog_8_method_69_code
def yJ9_min_7cf53 : MethodName := ⟨RJ9, "min", "(II)I"⟩
def RJ10 : String := "java/lang/System"
def RL : String := "TinkerTrialsLaw"
abbrev cL_law : ByteArray := code
def yL_law : MethodName := ⟨RL, "law", "([I)Z"⟩
