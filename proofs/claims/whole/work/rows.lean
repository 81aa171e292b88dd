section
-- ===== PART A: goes FIRST, ahead of the names: the tables' words, and 'selects' of the private methods out of them =====
/-- a private method of a class that the tables say can be made, by its rows of tables_1 -/
def lw_okq (q : MethodName × Nat) : Prop := (q.1.cls ≠ "java/lang/invoke/MethodHandle" ∧ q.1.cls ≠ "java/lang/invoke/VarHandle") ∧ Cond.instantiable q.1.cls q.2 ∈ tables_1 ∧ Cond.privateMethod q.1 ∈ tables_1 ∧ Cond.instanceMethod q.1 ∈ tables_1
theorem lw_p0 : lw_okq (⟨"TinkerTrials", "machineAt", "(I)LTinkerTrials$Machine;"⟩, 15) := ⟨⟨by decide +kernel, by decide +kernel⟩, List.mem_of_getElem? (i := 10) (by decide +kernel), List.mem_of_getElem? (i := 110) (by decide +kernel), List.mem_of_getElem? (i := 111) (by decide +kernel)⟩
theorem lw_p1 : lw_okq (⟨"TinkerTrials", "found", "(I)I"⟩, 15) := ⟨⟨by decide +kernel, by decide +kernel⟩, List.mem_of_getElem? (i := 10) (by decide +kernel), List.mem_of_getElem? (i := 118) (by decide +kernel), List.mem_of_getElem? (i := 119) (by decide +kernel)⟩
theorem lw_p2 : lw_okq (⟨"TinkerTrials", "sheetAt", "(I)LTinkerTrials$Sheet;"⟩, 15) := ⟨⟨by decide +kernel, by decide +kernel⟩, List.mem_of_getElem? (i := 10) (by decide +kernel), List.mem_of_getElem? (i := 150) (by decide +kernel), List.mem_of_getElem? (i := 151) (by decide +kernel)⟩
theorem lw_p3 : lw_okq (⟨"TinkerTrials$Sheet", "cut", "(J)J"⟩, 3) := ⟨⟨by decide +kernel, by decide +kernel⟩, List.mem_of_getElem? (i := 121) (by decide +kernel), List.mem_of_getElem? (i := 166) (by decide +kernel), List.mem_of_getElem? (i := 167) (by decide +kernel)⟩
theorem lw_p4 : lw_okq (⟨"TinkerTrials", "worthOf", "(LTinkerTrials$Machine;I)LTinkerTrials$Fraction;"⟩, 15) := ⟨⟨by decide +kernel, by decide +kernel⟩, List.mem_of_getElem? (i := 10) (by decide +kernel), List.mem_of_getElem? (i := 304) (by decide +kernel), List.mem_of_getElem? (i := 305) (by decide +kernel)⟩
theorem lw_p5 : lw_okq (⟨"TinkerTrials$Reckoner", "listStates", "(LTinkerTrials$Machine;II)I"⟩, 4) := ⟨⟨by decide +kernel, by decide +kernel⟩, List.mem_of_getElem? (i := 22) (by decide +kernel), List.mem_of_getElem? (i := 316) (by decide +kernel), List.mem_of_getElem? (i := 317) (by decide +kernel)⟩
theorem lw_p6 : lw_okq (⟨"TinkerTrials$Reckoner", "layRow", "(LTinkerTrials$Machine;IIII)V"⟩, 4) := ⟨⟨by decide +kernel, by decide +kernel⟩, List.mem_of_getElem? (i := 22) (by decide +kernel), List.mem_of_getElem? (i := 320) (by decide +kernel), List.mem_of_getElem? (i := 321) (by decide +kernel)⟩
theorem lw_p7 : lw_okq (⟨"TinkerTrials$Reckoner", "setCell", "(IIJ)V"⟩, 4) := ⟨⟨by decide +kernel, by decide +kernel⟩, List.mem_of_getElem? (i := 22) (by decide +kernel), List.mem_of_getElem? (i := 326) (by decide +kernel), List.mem_of_getElem? (i := 327) (by decide +kernel)⟩
theorem lw_p8 : lw_okq (⟨"TinkerTrials$Reckoner", "eliminate", "(I)V"⟩, 4) := ⟨⟨by decide +kernel, by decide +kernel⟩, List.mem_of_getElem? (i := 22) (by decide +kernel), List.mem_of_getElem? (i := 331) (by decide +kernel), List.mem_of_getElem? (i := 332) (by decide +kernel)⟩
theorem lw_p9 : lw_okq (⟨"TinkerTrials$Reckoner", "cellAt", "(II)J"⟩, 4) := ⟨⟨by decide +kernel, by decide +kernel⟩, List.mem_of_getElem? (i := 22) (by decide +kernel), List.mem_of_getElem? (i := 335) (by decide +kernel), List.mem_of_getElem? (i := 336) (by decide +kernel)⟩
theorem lw_p10 : lw_okq (⟨"TinkerTrials", "rankOf", "(LTinkerTrials$Machine;I)I"⟩, 15) := ⟨⟨by decide +kernel, by decide +kernel⟩, List.mem_of_getElem? (i := 10) (by decide +kernel), List.mem_of_getElem? (i := 386) (by decide +kernel), List.mem_of_getElem? (i := 387) (by decide +kernel)⟩
theorem lw_p11 : lw_okq (⟨"TinkerTrials", "bestMachine", "()I"⟩, 15) := ⟨⟨by decide +kernel, by decide +kernel⟩, List.mem_of_getElem? (i := 10) (by decide +kernel), List.mem_of_getElem? (i := 438) (by decide +kernel), List.mem_of_getElem? (i := 439) (by decide +kernel)⟩
theorem lw_p12 : lw_okq (⟨"TinkerTrials", "workOnce", "(LTinkerTrials$Machine;)I"⟩, 15) := ⟨⟨by decide +kernel, by decide +kernel⟩, List.mem_of_getElem? (i := 10) (by decide +kernel), List.mem_of_getElem? (i := 446) (by decide +kernel), List.mem_of_getElem? (i := 447) (by decide +kernel)⟩
theorem lw_p13 : lw_okq (⟨"TinkerTrials", "draw", "(I)I"⟩, 15) := ⟨⟨by decide +kernel, by decide +kernel⟩, List.mem_of_getElem? (i := 10) (by decide +kernel), List.mem_of_getElem? (i := 450) (by decide +kernel), List.mem_of_getElem? (i := 451) (by decide +kernel)⟩
theorem lw_p14 : lw_okq (⟨"TinkerTrialsModel", "meets", "(I)I"⟩, 30) := ⟨⟨by decide +kernel, by decide +kernel⟩, List.mem_of_getElem? (i := 516) (by decide +kernel), List.mem_of_getElem? (i := 637) (by decide +kernel), List.mem_of_getElem? (i := 638) (by decide +kernel)⟩
theorem lw_p15 : lw_okq (⟨"TinkerTrialsModel", "isSheet", "(I)Z"⟩, 30) := ⟨⟨by decide +kernel, by decide +kernel⟩, List.mem_of_getElem? (i := 516) (by decide +kernel), List.mem_of_getElem? (i := 645) (by decide +kernel), List.mem_of_getElem? (i := 646) (by decide +kernel)⟩
def lw_privs_1 : List (MethodName × Nat) := [(⟨"TinkerTrials", "machineAt", "(I)LTinkerTrials$Machine;"⟩, 15), (⟨"TinkerTrials", "found", "(I)I"⟩, 15), (⟨"TinkerTrials", "sheetAt", "(I)LTinkerTrials$Sheet;"⟩, 15), (⟨"TinkerTrials$Sheet", "cut", "(J)J"⟩, 3), (⟨"TinkerTrials", "worthOf", "(LTinkerTrials$Machine;I)LTinkerTrials$Fraction;"⟩, 15), (⟨"TinkerTrials$Reckoner", "listStates", "(LTinkerTrials$Machine;II)I"⟩, 4), (⟨"TinkerTrials$Reckoner", "layRow", "(LTinkerTrials$Machine;IIII)V"⟩, 4), (⟨"TinkerTrials$Reckoner", "setCell", "(IIJ)V"⟩, 4), (⟨"TinkerTrials$Reckoner", "eliminate", "(I)V"⟩, 4), (⟨"TinkerTrials$Reckoner", "cellAt", "(II)J"⟩, 4), (⟨"TinkerTrials", "rankOf", "(LTinkerTrials$Machine;I)I"⟩, 15), (⟨"TinkerTrials", "bestMachine", "()I"⟩, 15), (⟨"TinkerTrials", "workOnce", "(LTinkerTrials$Machine;)I"⟩, 15), (⟨"TinkerTrials", "draw", "(I)I"⟩, 15), (⟨"TinkerTrialsModel", "meets", "(I)I"⟩, 30), (⟨"TinkerTrialsModel", "isSheet", "(I)Z"⟩, 30)]
theorem lw_r1 : ∀ q ∈ lw_privs_1, lw_okq q := List.forall_mem_cons.mpr ⟨lw_p0, List.forall_mem_cons.mpr ⟨lw_p1, List.forall_mem_cons.mpr ⟨lw_p2, List.forall_mem_cons.mpr ⟨lw_p3, List.forall_mem_cons.mpr ⟨lw_p4, List.forall_mem_cons.mpr ⟨lw_p5, List.forall_mem_cons.mpr ⟨lw_p6, List.forall_mem_cons.mpr ⟨lw_p7, List.forall_mem_cons.mpr ⟨lw_p8, List.forall_mem_cons.mpr ⟨lw_p9, List.forall_mem_cons.mpr ⟨lw_p10, List.forall_mem_cons.mpr ⟨lw_p11, List.forall_mem_cons.mpr ⟨lw_p12, List.forall_mem_cons.mpr ⟨lw_p13, List.forall_mem_cons.mpr ⟨lw_p14, List.forall_mem_cons.mpr ⟨lw_p15, fun _ h => absurd h List.not_mem_nil⟩⟩⟩⟩⟩⟩⟩⟩⟩⟩⟩⟩⟩⟩⟩⟩
theorem lw_p16 : lw_okq (⟨"TinkerTrialsModel", "lacks", "(II)I"⟩, 30) := ⟨⟨by decide +kernel, by decide +kernel⟩, List.mem_of_getElem? (i := 516) (by decide +kernel), List.mem_of_getElem? (i := 653) (by decide +kernel), List.mem_of_getElem? (i := 654) (by decide +kernel)⟩
theorem lw_p17 : lw_okq (⟨"TinkerTrialsModel", "isMachine", "(I)Z"⟩, 30) := ⟨⟨by decide +kernel, by decide +kernel⟩, List.mem_of_getElem? (i := 516) (by decide +kernel), List.mem_of_getElem? (i := 673) (by decide +kernel), List.mem_of_getElem? (i := 674) (by decide +kernel)⟩
theorem lw_p18 : lw_okq (⟨"TinkerTrialsModel", "isState", "(II)Z"⟩, 30) := ⟨⟨by decide +kernel, by decide +kernel⟩, List.mem_of_getElem? (i := 516) (by decide +kernel), List.mem_of_getElem? (i := 687) (by decide +kernel), List.mem_of_getElem? (i := 688) (by decide +kernel)⟩
theorem lw_p19 : lw_okq (⟨"TinkerTrialsModel", "mayPay", "(II)Z"⟩, 30) := ⟨⟨by decide +kernel, by decide +kernel⟩, List.mem_of_getElem? (i := 516) (by decide +kernel), List.mem_of_getElem? (i := 691) (by decide +kernel), List.mem_of_getElem? (i := 692) (by decide +kernel)⟩
theorem lw_p20 : lw_okq (⟨"TinkerTrialsModel", "isAgeing", "(I)Z"⟩, 30) := ⟨⟨by decide +kernel, by decide +kernel⟩, List.mem_of_getElem? (i := 516) (by decide +kernel), List.mem_of_getElem? (i := 700) (by decide +kernel), List.mem_of_getElem? (i := 701) (by decide +kernel)⟩
theorem lw_p21 : lw_okq (⟨"TinkerTrialsModel", "sum", "(II)I"⟩, 30) := ⟨⟨by decide +kernel, by decide +kernel⟩, List.mem_of_getElem? (i := 516) (by decide +kernel), List.mem_of_getElem? (i := 704) (by decide +kernel), List.mem_of_getElem? (i := 705) (by decide +kernel)⟩
theorem lw_p22 : lw_okq (⟨"TinkerTrialsModel", "need", "(II)I"⟩, 30) := ⟨⟨by decide +kernel, by decide +kernel⟩, List.mem_of_getElem? (i := 516) (by decide +kernel), List.mem_of_getElem? (i := 736) (by decide +kernel), List.mem_of_getElem? (i := 737) (by decide +kernel)⟩
theorem lw_p23 : lw_okq (⟨"TinkerTrialsModel", "worthOf", "(II)V"⟩, 30) := ⟨⟨by decide +kernel, by decide +kernel⟩, List.mem_of_getElem? (i := 516) (by decide +kernel), List.mem_of_getElem? (i := 740) (by decide +kernel), List.mem_of_getElem? (i := 741) (by decide +kernel)⟩
theorem lw_p24 : lw_okq (⟨"TinkerTrialsModel", "value", "(III)V"⟩, 30) := ⟨⟨by decide +kernel, by decide +kernel⟩, List.mem_of_getElem? (i := 516) (by decide +kernel), List.mem_of_getElem? (i := 744) (by decide +kernel), List.mem_of_getElem? (i := 745) (by decide +kernel)⟩
theorem lw_p25 : lw_okq (⟨"TinkerTrialsModel", "layTable", "(IIIZ)V"⟩, 30) := ⟨⟨by decide +kernel, by decide +kernel⟩, List.mem_of_getElem? (i := 516) (by decide +kernel), List.mem_of_getElem? (i := 748) (by decide +kernel), List.mem_of_getElem? (i := 749) (by decide +kernel)⟩
theorem lw_p26 : lw_okq (⟨"TinkerTrialsModel", "determinant", "(I)J"⟩, 30) := ⟨⟨by decide +kernel, by decide +kernel⟩, List.mem_of_getElem? (i := 516) (by decide +kernel), List.mem_of_getElem? (i := 752) (by decide +kernel), List.mem_of_getElem? (i := 753) (by decide +kernel)⟩
theorem lw_p27 : lw_okq (⟨"TinkerTrialsModel", "fraction", "(JJ)V"⟩, 30) := ⟨⟨by decide +kernel, by decide +kernel⟩, List.mem_of_getElem? (i := 516) (by decide +kernel), List.mem_of_getElem? (i := 756) (by decide +kernel), List.mem_of_getElem? (i := 757) (by decide +kernel)⟩
theorem lw_p28 : lw_okq (⟨"TinkerTrialsModel", "tells", "()I"⟩, 30) := ⟨⟨by decide +kernel, by decide +kernel⟩, List.mem_of_getElem? (i := 516) (by decide +kernel), List.mem_of_getElem? (i := 769) (by decide +kernel), List.mem_of_getElem? (i := 770) (by decide +kernel)⟩
theorem lw_p29 : lw_okq (⟨"TinkerTrialsModel", "layWorths", "(I)V"⟩, 30) := ⟨⟨by decide +kernel, by decide +kernel⟩, List.mem_of_getElem? (i := 516) (by decide +kernel), List.mem_of_getElem? (i := 782) (by decide +kernel), List.mem_of_getElem? (i := 783) (by decide +kernel)⟩
theorem lw_p30 : lw_okq (⟨"TinkerTrialsModel", "between", "(II)I"⟩, 30) := ⟨⟨by decide +kernel, by decide +kernel⟩, List.mem_of_getElem? (i := 516) (by decide +kernel), List.mem_of_getElem? (i := 786) (by decide +kernel), List.mem_of_getElem? (i := 787) (by decide +kernel)⟩
theorem lw_p31 : lw_okq (⟨"TinkerTrialsModel", "works", "(I)I"⟩, 30) := ⟨⟨by decide +kernel, by decide +kernel⟩, List.mem_of_getElem? (i := 516) (by decide +kernel), List.mem_of_getElem? (i := 832) (by decide +kernel), List.mem_of_getElem? (i := 833) (by decide +kernel)⟩
def lw_privs_2 : List (MethodName × Nat) := [(⟨"TinkerTrialsModel", "lacks", "(II)I"⟩, 30), (⟨"TinkerTrialsModel", "isMachine", "(I)Z"⟩, 30), (⟨"TinkerTrialsModel", "isState", "(II)Z"⟩, 30), (⟨"TinkerTrialsModel", "mayPay", "(II)Z"⟩, 30), (⟨"TinkerTrialsModel", "isAgeing", "(I)Z"⟩, 30), (⟨"TinkerTrialsModel", "sum", "(II)I"⟩, 30), (⟨"TinkerTrialsModel", "need", "(II)I"⟩, 30), (⟨"TinkerTrialsModel", "worthOf", "(II)V"⟩, 30), (⟨"TinkerTrialsModel", "value", "(III)V"⟩, 30), (⟨"TinkerTrialsModel", "layTable", "(IIIZ)V"⟩, 30), (⟨"TinkerTrialsModel", "determinant", "(I)J"⟩, 30), (⟨"TinkerTrialsModel", "fraction", "(JJ)V"⟩, 30), (⟨"TinkerTrialsModel", "tells", "()I"⟩, 30), (⟨"TinkerTrialsModel", "layWorths", "(I)V"⟩, 30), (⟨"TinkerTrialsModel", "between", "(II)I"⟩, 30), (⟨"TinkerTrialsModel", "works", "(I)I"⟩, 30)]
theorem lw_r2 : ∀ q ∈ lw_privs_2, lw_okq q := List.forall_mem_cons.mpr ⟨lw_p16, List.forall_mem_cons.mpr ⟨lw_p17, List.forall_mem_cons.mpr ⟨lw_p18, List.forall_mem_cons.mpr ⟨lw_p19, List.forall_mem_cons.mpr ⟨lw_p20, List.forall_mem_cons.mpr ⟨lw_p21, List.forall_mem_cons.mpr ⟨lw_p22, List.forall_mem_cons.mpr ⟨lw_p23, List.forall_mem_cons.mpr ⟨lw_p24, List.forall_mem_cons.mpr ⟨lw_p25, List.forall_mem_cons.mpr ⟨lw_p26, List.forall_mem_cons.mpr ⟨lw_p27, List.forall_mem_cons.mpr ⟨lw_p28, List.forall_mem_cons.mpr ⟨lw_p29, List.forall_mem_cons.mpr ⟨lw_p30, List.forall_mem_cons.mpr ⟨lw_p31, fun _ h => absurd h List.not_mem_nil⟩⟩⟩⟩⟩⟩⟩⟩⟩⟩⟩⟩⟩⟩⟩⟩
def lw_privs : List (MethodName × Nat) := lw_privs_1 ++ (lw_privs_2)
def lw_tbl : List Cond := k2_sels lw_privs ++ tables_1
theorem lw_privs_ok : ∀ q ∈ lw_privs, lw_okq q := by
  show ∀ q ∈ lw_privs_1 ++ (lw_privs_2), lw_okq q
  exact List.forall_mem_append.mpr ⟨lw_r1, lw_r2⟩
def RX0 : String := "TinkerTrials$Fraction"
def TX0 : u_T := fun k => match k with
  | 0 => ("TinkerTrials$Fraction", "top", "J", false)
  | _ => ("TinkerTrials$Fraction", "bottom", "J", false)
def tyX0 : Nat → FieldType := fun k => match k with
  | 0 => .long
  | _ => .long
abbrev wsX00 : List Cond := u_ws RX0 TX0 2
theorem nmX0 : ∀ a, a < 2 → ∀ b, b < 2 → a ≠ b → (TX0 a).2.1 ≠ (TX0 b).2.1 := by decide +kernel
theorem tyX0_ok : ∀ k, k < 2 → parseFieldDescriptor (TX0 k).2.2.1 = some (tyX0 k) := by decide +kernel
abbrev cX0_init : ByteArray := prog_2_method_1_code
def yX0_init : MethodName := ⟨RX0, "<init>", "()V"⟩
abbrev cX0_take : ByteArray := prog_2_method_2_code
def yX0_take : MethodName := ⟨RX0, "take", "(LTinkerTrials$Fraction;)V"⟩
abbrev cX0_become : ByteArray := prog_2_method_3_code
def yX0_become : MethodName := ⟨RX0, "become", "(JJ)V"⟩
abbrev cX0_against : ByteArray := prog_2_method_4_code
def yX0_against : MethodName := ⟨RX0, "against", "(LTinkerTrials$Fraction;)I"⟩
abbrev cX0_common : ByteArray := prog_2_method_5_code
def yX0_common : MethodName := ⟨RX0, "common", "(JJ)J"⟩
abbrev cX0_weigh : ByteArray := prog_2_method_6_code
def yX0_weigh : MethodName := ⟨RX0, "weigh", "(JJJJ)I"⟩
def RX1 : String := "TinkerTrials$Machine"
def TX1 : u_T := fun k => match k with
  | 0 => ("TinkerTrials$Machine", "kind", "I", true)
  | 1 => ("TinkerTrials$Machine", "size", "I", true)
  | 2 => ("TinkerTrials$Machine", "pays", "[I", true)
  | 3 => ("TinkerTrials$Machine", "weights", "[I", true)
  | 4 => ("TinkerTrials$Machine", "worths", "[LTinkerTrials$Fraction;", true)
  | 5 => ("TinkerTrials$Machine", "weighed", "Z", false)
  | 6 => ("TinkerTrials$Machine", "stands", "I", false)
  | _ => ("TinkerTrials$Machine", "steps", "I", false)
def tyX1 : Nat → FieldType := fun k => match k with
  | 0 => .int
  | 1 => .int
  | 2 => .array .int
  | 3 => .array .int
  | 4 => .array (.object "TinkerTrials$Fraction")
  | 5 => .boolean
  | 6 => .int
  | _ => .int
abbrev wsX10 : List Cond := u_ws RX1 TX1 8
theorem nmX1 : ∀ a, a < 8 → ∀ b, b < 8 → a ≠ b → (TX1 a).2.1 ≠ (TX1 b).2.1 := by decide +kernel
theorem tyX1_ok : ∀ k, k < 8 → parseFieldDescriptor (TX1 k).2.2.1 = some (tyX1 k) := by decide +kernel
abbrev cX1_init : ByteArray := prog_3_method_1_code
def yX1_init : MethodName := ⟨RX1, "<init>", "(II)V"⟩
abbrev cX1_has : ByteArray := prog_3_method_2_code
def yX1_has : MethodName := ⟨RX1, "has", "(I)Z"⟩
abbrev cX1_isUnder : ByteArray := prog_3_method_3_code
def yX1_isUnder : MethodName := ⟨RX1, "isUnder", "(I)Z"⟩
abbrev cX1_mayPay : ByteArray := prog_3_method_4_code
def yX1_mayPay : MethodName := ⟨RX1, "mayPay", "(I)Z"⟩
abbrev cX1_payAt : ByteArray := prog_3_method_5_code
def yX1_payAt : MethodName := ⟨RX1, "payAt", "(I)I"⟩
abbrev cX1_setPay : ByteArray := prog_3_method_6_code
def yX1_setPay : MethodName := ⟨RX1, "setPay", "(II)V"⟩
abbrev cX1_weightAt : ByteArray := prog_3_method_7_code
def yX1_weightAt : MethodName := ⟨RX1, "weightAt", "(II)I"⟩
abbrev cX1_setWeight : ByteArray := prog_3_method_8_code
def yX1_setWeight : MethodName := ⟨RX1, "setWeight", "(III)V"⟩
abbrev cX1_sumOf : ByteArray := prog_3_method_9_code
def yX1_sumOf : MethodName := ⟨RX1, "sumOf", "(I)I"⟩
abbrev cX1_goal : ByteArray := prog_3_method_10_code
def yX1_goal : MethodName := ⟨RX1, "goal", "(I)I"⟩
abbrev cX1_worthAt : ByteArray := prog_3_method_11_code
def yX1_worthAt : MethodName := ⟨RX1, "worthAt", "(I)LTinkerTrials$Fraction;"⟩
def RX2 : String := "TinkerTrials$Reckoner"
def TX2 : u_T := fun k => match k with
  | 0 => ("TinkerTrials$Reckoner", "cells", "[J", true)
  | 1 => ("TinkerTrials$Reckoner", "states", "[I", true)
  | 2 => ("TinkerTrials$Reckoner", "value", "LTinkerTrials$Fraction;", true)
  | _ => ("TinkerTrials$Reckoner", "greatest", "LTinkerTrials$Fraction;", true)
def tyX2 : Nat → FieldType := fun k => match k with
  | 0 => .array .long
  | 1 => .array .int
  | 2 => .object "TinkerTrials$Fraction"
  | _ => .object "TinkerTrials$Fraction"
abbrev wsX20 : List Cond := u_ws RX2 TX2 4
theorem nmX2 : ∀ a, a < 4 → ∀ b, b < 4 → a ≠ b → (TX2 a).2.1 ≠ (TX2 b).2.1 := by decide +kernel
theorem tyX2_ok : ∀ k, k < 4 → parseFieldDescriptor (TX2 k).2.2.1 = some (tyX2 k) := by decide +kernel
abbrev cX2_init : ByteArray := prog_4_method_1_code
def yX2_init : MethodName := ⟨RX2, "<init>", "()V"⟩
abbrev cX2_valueOf : ByteArray := prog_4_method_2_code
def yX2_valueOf : MethodName := ⟨RX2, "valueOf", "(LTinkerTrials$Machine;IIII)LTinkerTrials$Fraction;"⟩
abbrev cX2_reckonWorths : ByteArray := prog_4_method_3_code
def yX2_reckonWorths : MethodName := ⟨RX2, "reckonWorths", "(LTinkerTrials$Machine;II)V"⟩
abbrev cX2_longestRow : ByteArray := prog_4_method_4_code
def yX2_longestRow : MethodName := ⟨RX2, "longestRow", "(LTinkerTrials$Machine;III)I"⟩
abbrev cX2_listStates : ByteArray := prog_4_method_5_code
def yX2_listStates : MethodName := ⟨RX2, "listStates", "(LTinkerTrials$Machine;II)I"⟩
abbrev cX2_layRow : ByteArray := prog_4_method_6_code
def yX2_layRow : MethodName := ⟨RX2, "layRow", "(LTinkerTrials$Machine;IIII)V"⟩
abbrev cX2_eliminate : ByteArray := prog_4_method_7_code
def yX2_eliminate : MethodName := ⟨RX2, "eliminate", "(I)V"⟩
abbrev cX2_cellAt : ByteArray := prog_4_method_8_code
def yX2_cellAt : MethodName := ⟨RX2, "cellAt", "(II)J"⟩
abbrev cX2_setCell : ByteArray := prog_4_method_9_code
def yX2_setCell : MethodName := ⟨RX2, "setCell", "(IIJ)V"⟩
def RX3 : String := "TinkerTrials$Sheet"
def TX3 : u_T := fun k => match k with
  | 0 => ("TinkerTrials$Sheet", "kind", "I", true)
  | 1 => ("TinkerTrials$Sheet", "places", "[J", true)
  | _ => ("TinkerTrials$Sheet", "missing", "Z", false)
def tyX3 : Nat → FieldType := fun k => match k with
  | 0 => .int
  | 1 => .array .long
  | _ => .boolean
abbrev wsX30 : List Cond := u_ws RX3 TX3 3
theorem nmX3 : ∀ a, a < 3 → ∀ b, b < 3 → a ≠ b → (TX3 a).2.1 ≠ (TX3 b).2.1 := by decide +kernel
theorem tyX3_ok : ∀ k, k < 3 → parseFieldDescriptor (TX3 k).2.2.1 = some (tyX3 k) := by decide +kernel
abbrev cX3_init : ByteArray := prog_5_method_1_code
def yX3_init : MethodName := ⟨RX3, "<init>", "(II)V"⟩
abbrev cX3_hasPlaces : ByteArray := prog_5_method_2_code
def yX3_hasPlaces : MethodName := ⟨RX3, "hasPlaces", "(II)Z"⟩
abbrev cX3_placeAt : ByteArray := prog_5_method_3_code
def yX3_placeAt : MethodName := ⟨RX3, "placeAt", "(I)J"⟩
abbrev cX3_put : ByteArray := prog_5_method_4_code
def yX3_put : MethodName := ⟨RX3, "put", "(IJ)V"⟩
abbrev cX3_cut : ByteArray := prog_5_method_5_code
def yX3_cut : MethodName := ⟨RX3, "cut", "(J)J"⟩
def RX4 : String := "TinkerTrials"
def TX4 : u_T := fun k => match k with
  | 0 => ("TinkerTrials", "machines", "[LTinkerTrials$Machine;", true)
  | 1 => ("TinkerTrials", "sheets", "[LTinkerTrials$Sheet;", true)
  | 2 => ("TinkerTrials", "reckoner", "LTinkerTrials$Reckoner;", true)
  | 3 => ("TinkerTrials", "toldLast", "LTinkerTrials$Fraction;", true)
  | 4 => ("TinkerTrials", "foundTimes", "[I", true)
  | 5 => ("TinkerTrials", "keptSteps", "[I", true)
  | 6 => ("TinkerTrials", "machineCount", "I", false)
  | 7 => ("TinkerTrials", "sheetCount", "I", false)
  | 8 => ("TinkerTrials", "shareUpper", "I", false)
  | 9 => ("TinkerTrials", "shareLower", "I", false)
  | 10 => ("TinkerTrials", "seedNow", "I", false)
  | 11 => ("TinkerTrials", "keptCount", "I", false)
  | 12 => ("TinkerTrials", "foundLast", "I", false)
  | 13 => ("TinkerTrials", "askedLast", "J", false)
  | _ => ("TinkerTrials", "paidEver", "J", false)
def tyX4 : Nat → FieldType := fun k => match k with
  | 0 => .array (.object "TinkerTrials$Machine")
  | 1 => .array (.object "TinkerTrials$Sheet")
  | 2 => .object "TinkerTrials$Reckoner"
  | 3 => .object "TinkerTrials$Fraction"
  | 4 => .array .int
  | 5 => .array .int
  | 6 => .int
  | 7 => .int
  | 8 => .int
  | 9 => .int
  | 10 => .int
  | 11 => .int
  | 12 => .int
  | 13 => .long
  | _ => .long
abbrev wsX40 : List Cond := u_ws RX4 TX4 15
theorem nmX4 : ∀ a, a < 15 → ∀ b, b < 15 → a ≠ b → (TX4 a).2.1 ≠ (TX4 b).2.1 := by decide +kernel
theorem tyX4_ok : ∀ k, k < 15 → parseFieldDescriptor (TX4 k).2.2.1 = some (tyX4 k) := by decide +kernel
abbrev cX4_init : ByteArray := prog_1_method_1_code
def yX4_init : MethodName := ⟨RX4, "<init>", "()V"⟩
abbrev cX4_share : ByteArray := prog_1_method_2_code
def yX4_share : MethodName := ⟨RX4, "share", "(II)I"⟩
abbrev cX4_sheet : ByteArray := prog_1_method_3_code
def yX4_sheet : MethodName := ⟨RX4, "sheet", "(II)I"⟩
abbrev cX4_tear : ByteArray := prog_1_method_4_code
def yX4_tear : MethodName := ⟨RX4, "tear", "(I)I"⟩
abbrev cX4_lay : ByteArray := prog_1_method_5_code
def yX4_lay : MethodName := ⟨RX4, "lay", "(IIJ)I"⟩
abbrev cX4_get : ByteArray := prog_1_method_6_code
def yX4_get : MethodName := ⟨RX4, "get", "(II)I"⟩
abbrev cX4_copy : ByteArray := prog_1_method_7_code
def yX4_copy : MethodName := ⟨RX4, "copy", "(IIIII)I"⟩
abbrev cX4_machine : ByteArray := prog_1_method_8_code
def yX4_machine : MethodName := ⟨RX4, "machine", "(II)I"⟩
abbrev cX4_is : ByteArray := prog_1_method_9_code
def yX4_is : MethodName := ⟨RX4, "is", "(II)I"⟩
abbrev cX4_told : ByteArray := prog_1_method_10_code
def yX4_told : MethodName := ⟨RX4, "told", "(II)I"⟩
abbrev cX4_pay : ByteArray := prog_1_method_11_code
def yX4_pay : MethodName := ⟨RX4, "pay", "(III)I"⟩
abbrev cX4_chance : ByteArray := prog_1_method_12_code
def yX4_chance : MethodName := ⟨RX4, "chance", "(IIII)I"⟩
abbrev cX4_fill : ByteArray := prog_1_method_13_code
def yX4_fill : MethodName := ⟨RX4, "fill", "(III)I"⟩
abbrev cX4_ask : ByteArray := prog_1_method_14_code
def yX4_ask : MethodName := ⟨RX4, "ask", "(III)I"⟩
abbrev cX4_stand : ByteArray := prog_1_method_15_code
def yX4_stand : MethodName := ⟨RX4, "stand", "(II)I"⟩
abbrev cX4_worth : ByteArray := prog_1_method_16_code
def yX4_worth : MethodName := ⟨RX4, "worth", "(II)I"⟩
abbrev cX4_way : ByteArray := prog_1_method_17_code
def yX4_way : MethodName := ⟨RX4, "way", "(III)I"⟩
abbrev cX4_upper : ByteArray := prog_1_method_18_code
def yX4_upper : MethodName := ⟨RX4, "upper", "()J"⟩
abbrev cX4_lower : ByteArray := prog_1_method_19_code
def yX4_lower : MethodName := ⟨RX4, "lower", "()J"⟩
abbrev cX4_order : ByteArray := prog_1_method_20_code
def yX4_order : MethodName := ⟨RX4, "order", "(II)I"⟩
abbrev cX4_goes : ByteArray := prog_1_method_21_code
def yX4_goes : MethodName := ⟨RX4, "goes", "(II)I"⟩
abbrev cX4_even : ByteArray := prog_1_method_22_code
def yX4_even : MethodName := ⟨RX4, "even", "(IIII)I"⟩
abbrev cX4_better : ByteArray := prog_1_method_23_code
def yX4_better : MethodName := ⟨RX4, "better", "(II)I"⟩
abbrev cX4_mean : ByteArray := prog_1_method_24_code
def yX4_mean : MethodName := ⟨RX4, "mean", "(II)I"⟩
abbrev cX4_row : ByteArray := prog_1_method_25_code
def yX4_row : MethodName := ⟨RX4, "row", "(II)I"⟩
abbrev cX4_least : ByteArray := prog_1_method_26_code
def yX4_least : MethodName := ⟨RX4, "least", "(I)I"⟩
abbrev cX4_compare : ByteArray := prog_1_method_27_code
def yX4_compare : MethodName := ⟨RX4, "compare", "(IIII)I"⟩
abbrev cX4_seed : ByteArray := prog_1_method_28_code
def yX4_seed : MethodName := ⟨RX4, "seed", "(I)I"⟩
abbrev cX4_best : ByteArray := prog_1_method_29_code
def yX4_best : MethodName := ⟨RX4, "best", "()I"⟩
abbrev cX4_work : ByteArray := prog_1_method_30_code
def yX4_work : MethodName := ⟨RX4, "work", "(I)I"⟩
abbrev cX4_run : ByteArray := prog_1_method_31_code
def yX4_run : MethodName := ⟨RX4, "run", "(I)I"⟩
abbrev cX4_step : ByteArray := prog_1_method_32_code
def yX4_step : MethodName := ⟨RX4, "step", "(I)I"⟩
abbrev cX4_worked : ByteArray := prog_1_method_33_code
def yX4_worked : MethodName := ⟨RX4, "worked", "(I)I"⟩
abbrev cX4_paid : ByteArray := prog_1_method_34_code
def yX4_paid : MethodName := ⟨RX4, "paid", "()J"⟩
abbrev cX4_fail : ByteArray := prog_1_method_35_code
def yX4_fail : MethodName := ⟨RX4, "fail", "(II)I"⟩
abbrev cX4_asked : ByteArray := prog_1_method_36_code
def yX4_asked : MethodName := ⟨RX4, "asked", "()J"⟩
abbrev cX4_count : ByteArray := prog_1_method_37_code
def yX4_count : MethodName := ⟨RX4, "count", "(I)I"⟩
abbrev cX4_finding : ByteArray := prog_1_method_38_code
def yX4_finding : MethodName := ⟨RX4, "finding", "()I"⟩
abbrev cX4_findings : ByteArray := prog_1_method_39_code
def yX4_findings : MethodName := ⟨RX4, "findings", "(I)I"⟩
abbrev cX4_digest : ByteArray := prog_1_method_40_code
def yX4_digest : MethodName := ⟨RX4, "digest", "()J"⟩
abbrev cX4_machineAt : ByteArray := prog_1_method_41_code
def yX4_machineAt : MethodName := ⟨RX4, "machineAt", "(I)LTinkerTrials$Machine;"⟩
abbrev cX4_sheetAt : ByteArray := prog_1_method_42_code
def yX4_sheetAt : MethodName := ⟨RX4, "sheetAt", "(I)LTinkerTrials$Sheet;"⟩
abbrev cX4_found : ByteArray := prog_1_method_43_code
def yX4_found : MethodName := ⟨RX4, "found", "(I)I"⟩
abbrev cX4_isPay : ByteArray := prog_1_method_44_code
def yX4_isPay : MethodName := ⟨RX4, "isPay", "(J)Z"⟩
abbrev cX4_fits : ByteArray := prog_1_method_45_code
def yX4_fits : MethodName := ⟨RX4, "fits", "(II)Z"⟩
abbrev cX4_asAnswer : ByteArray := prog_1_method_46_code
def yX4_asAnswer : MethodName := ⟨RX4, "asAnswer", "(I)I"⟩
abbrev cX4_worthOf : ByteArray := prog_1_method_47_code
def yX4_worthOf : MethodName := ⟨RX4, "worthOf", "(LTinkerTrials$Machine;I)LTinkerTrials$Fraction;"⟩
abbrev cX4_rankOf : ByteArray := prog_1_method_48_code
def yX4_rankOf : MethodName := ⟨RX4, "rankOf", "(LTinkerTrials$Machine;I)I"⟩
abbrev cX4_bestMachine : ByteArray := prog_1_method_49_code
def yX4_bestMachine : MethodName := ⟨RX4, "bestMachine", "()I"⟩
abbrev cX4_workOnce : ByteArray := prog_1_method_50_code
def yX4_workOnce : MethodName := ⟨RX4, "workOnce", "(LTinkerTrials$Machine;)I"⟩
abbrev cX4_draw : ByteArray := prog_1_method_51_code
def yX4_draw : MethodName := ⟨RX4, "draw", "(I)I"⟩
abbrev cX4_mix : ByteArray := prog_1_method_52_code
def yX4_mix : MethodName := ⟨RX4, "mix", "(JJ)J"⟩
abbrev cX4_mixMachine : ByteArray := prog_1_method_53_code
def yX4_mixMachine : MethodName := ⟨RX4, "mixMachine", "(JLTinkerTrials$Machine;)J"⟩
abbrev cX4_mixSheet : ByteArray := prog_1_method_54_code
def yX4_mixSheet : MethodName := ⟨RX4, "mixSheet", "(JLTinkerTrials$Sheet;)J"⟩
def RX5 : String := "TinkerTrialsModel"
def TX5 : u_T := fun k => match k with
  | 0 => ("TinkerTrialsModel", "latest", "I", false)
  | 1 => ("TinkerTrialsModel", "came", "[I", true)
  | 2 => ("TinkerTrialsModel", "p", "I", false)
  | 3 => ("TinkerTrialsModel", "q", "I", false)
  | 4 => ("TinkerTrialsModel", "sheets", "I", false)
  | 5 => ("TinkerTrialsModel", "sheetKind", "[I", true)
  | 6 => ("TinkerTrialsModel", "sheetSize", "[I", true)
  | 7 => ("TinkerTrialsModel", "sheet", "[J", true)
  | 8 => ("TinkerTrialsModel", "asked", "J", false)
  | 9 => ("TinkerTrialsModel", "copied", "[J", true)
  | 10 => ("TinkerTrialsModel", "machines", "I", false)
  | 11 => ("TinkerTrialsModel", "kindOf", "[I", true)
  | 12 => ("TinkerTrialsModel", "stateMany", "[I", true)
  | 13 => ("TinkerTrialsModel", "stands", "[I", true)
  | 14 => ("TinkerTrialsModel", "pays", "[I", true)
  | 15 => ("TinkerTrialsModel", "weights", "[I", true)
  | 16 => ("TinkerTrialsModel", "workedOn", "[I", true)
  | 17 => ("TinkerTrialsModel", "up", "J", false)
  | 18 => ("TinkerTrialsModel", "low", "J", false)
  | 19 => ("TinkerTrialsModel", "toldUpper", "J", false)
  | 20 => ("TinkerTrialsModel", "toldLower", "J", false)
  | 21 => ("TinkerTrialsModel", "table", "[J", true)
  | 22 => ("TinkerTrialsModel", "byset", "[J", true)
  | 23 => ("TinkerTrialsModel", "worthUp", "[J", true)
  | 24 => ("TinkerTrialsModel", "worthLow", "[J", true)
  | 25 => ("TinkerTrialsModel", "row", "[I", true)
  | 26 => ("TinkerTrialsModel", "seed", "I", false)
  | 27 => ("TinkerTrialsModel", "paid", "J", false)
  | 28 => ("TinkerTrialsModel", "ran", "I", false)
  | _ => ("TinkerTrialsModel", "ranOn", "[I", true)
def tyX5 : Nat → FieldType := fun k => match k with
  | 0 => .int
  | 1 => .array .int
  | 2 => .int
  | 3 => .int
  | 4 => .int
  | 5 => .array .int
  | 6 => .array .int
  | 7 => .array .long
  | 8 => .long
  | 9 => .array .long
  | 10 => .int
  | 11 => .array .int
  | 12 => .array .int
  | 13 => .array .int
  | 14 => .array .int
  | 15 => .array .int
  | 16 => .array .int
  | 17 => .long
  | 18 => .long
  | 19 => .long
  | 20 => .long
  | 21 => .array .long
  | 22 => .array .long
  | 23 => .array .long
  | 24 => .array .long
  | 25 => .array .int
  | 26 => .int
  | 27 => .long
  | 28 => .int
  | _ => .array .int
abbrev wsX50 : List Cond := u_ws RX5 TX5 30
theorem nmX5 : ∀ a, a < 30 → ∀ b, b < 30 → a ≠ b → (TX5 a).2.1 ≠ (TX5 b).2.1 := by decide +kernel
theorem tyX5_ok : ∀ k, k < 30 → parseFieldDescriptor (TX5 k).2.2.1 = some (tyX5 k) := by decide +kernel
abbrev cX5_init : ByteArray := prog_7_method_1_code
def yX5_init : MethodName := ⟨RX5, "<init>", "()V"⟩
abbrev cX5_in : ByteArray := prog_7_method_2_code
def yX5_in : MethodName := ⟨RX5, "in", "(JJJ)Z"⟩
abbrev cX5_meets : ByteArray := prog_7_method_3_code
def yX5_meets : MethodName := ⟨RX5, "meets", "(I)I"⟩
abbrev cX5_finding : ByteArray := prog_7_method_4_code
def yX5_finding : MethodName := ⟨RX5, "finding", "()I"⟩
abbrev cX5_findings : ByteArray := prog_7_method_5_code
def yX5_findings : MethodName := ⟨RX5, "findings", "(I)I"⟩
abbrev cX5_share : ByteArray := prog_7_method_6_code
def yX5_share : MethodName := ⟨RX5, "share", "(II)I"⟩
abbrev cX5_isSheet : ByteArray := prog_7_method_7_code
def yX5_isSheet : MethodName := ⟨RX5, "isSheet", "(I)Z"⟩
abbrev cX5_sheet : ByteArray := prog_7_method_8_code
def yX5_sheet : MethodName := ⟨RX5, "sheet", "(II)I"⟩
abbrev cX5_tear : ByteArray := prog_7_method_9_code
def yX5_tear : MethodName := ⟨RX5, "tear", "(I)I"⟩
abbrev cX5_lacks : ByteArray := prog_7_method_10_code
def yX5_lacks : MethodName := ⟨RX5, "lacks", "(II)I"⟩
abbrev cX5_lay : ByteArray := prog_7_method_11_code
def yX5_lay : MethodName := ⟨RX5, "lay", "(IIJ)I"⟩
abbrev cX5_get : ByteArray := prog_7_method_12_code
def yX5_get : MethodName := ⟨RX5, "get", "(II)I"⟩
abbrev cX5_copy : ByteArray := prog_7_method_13_code
def yX5_copy : MethodName := ⟨RX5, "copy", "(IIIII)I"⟩
abbrev cX5_isMachine : ByteArray := prog_7_method_14_code
def yX5_isMachine : MethodName := ⟨RX5, "isMachine", "(I)Z"⟩
abbrev cX5_isAgeing : ByteArray := prog_7_method_15_code
def yX5_isAgeing : MethodName := ⟨RX5, "isAgeing", "(I)Z"⟩
abbrev cX5_isState : ByteArray := prog_7_method_16_code
def yX5_isState : MethodName := ⟨RX5, "isState", "(II)Z"⟩
abbrev cX5_machine : ByteArray := prog_7_method_17_code
def yX5_machine : MethodName := ⟨RX5, "machine", "(II)I"⟩
abbrev cX5_is : ByteArray := prog_7_method_18_code
def yX5_is : MethodName := ⟨RX5, "is", "(II)I"⟩
abbrev cX5_told : ByteArray := prog_7_method_19_code
def yX5_told : MethodName := ⟨RX5, "told", "(II)I"⟩
abbrev cX5_mayPay : ByteArray := prog_7_method_20_code
def yX5_mayPay : MethodName := ⟨RX5, "mayPay", "(II)Z"⟩
abbrev cX5_pay : ByteArray := prog_7_method_21_code
def yX5_pay : MethodName := ⟨RX5, "pay", "(III)I"⟩
abbrev cX5_sum : ByteArray := prog_7_method_22_code
def yX5_sum : MethodName := ⟨RX5, "sum", "(II)I"⟩
abbrev cX5_chance : ByteArray := prog_7_method_23_code
def yX5_chance : MethodName := ⟨RX5, "chance", "(IIII)I"⟩
abbrev cX5_fill : ByteArray := prog_7_method_24_code
def yX5_fill : MethodName := ⟨RX5, "fill", "(III)I"⟩
abbrev cX5_ask : ByteArray := prog_7_method_25_code
def yX5_ask : MethodName := ⟨RX5, "ask", "(III)I"⟩
abbrev cX5_asked : ByteArray := prog_7_method_26_code
def yX5_asked : MethodName := ⟨RX5, "asked", "()J"⟩
abbrev cX5_stand : ByteArray := prog_7_method_27_code
def yX5_stand : MethodName := ⟨RX5, "stand", "(II)I"⟩
abbrev cX5_gcd : ByteArray := prog_7_method_28_code
def yX5_gcd : MethodName := ⟨RX5, "gcd", "(JJ)J"⟩
abbrev cX5_fraction : ByteArray := prog_7_method_29_code
def yX5_fraction : MethodName := ⟨RX5, "fraction", "(JJ)V"⟩
abbrev cX5_tells : ByteArray := prog_7_method_30_code
def yX5_tells : MethodName := ⟨RX5, "tells", "()I"⟩
abbrev cX5_upper : ByteArray := prog_7_method_31_code
def yX5_upper : MethodName := ⟨RX5, "upper", "()J"⟩
abbrev cX5_lower : ByteArray := prog_7_method_32_code
def yX5_lower : MethodName := ⟨RX5, "lower", "()J"⟩
abbrev cX5_cutDown : ByteArray := prog_7_method_33_code
def yX5_cutDown : MethodName := ⟨RX5, "cutDown", "(JJ)J"⟩
abbrev cX5_compared : ByteArray := prog_7_method_34_code
def yX5_compared : MethodName := ⟨RX5, "compared", "(JJJJ)I"⟩
abbrev cX5_determinant : ByteArray := prog_7_method_35_code
def yX5_determinant : MethodName := ⟨RX5, "determinant", "(I)J"⟩
abbrev cX5_layTable : ByteArray := prog_7_method_36_code
def yX5_layTable : MethodName := ⟨RX5, "layTable", "(IIIZ)V"⟩
abbrev cX5_value : ByteArray := prog_7_method_37_code
def yX5_value : MethodName := ⟨RX5, "value", "(III)V"⟩
abbrev cX5_worthOf : ByteArray := prog_7_method_38_code
def yX5_worthOf : MethodName := ⟨RX5, "worthOf", "(II)V"⟩
abbrev cX5_need : ByteArray := prog_7_method_39_code
def yX5_need : MethodName := ⟨RX5, "need", "(II)I"⟩
abbrev cX5_worth : ByteArray := prog_7_method_40_code
def yX5_worth : MethodName := ⟨RX5, "worth", "(II)I"⟩
abbrev cX5_way : ByteArray := prog_7_method_41_code
def yX5_way : MethodName := ⟨RX5, "way", "(III)I"⟩
abbrev cX5_layWorths : ByteArray := prog_7_method_42_code
def yX5_layWorths : MethodName := ⟨RX5, "layWorths", "(I)V"⟩
abbrev cX5_between : ByteArray := prog_7_method_43_code
def yX5_between : MethodName := ⟨RX5, "between", "(II)I"⟩
abbrev cX5_order : ByteArray := prog_7_method_44_code
def yX5_order : MethodName := ⟨RX5, "order", "(II)I"⟩
abbrev cX5_goes : ByteArray := prog_7_method_45_code
def yX5_goes : MethodName := ⟨RX5, "goes", "(II)I"⟩
abbrev cX5_even : ByteArray := prog_7_method_46_code
def yX5_even : MethodName := ⟨RX5, "even", "(IIII)I"⟩
abbrev cX5_better : ByteArray := prog_7_method_47_code
def yX5_better : MethodName := ⟨RX5, "better", "(II)I"⟩
abbrev cX5_mean : ByteArray := prog_7_method_48_code
def yX5_mean : MethodName := ⟨RX5, "mean", "(II)I"⟩
abbrev cX5_row : ByteArray := prog_7_method_49_code
def yX5_row : MethodName := ⟨RX5, "row", "(II)I"⟩
abbrev cX5_least : ByteArray := prog_7_method_50_code
def yX5_least : MethodName := ⟨RX5, "least", "(I)I"⟩
abbrev cX5_compare : ByteArray := prog_7_method_51_code
def yX5_compare : MethodName := ⟨RX5, "compare", "(IIII)I"⟩
abbrev cX5_seed : ByteArray := prog_7_method_52_code
def yX5_seed : MethodName := ⟨RX5, "seed", "(I)I"⟩
abbrev cX5_best : ByteArray := prog_7_method_53_code
def yX5_best : MethodName := ⟨RX5, "best", "()I"⟩
abbrev cX5_works : ByteArray := prog_7_method_54_code
def yX5_works : MethodName := ⟨RX5, "works", "(I)I"⟩
abbrev cX5_work : ByteArray := prog_7_method_55_code
def yX5_work : MethodName := ⟨RX5, "work", "(I)I"⟩
abbrev cX5_run : ByteArray := prog_7_method_56_code
def yX5_run : MethodName := ⟨RX5, "run", "(I)I"⟩
abbrev cX5_step : ByteArray := prog_7_method_57_code
def yX5_step : MethodName := ⟨RX5, "step", "(I)I"⟩
abbrev cX5_worked : ByteArray := prog_7_method_58_code
def yX5_worked : MethodName := ⟨RX5, "worked", "(I)I"⟩
abbrev cX5_paid : ByteArray := prog_7_method_59_code
def yX5_paid : MethodName := ⟨RX5, "paid", "()J"⟩
abbrev cX5_fail : ByteArray := prog_7_method_60_code
def yX5_fail : MethodName := ⟨RX5, "fail", "(II)I"⟩
abbrev cX5_count : ByteArray := prog_7_method_61_code
def yX5_count : MethodName := ⟨RX5, "count", "(I)I"⟩
abbrev cX5_digest : ByteArray := prog_7_method_62_code
def yX5_digest : MethodName := ⟨RX5, "digest", "()J"⟩
def RJ9 : String := "java/lang/Math"
abbrev cJ9_floorDiv_f86c9 : ByteArray := prog_8_method_49_code
def yJ9_floorDiv_f86c9 : MethodName := ⟨RJ9, "floorDiv", "(JJ)J"⟩
abbrev cJ9_abs_067f4 : ByteArray := prog_8_method_61_code
def yJ9_abs_067f4 : MethodName := ⟨RJ9, "abs", "(J)J"⟩
abbrev cJ9_max_7cf53 : ByteArray := prog_8_method_65_code
def yJ9_max_7cf53 : MethodName := ⟨RJ9, "max", "(II)I"⟩
abbrev cJ9_min_7cf53 : ByteArray := prog_8_method_69_code
def yJ9_min_7cf53 : MethodName := ⟨RJ9, "min", "(II)I"⟩
def RJ10 : String := "java/lang/System"
def RL : String := "TinkerTrialsLaw"
abbrev cL_law : ByteArray := code
def yL_law : MethodName := ⟨RL, "law", "([I)Z"⟩
end
section
theorem dX0_init_0 : decode cX0_init 0 = .ok (.aload_n 0, 1) := by decide +kernel
theorem dX0_init_1 : decode cX0_init 1 = .ok (.invokespecial 1, 3) := by decide +kernel
theorem dX0_init_4 : decode cX0_init 4 = .ok (.aload_n 0, 1) := by decide +kernel
theorem dX0_init_5 : decode cX0_init 5 = .ok (.lconst 0, 1) := by decide +kernel
theorem dX0_init_6 : decode cX0_init 6 = .ok (.putfield 7, 3) := by decide +kernel
theorem dX0_init_9 : decode cX0_init 9 = .ok (.aload_n 0, 1) := by decide +kernel
theorem dX0_init_10 : decode cX0_init 10 = .ok (.lconst 1, 1) := by decide +kernel
theorem dX0_init_11 : decode cX0_init 11 = .ok (.putfield 13, 3) := by decide +kernel
theorem dX0_init_14 : decode cX0_init 14 = .ok (.return_, 1) := by decide +kernel
theorem dX0_take_0 : decode cX0_take 0 = .ok (.aload_n 0, 1) := by decide +kernel
theorem dX0_take_1 : decode cX0_take 1 = .ok (.aload_n 1, 1) := by decide +kernel
theorem dX0_take_2 : decode cX0_take 2 = .ok (.getfield 7, 3) := by decide +kernel
theorem dX0_take_5 : decode cX0_take 5 = .ok (.putfield 7, 3) := by decide +kernel
theorem dX0_take_8 : decode cX0_take 8 = .ok (.aload_n 0, 1) := by decide +kernel
theorem dX0_take_9 : decode cX0_take 9 = .ok (.aload_n 1, 1) := by decide +kernel
theorem dX0_take_10 : decode cX0_take 10 = .ok (.getfield 13, 3) := by decide +kernel
theorem dX0_take_13 : decode cX0_take 13 = .ok (.putfield 13, 3) := by decide +kernel
theorem dX0_take_16 : decode cX0_take 16 = .ok (.return_, 1) := by decide +kernel
theorem dX0_become_0 : decode cX0_become 0 = .ok (.lload_n 1, 1) := by decide +kernel
theorem dX0_become_1 : decode cX0_become 1 = .ok (.invokestatic 16, 3) := by decide +kernel
theorem dX0_become_4 : decode cX0_become 4 = .ok (.lload_n 3, 1) := by decide +kernel
theorem dX0_become_5 : decode cX0_become 5 = .ok (.invokestatic 22, 3) := by decide +kernel
theorem dX0_become_8 : decode cX0_become 8 = .ok (.lstore 5, 2) := by decide +kernel
theorem dX0_become_10 : decode cX0_become 10 = .ok (.lload_n 3, 1) := by decide +kernel
theorem dX0_become_11 : decode cX0_become 11 = .ok (.lconst 0, 1) := by decide +kernel
theorem dX0_become_12 : decode cX0_become 12 = .ok (.lcmp, 1) := by decide +kernel
theorem dX0_become_13 : decode cX0_become 13 = .ok (.ifCond .le 26, 3) := by decide +kernel
theorem dX0_become_16 : decode cX0_become 16 = .ok (.lload 5, 2) := by decide +kernel
theorem dX0_become_18 : decode cX0_become 18 = .ok (.lconst 0, 1) := by decide +kernel
theorem dX0_become_19 : decode cX0_become 19 = .ok (.lcmp, 1) := by decide +kernel
theorem dX0_become_20 : decode cX0_become 20 = .ok (.ifCond .le 19, 3) := by decide +kernel
theorem dX0_become_23 : decode cX0_become 23 = .ok (.aload_n 0, 1) := by decide +kernel
theorem dX0_become_24 : decode cX0_become 24 = .ok (.lload_n 1, 1) := by decide +kernel
theorem dX0_become_25 : decode cX0_become 25 = .ok (.lload 5, 2) := by decide +kernel
theorem dX0_become_27 : decode cX0_become 27 = .ok (.ldiv, 1) := by decide +kernel
theorem dX0_become_28 : decode cX0_become 28 = .ok (.putfield 7, 3) := by decide +kernel
theorem dX0_become_31 : decode cX0_become 31 = .ok (.aload_n 0, 1) := by decide +kernel
theorem dX0_become_32 : decode cX0_become 32 = .ok (.lload_n 3, 1) := by decide +kernel
theorem dX0_become_33 : decode cX0_become 33 = .ok (.lload 5, 2) := by decide +kernel
theorem dX0_become_35 : decode cX0_become 35 = .ok (.ldiv, 1) := by decide +kernel
theorem dX0_become_36 : decode cX0_become 36 = .ok (.putfield 13, 3) := by decide +kernel
theorem dX0_become_39 : decode cX0_become 39 = .ok (.return_, 1) := by decide +kernel
theorem dX0_against_0 : decode cX0_against 0 = .ok (.aload_n 0, 1) := by decide +kernel
theorem dX0_against_1 : decode cX0_against 1 = .ok (.getfield 7, 3) := by decide +kernel
theorem dX0_against_4 : decode cX0_against 4 = .ok (.aload_n 0, 1) := by decide +kernel
theorem dX0_against_5 : decode cX0_against 5 = .ok (.getfield 13, 3) := by decide +kernel
theorem dX0_against_8 : decode cX0_against 8 = .ok (.aload_n 1, 1) := by decide +kernel
theorem dX0_against_9 : decode cX0_against 9 = .ok (.getfield 7, 3) := by decide +kernel
theorem dX0_against_12 : decode cX0_against 12 = .ok (.aload_n 1, 1) := by decide +kernel
theorem dX0_against_13 : decode cX0_against 13 = .ok (.getfield 13, 3) := by decide +kernel
theorem dX0_against_16 : decode cX0_against 16 = .ok (.invokestatic 26, 3) := by decide +kernel
theorem dX0_against_19 : decode cX0_against 19 = .ok (.ireturn, 1) := by decide +kernel
theorem dX0_common_0 : decode cX0_common 0 = .ok (.lload_n 0, 1) := by decide +kernel
theorem dX0_common_1 : decode cX0_common 1 = .ok (.lstore 4, 2) := by decide +kernel
theorem dX0_common_3 : decode cX0_common 3 = .ok (.lload_n 2, 1) := by decide +kernel
theorem dX0_common_4 : decode cX0_common 4 = .ok (.lstore 6, 2) := by decide +kernel
theorem dX0_common_6 : decode cX0_common 6 = .ok (.iconst 0, 1) := by decide +kernel
theorem dX0_common_7 : decode cX0_common 7 = .ok (.istore 8, 2) := by decide +kernel
theorem dX0_common_9 : decode cX0_common 9 = .ok (.iload 8, 2) := by decide +kernel
theorem dX0_common_11 : decode cX0_common 11 = .ok (.sipush 200, 3) := by decide +kernel
theorem dX0_common_14 : decode cX0_common 14 = .ok (.if_icmp .ge 31, 3) := by decide +kernel
theorem dX0_common_17 : decode cX0_common 17 = .ok (.lload 6, 2) := by decide +kernel
theorem dX0_common_19 : decode cX0_common 19 = .ok (.lconst 0, 1) := by decide +kernel
theorem dX0_common_20 : decode cX0_common 20 = .ok (.lcmp, 1) := by decide +kernel
theorem dX0_common_21 : decode cX0_common 21 = .ok (.ifCond .eq 24, 3) := by decide +kernel
theorem dX0_common_24 : decode cX0_common 24 = .ok (.lload 4, 2) := by decide +kernel
theorem dX0_common_26 : decode cX0_common 26 = .ok (.lload 6, 2) := by decide +kernel
theorem dX0_common_28 : decode cX0_common 28 = .ok (.lrem, 1) := by decide +kernel
theorem dX0_common_29 : decode cX0_common 29 = .ok (.lstore 9, 2) := by decide +kernel
theorem dX0_common_31 : decode cX0_common 31 = .ok (.lload 6, 2) := by decide +kernel
theorem dX0_common_33 : decode cX0_common 33 = .ok (.lstore 4, 2) := by decide +kernel
theorem dX0_common_35 : decode cX0_common 35 = .ok (.lload 9, 2) := by decide +kernel
theorem dX0_common_37 : decode cX0_common 37 = .ok (.lstore 6, 2) := by decide +kernel
theorem dX0_common_39 : decode cX0_common 39 = .ok (.iinc 8 1, 3) := by decide +kernel
theorem dX0_common_42 : decode cX0_common 42 = .ok (.goto (-33), 3) := by decide +kernel
theorem dX0_common_45 : decode cX0_common 45 = .ok (.lload 4, 2) := by decide +kernel
theorem dX0_common_47 : decode cX0_common 47 = .ok (.lreturn, 1) := by decide +kernel
theorem dX0_weigh_0 : decode cX0_weigh 0 = .ok (.lload_n 0, 1) := by decide +kernel
theorem dX0_weigh_1 : decode cX0_weigh 1 = .ok (.lstore 8, 2) := by decide +kernel
theorem dX0_weigh_3 : decode cX0_weigh 3 = .ok (.lload_n 2, 1) := by decide +kernel
theorem dX0_weigh_4 : decode cX0_weigh 4 = .ok (.lstore 10, 2) := by decide +kernel
theorem dX0_weigh_6 : decode cX0_weigh 6 = .ok (.lload 4, 2) := by decide +kernel
theorem dX0_weigh_8 : decode cX0_weigh 8 = .ok (.lstore 12, 2) := by decide +kernel
theorem dX0_weigh_10 : decode cX0_weigh 10 = .ok (.lload 6, 2) := by decide +kernel
theorem dX0_weigh_12 : decode cX0_weigh 12 = .ok (.lstore 14, 2) := by decide +kernel
theorem dX0_weigh_14 : decode cX0_weigh 14 = .ok (.iconst 1, 1) := by decide +kernel
theorem dX0_weigh_15 : decode cX0_weigh 15 = .ok (.istore 16, 2) := by decide +kernel
theorem dX0_weigh_17 : decode cX0_weigh 17 = .ok (.iconst 0, 1) := by decide +kernel
theorem dX0_weigh_18 : decode cX0_weigh 18 = .ok (.istore 17, 2) := by decide +kernel
theorem dX0_weigh_20 : decode cX0_weigh 20 = .ok (.iload 17, 2) := by decide +kernel
theorem dX0_weigh_22 : decode cX0_weigh 22 = .ok (.sipush 200, 3) := by decide +kernel
theorem dX0_weigh_25 : decode cX0_weigh 25 = .ok (.if_icmp .ge 107, 3) := by decide +kernel
theorem dX0_weigh_28 : decode cX0_weigh 28 = .ok (.lload 10, 2) := by decide +kernel
theorem dX0_weigh_30 : decode cX0_weigh 30 = .ok (.lconst 0, 1) := by decide +kernel
theorem dX0_weigh_31 : decode cX0_weigh 31 = .ok (.lcmp, 1) := by decide +kernel
theorem dX0_weigh_32 : decode cX0_weigh 32 = .ok (.ifCond .le 100, 3) := by decide +kernel
theorem dX0_weigh_35 : decode cX0_weigh 35 = .ok (.lload 14, 2) := by decide +kernel
theorem dX0_weigh_37 : decode cX0_weigh 37 = .ok (.lconst 0, 1) := by decide +kernel
theorem dX0_weigh_38 : decode cX0_weigh 38 = .ok (.lcmp, 1) := by decide +kernel
theorem dX0_weigh_39 : decode cX0_weigh 39 = .ok (.ifCond .le 93, 3) := by decide +kernel
theorem dX0_weigh_42 : decode cX0_weigh 42 = .ok (.lload 8, 2) := by decide +kernel
theorem dX0_weigh_44 : decode cX0_weigh 44 = .ok (.lload 10, 2) := by decide +kernel
theorem dX0_weigh_46 : decode cX0_weigh 46 = .ok (.invokestatic 30, 3) := by decide +kernel
theorem dX0_weigh_49 : decode cX0_weigh 49 = .ok (.lstore 18, 2) := by decide +kernel
theorem dX0_weigh_51 : decode cX0_weigh 51 = .ok (.lload 12, 2) := by decide +kernel
theorem dX0_weigh_53 : decode cX0_weigh 53 = .ok (.lload 14, 2) := by decide +kernel
theorem dX0_weigh_55 : decode cX0_weigh 55 = .ok (.invokestatic 30, 3) := by decide +kernel
theorem dX0_weigh_58 : decode cX0_weigh 58 = .ok (.lstore 20, 2) := by decide +kernel
theorem dX0_weigh_60 : decode cX0_weigh 60 = .ok (.lload 18, 2) := by decide +kernel
theorem dX0_weigh_62 : decode cX0_weigh 62 = .ok (.lload 20, 2) := by decide +kernel
theorem dX0_weigh_64 : decode cX0_weigh 64 = .ok (.lcmp, 1) := by decide +kernel
theorem dX0_weigh_65 : decode cX0_weigh 65 = .ok (.ifCond .eq 20, 3) := by decide +kernel
theorem dX0_weigh_68 : decode cX0_weigh 68 = .ok (.lload 18, 2) := by decide +kernel
theorem dX0_weigh_70 : decode cX0_weigh 70 = .ok (.lload 20, 2) := by decide +kernel
theorem dX0_weigh_72 : decode cX0_weigh 72 = .ok (.lcmp, 1) := by decide +kernel
theorem dX0_weigh_73 : decode cX0_weigh 73 = .ok (.ifCond .le 8, 3) := by decide +kernel
theorem dX0_weigh_76 : decode cX0_weigh 76 = .ok (.iload 16, 2) := by decide +kernel
theorem dX0_weigh_78 : decode cX0_weigh 78 = .ok (.goto 6, 3) := by decide +kernel
theorem dX0_weigh_81 : decode cX0_weigh 81 = .ok (.iload 16, 2) := by decide +kernel
theorem dX0_weigh_83 : decode cX0_weigh 83 = .ok (.ineg, 1) := by decide +kernel
theorem dX0_weigh_84 : decode cX0_weigh 84 = .ok (.ireturn, 1) := by decide +kernel
theorem dX0_weigh_85 : decode cX0_weigh 85 = .ok (.lload 8, 2) := by decide +kernel
theorem dX0_weigh_87 : decode cX0_weigh 87 = .ok (.lload 18, 2) := by decide +kernel
theorem dX0_weigh_89 : decode cX0_weigh 89 = .ok (.lload 10, 2) := by decide +kernel
theorem dX0_weigh_91 : decode cX0_weigh 91 = .ok (.lmul, 1) := by decide +kernel
theorem dX0_weigh_92 : decode cX0_weigh 92 = .ok (.lsub, 1) := by decide +kernel
theorem dX0_weigh_93 : decode cX0_weigh 93 = .ok (.lstore 22, 2) := by decide +kernel
theorem dX0_weigh_95 : decode cX0_weigh 95 = .ok (.lload 12, 2) := by decide +kernel
theorem dX0_weigh_97 : decode cX0_weigh 97 = .ok (.lload 20, 2) := by decide +kernel
theorem dX0_weigh_99 : decode cX0_weigh 99 = .ok (.lload 14, 2) := by decide +kernel
theorem dX0_weigh_101 : decode cX0_weigh 101 = .ok (.lmul, 1) := by decide +kernel
theorem dX0_weigh_102 : decode cX0_weigh 102 = .ok (.lsub, 1) := by decide +kernel
theorem dX0_weigh_103 : decode cX0_weigh 103 = .ok (.lstore 24, 2) := by decide +kernel
theorem dX0_weigh_105 : decode cX0_weigh 105 = .ok (.lload 10, 2) := by decide +kernel
theorem dX0_weigh_107 : decode cX0_weigh 107 = .ok (.lstore 8, 2) := by decide +kernel
theorem dX0_weigh_109 : decode cX0_weigh 109 = .ok (.lload 22, 2) := by decide +kernel
theorem dX0_weigh_111 : decode cX0_weigh 111 = .ok (.lstore 10, 2) := by decide +kernel
theorem dX0_weigh_113 : decode cX0_weigh 113 = .ok (.lload 14, 2) := by decide +kernel
theorem dX0_weigh_115 : decode cX0_weigh 115 = .ok (.lstore 12, 2) := by decide +kernel
theorem dX0_weigh_117 : decode cX0_weigh 117 = .ok (.lload 24, 2) := by decide +kernel
theorem dX0_weigh_119 : decode cX0_weigh 119 = .ok (.lstore 14, 2) := by decide +kernel
theorem dX0_weigh_121 : decode cX0_weigh 121 = .ok (.iload 16, 2) := by decide +kernel
theorem dX0_weigh_123 : decode cX0_weigh 123 = .ok (.ineg, 1) := by decide +kernel
theorem dX0_weigh_124 : decode cX0_weigh 124 = .ok (.istore 16, 2) := by decide +kernel
theorem dX0_weigh_126 : decode cX0_weigh 126 = .ok (.iinc 17 1, 3) := by decide +kernel
theorem dX0_weigh_129 : decode cX0_weigh 129 = .ok (.goto (-109), 3) := by decide +kernel
theorem dX0_weigh_132 : decode cX0_weigh 132 = .ok (.lload 10, 2) := by decide +kernel
theorem dX0_weigh_134 : decode cX0_weigh 134 = .ok (.lload 14, 2) := by decide +kernel
theorem dX0_weigh_136 : decode cX0_weigh 136 = .ok (.lcmp, 1) := by decide +kernel
theorem dX0_weigh_137 : decode cX0_weigh 137 = .ok (.ifCond .ne 5, 3) := by decide +kernel
theorem dX0_weigh_140 : decode cX0_weigh 140 = .ok (.iconst 0, 1) := by decide +kernel
theorem dX0_weigh_141 : decode cX0_weigh 141 = .ok (.ireturn, 1) := by decide +kernel
theorem dX0_weigh_142 : decode cX0_weigh 142 = .ok (.lload 10, 2) := by decide +kernel
theorem dX0_weigh_144 : decode cX0_weigh 144 = .ok (.lconst 0, 1) := by decide +kernel
theorem dX0_weigh_145 : decode cX0_weigh 145 = .ok (.lcmp, 1) := by decide +kernel
theorem dX0_weigh_146 : decode cX0_weigh 146 = .ok (.ifCond .ne 8, 3) := by decide +kernel
theorem dX0_weigh_149 : decode cX0_weigh 149 = .ok (.iload 16, 2) := by decide +kernel
theorem dX0_weigh_151 : decode cX0_weigh 151 = .ok (.goto 6, 3) := by decide +kernel
theorem dX0_weigh_154 : decode cX0_weigh 154 = .ok (.iload 16, 2) := by decide +kernel
theorem dX0_weigh_156 : decode cX0_weigh 156 = .ok (.ineg, 1) := by decide +kernel
theorem dX0_weigh_157 : decode cX0_weigh 157 = .ok (.ireturn, 1) := by decide +kernel
theorem dX1_init_0 : decode cX1_init 0 = .ok (.aload_n 0, 1) := by decide +kernel
theorem dX1_init_1 : decode cX1_init 1 = .ok (.invokespecial 3, 3) := by decide +kernel
theorem dX1_init_4 : decode cX1_init 4 = .ok (.aload_n 0, 1) := by decide +kernel
theorem dX1_init_5 : decode cX1_init 5 = .ok (.iconst 0, 1) := by decide +kernel
theorem dX1_init_6 : decode cX1_init 6 = .ok (.putfield 9, 3) := by decide +kernel
theorem dX1_init_9 : decode cX1_init 9 = .ok (.aload_n 0, 1) := by decide +kernel
theorem dX1_init_10 : decode cX1_init 10 = .ok (.iconst 0, 1) := by decide +kernel
theorem dX1_init_11 : decode cX1_init 11 = .ok (.putfield 15, 3) := by decide +kernel
theorem dX1_init_14 : decode cX1_init 14 = .ok (.aload_n 0, 1) := by decide +kernel
theorem dX1_init_15 : decode cX1_init 15 = .ok (.iconst 0, 1) := by decide +kernel
theorem dX1_init_16 : decode cX1_init 16 = .ok (.putfield 19, 3) := by decide +kernel
theorem dX1_init_19 : decode cX1_init 19 = .ok (.aload_n 0, 1) := by decide +kernel
theorem dX1_init_20 : decode cX1_init 20 = .ok (.iload_n 1, 1) := by decide +kernel
theorem dX1_init_21 : decode cX1_init 21 = .ok (.putfield 22, 3) := by decide +kernel
theorem dX1_init_24 : decode cX1_init 24 = .ok (.aload_n 0, 1) := by decide +kernel
theorem dX1_init_25 : decode cX1_init 25 = .ok (.iconst 1, 1) := by decide +kernel
theorem dX1_init_26 : decode cX1_init 26 = .ok (.iconst 5, 1) := by decide +kernel
theorem dX1_init_27 : decode cX1_init 27 = .ok (.iload_n 2, 1) := by decide +kernel
theorem dX1_init_28 : decode cX1_init 28 = .ok (.invokestatic 25, 3) := by decide +kernel
theorem dX1_init_31 : decode cX1_init 31 = .ok (.invokestatic 31, 3) := by decide +kernel
theorem dX1_init_34 : decode cX1_init 34 = .ok (.putfield 34, 3) := by decide +kernel
theorem dX1_init_37 : decode cX1_init 37 = .ok (.aload_n 0, 1) := by decide +kernel
theorem dX1_init_38 : decode cX1_init 38 = .ok (.aload_n 0, 1) := by decide +kernel
theorem dX1_init_39 : decode cX1_init 39 = .ok (.getfield 34, 3) := by decide +kernel
theorem dX1_init_42 : decode cX1_init 42 = .ok (.newarray .int, 2) := by decide +kernel
theorem dX1_init_44 : decode cX1_init 44 = .ok (.putfield 37, 3) := by decide +kernel
theorem dX1_init_47 : decode cX1_init 47 = .ok (.aload_n 0, 1) := by decide +kernel
theorem dX1_init_48 : decode cX1_init 48 = .ok (.aload_n 0, 1) := by decide +kernel
theorem dX1_init_49 : decode cX1_init 49 = .ok (.getfield 34, 3) := by decide +kernel
theorem dX1_init_52 : decode cX1_init 52 = .ok (.aload_n 0, 1) := by decide +kernel
theorem dX1_init_53 : decode cX1_init 53 = .ok (.getfield 34, 3) := by decide +kernel
theorem dX1_init_56 : decode cX1_init 56 = .ok (.imul, 1) := by decide +kernel
theorem dX1_init_57 : decode cX1_init 57 = .ok (.newarray .int, 2) := by decide +kernel
theorem dX1_init_59 : decode cX1_init 59 = .ok (.putfield 41, 3) := by decide +kernel
theorem dX1_init_62 : decode cX1_init 62 = .ok (.aload_n 0, 1) := by decide +kernel
theorem dX1_init_63 : decode cX1_init 63 = .ok (.aload_n 0, 1) := by decide +kernel
theorem dX1_init_64 : decode cX1_init 64 = .ok (.getfield 34, 3) := by decide +kernel
theorem dX1_init_67 : decode cX1_init 67 = .ok (.anewarray 44, 3) := by decide +kernel
theorem dX1_init_70 : decode cX1_init 70 = .ok (.putfield 46, 3) := by decide +kernel
theorem dX1_init_73 : decode cX1_init 73 = .ok (.iload_n 1, 1) := by decide +kernel
theorem dX1_init_74 : decode cX1_init 74 = .ok (.iconst 2, 1) := by decide +kernel
theorem dX1_init_75 : decode cX1_init 75 = .ok (.if_icmp .eq 8, 3) := by decide +kernel
theorem dX1_init_78 : decode cX1_init 78 = .ok (.iload_n 1, 1) := by decide +kernel
theorem dX1_init_79 : decode cX1_init 79 = .ok (.iconst 3, 1) := by decide +kernel
theorem dX1_init_80 : decode cX1_init 80 = .ok (.if_icmp .ne 7, 3) := by decide +kernel
theorem dX1_init_83 : decode cX1_init 83 = .ok (.iconst 1, 1) := by decide +kernel
theorem dX1_init_84 : decode cX1_init 84 = .ok (.goto 4, 3) := by decide +kernel
theorem dX1_init_87 : decode cX1_init 87 = .ok (.iconst 0, 1) := by decide +kernel
theorem dX1_init_88 : decode cX1_init 88 = .ok (.istore_n 3, 1) := by decide +kernel
theorem dX1_init_89 : decode cX1_init 89 = .ok (.iconst 0, 1) := by decide +kernel
theorem dX1_init_90 : decode cX1_init 90 = .ok (.istore 4, 2) := by decide +kernel
theorem dX1_init_92 : decode cX1_init 92 = .ok (.iload 4, 2) := by decide +kernel
theorem dX1_init_94 : decode cX1_init 94 = .ok (.aload_n 0, 1) := by decide +kernel
theorem dX1_init_95 : decode cX1_init 95 = .ok (.getfield 34, 3) := by decide +kernel
theorem dX1_init_98 : decode cX1_init 98 = .ok (.if_icmp .ge 65, 3) := by decide +kernel
theorem dX1_init_101 : decode cX1_init 101 = .ok (.iload_n 3, 1) := by decide +kernel
theorem dX1_init_102 : decode cX1_init 102 = .ok (.ifCond .eq 21, 3) := by decide +kernel
theorem dX1_init_105 : decode cX1_init 105 = .ok (.iload 4, 2) := by decide +kernel
theorem dX1_init_107 : decode cX1_init 107 = .ok (.aload_n 0, 1) := by decide +kernel
theorem dX1_init_108 : decode cX1_init 108 = .ok (.getfield 34, 3) := by decide +kernel
theorem dX1_init_111 : decode cX1_init 111 = .ok (.iconst 1, 1) := by decide +kernel
theorem dX1_init_112 : decode cX1_init 112 = .ok (.isub, 1) := by decide +kernel
theorem dX1_init_113 : decode cX1_init 113 = .ok (.if_icmp .ge 10, 3) := by decide +kernel
theorem dX1_init_116 : decode cX1_init 116 = .ok (.iload 4, 2) := by decide +kernel
theorem dX1_init_118 : decode cX1_init 118 = .ok (.iconst 1, 1) := by decide +kernel
theorem dX1_init_119 : decode cX1_init 119 = .ok (.iadd, 1) := by decide +kernel
theorem dX1_init_120 : decode cX1_init 120 = .ok (.goto 5, 3) := by decide +kernel
theorem dX1_init_123 : decode cX1_init 123 = .ok (.iload 4, 2) := by decide +kernel
theorem dX1_init_125 : decode cX1_init 125 = .ok (.istore 5, 2) := by decide +kernel
theorem dX1_init_127 : decode cX1_init 127 = .ok (.aload_n 0, 1) := by decide +kernel
theorem dX1_init_128 : decode cX1_init 128 = .ok (.getfield 41, 3) := by decide +kernel
theorem dX1_init_131 : decode cX1_init 131 = .ok (.iload 4, 2) := by decide +kernel
theorem dX1_init_133 : decode cX1_init 133 = .ok (.aload_n 0, 1) := by decide +kernel
theorem dX1_init_134 : decode cX1_init 134 = .ok (.getfield 34, 3) := by decide +kernel
theorem dX1_init_137 : decode cX1_init 137 = .ok (.imul, 1) := by decide +kernel
theorem dX1_init_138 : decode cX1_init 138 = .ok (.iload 5, 2) := by decide +kernel
theorem dX1_init_140 : decode cX1_init 140 = .ok (.iadd, 1) := by decide +kernel
theorem dX1_init_141 : decode cX1_init 141 = .ok (.iconst 1, 1) := by decide +kernel
theorem dX1_init_142 : decode cX1_init 142 = .ok (.iastore, 1) := by decide +kernel
theorem dX1_init_143 : decode cX1_init 143 = .ok (.aload_n 0, 1) := by decide +kernel
theorem dX1_init_144 : decode cX1_init 144 = .ok (.getfield 46, 3) := by decide +kernel
theorem dX1_init_147 : decode cX1_init 147 = .ok (.iload 4, 2) := by decide +kernel
theorem dX1_init_149 : decode cX1_init 149 = .ok (.new 44, 3) := by decide +kernel
theorem dX1_init_152 : decode cX1_init 152 = .ok (.dup, 1) := by decide +kernel
theorem dX1_init_153 : decode cX1_init 153 = .ok (.invokespecial 50, 3) := by decide +kernel
theorem dX1_init_156 : decode cX1_init 156 = .ok (.aastore, 1) := by decide +kernel
theorem dX1_init_157 : decode cX1_init 157 = .ok (.iinc 4 1, 3) := by decide +kernel
theorem dX1_init_160 : decode cX1_init 160 = .ok (.goto (-68), 3) := by decide +kernel
theorem dX1_init_163 : decode cX1_init 163 = .ok (.return_, 1) := by decide +kernel
theorem dX1_has_0 : decode cX1_has 0 = .ok (.iload_n 1, 1) := by decide +kernel
theorem dX1_has_1 : decode cX1_has 1 = .ok (.ifCond .lt 15, 3) := by decide +kernel
theorem dX1_has_4 : decode cX1_has 4 = .ok (.iload_n 1, 1) := by decide +kernel
theorem dX1_has_5 : decode cX1_has 5 = .ok (.aload_n 0, 1) := by decide +kernel
theorem dX1_has_6 : decode cX1_has 6 = .ok (.getfield 34, 3) := by decide +kernel
theorem dX1_has_9 : decode cX1_has 9 = .ok (.if_icmp .ge 7, 3) := by decide +kernel
theorem dX1_has_12 : decode cX1_has 12 = .ok (.iconst 1, 1) := by decide +kernel
theorem dX1_has_13 : decode cX1_has 13 = .ok (.goto 4, 3) := by decide +kernel
theorem dX1_has_16 : decode cX1_has 16 = .ok (.iconst 0, 1) := by decide +kernel
theorem dX1_has_17 : decode cX1_has 17 = .ok (.ireturn, 1) := by decide +kernel
theorem dX1_isUnder_0 : decode cX1_isUnder 0 = .ok (.iload_n 1, 1) := by decide +kernel
theorem dX1_isUnder_1 : decode cX1_isUnder 1 = .ok (.ifCond .eq 24, 3) := by decide +kernel
theorem dX1_isUnder_4 : decode cX1_isUnder 4 = .ok (.iload_n 1, 1) := by decide +kernel
theorem dX1_isUnder_5 : decode cX1_isUnder 5 = .ok (.aload_n 0, 1) := by decide +kernel
theorem dX1_isUnder_6 : decode cX1_isUnder 6 = .ok (.getfield 22, 3) := by decide +kernel
theorem dX1_isUnder_9 : decode cX1_isUnder 9 = .ok (.if_icmp .eq 16, 3) := by decide +kernel
theorem dX1_isUnder_12 : decode cX1_isUnder 12 = .ok (.iload_n 1, 1) := by decide +kernel
theorem dX1_isUnder_13 : decode cX1_isUnder 13 = .ok (.iconst 2, 1) := by decide +kernel
theorem dX1_isUnder_14 : decode cX1_isUnder 14 = .ok (.if_icmp .ne 15, 3) := by decide +kernel
theorem dX1_isUnder_17 : decode cX1_isUnder 17 = .ok (.aload_n 0, 1) := by decide +kernel
theorem dX1_isUnder_18 : decode cX1_isUnder 18 = .ok (.getfield 22, 3) := by decide +kernel
theorem dX1_isUnder_21 : decode cX1_isUnder 21 = .ok (.iconst 3, 1) := by decide +kernel
theorem dX1_isUnder_22 : decode cX1_isUnder 22 = .ok (.if_icmp .ne 7, 3) := by decide +kernel
theorem dX1_isUnder_25 : decode cX1_isUnder 25 = .ok (.iconst 1, 1) := by decide +kernel
theorem dX1_isUnder_26 : decode cX1_isUnder 26 = .ok (.goto 4, 3) := by decide +kernel
theorem dX1_isUnder_29 : decode cX1_isUnder 29 = .ok (.iconst 0, 1) := by decide +kernel
theorem dX1_isUnder_30 : decode cX1_isUnder 30 = .ok (.ireturn, 1) := by decide +kernel
theorem dX1_mayPay_0 : decode cX1_mayPay 0 = .ok (.aload_n 0, 1) := by decide +kernel
theorem dX1_mayPay_1 : decode cX1_mayPay 1 = .ok (.getfield 22, 3) := by decide +kernel
theorem dX1_mayPay_4 : decode cX1_mayPay 4 = .ok (.iconst 3, 1) := by decide +kernel
theorem dX1_mayPay_5 : decode cX1_mayPay 5 = .ok (.if_icmp .ne 13, 3) := by decide +kernel
theorem dX1_mayPay_8 : decode cX1_mayPay 8 = .ok (.iload_n 1, 1) := by decide +kernel
theorem dX1_mayPay_9 : decode cX1_mayPay 9 = .ok (.aload_n 0, 1) := by decide +kernel
theorem dX1_mayPay_10 : decode cX1_mayPay 10 = .ok (.getfield 34, 3) := by decide +kernel
theorem dX1_mayPay_13 : decode cX1_mayPay 13 = .ok (.iconst 2, 1) := by decide +kernel
theorem dX1_mayPay_14 : decode cX1_mayPay 14 = .ok (.isub, 1) := by decide +kernel
theorem dX1_mayPay_15 : decode cX1_mayPay 15 = .ok (.if_icmp .ne 7, 3) := by decide +kernel
theorem dX1_mayPay_18 : decode cX1_mayPay 18 = .ok (.iconst 1, 1) := by decide +kernel
theorem dX1_mayPay_19 : decode cX1_mayPay 19 = .ok (.goto 4, 3) := by decide +kernel
theorem dX1_mayPay_22 : decode cX1_mayPay 22 = .ok (.iconst 0, 1) := by decide +kernel
theorem dX1_mayPay_23 : decode cX1_mayPay 23 = .ok (.ireturn, 1) := by decide +kernel
theorem dX1_payAt_0 : decode cX1_payAt 0 = .ok (.iload_n 1, 1) := by decide +kernel
theorem dX1_payAt_1 : decode cX1_payAt 1 = .ok (.ifCond .lt 21, 3) := by decide +kernel
theorem dX1_payAt_4 : decode cX1_payAt 4 = .ok (.iload_n 1, 1) := by decide +kernel
theorem dX1_payAt_5 : decode cX1_payAt 5 = .ok (.aload_n 0, 1) := by decide +kernel
theorem dX1_payAt_6 : decode cX1_payAt 6 = .ok (.getfield 37, 3) := by decide +kernel
theorem dX1_payAt_9 : decode cX1_payAt 9 = .ok (.arraylength, 1) := by decide +kernel
theorem dX1_payAt_10 : decode cX1_payAt 10 = .ok (.if_icmp .ge 12, 3) := by decide +kernel
theorem dX1_payAt_13 : decode cX1_payAt 13 = .ok (.aload_n 0, 1) := by decide +kernel
theorem dX1_payAt_14 : decode cX1_payAt 14 = .ok (.getfield 37, 3) := by decide +kernel
theorem dX1_payAt_17 : decode cX1_payAt 17 = .ok (.iload_n 1, 1) := by decide +kernel
theorem dX1_payAt_18 : decode cX1_payAt 18 = .ok (.iaload, 1) := by decide +kernel
theorem dX1_payAt_19 : decode cX1_payAt 19 = .ok (.goto 4, 3) := by decide +kernel
theorem dX1_payAt_22 : decode cX1_payAt 22 = .ok (.iconst 0, 1) := by decide +kernel
theorem dX1_payAt_23 : decode cX1_payAt 23 = .ok (.ireturn, 1) := by decide +kernel
theorem dX1_setPay_0 : decode cX1_setPay 0 = .ok (.iload_n 1, 1) := by decide +kernel
theorem dX1_setPay_1 : decode cX1_setPay 1 = .ok (.ifCond .lt 24, 3) := by decide +kernel
theorem dX1_setPay_4 : decode cX1_setPay 4 = .ok (.iload_n 1, 1) := by decide +kernel
theorem dX1_setPay_5 : decode cX1_setPay 5 = .ok (.aload_n 0, 1) := by decide +kernel
theorem dX1_setPay_6 : decode cX1_setPay 6 = .ok (.getfield 37, 3) := by decide +kernel
theorem dX1_setPay_9 : decode cX1_setPay 9 = .ok (.arraylength, 1) := by decide +kernel
theorem dX1_setPay_10 : decode cX1_setPay 10 = .ok (.if_icmp .ge 15, 3) := by decide +kernel
theorem dX1_setPay_13 : decode cX1_setPay 13 = .ok (.aload_n 0, 1) := by decide +kernel
theorem dX1_setPay_14 : decode cX1_setPay 14 = .ok (.getfield 37, 3) := by decide +kernel
theorem dX1_setPay_17 : decode cX1_setPay 17 = .ok (.iload_n 1, 1) := by decide +kernel
theorem dX1_setPay_18 : decode cX1_setPay 18 = .ok (.iload_n 2, 1) := by decide +kernel
theorem dX1_setPay_19 : decode cX1_setPay 19 = .ok (.iastore, 1) := by decide +kernel
theorem dX1_setPay_20 : decode cX1_setPay 20 = .ok (.aload_n 0, 1) := by decide +kernel
theorem dX1_setPay_21 : decode cX1_setPay 21 = .ok (.iconst 0, 1) := by decide +kernel
theorem dX1_setPay_22 : decode cX1_setPay 22 = .ok (.putfield 9, 3) := by decide +kernel
theorem dX1_setPay_25 : decode cX1_setPay 25 = .ok (.return_, 1) := by decide +kernel
theorem dX1_weightAt_0 : decode cX1_weightAt 0 = .ok (.iload_n 1, 1) := by decide +kernel
theorem dX1_weightAt_1 : decode cX1_weightAt 1 = .ok (.ifCond .lt 23, 3) := by decide +kernel
theorem dX1_weightAt_4 : decode cX1_weightAt 4 = .ok (.iload_n 1, 1) := by decide +kernel
theorem dX1_weightAt_5 : decode cX1_weightAt 5 = .ok (.aload_n 0, 1) := by decide +kernel
theorem dX1_weightAt_6 : decode cX1_weightAt 6 = .ok (.getfield 34, 3) := by decide +kernel
theorem dX1_weightAt_9 : decode cX1_weightAt 9 = .ok (.if_icmp .ge 15, 3) := by decide +kernel
theorem dX1_weightAt_12 : decode cX1_weightAt 12 = .ok (.iload_n 2, 1) := by decide +kernel
theorem dX1_weightAt_13 : decode cX1_weightAt 13 = .ok (.ifCond .lt 11, 3) := by decide +kernel
theorem dX1_weightAt_16 : decode cX1_weightAt 16 = .ok (.iload_n 2, 1) := by decide +kernel
theorem dX1_weightAt_17 : decode cX1_weightAt 17 = .ok (.aload_n 0, 1) := by decide +kernel
theorem dX1_weightAt_18 : decode cX1_weightAt 18 = .ok (.getfield 34, 3) := by decide +kernel
theorem dX1_weightAt_21 : decode cX1_weightAt 21 = .ok (.if_icmp .lt 5, 3) := by decide +kernel
theorem dX1_weightAt_24 : decode cX1_weightAt 24 = .ok (.iconst 0, 1) := by decide +kernel
theorem dX1_weightAt_25 : decode cX1_weightAt 25 = .ok (.ireturn, 1) := by decide +kernel
theorem dX1_weightAt_26 : decode cX1_weightAt 26 = .ok (.aload_n 0, 1) := by decide +kernel
theorem dX1_weightAt_27 : decode cX1_weightAt 27 = .ok (.getfield 41, 3) := by decide +kernel
theorem dX1_weightAt_30 : decode cX1_weightAt 30 = .ok (.iload_n 1, 1) := by decide +kernel
theorem dX1_weightAt_31 : decode cX1_weightAt 31 = .ok (.aload_n 0, 1) := by decide +kernel
theorem dX1_weightAt_32 : decode cX1_weightAt 32 = .ok (.getfield 34, 3) := by decide +kernel
theorem dX1_weightAt_35 : decode cX1_weightAt 35 = .ok (.imul, 1) := by decide +kernel
theorem dX1_weightAt_36 : decode cX1_weightAt 36 = .ok (.iload_n 2, 1) := by decide +kernel
theorem dX1_weightAt_37 : decode cX1_weightAt 37 = .ok (.iadd, 1) := by decide +kernel
theorem dX1_weightAt_38 : decode cX1_weightAt 38 = .ok (.iaload, 1) := by decide +kernel
theorem dX1_weightAt_39 : decode cX1_weightAt 39 = .ok (.ireturn, 1) := by decide +kernel
theorem dX1_setWeight_0 : decode cX1_setWeight 0 = .ok (.aload_n 0, 1) := by decide +kernel
theorem dX1_setWeight_1 : decode cX1_setWeight 1 = .ok (.iload_n 1, 1) := by decide +kernel
theorem dX1_setWeight_2 : decode cX1_setWeight 2 = .ok (.invokevirtual 51, 3) := by decide +kernel
theorem dX1_setWeight_5 : decode cX1_setWeight 5 = .ok (.ifCond .eq 30, 3) := by decide +kernel
theorem dX1_setWeight_8 : decode cX1_setWeight 8 = .ok (.aload_n 0, 1) := by decide +kernel
theorem dX1_setWeight_9 : decode cX1_setWeight 9 = .ok (.iload_n 2, 1) := by decide +kernel
theorem dX1_setWeight_10 : decode cX1_setWeight 10 = .ok (.invokevirtual 51, 3) := by decide +kernel
theorem dX1_setWeight_13 : decode cX1_setWeight 13 = .ok (.ifCond .eq 22, 3) := by decide +kernel
theorem dX1_setWeight_16 : decode cX1_setWeight 16 = .ok (.aload_n 0, 1) := by decide +kernel
theorem dX1_setWeight_17 : decode cX1_setWeight 17 = .ok (.getfield 41, 3) := by decide +kernel
theorem dX1_setWeight_20 : decode cX1_setWeight 20 = .ok (.iload_n 1, 1) := by decide +kernel
theorem dX1_setWeight_21 : decode cX1_setWeight 21 = .ok (.aload_n 0, 1) := by decide +kernel
theorem dX1_setWeight_22 : decode cX1_setWeight 22 = .ok (.getfield 34, 3) := by decide +kernel
theorem dX1_setWeight_25 : decode cX1_setWeight 25 = .ok (.imul, 1) := by decide +kernel
theorem dX1_setWeight_26 : decode cX1_setWeight 26 = .ok (.iload_n 2, 1) := by decide +kernel
theorem dX1_setWeight_27 : decode cX1_setWeight 27 = .ok (.iadd, 1) := by decide +kernel
theorem dX1_setWeight_28 : decode cX1_setWeight 28 = .ok (.iload_n 3, 1) := by decide +kernel
theorem dX1_setWeight_29 : decode cX1_setWeight 29 = .ok (.iastore, 1) := by decide +kernel
theorem dX1_setWeight_30 : decode cX1_setWeight 30 = .ok (.aload_n 0, 1) := by decide +kernel
theorem dX1_setWeight_31 : decode cX1_setWeight 31 = .ok (.iconst 0, 1) := by decide +kernel
theorem dX1_setWeight_32 : decode cX1_setWeight 32 = .ok (.putfield 9, 3) := by decide +kernel
theorem dX1_setWeight_35 : decode cX1_setWeight 35 = .ok (.return_, 1) := by decide +kernel
theorem dX1_sumOf_0 : decode cX1_sumOf 0 = .ok (.iconst 0, 1) := by decide +kernel
theorem dX1_sumOf_1 : decode cX1_sumOf 1 = .ok (.istore_n 2, 1) := by decide +kernel
theorem dX1_sumOf_2 : decode cX1_sumOf 2 = .ok (.iload_n 1, 1) := by decide +kernel
theorem dX1_sumOf_3 : decode cX1_sumOf 3 = .ok (.ifCond .lt 20, 3) := by decide +kernel
theorem dX1_sumOf_6 : decode cX1_sumOf 6 = .ok (.iload_n 1, 1) := by decide +kernel
theorem dX1_sumOf_7 : decode cX1_sumOf 7 = .ok (.aload_n 0, 1) := by decide +kernel
theorem dX1_sumOf_8 : decode cX1_sumOf 8 = .ok (.getfield 34, 3) := by decide +kernel
theorem dX1_sumOf_11 : decode cX1_sumOf 11 = .ok (.if_icmp .ge 12, 3) := by decide +kernel
theorem dX1_sumOf_14 : decode cX1_sumOf 14 = .ok (.iload_n 1, 1) := by decide +kernel
theorem dX1_sumOf_15 : decode cX1_sumOf 15 = .ok (.aload_n 0, 1) := by decide +kernel
theorem dX1_sumOf_16 : decode cX1_sumOf 16 = .ok (.getfield 34, 3) := by decide +kernel
theorem dX1_sumOf_19 : decode cX1_sumOf 19 = .ok (.imul, 1) := by decide +kernel
theorem dX1_sumOf_20 : decode cX1_sumOf 20 = .ok (.goto 8, 3) := by decide +kernel
theorem dX1_sumOf_23 : decode cX1_sumOf 23 = .ok (.aload_n 0, 1) := by decide +kernel
theorem dX1_sumOf_24 : decode cX1_sumOf 24 = .ok (.getfield 41, 3) := by decide +kernel
theorem dX1_sumOf_27 : decode cX1_sumOf 27 = .ok (.arraylength, 1) := by decide +kernel
theorem dX1_sumOf_28 : decode cX1_sumOf 28 = .ok (.istore_n 3, 1) := by decide +kernel
theorem dX1_sumOf_29 : decode cX1_sumOf 29 = .ok (.iload_n 3, 1) := by decide +kernel
theorem dX1_sumOf_30 : decode cX1_sumOf 30 = .ok (.istore 4, 2) := by decide +kernel
theorem dX1_sumOf_32 : decode cX1_sumOf 32 = .ok (.iload 4, 2) := by decide +kernel
theorem dX1_sumOf_34 : decode cX1_sumOf 34 = .ok (.iload_n 3, 1) := by decide +kernel
theorem dX1_sumOf_35 : decode cX1_sumOf 35 = .ok (.aload_n 0, 1) := by decide +kernel
theorem dX1_sumOf_36 : decode cX1_sumOf 36 = .ok (.getfield 34, 3) := by decide +kernel
theorem dX1_sumOf_39 : decode cX1_sumOf 39 = .ok (.iadd, 1) := by decide +kernel
theorem dX1_sumOf_40 : decode cX1_sumOf 40 = .ok (.if_icmp .ge 29, 3) := by decide +kernel
theorem dX1_sumOf_43 : decode cX1_sumOf 43 = .ok (.iload 4, 2) := by decide +kernel
theorem dX1_sumOf_45 : decode cX1_sumOf 45 = .ok (.aload_n 0, 1) := by decide +kernel
theorem dX1_sumOf_46 : decode cX1_sumOf 46 = .ok (.getfield 41, 3) := by decide +kernel
theorem dX1_sumOf_49 : decode cX1_sumOf 49 = .ok (.arraylength, 1) := by decide +kernel
theorem dX1_sumOf_50 : decode cX1_sumOf 50 = .ok (.if_icmp .ge 19, 3) := by decide +kernel
theorem dX1_sumOf_53 : decode cX1_sumOf 53 = .ok (.iload_n 2, 1) := by decide +kernel
theorem dX1_sumOf_54 : decode cX1_sumOf 54 = .ok (.aload_n 0, 1) := by decide +kernel
theorem dX1_sumOf_55 : decode cX1_sumOf 55 = .ok (.getfield 41, 3) := by decide +kernel
theorem dX1_sumOf_58 : decode cX1_sumOf 58 = .ok (.iload 4, 2) := by decide +kernel
theorem dX1_sumOf_60 : decode cX1_sumOf 60 = .ok (.iaload, 1) := by decide +kernel
theorem dX1_sumOf_61 : decode cX1_sumOf 61 = .ok (.iadd, 1) := by decide +kernel
theorem dX1_sumOf_62 : decode cX1_sumOf 62 = .ok (.istore_n 2, 1) := by decide +kernel
theorem dX1_sumOf_63 : decode cX1_sumOf 63 = .ok (.iinc 4 1, 3) := by decide +kernel
theorem dX1_sumOf_66 : decode cX1_sumOf 66 = .ok (.goto (-34), 3) := by decide +kernel
theorem dX1_sumOf_69 : decode cX1_sumOf 69 = .ok (.iload_n 2, 1) := by decide +kernel
theorem dX1_sumOf_70 : decode cX1_sumOf 70 = .ok (.ireturn, 1) := by decide +kernel
theorem dX1_goal_0 : decode cX1_goal 0 = .ok (.iconst 0, 1) := by decide +kernel
theorem dX1_goal_1 : decode cX1_goal 1 = .ok (.istore_n 2, 1) := by decide +kernel
theorem dX1_goal_2 : decode cX1_goal 2 = .ok (.iconst 0, 1) := by decide +kernel
theorem dX1_goal_3 : decode cX1_goal 3 = .ok (.istore_n 3, 1) := by decide +kernel
theorem dX1_goal_4 : decode cX1_goal 4 = .ok (.iload_n 3, 1) := by decide +kernel
theorem dX1_goal_5 : decode cX1_goal 5 = .ok (.aload_n 0, 1) := by decide +kernel
theorem dX1_goal_6 : decode cX1_goal 6 = .ok (.getfield 34, 3) := by decide +kernel
theorem dX1_goal_9 : decode cX1_goal 9 = .ok (.if_icmp .ge 28, 3) := by decide +kernel
theorem dX1_goal_12 : decode cX1_goal 12 = .ok (.iload_n 2, 1) := by decide +kernel
theorem dX1_goal_13 : decode cX1_goal 13 = .ok (.aload_n 0, 1) := by decide +kernel
theorem dX1_goal_14 : decode cX1_goal 14 = .ok (.aload_n 0, 1) := by decide +kernel
theorem dX1_goal_15 : decode cX1_goal 15 = .ok (.getfield 15, 3) := by decide +kernel
theorem dX1_goal_18 : decode cX1_goal 18 = .ok (.iload_n 3, 1) := by decide +kernel
theorem dX1_goal_19 : decode cX1_goal 19 = .ok (.invokevirtual 55, 3) := by decide +kernel
theorem dX1_goal_22 : decode cX1_goal 22 = .ok (.iadd, 1) := by decide +kernel
theorem dX1_goal_23 : decode cX1_goal 23 = .ok (.istore_n 2, 1) := by decide +kernel
theorem dX1_goal_24 : decode cX1_goal 24 = .ok (.iload_n 2, 1) := by decide +kernel
theorem dX1_goal_25 : decode cX1_goal 25 = .ok (.iload_n 1, 1) := by decide +kernel
theorem dX1_goal_26 : decode cX1_goal 26 = .ok (.if_icmp .le 5, 3) := by decide +kernel
theorem dX1_goal_29 : decode cX1_goal 29 = .ok (.iload_n 3, 1) := by decide +kernel
theorem dX1_goal_30 : decode cX1_goal 30 = .ok (.ireturn, 1) := by decide +kernel
theorem dX1_goal_31 : decode cX1_goal 31 = .ok (.iinc 3 1, 3) := by decide +kernel
theorem dX1_goal_34 : decode cX1_goal 34 = .ok (.goto (-30), 3) := by decide +kernel
theorem dX1_goal_37 : decode cX1_goal 37 = .ok (.aload_n 0, 1) := by decide +kernel
theorem dX1_goal_38 : decode cX1_goal 38 = .ok (.getfield 15, 3) := by decide +kernel
theorem dX1_goal_41 : decode cX1_goal 41 = .ok (.ireturn, 1) := by decide +kernel
theorem dX1_worthAt_0 : decode cX1_worthAt 0 = .ok (.aload_n 0, 1) := by decide +kernel
theorem dX1_worthAt_1 : decode cX1_worthAt 1 = .ok (.getfield 46, 3) := by decide +kernel
theorem dX1_worthAt_4 : decode cX1_worthAt 4 = .ok (.iload_n 1, 1) := by decide +kernel
theorem dX1_worthAt_5 : decode cX1_worthAt 5 = .ok (.ifCond .lt 16, 3) := by decide +kernel
theorem dX1_worthAt_8 : decode cX1_worthAt 8 = .ok (.iload_n 1, 1) := by decide +kernel
theorem dX1_worthAt_9 : decode cX1_worthAt 9 = .ok (.aload_n 0, 1) := by decide +kernel
theorem dX1_worthAt_10 : decode cX1_worthAt 10 = .ok (.getfield 46, 3) := by decide +kernel
theorem dX1_worthAt_13 : decode cX1_worthAt 13 = .ok (.arraylength, 1) := by decide +kernel
theorem dX1_worthAt_14 : decode cX1_worthAt 14 = .ok (.if_icmp .ge 7, 3) := by decide +kernel
theorem dX1_worthAt_17 : decode cX1_worthAt 17 = .ok (.iload_n 1, 1) := by decide +kernel
theorem dX1_worthAt_18 : decode cX1_worthAt 18 = .ok (.goto 4, 3) := by decide +kernel
theorem dX1_worthAt_21 : decode cX1_worthAt 21 = .ok (.iconst 0, 1) := by decide +kernel
theorem dX1_worthAt_22 : decode cX1_worthAt 22 = .ok (.aaload, 1) := by decide +kernel
theorem dX1_worthAt_23 : decode cX1_worthAt 23 = .ok (.areturn, 1) := by decide +kernel
theorem dX2_init_0 : decode cX2_init 0 = .ok (.aload_n 0, 1) := by decide +kernel
theorem dX2_init_1 : decode cX2_init 1 = .ok (.invokespecial 3, 3) := by decide +kernel
theorem dX2_init_4 : decode cX2_init 4 = .ok (.aload_n 0, 1) := by decide +kernel
theorem dX2_init_5 : decode cX2_init 5 = .ok (.bipush 30, 2) := by decide +kernel
theorem dX2_init_7 : decode cX2_init 7 = .ok (.newarray .long, 2) := by decide +kernel
theorem dX2_init_9 : decode cX2_init 9 = .ok (.putfield 11, 3) := by decide +kernel
theorem dX2_init_12 : decode cX2_init 12 = .ok (.aload_n 0, 1) := by decide +kernel
theorem dX2_init_13 : decode cX2_init 13 = .ok (.iconst 5, 1) := by decide +kernel
theorem dX2_init_14 : decode cX2_init 14 = .ok (.newarray .int, 2) := by decide +kernel
theorem dX2_init_16 : decode cX2_init 16 = .ok (.putfield 15, 3) := by decide +kernel
theorem dX2_init_19 : decode cX2_init 19 = .ok (.aload_n 0, 1) := by decide +kernel
theorem dX2_init_20 : decode cX2_init 20 = .ok (.new 19, 3) := by decide +kernel
theorem dX2_init_23 : decode cX2_init 23 = .ok (.dup, 1) := by decide +kernel
theorem dX2_init_24 : decode cX2_init 24 = .ok (.invokespecial 21, 3) := by decide +kernel
theorem dX2_init_27 : decode cX2_init 27 = .ok (.putfield 22, 3) := by decide +kernel
theorem dX2_init_30 : decode cX2_init 30 = .ok (.aload_n 0, 1) := by decide +kernel
theorem dX2_init_31 : decode cX2_init 31 = .ok (.new 19, 3) := by decide +kernel
theorem dX2_init_34 : decode cX2_init 34 = .ok (.dup, 1) := by decide +kernel
theorem dX2_init_35 : decode cX2_init 35 = .ok (.invokespecial 21, 3) := by decide +kernel
theorem dX2_init_38 : decode cX2_init 38 = .ok (.putfield 26, 3) := by decide +kernel
theorem dX2_init_41 : decode cX2_init 41 = .ok (.return_, 1) := by decide +kernel
theorem dX2_valueOf_0 : decode cX2_valueOf 0 = .ok (.aload_n 0, 1) := by decide +kernel
theorem dX2_valueOf_1 : decode cX2_valueOf 1 = .ok (.aload_n 1, 1) := by decide +kernel
theorem dX2_valueOf_2 : decode cX2_valueOf 2 = .ok (.iload_n 2, 1) := by decide +kernel
theorem dX2_valueOf_3 : decode cX2_valueOf 3 = .ok (.iload_n 3, 1) := by decide +kernel
theorem dX2_valueOf_4 : decode cX2_valueOf 4 = .ok (.invokevirtual 29, 3) := by decide +kernel
theorem dX2_valueOf_7 : decode cX2_valueOf 7 = .ok (.istore 6, 2) := by decide +kernel
theorem dX2_valueOf_9 : decode cX2_valueOf 9 = .ok (.iconst 0, 1) := by decide +kernel
theorem dX2_valueOf_10 : decode cX2_valueOf 10 = .ok (.istore 7, 2) := by decide +kernel
theorem dX2_valueOf_12 : decode cX2_valueOf 12 = .ok (.iload 7, 2) := by decide +kernel
theorem dX2_valueOf_14 : decode cX2_valueOf 14 = .ok (.iload 6, 2) := by decide +kernel
theorem dX2_valueOf_16 : decode cX2_valueOf 16 = .ok (.if_icmp .ge 22, 3) := by decide +kernel
theorem dX2_valueOf_19 : decode cX2_valueOf 19 = .ok (.aload_n 0, 1) := by decide +kernel
theorem dX2_valueOf_20 : decode cX2_valueOf 20 = .ok (.aload_n 1, 1) := by decide +kernel
theorem dX2_valueOf_21 : decode cX2_valueOf 21 = .ok (.iload 7, 2) := by decide +kernel
theorem dX2_valueOf_23 : decode cX2_valueOf 23 = .ok (.iload 6, 2) := by decide +kernel
theorem dX2_valueOf_25 : decode cX2_valueOf 25 = .ok (.iload 4, 2) := by decide +kernel
theorem dX2_valueOf_27 : decode cX2_valueOf 27 = .ok (.iload 5, 2) := by decide +kernel
theorem dX2_valueOf_29 : decode cX2_valueOf 29 = .ok (.invokevirtual 33, 3) := by decide +kernel
theorem dX2_valueOf_32 : decode cX2_valueOf 32 = .ok (.iinc 7 1, 3) := by decide +kernel
theorem dX2_valueOf_35 : decode cX2_valueOf 35 = .ok (.goto (-23), 3) := by decide +kernel
theorem dX2_valueOf_38 : decode cX2_valueOf 38 = .ok (.aload_n 0, 1) := by decide +kernel
theorem dX2_valueOf_39 : decode cX2_valueOf 39 = .ok (.iload 6, 2) := by decide +kernel
theorem dX2_valueOf_41 : decode cX2_valueOf 41 = .ok (.invokevirtual 37, 3) := by decide +kernel
theorem dX2_valueOf_44 : decode cX2_valueOf 44 = .ok (.aload_n 0, 1) := by decide +kernel
theorem dX2_valueOf_45 : decode cX2_valueOf 45 = .ok (.getfield 22, 3) := by decide +kernel
theorem dX2_valueOf_48 : decode cX2_valueOf 48 = .ok (.aload_n 0, 1) := by decide +kernel
theorem dX2_valueOf_49 : decode cX2_valueOf 49 = .ok (.iload 6, 2) := by decide +kernel
theorem dX2_valueOf_51 : decode cX2_valueOf 51 = .ok (.iconst 1, 1) := by decide +kernel
theorem dX2_valueOf_52 : decode cX2_valueOf 52 = .ok (.isub, 1) := by decide +kernel
theorem dX2_valueOf_53 : decode cX2_valueOf 53 = .ok (.iload 6, 2) := by decide +kernel
theorem dX2_valueOf_55 : decode cX2_valueOf 55 = .ok (.iconst 1, 1) := by decide +kernel
theorem dX2_valueOf_56 : decode cX2_valueOf 56 = .ok (.isub, 1) := by decide +kernel
theorem dX2_valueOf_57 : decode cX2_valueOf 57 = .ok (.invokevirtual 41, 3) := by decide +kernel
theorem dX2_valueOf_60 : decode cX2_valueOf 60 = .ok (.aload_n 0, 1) := by decide +kernel
theorem dX2_valueOf_61 : decode cX2_valueOf 61 = .ok (.iload 6, 2) := by decide +kernel
theorem dX2_valueOf_63 : decode cX2_valueOf 63 = .ok (.iconst 1, 1) := by decide +kernel
theorem dX2_valueOf_64 : decode cX2_valueOf 64 = .ok (.isub, 1) := by decide +kernel
theorem dX2_valueOf_65 : decode cX2_valueOf 65 = .ok (.iload 6, 2) := by decide +kernel
theorem dX2_valueOf_67 : decode cX2_valueOf 67 = .ok (.invokevirtual 41, 3) := by decide +kernel
theorem dX2_valueOf_70 : decode cX2_valueOf 70 = .ok (.invokevirtual 45, 3) := by decide +kernel
theorem dX2_valueOf_73 : decode cX2_valueOf 73 = .ok (.aload_n 0, 1) := by decide +kernel
theorem dX2_valueOf_74 : decode cX2_valueOf 74 = .ok (.getfield 22, 3) := by decide +kernel
theorem dX2_valueOf_77 : decode cX2_valueOf 77 = .ok (.areturn, 1) := by decide +kernel
theorem dX2_reckonWorths_0 : decode cX2_reckonWorths 0 = .ok (.iconst 0, 1) := by decide +kernel
theorem dX2_reckonWorths_1 : decode cX2_reckonWorths 1 = .ok (.istore 4, 2) := by decide +kernel
theorem dX2_reckonWorths_3 : decode cX2_reckonWorths 3 = .ok (.iconst 0, 1) := by decide +kernel
theorem dX2_reckonWorths_4 : decode cX2_reckonWorths 4 = .ok (.istore 5, 2) := by decide +kernel
theorem dX2_reckonWorths_6 : decode cX2_reckonWorths 6 = .ok (.iload 5, 2) := by decide +kernel
theorem dX2_reckonWorths_8 : decode cX2_reckonWorths 8 = .ok (.aload_n 1, 1) := by decide +kernel
theorem dX2_reckonWorths_9 : decode cX2_reckonWorths 9 = .ok (.getfield 49, 3) := by decide +kernel
theorem dX2_reckonWorths_12 : decode cX2_reckonWorths 12 = .ok (.if_icmp .ge 110, 3) := by decide +kernel
theorem dX2_reckonWorths_15 : decode cX2_reckonWorths 15 = .ok (.iconst (-1), 1) := by decide +kernel
theorem dX2_reckonWorths_16 : decode cX2_reckonWorths 16 = .ok (.istore 6, 2) := by decide +kernel
theorem dX2_reckonWorths_18 : decode cX2_reckonWorths 18 = .ok (.iconst 0, 1) := by decide +kernel
theorem dX2_reckonWorths_19 : decode cX2_reckonWorths 19 = .ok (.istore 7, 2) := by decide +kernel
theorem dX2_reckonWorths_21 : decode cX2_reckonWorths 21 = .ok (.iload 7, 2) := by decide +kernel
theorem dX2_reckonWorths_23 : decode cX2_reckonWorths 23 = .ok (.aload_n 1, 1) := by decide +kernel
theorem dX2_reckonWorths_24 : decode cX2_reckonWorths 24 = .ok (.getfield 49, 3) := by decide +kernel
theorem dX2_reckonWorths_27 : decode cX2_reckonWorths 27 = .ok (.if_icmp .ge 62, 3) := by decide +kernel
theorem dX2_reckonWorths_30 : decode cX2_reckonWorths 30 = .ok (.iload 4, 2) := by decide +kernel
theorem dX2_reckonWorths_32 : decode cX2_reckonWorths 32 = .ok (.iload 7, 2) := by decide +kernel
theorem dX2_reckonWorths_34 : decode cX2_reckonWorths 34 = .ok (.ishr, 1) := by decide +kernel
theorem dX2_reckonWorths_35 : decode cX2_reckonWorths 35 = .ok (.iconst 1, 1) := by decide +kernel
theorem dX2_reckonWorths_36 : decode cX2_reckonWorths 36 = .ok (.iand, 1) := by decide +kernel
theorem dX2_reckonWorths_37 : decode cX2_reckonWorths 37 = .ok (.ifCond .ne 46, 3) := by decide +kernel
theorem dX2_reckonWorths_40 : decode cX2_reckonWorths 40 = .ok (.aload_n 0, 1) := by decide +kernel
theorem dX2_reckonWorths_41 : decode cX2_reckonWorths 41 = .ok (.aload_n 1, 1) := by decide +kernel
theorem dX2_reckonWorths_42 : decode cX2_reckonWorths 42 = .ok (.iload 7, 2) := by decide +kernel
theorem dX2_reckonWorths_44 : decode cX2_reckonWorths 44 = .ok (.iload 4, 2) := by decide +kernel
theorem dX2_reckonWorths_46 : decode cX2_reckonWorths 46 = .ok (.iload_n 2, 1) := by decide +kernel
theorem dX2_reckonWorths_47 : decode cX2_reckonWorths 47 = .ok (.iload_n 3, 1) := by decide +kernel
theorem dX2_reckonWorths_48 : decode cX2_reckonWorths 48 = .ok (.invokevirtual 55, 3) := by decide +kernel
theorem dX2_reckonWorths_51 : decode cX2_reckonWorths 51 = .ok (.astore 8, 2) := by decide +kernel
theorem dX2_reckonWorths_53 : decode cX2_reckonWorths 53 = .ok (.iload 6, 2) := by decide +kernel
theorem dX2_reckonWorths_55 : decode cX2_reckonWorths 55 = .ok (.ifCond .lt 15, 3) := by decide +kernel
theorem dX2_reckonWorths_58 : decode cX2_reckonWorths 58 = .ok (.aload 8, 2) := by decide +kernel
theorem dX2_reckonWorths_60 : decode cX2_reckonWorths 60 = .ok (.aload_n 0, 1) := by decide +kernel
theorem dX2_reckonWorths_61 : decode cX2_reckonWorths 61 = .ok (.getfield 26, 3) := by decide +kernel
theorem dX2_reckonWorths_64 : decode cX2_reckonWorths 64 = .ok (.invokevirtual 59, 3) := by decide +kernel
theorem dX2_reckonWorths_67 : decode cX2_reckonWorths 67 = .ok (.ifCond .le 16, 3) := by decide +kernel
theorem dX2_reckonWorths_70 : decode cX2_reckonWorths 70 = .ok (.aload_n 0, 1) := by decide +kernel
theorem dX2_reckonWorths_71 : decode cX2_reckonWorths 71 = .ok (.getfield 26, 3) := by decide +kernel
theorem dX2_reckonWorths_74 : decode cX2_reckonWorths 74 = .ok (.aload 8, 2) := by decide +kernel
theorem dX2_reckonWorths_76 : decode cX2_reckonWorths 76 = .ok (.invokevirtual 63, 3) := by decide +kernel
theorem dX2_reckonWorths_79 : decode cX2_reckonWorths 79 = .ok (.iload 7, 2) := by decide +kernel
theorem dX2_reckonWorths_81 : decode cX2_reckonWorths 81 = .ok (.istore 6, 2) := by decide +kernel
theorem dX2_reckonWorths_83 : decode cX2_reckonWorths 83 = .ok (.iinc 7 1, 3) := by decide +kernel
theorem dX2_reckonWorths_86 : decode cX2_reckonWorths 86 = .ok (.goto (-65), 3) := by decide +kernel
theorem dX2_reckonWorths_89 : decode cX2_reckonWorths 89 = .ok (.iload 6, 2) := by decide +kernel
theorem dX2_reckonWorths_91 : decode cX2_reckonWorths 91 = .ok (.ifCond .lt 25, 3) := by decide +kernel
theorem dX2_reckonWorths_94 : decode cX2_reckonWorths 94 = .ok (.aload_n 1, 1) := by decide +kernel
theorem dX2_reckonWorths_95 : decode cX2_reckonWorths 95 = .ok (.iload 6, 2) := by decide +kernel
theorem dX2_reckonWorths_97 : decode cX2_reckonWorths 97 = .ok (.invokevirtual 67, 3) := by decide +kernel
theorem dX2_reckonWorths_100 : decode cX2_reckonWorths 100 = .ok (.aload_n 0, 1) := by decide +kernel
theorem dX2_reckonWorths_101 : decode cX2_reckonWorths 101 = .ok (.getfield 26, 3) := by decide +kernel
theorem dX2_reckonWorths_104 : decode cX2_reckonWorths 104 = .ok (.invokevirtual 63, 3) := by decide +kernel
theorem dX2_reckonWorths_107 : decode cX2_reckonWorths 107 = .ok (.iload 4, 2) := by decide +kernel
theorem dX2_reckonWorths_109 : decode cX2_reckonWorths 109 = .ok (.iconst 1, 1) := by decide +kernel
theorem dX2_reckonWorths_110 : decode cX2_reckonWorths 110 = .ok (.iload 6, 2) := by decide +kernel
theorem dX2_reckonWorths_112 : decode cX2_reckonWorths 112 = .ok (.ishl, 1) := by decide +kernel
theorem dX2_reckonWorths_113 : decode cX2_reckonWorths 113 = .ok (.ior, 1) := by decide +kernel
theorem dX2_reckonWorths_114 : decode cX2_reckonWorths 114 = .ok (.istore 4, 2) := by decide +kernel
theorem dX2_reckonWorths_116 : decode cX2_reckonWorths 116 = .ok (.iinc 5 1, 3) := by decide +kernel
theorem dX2_reckonWorths_119 : decode cX2_reckonWorths 119 = .ok (.goto (-113), 3) := by decide +kernel
theorem dX2_reckonWorths_122 : decode cX2_reckonWorths 122 = .ok (.aload_n 1, 1) := by decide +kernel
theorem dX2_reckonWorths_123 : decode cX2_reckonWorths 123 = .ok (.iconst 1, 1) := by decide +kernel
theorem dX2_reckonWorths_124 : decode cX2_reckonWorths 124 = .ok (.putfield 71, 3) := by decide +kernel
theorem dX2_reckonWorths_127 : decode cX2_reckonWorths 127 = .ok (.return_, 1) := by decide +kernel
theorem dX2_longestRow_0 : decode cX2_longestRow 0 = .ok (.iconst 0, 1) := by decide +kernel
theorem dX2_longestRow_1 : decode cX2_longestRow 1 = .ok (.istore 5, 2) := by decide +kernel
theorem dX2_longestRow_3 : decode cX2_longestRow 3 = .ok (.iconst 0, 1) := by decide +kernel
theorem dX2_longestRow_4 : decode cX2_longestRow 4 = .ok (.istore 6, 2) := by decide +kernel
theorem dX2_longestRow_6 : decode cX2_longestRow 6 = .ok (.iload_n 2, 1) := by decide +kernel
theorem dX2_longestRow_7 : decode cX2_longestRow 7 = .ok (.istore 7, 2) := by decide +kernel
theorem dX2_longestRow_9 : decode cX2_longestRow 9 = .ok (.iload 7, 2) := by decide +kernel
theorem dX2_longestRow_11 : decode cX2_longestRow 11 = .ok (.aload_n 1, 1) := by decide +kernel
theorem dX2_longestRow_12 : decode cX2_longestRow 12 = .ok (.getfield 49, 3) := by decide +kernel
theorem dX2_longestRow_15 : decode cX2_longestRow 15 = .ok (.if_icmp .ge 65, 3) := by decide +kernel
theorem dX2_longestRow_18 : decode cX2_longestRow 18 = .ok (.iload 5, 2) := by decide +kernel
theorem dX2_longestRow_20 : decode cX2_longestRow 20 = .ok (.iconst 1, 1) := by decide +kernel
theorem dX2_longestRow_21 : decode cX2_longestRow 21 = .ok (.iload 7, 2) := by decide +kernel
theorem dX2_longestRow_23 : decode cX2_longestRow 23 = .ok (.ishl, 1) := by decide +kernel
theorem dX2_longestRow_24 : decode cX2_longestRow 24 = .ok (.ior, 1) := by decide +kernel
theorem dX2_longestRow_25 : decode cX2_longestRow 25 = .ok (.istore 5, 2) := by decide +kernel
theorem dX2_longestRow_27 : decode cX2_longestRow 27 = .ok (.aload_n 0, 1) := by decide +kernel
theorem dX2_longestRow_28 : decode cX2_longestRow 28 = .ok (.aload_n 1, 1) := by decide +kernel
theorem dX2_longestRow_29 : decode cX2_longestRow 29 = .ok (.iload_n 2, 1) := by decide +kernel
theorem dX2_longestRow_30 : decode cX2_longestRow 30 = .ok (.iload 5, 2) := by decide +kernel
theorem dX2_longestRow_32 : decode cX2_longestRow 32 = .ok (.iload_n 3, 1) := by decide +kernel
theorem dX2_longestRow_33 : decode cX2_longestRow 33 = .ok (.iload 4, 2) := by decide +kernel
theorem dX2_longestRow_35 : decode cX2_longestRow 35 = .ok (.invokevirtual 55, 3) := by decide +kernel
theorem dX2_longestRow_38 : decode cX2_longestRow 38 = .ok (.astore 8, 2) := by decide +kernel
theorem dX2_longestRow_40 : decode cX2_longestRow 40 = .ok (.iload 6, 2) := by decide +kernel
theorem dX2_longestRow_42 : decode cX2_longestRow 42 = .ok (.ifCond .eq 15, 3) := by decide +kernel
theorem dX2_longestRow_45 : decode cX2_longestRow 45 = .ok (.aload 8, 2) := by decide +kernel
theorem dX2_longestRow_47 : decode cX2_longestRow 47 = .ok (.aload_n 0, 1) := by decide +kernel
theorem dX2_longestRow_48 : decode cX2_longestRow 48 = .ok (.getfield 26, 3) := by decide +kernel
theorem dX2_longestRow_51 : decode cX2_longestRow 51 = .ok (.invokevirtual 59, 3) := by decide +kernel
theorem dX2_longestRow_54 : decode cX2_longestRow 54 = .ok (.ifCond .le 20, 3) := by decide +kernel
theorem dX2_longestRow_57 : decode cX2_longestRow 57 = .ok (.aload_n 0, 1) := by decide +kernel
theorem dX2_longestRow_58 : decode cX2_longestRow 58 = .ok (.getfield 26, 3) := by decide +kernel
theorem dX2_longestRow_61 : decode cX2_longestRow 61 = .ok (.aload 8, 2) := by decide +kernel
theorem dX2_longestRow_63 : decode cX2_longestRow 63 = .ok (.invokevirtual 63, 3) := by decide +kernel
theorem dX2_longestRow_66 : decode cX2_longestRow 66 = .ok (.iload 7, 2) := by decide +kernel
theorem dX2_longestRow_68 : decode cX2_longestRow 68 = .ok (.iload_n 2, 1) := by decide +kernel
theorem dX2_longestRow_69 : decode cX2_longestRow 69 = .ok (.isub, 1) := by decide +kernel
theorem dX2_longestRow_70 : decode cX2_longestRow 70 = .ok (.iconst 1, 1) := by decide +kernel
theorem dX2_longestRow_71 : decode cX2_longestRow 71 = .ok (.iadd, 1) := by decide +kernel
theorem dX2_longestRow_72 : decode cX2_longestRow 72 = .ok (.istore 6, 2) := by decide +kernel
theorem dX2_longestRow_74 : decode cX2_longestRow 74 = .ok (.iinc 7 1, 3) := by decide +kernel
theorem dX2_longestRow_77 : decode cX2_longestRow 77 = .ok (.goto (-68), 3) := by decide +kernel
theorem dX2_longestRow_80 : decode cX2_longestRow 80 = .ok (.iload 6, 2) := by decide +kernel
theorem dX2_longestRow_82 : decode cX2_longestRow 82 = .ok (.ireturn, 1) := by decide +kernel
theorem dX2_listStates_0 : decode cX2_listStates 0 = .ok (.iconst 0, 1) := by decide +kernel
theorem dX2_listStates_1 : decode cX2_listStates 1 = .ok (.istore 4, 2) := by decide +kernel
theorem dX2_listStates_3 : decode cX2_listStates 3 = .ok (.iconst 0, 1) := by decide +kernel
theorem dX2_listStates_4 : decode cX2_listStates 4 = .ok (.istore 5, 2) := by decide +kernel
theorem dX2_listStates_6 : decode cX2_listStates 6 = .ok (.iload 5, 2) := by decide +kernel
theorem dX2_listStates_8 : decode cX2_listStates 8 = .ok (.aload_n 1, 1) := by decide +kernel
theorem dX2_listStates_9 : decode cX2_listStates 9 = .ok (.getfield 49, 3) := by decide +kernel
theorem dX2_listStates_12 : decode cX2_listStates 12 = .ok (.if_icmp .ge 48, 3) := by decide +kernel
theorem dX2_listStates_15 : decode cX2_listStates 15 = .ok (.iload 4, 2) := by decide +kernel
theorem dX2_listStates_17 : decode cX2_listStates 17 = .ok (.aload_n 0, 1) := by decide +kernel
theorem dX2_listStates_18 : decode cX2_listStates 18 = .ok (.getfield 15, 3) := by decide +kernel
theorem dX2_listStates_21 : decode cX2_listStates 21 = .ok (.arraylength, 1) := by decide +kernel
theorem dX2_listStates_22 : decode cX2_listStates 22 = .ok (.iconst 1, 1) := by decide +kernel
theorem dX2_listStates_23 : decode cX2_listStates 23 = .ok (.isub, 1) := by decide +kernel
theorem dX2_listStates_24 : decode cX2_listStates 24 = .ok (.if_icmp .ge 36, 3) := by decide +kernel
theorem dX2_listStates_27 : decode cX2_listStates 27 = .ok (.iload 5, 2) := by decide +kernel
theorem dX2_listStates_29 : decode cX2_listStates 29 = .ok (.iload_n 2, 1) := by decide +kernel
theorem dX2_listStates_30 : decode cX2_listStates 30 = .ok (.if_icmp .eq 24, 3) := by decide +kernel
theorem dX2_listStates_33 : decode cX2_listStates 33 = .ok (.iload_n 3, 1) := by decide +kernel
theorem dX2_listStates_34 : decode cX2_listStates 34 = .ok (.iload 5, 2) := by decide +kernel
theorem dX2_listStates_36 : decode cX2_listStates 36 = .ok (.ishr, 1) := by decide +kernel
theorem dX2_listStates_37 : decode cX2_listStates 37 = .ok (.iconst 1, 1) := by decide +kernel
theorem dX2_listStates_38 : decode cX2_listStates 38 = .ok (.iand, 1) := by decide +kernel
theorem dX2_listStates_39 : decode cX2_listStates 39 = .ok (.ifCond .eq 15, 3) := by decide +kernel
theorem dX2_listStates_42 : decode cX2_listStates 42 = .ok (.aload_n 0, 1) := by decide +kernel
theorem dX2_listStates_43 : decode cX2_listStates 43 = .ok (.getfield 15, 3) := by decide +kernel
theorem dX2_listStates_46 : decode cX2_listStates 46 = .ok (.iload 4, 2) := by decide +kernel
theorem dX2_listStates_48 : decode cX2_listStates 48 = .ok (.iload 5, 2) := by decide +kernel
theorem dX2_listStates_50 : decode cX2_listStates 50 = .ok (.iastore, 1) := by decide +kernel
theorem dX2_listStates_51 : decode cX2_listStates 51 = .ok (.iinc 4 1, 3) := by decide +kernel
theorem dX2_listStates_54 : decode cX2_listStates 54 = .ok (.iinc 5 1, 3) := by decide +kernel
theorem dX2_listStates_57 : decode cX2_listStates 57 = .ok (.goto (-51), 3) := by decide +kernel
theorem dX2_listStates_60 : decode cX2_listStates 60 = .ok (.aload_n 0, 1) := by decide +kernel
theorem dX2_listStates_61 : decode cX2_listStates 61 = .ok (.getfield 15, 3) := by decide +kernel
theorem dX2_listStates_64 : decode cX2_listStates 64 = .ok (.iload 4, 2) := by decide +kernel
theorem dX2_listStates_66 : decode cX2_listStates 66 = .ok (.iload_n 2, 1) := by decide +kernel
theorem dX2_listStates_67 : decode cX2_listStates 67 = .ok (.iastore, 1) := by decide +kernel
theorem dX2_listStates_68 : decode cX2_listStates 68 = .ok (.iload 4, 2) := by decide +kernel
theorem dX2_listStates_70 : decode cX2_listStates 70 = .ok (.iconst 1, 1) := by decide +kernel
theorem dX2_listStates_71 : decode cX2_listStates 71 = .ok (.iadd, 1) := by decide +kernel
theorem dX2_listStates_72 : decode cX2_listStates 72 = .ok (.ireturn, 1) := by decide +kernel
theorem dX2_layRow_0 : decode cX2_layRow 0 = .ok (.iload_n 2, 1) := by decide +kernel
theorem dX2_layRow_1 : decode cX2_layRow 1 = .ok (.ifCond .lt 12, 3) := by decide +kernel
theorem dX2_layRow_4 : decode cX2_layRow 4 = .ok (.iload_n 2, 1) := by decide +kernel
theorem dX2_layRow_5 : decode cX2_layRow 5 = .ok (.aload_n 0, 1) := by decide +kernel
theorem dX2_layRow_6 : decode cX2_layRow 6 = .ok (.getfield 15, 3) := by decide +kernel
theorem dX2_layRow_9 : decode cX2_layRow 9 = .ok (.arraylength, 1) := by decide +kernel
theorem dX2_layRow_10 : decode cX2_layRow 10 = .ok (.if_icmp .lt 4, 3) := by decide +kernel
theorem dX2_layRow_13 : decode cX2_layRow 13 = .ok (.return_, 1) := by decide +kernel
theorem dX2_layRow_14 : decode cX2_layRow 14 = .ok (.aload_n 0, 1) := by decide +kernel
theorem dX2_layRow_15 : decode cX2_layRow 15 = .ok (.getfield 15, 3) := by decide +kernel
theorem dX2_layRow_18 : decode cX2_layRow 18 = .ok (.iload_n 2, 1) := by decide +kernel
theorem dX2_layRow_19 : decode cX2_layRow 19 = .ok (.iaload, 1) := by decide +kernel
theorem dX2_layRow_20 : decode cX2_layRow 20 = .ok (.istore 6, 2) := by decide +kernel
theorem dX2_layRow_22 : decode cX2_layRow 22 = .ok (.iload 5, 2) := by decide +kernel
theorem dX2_layRow_24 : decode cX2_layRow 24 = .ok (.i2l, 1) := by decide +kernel
theorem dX2_layRow_25 : decode cX2_layRow 25 = .ok (.aload_n 1, 1) := by decide +kernel
theorem dX2_layRow_26 : decode cX2_layRow 26 = .ok (.iload 6, 2) := by decide +kernel
theorem dX2_layRow_28 : decode cX2_layRow 28 = .ok (.invokevirtual 75, 3) := by decide +kernel
theorem dX2_layRow_31 : decode cX2_layRow 31 = .ok (.i2l, 1) := by decide +kernel
theorem dX2_layRow_32 : decode cX2_layRow 32 = .ok (.lmul, 1) := by decide +kernel
theorem dX2_layRow_33 : decode cX2_layRow 33 = .ok (.lstore 7, 2) := by decide +kernel
theorem dX2_layRow_35 : decode cX2_layRow 35 = .ok (.iconst 0, 1) := by decide +kernel
theorem dX2_layRow_36 : decode cX2_layRow 36 = .ok (.istore 9, 2) := by decide +kernel
theorem dX2_layRow_38 : decode cX2_layRow 38 = .ok (.iload 9, 2) := by decide +kernel
theorem dX2_layRow_40 : decode cX2_layRow 40 = .ok (.iload_n 3, 1) := by decide +kernel
theorem dX2_layRow_41 : decode cX2_layRow 41 = .ok (.iconst 1, 1) := by decide +kernel
theorem dX2_layRow_42 : decode cX2_layRow 42 = .ok (.isub, 1) := by decide +kernel
theorem dX2_layRow_43 : decode cX2_layRow 43 = .ok (.if_icmp .ge 61, 3) := by decide +kernel
theorem dX2_layRow_46 : decode cX2_layRow 46 = .ok (.iload 9, 2) := by decide +kernel
theorem dX2_layRow_48 : decode cX2_layRow 48 = .ok (.aload_n 0, 1) := by decide +kernel
theorem dX2_layRow_49 : decode cX2_layRow 49 = .ok (.getfield 15, 3) := by decide +kernel
theorem dX2_layRow_52 : decode cX2_layRow 52 = .ok (.arraylength, 1) := by decide +kernel
theorem dX2_layRow_53 : decode cX2_layRow 53 = .ok (.if_icmp .ge 51, 3) := by decide +kernel
theorem dX2_layRow_56 : decode cX2_layRow 56 = .ok (.iload 9, 2) := by decide +kernel
theorem dX2_layRow_58 : decode cX2_layRow 58 = .ok (.iload_n 2, 1) := by decide +kernel
theorem dX2_layRow_59 : decode cX2_layRow 59 = .ok (.if_icmp .ne 8, 3) := by decide +kernel
theorem dX2_layRow_62 : decode cX2_layRow 62 = .ok (.lload 7, 2) := by decide +kernel
theorem dX2_layRow_64 : decode cX2_layRow 64 = .ok (.goto 4, 3) := by decide +kernel
theorem dX2_layRow_67 : decode cX2_layRow 67 = .ok (.lconst 0, 1) := by decide +kernel
theorem dX2_layRow_68 : decode cX2_layRow 68 = .ok (.lstore 10, 2) := by decide +kernel
theorem dX2_layRow_70 : decode cX2_layRow 70 = .ok (.aload_n 0, 1) := by decide +kernel
theorem dX2_layRow_71 : decode cX2_layRow 71 = .ok (.iload_n 2, 1) := by decide +kernel
theorem dX2_layRow_72 : decode cX2_layRow 72 = .ok (.iload 9, 2) := by decide +kernel
theorem dX2_layRow_74 : decode cX2_layRow 74 = .ok (.lload 10, 2) := by decide +kernel
theorem dX2_layRow_76 : decode cX2_layRow 76 = .ok (.iload 4, 2) := by decide +kernel
theorem dX2_layRow_78 : decode cX2_layRow 78 = .ok (.i2l, 1) := by decide +kernel
theorem dX2_layRow_79 : decode cX2_layRow 79 = .ok (.aload_n 1, 1) := by decide +kernel
theorem dX2_layRow_80 : decode cX2_layRow 80 = .ok (.iload 6, 2) := by decide +kernel
theorem dX2_layRow_82 : decode cX2_layRow 82 = .ok (.aload_n 0, 1) := by decide +kernel
theorem dX2_layRow_83 : decode cX2_layRow 83 = .ok (.getfield 15, 3) := by decide +kernel
theorem dX2_layRow_86 : decode cX2_layRow 86 = .ok (.iload 9, 2) := by decide +kernel
theorem dX2_layRow_88 : decode cX2_layRow 88 = .ok (.iaload, 1) := by decide +kernel
theorem dX2_layRow_89 : decode cX2_layRow 89 = .ok (.invokevirtual 79, 3) := by decide +kernel
theorem dX2_layRow_92 : decode cX2_layRow 92 = .ok (.i2l, 1) := by decide +kernel
theorem dX2_layRow_93 : decode cX2_layRow 93 = .ok (.lmul, 1) := by decide +kernel
theorem dX2_layRow_94 : decode cX2_layRow 94 = .ok (.lsub, 1) := by decide +kernel
theorem dX2_layRow_95 : decode cX2_layRow 95 = .ok (.invokevirtual 83, 3) := by decide +kernel
theorem dX2_layRow_98 : decode cX2_layRow 98 = .ok (.iinc 9 1, 3) := by decide +kernel
theorem dX2_layRow_101 : decode cX2_layRow 101 = .ok (.goto (-63), 3) := by decide +kernel
theorem dX2_layRow_104 : decode cX2_layRow 104 = .ok (.aload_n 0, 1) := by decide +kernel
theorem dX2_layRow_105 : decode cX2_layRow 105 = .ok (.iload_n 2, 1) := by decide +kernel
theorem dX2_layRow_106 : decode cX2_layRow 106 = .ok (.iload_n 3, 1) := by decide +kernel
theorem dX2_layRow_107 : decode cX2_layRow 107 = .ok (.iconst 1, 1) := by decide +kernel
theorem dX2_layRow_108 : decode cX2_layRow 108 = .ok (.isub, 1) := by decide +kernel
theorem dX2_layRow_109 : decode cX2_layRow 109 = .ok (.lload 7, 2) := by decide +kernel
theorem dX2_layRow_111 : decode cX2_layRow 111 = .ok (.aload_n 1, 1) := by decide +kernel
theorem dX2_layRow_112 : decode cX2_layRow 112 = .ok (.iload 6, 2) := by decide +kernel
theorem dX2_layRow_114 : decode cX2_layRow 114 = .ok (.invokevirtual 87, 3) := by decide +kernel
theorem dX2_layRow_117 : decode cX2_layRow 117 = .ok (.i2l, 1) := by decide +kernel
theorem dX2_layRow_118 : decode cX2_layRow 118 = .ok (.lmul, 1) := by decide +kernel
theorem dX2_layRow_119 : decode cX2_layRow 119 = .ok (.invokevirtual 83, 3) := by decide +kernel
theorem dX2_layRow_122 : decode cX2_layRow 122 = .ok (.aload_n 0, 1) := by decide +kernel
theorem dX2_layRow_123 : decode cX2_layRow 123 = .ok (.iload_n 2, 1) := by decide +kernel
theorem dX2_layRow_124 : decode cX2_layRow 124 = .ok (.iload_n 3, 1) := by decide +kernel
theorem dX2_layRow_125 : decode cX2_layRow 125 = .ok (.lload 7, 2) := by decide +kernel
theorem dX2_layRow_127 : decode cX2_layRow 127 = .ok (.invokevirtual 83, 3) := by decide +kernel
theorem dX2_layRow_130 : decode cX2_layRow 130 = .ok (.return_, 1) := by decide +kernel
theorem dX2_eliminate_0 : decode cX2_eliminate 0 = .ok (.lconst 1, 1) := by decide +kernel
theorem dX2_eliminate_1 : decode cX2_eliminate 1 = .ok (.lstore_n 2, 1) := by decide +kernel
theorem dX2_eliminate_2 : decode cX2_eliminate 2 = .ok (.iconst 0, 1) := by decide +kernel
theorem dX2_eliminate_3 : decode cX2_eliminate 3 = .ok (.istore 4, 2) := by decide +kernel
theorem dX2_eliminate_5 : decode cX2_eliminate 5 = .ok (.iload 4, 2) := by decide +kernel
theorem dX2_eliminate_7 : decode cX2_eliminate 7 = .ok (.iload_n 1, 1) := by decide +kernel
theorem dX2_eliminate_8 : decode cX2_eliminate 8 = .ok (.iconst 1, 1) := by decide +kernel
theorem dX2_eliminate_9 : decode cX2_eliminate 9 = .ok (.isub, 1) := by decide +kernel
theorem dX2_eliminate_10 : decode cX2_eliminate 10 = .ok (.if_icmp .ge 115, 3) := by decide +kernel
theorem dX2_eliminate_13 : decode cX2_eliminate 13 = .ok (.aload_n 0, 1) := by decide +kernel
theorem dX2_eliminate_14 : decode cX2_eliminate 14 = .ok (.iload 4, 2) := by decide +kernel
theorem dX2_eliminate_16 : decode cX2_eliminate 16 = .ok (.iload 4, 2) := by decide +kernel
theorem dX2_eliminate_18 : decode cX2_eliminate 18 = .ok (.invokevirtual 41, 3) := by decide +kernel
theorem dX2_eliminate_21 : decode cX2_eliminate 21 = .ok (.lstore 5, 2) := by decide +kernel
theorem dX2_eliminate_23 : decode cX2_eliminate 23 = .ok (.iload 4, 2) := by decide +kernel
theorem dX2_eliminate_25 : decode cX2_eliminate 25 = .ok (.iconst 1, 1) := by decide +kernel
theorem dX2_eliminate_26 : decode cX2_eliminate 26 = .ok (.iadd, 1) := by decide +kernel
theorem dX2_eliminate_27 : decode cX2_eliminate 27 = .ok (.istore 7, 2) := by decide +kernel
theorem dX2_eliminate_29 : decode cX2_eliminate 29 = .ok (.iload 7, 2) := by decide +kernel
theorem dX2_eliminate_31 : decode cX2_eliminate 31 = .ok (.iload_n 1, 1) := by decide +kernel
theorem dX2_eliminate_32 : decode cX2_eliminate 32 = .ok (.if_icmp .ge 84, 3) := by decide +kernel
theorem dX2_eliminate_35 : decode cX2_eliminate 35 = .ok (.aload_n 0, 1) := by decide +kernel
theorem dX2_eliminate_36 : decode cX2_eliminate 36 = .ok (.iload 7, 2) := by decide +kernel
theorem dX2_eliminate_38 : decode cX2_eliminate 38 = .ok (.iload 4, 2) := by decide +kernel
theorem dX2_eliminate_40 : decode cX2_eliminate 40 = .ok (.invokevirtual 41, 3) := by decide +kernel
theorem dX2_eliminate_43 : decode cX2_eliminate 43 = .ok (.lstore 8, 2) := by decide +kernel
theorem dX2_eliminate_45 : decode cX2_eliminate 45 = .ok (.iload 4, 2) := by decide +kernel
theorem dX2_eliminate_47 : decode cX2_eliminate 47 = .ok (.iconst 1, 1) := by decide +kernel
theorem dX2_eliminate_48 : decode cX2_eliminate 48 = .ok (.iadd, 1) := by decide +kernel
theorem dX2_eliminate_49 : decode cX2_eliminate 49 = .ok (.istore 10, 2) := by decide +kernel
theorem dX2_eliminate_51 : decode cX2_eliminate 51 = .ok (.iload 10, 2) := by decide +kernel
theorem dX2_eliminate_53 : decode cX2_eliminate 53 = .ok (.iload_n 1, 1) := by decide +kernel
theorem dX2_eliminate_54 : decode cX2_eliminate 54 = .ok (.if_icmp .gt 56, 3) := by decide +kernel
theorem dX2_eliminate_57 : decode cX2_eliminate 57 = .ok (.lload 5, 2) := by decide +kernel
theorem dX2_eliminate_59 : decode cX2_eliminate 59 = .ok (.aload_n 0, 1) := by decide +kernel
theorem dX2_eliminate_60 : decode cX2_eliminate 60 = .ok (.iload 7, 2) := by decide +kernel
theorem dX2_eliminate_62 : decode cX2_eliminate 62 = .ok (.iload 10, 2) := by decide +kernel
theorem dX2_eliminate_64 : decode cX2_eliminate 64 = .ok (.invokevirtual 41, 3) := by decide +kernel
theorem dX2_eliminate_67 : decode cX2_eliminate 67 = .ok (.lmul, 1) := by decide +kernel
theorem dX2_eliminate_68 : decode cX2_eliminate 68 = .ok (.lload 8, 2) := by decide +kernel
theorem dX2_eliminate_70 : decode cX2_eliminate 70 = .ok (.aload_n 0, 1) := by decide +kernel
theorem dX2_eliminate_71 : decode cX2_eliminate 71 = .ok (.iload 4, 2) := by decide +kernel
theorem dX2_eliminate_73 : decode cX2_eliminate 73 = .ok (.iload 10, 2) := by decide +kernel
theorem dX2_eliminate_75 : decode cX2_eliminate 75 = .ok (.invokevirtual 41, 3) := by decide +kernel
theorem dX2_eliminate_78 : decode cX2_eliminate 78 = .ok (.lmul, 1) := by decide +kernel
theorem dX2_eliminate_79 : decode cX2_eliminate 79 = .ok (.lsub, 1) := by decide +kernel
theorem dX2_eliminate_80 : decode cX2_eliminate 80 = .ok (.lstore 11, 2) := by decide +kernel
theorem dX2_eliminate_82 : decode cX2_eliminate 82 = .ok (.aload_n 0, 1) := by decide +kernel
theorem dX2_eliminate_83 : decode cX2_eliminate 83 = .ok (.iload 7, 2) := by decide +kernel
theorem dX2_eliminate_85 : decode cX2_eliminate 85 = .ok (.iload 10, 2) := by decide +kernel
theorem dX2_eliminate_87 : decode cX2_eliminate 87 = .ok (.lload_n 2, 1) := by decide +kernel
theorem dX2_eliminate_88 : decode cX2_eliminate 88 = .ok (.lconst 0, 1) := by decide +kernel
theorem dX2_eliminate_89 : decode cX2_eliminate 89 = .ok (.lcmp, 1) := by decide +kernel
theorem dX2_eliminate_90 : decode cX2_eliminate 90 = .ok (.ifCond .ne 7, 3) := by decide +kernel
theorem dX2_eliminate_93 : decode cX2_eliminate 93 = .ok (.lconst 0, 1) := by decide +kernel
theorem dX2_eliminate_94 : decode cX2_eliminate 94 = .ok (.goto 7, 3) := by decide +kernel
theorem dX2_eliminate_97 : decode cX2_eliminate 97 = .ok (.lload 11, 2) := by decide +kernel
theorem dX2_eliminate_99 : decode cX2_eliminate 99 = .ok (.lload_n 2, 1) := by decide +kernel
theorem dX2_eliminate_100 : decode cX2_eliminate 100 = .ok (.ldiv, 1) := by decide +kernel
theorem dX2_eliminate_101 : decode cX2_eliminate 101 = .ok (.invokevirtual 83, 3) := by decide +kernel
theorem dX2_eliminate_104 : decode cX2_eliminate 104 = .ok (.iinc 10 1, 3) := by decide +kernel
theorem dX2_eliminate_107 : decode cX2_eliminate 107 = .ok (.goto (-56), 3) := by decide +kernel
theorem dX2_eliminate_110 : decode cX2_eliminate 110 = .ok (.iinc 7 1, 3) := by decide +kernel
theorem dX2_eliminate_113 : decode cX2_eliminate 113 = .ok (.goto (-84), 3) := by decide +kernel
theorem dX2_eliminate_116 : decode cX2_eliminate 116 = .ok (.lload 5, 2) := by decide +kernel
theorem dX2_eliminate_118 : decode cX2_eliminate 118 = .ok (.lstore_n 2, 1) := by decide +kernel
theorem dX2_eliminate_119 : decode cX2_eliminate 119 = .ok (.iinc 4 1, 3) := by decide +kernel
theorem dX2_eliminate_122 : decode cX2_eliminate 122 = .ok (.goto (-117), 3) := by decide +kernel
theorem dX2_eliminate_125 : decode cX2_eliminate 125 = .ok (.return_, 1) := by decide +kernel
theorem dX2_cellAt_0 : decode cX2_cellAt 0 = .ok (.iload_n 1, 1) := by decide +kernel
theorem dX2_cellAt_1 : decode cX2_cellAt 1 = .ok (.bipush 6, 2) := by decide +kernel
theorem dX2_cellAt_3 : decode cX2_cellAt 3 = .ok (.imul, 1) := by decide +kernel
theorem dX2_cellAt_4 : decode cX2_cellAt 4 = .ok (.iload_n 2, 1) := by decide +kernel
theorem dX2_cellAt_5 : decode cX2_cellAt 5 = .ok (.iadd, 1) := by decide +kernel
theorem dX2_cellAt_6 : decode cX2_cellAt 6 = .ok (.istore_n 3, 1) := by decide +kernel
theorem dX2_cellAt_7 : decode cX2_cellAt 7 = .ok (.iload_n 3, 1) := by decide +kernel
theorem dX2_cellAt_8 : decode cX2_cellAt 8 = .ok (.ifCond .lt 21, 3) := by decide +kernel
theorem dX2_cellAt_11 : decode cX2_cellAt 11 = .ok (.iload_n 3, 1) := by decide +kernel
theorem dX2_cellAt_12 : decode cX2_cellAt 12 = .ok (.aload_n 0, 1) := by decide +kernel
theorem dX2_cellAt_13 : decode cX2_cellAt 13 = .ok (.getfield 11, 3) := by decide +kernel
theorem dX2_cellAt_16 : decode cX2_cellAt 16 = .ok (.arraylength, 1) := by decide +kernel
theorem dX2_cellAt_17 : decode cX2_cellAt 17 = .ok (.if_icmp .ge 12, 3) := by decide +kernel
theorem dX2_cellAt_20 : decode cX2_cellAt 20 = .ok (.aload_n 0, 1) := by decide +kernel
theorem dX2_cellAt_21 : decode cX2_cellAt 21 = .ok (.getfield 11, 3) := by decide +kernel
theorem dX2_cellAt_24 : decode cX2_cellAt 24 = .ok (.iload_n 3, 1) := by decide +kernel
theorem dX2_cellAt_25 : decode cX2_cellAt 25 = .ok (.laload, 1) := by decide +kernel
theorem dX2_cellAt_26 : decode cX2_cellAt 26 = .ok (.goto 4, 3) := by decide +kernel
theorem dX2_cellAt_29 : decode cX2_cellAt 29 = .ok (.lconst 0, 1) := by decide +kernel
theorem dX2_cellAt_30 : decode cX2_cellAt 30 = .ok (.lreturn, 1) := by decide +kernel
theorem dX2_setCell_0 : decode cX2_setCell 0 = .ok (.iload_n 1, 1) := by decide +kernel
theorem dX2_setCell_1 : decode cX2_setCell 1 = .ok (.bipush 6, 2) := by decide +kernel
theorem dX2_setCell_3 : decode cX2_setCell 3 = .ok (.imul, 1) := by decide +kernel
theorem dX2_setCell_4 : decode cX2_setCell 4 = .ok (.iload_n 2, 1) := by decide +kernel
theorem dX2_setCell_5 : decode cX2_setCell 5 = .ok (.iadd, 1) := by decide +kernel
theorem dX2_setCell_6 : decode cX2_setCell 6 = .ok (.istore 5, 2) := by decide +kernel
theorem dX2_setCell_8 : decode cX2_setCell 8 = .ok (.iload 5, 2) := by decide +kernel
theorem dX2_setCell_10 : decode cX2_setCell 10 = .ok (.ifCond .lt 21, 3) := by decide +kernel
theorem dX2_setCell_13 : decode cX2_setCell 13 = .ok (.iload 5, 2) := by decide +kernel
theorem dX2_setCell_15 : decode cX2_setCell 15 = .ok (.aload_n 0, 1) := by decide +kernel
theorem dX2_setCell_16 : decode cX2_setCell 16 = .ok (.getfield 11, 3) := by decide +kernel
theorem dX2_setCell_19 : decode cX2_setCell 19 = .ok (.arraylength, 1) := by decide +kernel
theorem dX2_setCell_20 : decode cX2_setCell 20 = .ok (.if_icmp .ge 11, 3) := by decide +kernel
theorem dX2_setCell_23 : decode cX2_setCell 23 = .ok (.aload_n 0, 1) := by decide +kernel
theorem dX2_setCell_24 : decode cX2_setCell 24 = .ok (.getfield 11, 3) := by decide +kernel
theorem dX2_setCell_27 : decode cX2_setCell 27 = .ok (.iload 5, 2) := by decide +kernel
theorem dX2_setCell_29 : decode cX2_setCell 29 = .ok (.lload_n 3, 1) := by decide +kernel
theorem dX2_setCell_30 : decode cX2_setCell 30 = .ok (.lastore, 1) := by decide +kernel
theorem dX2_setCell_31 : decode cX2_setCell 31 = .ok (.return_, 1) := by decide +kernel
theorem dX3_init_0 : decode cX3_init 0 = .ok (.aload_n 0, 1) := by decide +kernel
theorem dX3_init_1 : decode cX3_init 1 = .ok (.invokespecial 3, 3) := by decide +kernel
theorem dX3_init_4 : decode cX3_init 4 = .ok (.aload_n 0, 1) := by decide +kernel
theorem dX3_init_5 : decode cX3_init 5 = .ok (.iconst 0, 1) := by decide +kernel
theorem dX3_init_6 : decode cX3_init 6 = .ok (.putfield 9, 3) := by decide +kernel
theorem dX3_init_9 : decode cX3_init 9 = .ok (.aload_n 0, 1) := by decide +kernel
theorem dX3_init_10 : decode cX3_init 10 = .ok (.iload_n 1, 1) := by decide +kernel
theorem dX3_init_11 : decode cX3_init 11 = .ok (.putfield 15, 3) := by decide +kernel
theorem dX3_init_14 : decode cX3_init 14 = .ok (.aload_n 0, 1) := by decide +kernel
theorem dX3_init_15 : decode cX3_init 15 = .ok (.iconst 0, 1) := by decide +kernel
theorem dX3_init_16 : decode cX3_init 16 = .ok (.bipush 24, 2) := by decide +kernel
theorem dX3_init_18 : decode cX3_init 18 = .ok (.iload_n 2, 1) := by decide +kernel
theorem dX3_init_19 : decode cX3_init 19 = .ok (.invokestatic 19, 3) := by decide +kernel
theorem dX3_init_22 : decode cX3_init 22 = .ok (.invokestatic 25, 3) := by decide +kernel
theorem dX3_init_25 : decode cX3_init 25 = .ok (.newarray .long, 2) := by decide +kernel
theorem dX3_init_27 : decode cX3_init 27 = .ok (.putfield 28, 3) := by decide +kernel
theorem dX3_init_30 : decode cX3_init 30 = .ok (.return_, 1) := by decide +kernel
theorem dX3_hasPlaces_0 : decode cX3_hasPlaces 0 = .ok (.iload_n 1, 1) := by decide +kernel
theorem dX3_hasPlaces_1 : decode cX3_hasPlaces 1 = .ok (.ifCond .lt 31, 3) := by decide +kernel
theorem dX3_hasPlaces_4 : decode cX3_hasPlaces 4 = .ok (.iload_n 2, 1) := by decide +kernel
theorem dX3_hasPlaces_5 : decode cX3_hasPlaces 5 = .ok (.ifCond .lt 27, 3) := by decide +kernel
theorem dX3_hasPlaces_8 : decode cX3_hasPlaces 8 = .ok (.iload_n 2, 1) := by decide +kernel
theorem dX3_hasPlaces_9 : decode cX3_hasPlaces 9 = .ok (.aload_n 0, 1) := by decide +kernel
theorem dX3_hasPlaces_10 : decode cX3_hasPlaces 10 = .ok (.getfield 28, 3) := by decide +kernel
theorem dX3_hasPlaces_13 : decode cX3_hasPlaces 13 = .ok (.arraylength, 1) := by decide +kernel
theorem dX3_hasPlaces_14 : decode cX3_hasPlaces 14 = .ok (.if_icmp .gt 18, 3) := by decide +kernel
theorem dX3_hasPlaces_17 : decode cX3_hasPlaces 17 = .ok (.iload_n 1, 1) := by decide +kernel
theorem dX3_hasPlaces_18 : decode cX3_hasPlaces 18 = .ok (.aload_n 0, 1) := by decide +kernel
theorem dX3_hasPlaces_19 : decode cX3_hasPlaces 19 = .ok (.getfield 28, 3) := by decide +kernel
theorem dX3_hasPlaces_22 : decode cX3_hasPlaces 22 = .ok (.arraylength, 1) := by decide +kernel
theorem dX3_hasPlaces_23 : decode cX3_hasPlaces 23 = .ok (.iload_n 2, 1) := by decide +kernel
theorem dX3_hasPlaces_24 : decode cX3_hasPlaces 24 = .ok (.isub, 1) := by decide +kernel
theorem dX3_hasPlaces_25 : decode cX3_hasPlaces 25 = .ok (.if_icmp .gt 7, 3) := by decide +kernel
theorem dX3_hasPlaces_28 : decode cX3_hasPlaces 28 = .ok (.iconst 1, 1) := by decide +kernel
theorem dX3_hasPlaces_29 : decode cX3_hasPlaces 29 = .ok (.goto 4, 3) := by decide +kernel
theorem dX3_hasPlaces_32 : decode cX3_hasPlaces 32 = .ok (.iconst 0, 1) := by decide +kernel
theorem dX3_hasPlaces_33 : decode cX3_hasPlaces 33 = .ok (.ireturn, 1) := by decide +kernel
theorem dX3_placeAt_0 : decode cX3_placeAt 0 = .ok (.iload_n 1, 1) := by decide +kernel
theorem dX3_placeAt_1 : decode cX3_placeAt 1 = .ok (.ifCond .lt 21, 3) := by decide +kernel
theorem dX3_placeAt_4 : decode cX3_placeAt 4 = .ok (.iload_n 1, 1) := by decide +kernel
theorem dX3_placeAt_5 : decode cX3_placeAt 5 = .ok (.aload_n 0, 1) := by decide +kernel
theorem dX3_placeAt_6 : decode cX3_placeAt 6 = .ok (.getfield 28, 3) := by decide +kernel
theorem dX3_placeAt_9 : decode cX3_placeAt 9 = .ok (.arraylength, 1) := by decide +kernel
theorem dX3_placeAt_10 : decode cX3_placeAt 10 = .ok (.if_icmp .ge 12, 3) := by decide +kernel
theorem dX3_placeAt_13 : decode cX3_placeAt 13 = .ok (.aload_n 0, 1) := by decide +kernel
theorem dX3_placeAt_14 : decode cX3_placeAt 14 = .ok (.getfield 28, 3) := by decide +kernel
theorem dX3_placeAt_17 : decode cX3_placeAt 17 = .ok (.iload_n 1, 1) := by decide +kernel
theorem dX3_placeAt_18 : decode cX3_placeAt 18 = .ok (.laload, 1) := by decide +kernel
theorem dX3_placeAt_19 : decode cX3_placeAt 19 = .ok (.goto 4, 3) := by decide +kernel
theorem dX3_placeAt_22 : decode cX3_placeAt 22 = .ok (.lconst 0, 1) := by decide +kernel
theorem dX3_placeAt_23 : decode cX3_placeAt 23 = .ok (.lreturn, 1) := by decide +kernel
theorem dX3_put_0 : decode cX3_put 0 = .ok (.iload_n 1, 1) := by decide +kernel
theorem dX3_put_1 : decode cX3_put 1 = .ok (.ifCond .lt 23, 3) := by decide +kernel
theorem dX3_put_4 : decode cX3_put 4 = .ok (.iload_n 1, 1) := by decide +kernel
theorem dX3_put_5 : decode cX3_put 5 = .ok (.aload_n 0, 1) := by decide +kernel
theorem dX3_put_6 : decode cX3_put 6 = .ok (.getfield 28, 3) := by decide +kernel
theorem dX3_put_9 : decode cX3_put 9 = .ok (.arraylength, 1) := by decide +kernel
theorem dX3_put_10 : decode cX3_put 10 = .ok (.if_icmp .ge 14, 3) := by decide +kernel
theorem dX3_put_13 : decode cX3_put 13 = .ok (.aload_n 0, 1) := by decide +kernel
theorem dX3_put_14 : decode cX3_put 14 = .ok (.getfield 28, 3) := by decide +kernel
theorem dX3_put_17 : decode cX3_put 17 = .ok (.iload_n 1, 1) := by decide +kernel
theorem dX3_put_18 : decode cX3_put 18 = .ok (.aload_n 0, 1) := by decide +kernel
theorem dX3_put_19 : decode cX3_put 19 = .ok (.lload_n 2, 1) := by decide +kernel
theorem dX3_put_20 : decode cX3_put 20 = .ok (.invokevirtual 32, 3) := by decide +kernel
theorem dX3_put_23 : decode cX3_put 23 = .ok (.lastore, 1) := by decide +kernel
theorem dX3_put_24 : decode cX3_put 24 = .ok (.return_, 1) := by decide +kernel
theorem dX3_cut_0 : decode cX3_cut 0 = .ok (.aload_n 0, 1) := by decide +kernel
theorem dX3_cut_1 : decode cX3_cut 1 = .ok (.getfield 15, 3) := by decide +kernel
theorem dX3_cut_4 : decode cX3_cut 4 = .ok (.tableswitch 42 0 2 #[28, 33, 38], 28) := by decide +kernel
theorem dX3_cut_32 : decode cX3_cut 32 = .ok (.lload_n 1, 1) := by decide +kernel
theorem dX3_cut_33 : decode cX3_cut 33 = .ok (.l2i, 1) := by decide +kernel
theorem dX3_cut_34 : decode cX3_cut 34 = .ok (.i2b, 1) := by decide +kernel
theorem dX3_cut_35 : decode cX3_cut 35 = .ok (.i2l, 1) := by decide +kernel
theorem dX3_cut_36 : decode cX3_cut 36 = .ok (.lreturn, 1) := by decide +kernel
theorem dX3_cut_37 : decode cX3_cut 37 = .ok (.lload_n 1, 1) := by decide +kernel
theorem dX3_cut_38 : decode cX3_cut 38 = .ok (.l2i, 1) := by decide +kernel
theorem dX3_cut_39 : decode cX3_cut 39 = .ok (.i2s, 1) := by decide +kernel
theorem dX3_cut_40 : decode cX3_cut 40 = .ok (.i2l, 1) := by decide +kernel
theorem dX3_cut_41 : decode cX3_cut 41 = .ok (.lreturn, 1) := by decide +kernel
theorem dX3_cut_42 : decode cX3_cut 42 = .ok (.lload_n 1, 1) := by decide +kernel
theorem dX3_cut_43 : decode cX3_cut 43 = .ok (.l2i, 1) := by decide +kernel
theorem dX3_cut_44 : decode cX3_cut 44 = .ok (.i2l, 1) := by decide +kernel
theorem dX3_cut_45 : decode cX3_cut 45 = .ok (.lreturn, 1) := by decide +kernel
theorem dX3_cut_46 : decode cX3_cut 46 = .ok (.lload_n 1, 1) := by decide +kernel
theorem dX3_cut_47 : decode cX3_cut 47 = .ok (.lreturn, 1) := by decide +kernel
theorem dJ9_floorDiv_f86c9_0 : decode cJ9_floorDiv_f86c9 0 = .ok (.lload_n 0, 1) := by decide +kernel
theorem dJ9_floorDiv_f86c9_1 : decode cJ9_floorDiv_f86c9 1 = .ok (.lload_n 2, 1) := by decide +kernel
theorem dJ9_floorDiv_f86c9_2 : decode cJ9_floorDiv_f86c9 2 = .ok (.ldiv, 1) := by decide +kernel
theorem dJ9_floorDiv_f86c9_3 : decode cJ9_floorDiv_f86c9 3 = .ok (.lstore 4, 2) := by decide +kernel
theorem dJ9_floorDiv_f86c9_5 : decode cJ9_floorDiv_f86c9 5 = .ok (.lload_n 0, 1) := by decide +kernel
theorem dJ9_floorDiv_f86c9_6 : decode cJ9_floorDiv_f86c9 6 = .ok (.lload_n 2, 1) := by decide +kernel
theorem dJ9_floorDiv_f86c9_7 : decode cJ9_floorDiv_f86c9 7 = .ok (.lxor, 1) := by decide +kernel
theorem dJ9_floorDiv_f86c9_8 : decode cJ9_floorDiv_f86c9 8 = .ok (.lconst 0, 1) := by decide +kernel
theorem dJ9_floorDiv_f86c9_9 : decode cJ9_floorDiv_f86c9 9 = .ok (.lcmp, 1) := by decide +kernel
theorem dJ9_floorDiv_f86c9_10 : decode cJ9_floorDiv_f86c9 10 = .ok (.ifCond .ge 17, 3) := by decide +kernel
theorem dJ9_floorDiv_f86c9_13 : decode cJ9_floorDiv_f86c9 13 = .ok (.lload 4, 2) := by decide +kernel
theorem dJ9_floorDiv_f86c9_15 : decode cJ9_floorDiv_f86c9 15 = .ok (.lload_n 2, 1) := by decide +kernel
theorem dJ9_floorDiv_f86c9_16 : decode cJ9_floorDiv_f86c9 16 = .ok (.lmul, 1) := by decide +kernel
theorem dJ9_floorDiv_f86c9_17 : decode cJ9_floorDiv_f86c9 17 = .ok (.lload_n 0, 1) := by decide +kernel
theorem dJ9_floorDiv_f86c9_18 : decode cJ9_floorDiv_f86c9 18 = .ok (.lcmp, 1) := by decide +kernel
theorem dJ9_floorDiv_f86c9_19 : decode cJ9_floorDiv_f86c9 19 = .ok (.ifCond .eq 8, 3) := by decide +kernel
theorem dJ9_floorDiv_f86c9_22 : decode cJ9_floorDiv_f86c9 22 = .ok (.lload 4, 2) := by decide +kernel
theorem dJ9_floorDiv_f86c9_24 : decode cJ9_floorDiv_f86c9 24 = .ok (.lconst 1, 1) := by decide +kernel
theorem dJ9_floorDiv_f86c9_25 : decode cJ9_floorDiv_f86c9 25 = .ok (.lsub, 1) := by decide +kernel
theorem dJ9_floorDiv_f86c9_26 : decode cJ9_floorDiv_f86c9 26 = .ok (.lreturn, 1) := by decide +kernel
theorem dJ9_floorDiv_f86c9_27 : decode cJ9_floorDiv_f86c9 27 = .ok (.lload 4, 2) := by decide +kernel
theorem dJ9_floorDiv_f86c9_29 : decode cJ9_floorDiv_f86c9 29 = .ok (.lreturn, 1) := by decide +kernel
theorem dJ9_abs_067f4_0 : decode cJ9_abs_067f4 0 = .ok (.lload_n 0, 1) := by decide +kernel
theorem dJ9_abs_067f4_1 : decode cJ9_abs_067f4 1 = .ok (.lconst 0, 1) := by decide +kernel
theorem dJ9_abs_067f4_2 : decode cJ9_abs_067f4 2 = .ok (.lcmp, 1) := by decide +kernel
theorem dJ9_abs_067f4_3 : decode cJ9_abs_067f4 3 = .ok (.ifCond .ge 8, 3) := by decide +kernel
theorem dJ9_abs_067f4_6 : decode cJ9_abs_067f4 6 = .ok (.lload_n 0, 1) := by decide +kernel
theorem dJ9_abs_067f4_7 : decode cJ9_abs_067f4 7 = .ok (.lneg, 1) := by decide +kernel
theorem dJ9_abs_067f4_8 : decode cJ9_abs_067f4 8 = .ok (.goto 4, 3) := by decide +kernel
theorem dJ9_abs_067f4_11 : decode cJ9_abs_067f4 11 = .ok (.lload_n 0, 1) := by decide +kernel
theorem dJ9_abs_067f4_12 : decode cJ9_abs_067f4 12 = .ok (.lreturn, 1) := by decide +kernel
theorem dJ9_max_7cf53_0 : decode cJ9_max_7cf53 0 = .ok (.iload_n 0, 1) := by decide +kernel
theorem dJ9_max_7cf53_1 : decode cJ9_max_7cf53 1 = .ok (.iload_n 1, 1) := by decide +kernel
theorem dJ9_max_7cf53_2 : decode cJ9_max_7cf53 2 = .ok (.if_icmp .lt 7, 3) := by decide +kernel
theorem dJ9_max_7cf53_5 : decode cJ9_max_7cf53 5 = .ok (.iload_n 0, 1) := by decide +kernel
theorem dJ9_max_7cf53_6 : decode cJ9_max_7cf53 6 = .ok (.goto 4, 3) := by decide +kernel
theorem dJ9_max_7cf53_9 : decode cJ9_max_7cf53 9 = .ok (.iload_n 1, 1) := by decide +kernel
theorem dJ9_max_7cf53_10 : decode cJ9_max_7cf53 10 = .ok (.ireturn, 1) := by decide +kernel
theorem dJ9_min_7cf53_0 : decode cJ9_min_7cf53 0 = .ok (.iload_n 0, 1) := by decide +kernel
theorem dJ9_min_7cf53_1 : decode cJ9_min_7cf53 1 = .ok (.iload_n 1, 1) := by decide +kernel
theorem dJ9_min_7cf53_2 : decode cJ9_min_7cf53 2 = .ok (.if_icmp .gt 7, 3) := by decide +kernel
theorem dJ9_min_7cf53_5 : decode cJ9_min_7cf53 5 = .ok (.iload_n 0, 1) := by decide +kernel
theorem dJ9_min_7cf53_6 : decode cJ9_min_7cf53 6 = .ok (.goto 4, 3) := by decide +kernel
theorem dJ9_min_7cf53_9 : decode cJ9_min_7cf53 9 = .ok (.iload_n 1, 1) := by decide +kernel
theorem dJ9_min_7cf53_10 : decode cJ9_min_7cf53 10 = .ok (.ireturn, 1) := by decide +kernel
end
section
theorem dX4_init_0 : decode cX4_init 0 = .ok (.aload_n 0, 1) := by decide +kernel
theorem dX4_init_1 : decode cX4_init 1 = .ok (.invokespecial 1, 3) := by decide +kernel
theorem dX4_init_4 : decode cX4_init 4 = .ok (.aload_n 0, 1) := by decide +kernel
theorem dX4_init_5 : decode cX4_init 5 = .ok (.bipush 16, 2) := by decide +kernel
theorem dX4_init_7 : decode cX4_init 7 = .ok (.anewarray 9, 3) := by decide +kernel
theorem dX4_init_10 : decode cX4_init 10 = .ok (.putfield 11, 3) := by decide +kernel
theorem dX4_init_13 : decode cX4_init 13 = .ok (.aload_n 0, 1) := by decide +kernel
theorem dX4_init_14 : decode cX4_init 14 = .ok (.bipush 12, 2) := by decide +kernel
theorem dX4_init_16 : decode cX4_init 16 = .ok (.anewarray 15, 3) := by decide +kernel
theorem dX4_init_19 : decode cX4_init 19 = .ok (.putfield 17, 3) := by decide +kernel
theorem dX4_init_22 : decode cX4_init 22 = .ok (.aload_n 0, 1) := by decide +kernel
theorem dX4_init_23 : decode cX4_init 23 = .ok (.new 21, 3) := by decide +kernel
theorem dX4_init_26 : decode cX4_init 26 = .ok (.dup, 1) := by decide +kernel
theorem dX4_init_27 : decode cX4_init 27 = .ok (.invokespecial 23, 3) := by decide +kernel
theorem dX4_init_30 : decode cX4_init 30 = .ok (.putfield 24, 3) := by decide +kernel
theorem dX4_init_33 : decode cX4_init 33 = .ok (.aload_n 0, 1) := by decide +kernel
theorem dX4_init_34 : decode cX4_init 34 = .ok (.new 28, 3) := by decide +kernel
theorem dX4_init_37 : decode cX4_init 37 = .ok (.dup, 1) := by decide +kernel
theorem dX4_init_38 : decode cX4_init 38 = .ok (.invokespecial 30, 3) := by decide +kernel
theorem dX4_init_41 : decode cX4_init 41 = .ok (.putfield 31, 3) := by decide +kernel
theorem dX4_init_44 : decode cX4_init 44 = .ok (.aload_n 0, 1) := by decide +kernel
theorem dX4_init_45 : decode cX4_init 45 = .ok (.bipush 7, 2) := by decide +kernel
theorem dX4_init_47 : decode cX4_init 47 = .ok (.newarray .int, 2) := by decide +kernel
theorem dX4_init_49 : decode cX4_init 49 = .ok (.putfield 35, 3) := by decide +kernel
theorem dX4_init_52 : decode cX4_init 52 = .ok (.aload_n 0, 1) := by decide +kernel
theorem dX4_init_53 : decode cX4_init 53 = .ok (.sipush 200, 3) := by decide +kernel
theorem dX4_init_56 : decode cX4_init 56 = .ok (.newarray .int, 2) := by decide +kernel
theorem dX4_init_58 : decode cX4_init 58 = .ok (.putfield 39, 3) := by decide +kernel
theorem dX4_init_61 : decode cX4_init 61 = .ok (.aload_n 0, 1) := by decide +kernel
theorem dX4_init_62 : decode cX4_init 62 = .ok (.iconst 0, 1) := by decide +kernel
theorem dX4_init_63 : decode cX4_init 63 = .ok (.putfield 42, 3) := by decide +kernel
theorem dX4_init_66 : decode cX4_init 66 = .ok (.aload_n 0, 1) := by decide +kernel
theorem dX4_init_67 : decode cX4_init 67 = .ok (.iconst 0, 1) := by decide +kernel
theorem dX4_init_68 : decode cX4_init 68 = .ok (.putfield 46, 3) := by decide +kernel
theorem dX4_init_71 : decode cX4_init 71 = .ok (.aload_n 0, 1) := by decide +kernel
theorem dX4_init_72 : decode cX4_init 72 = .ok (.iconst 1, 1) := by decide +kernel
theorem dX4_init_73 : decode cX4_init 73 = .ok (.putfield 49, 3) := by decide +kernel
theorem dX4_init_76 : decode cX4_init 76 = .ok (.aload_n 0, 1) := by decide +kernel
theorem dX4_init_77 : decode cX4_init 77 = .ok (.iconst 2, 1) := by decide +kernel
theorem dX4_init_78 : decode cX4_init 78 = .ok (.putfield 52, 3) := by decide +kernel
theorem dX4_init_81 : decode cX4_init 81 = .ok (.aload_n 0, 1) := by decide +kernel
theorem dX4_init_82 : decode cX4_init 82 = .ok (.iconst 1, 1) := by decide +kernel
theorem dX4_init_83 : decode cX4_init 83 = .ok (.putfield 55, 3) := by decide +kernel
theorem dX4_init_86 : decode cX4_init 86 = .ok (.aload_n 0, 1) := by decide +kernel
theorem dX4_init_87 : decode cX4_init 87 = .ok (.iconst 0, 1) := by decide +kernel
theorem dX4_init_88 : decode cX4_init 88 = .ok (.putfield 58, 3) := by decide +kernel
theorem dX4_init_91 : decode cX4_init 91 = .ok (.aload_n 0, 1) := by decide +kernel
theorem dX4_init_92 : decode cX4_init 92 = .ok (.iconst 0, 1) := by decide +kernel
theorem dX4_init_93 : decode cX4_init 93 = .ok (.putfield 61, 3) := by decide +kernel
theorem dX4_init_96 : decode cX4_init 96 = .ok (.aload_n 0, 1) := by decide +kernel
theorem dX4_init_97 : decode cX4_init 97 = .ok (.lconst 0, 1) := by decide +kernel
theorem dX4_init_98 : decode cX4_init 98 = .ok (.putfield 64, 3) := by decide +kernel
theorem dX4_init_101 : decode cX4_init 101 = .ok (.aload_n 0, 1) := by decide +kernel
theorem dX4_init_102 : decode cX4_init 102 = .ok (.lconst 0, 1) := by decide +kernel
theorem dX4_init_103 : decode cX4_init 103 = .ok (.putfield 68, 3) := by decide +kernel
theorem dX4_init_106 : decode cX4_init 106 = .ok (.return_, 1) := by decide +kernel
theorem dX4_share_0 : decode cX4_share 0 = .ok (.iload_n 1, 1) := by decide +kernel
theorem dX4_share_1 : decode cX4_share 1 = .ok (.iconst 1, 1) := by decide +kernel
theorem dX4_share_2 : decode cX4_share 2 = .ok (.if_icmp .lt 14, 3) := by decide +kernel
theorem dX4_share_5 : decode cX4_share 5 = .ok (.iload_n 1, 1) := by decide +kernel
theorem dX4_share_6 : decode cX4_share 6 = .ok (.iload_n 2, 1) := by decide +kernel
theorem dX4_share_7 : decode cX4_share 7 = .ok (.if_icmp .ge 9, 3) := by decide +kernel
theorem dX4_share_10 : decode cX4_share 10 = .ok (.iload_n 2, 1) := by decide +kernel
theorem dX4_share_11 : decode cX4_share 11 = .ok (.bipush 8, 2) := by decide +kernel
theorem dX4_share_13 : decode cX4_share 13 = .ok (.if_icmp .le 5, 3) := by decide +kernel
theorem dX4_share_16 : decode cX4_share 16 = .ok (.iconst (-1), 1) := by decide +kernel
theorem dX4_share_17 : decode cX4_share 17 = .ok (.ireturn, 1) := by decide +kernel
theorem dX4_share_18 : decode cX4_share 18 = .ok (.aload_n 0, 1) := by decide +kernel
theorem dX4_share_19 : decode cX4_share 19 = .ok (.iload_n 1, 1) := by decide +kernel
theorem dX4_share_20 : decode cX4_share 20 = .ok (.putfield 49, 3) := by decide +kernel
theorem dX4_share_23 : decode cX4_share 23 = .ok (.aload_n 0, 1) := by decide +kernel
theorem dX4_share_24 : decode cX4_share 24 = .ok (.iload_n 2, 1) := by decide +kernel
theorem dX4_share_25 : decode cX4_share 25 = .ok (.putfield 52, 3) := by decide +kernel
theorem dX4_share_28 : decode cX4_share 28 = .ok (.iconst 0, 1) := by decide +kernel
theorem dX4_share_29 : decode cX4_share 29 = .ok (.istore_n 3, 1) := by decide +kernel
theorem dX4_share_30 : decode cX4_share 30 = .ok (.iload_n 3, 1) := by decide +kernel
theorem dX4_share_31 : decode cX4_share 31 = .ok (.aload_n 0, 1) := by decide +kernel
theorem dX4_share_32 : decode cX4_share 32 = .ok (.getfield 42, 3) := by decide +kernel
theorem dX4_share_35 : decode cX4_share 35 = .ok (.if_icmp .ge 27, 3) := by decide +kernel
theorem dX4_share_38 : decode cX4_share 38 = .ok (.aload_n 0, 1) := by decide +kernel
theorem dX4_share_39 : decode cX4_share 39 = .ok (.iload_n 3, 1) := by decide +kernel
theorem dX4_share_40 : decode cX4_share 40 = .ok (.invokevirtual 71, 3) := by decide +kernel
theorem dX4_share_43 : decode cX4_share 43 = .ok (.astore 4, 2) := by decide +kernel
theorem dX4_share_45 : decode cX4_share 45 = .ok (.aload 4, 2) := by decide +kernel
theorem dX4_share_47 : decode cX4_share 47 = .ok (.ifnull 9, 3) := by decide +kernel
theorem dX4_share_50 : decode cX4_share 50 = .ok (.aload 4, 2) := by decide +kernel
theorem dX4_share_52 : decode cX4_share 52 = .ok (.iconst 0, 1) := by decide +kernel
theorem dX4_share_53 : decode cX4_share 53 = .ok (.putfield 75, 3) := by decide +kernel
theorem dX4_share_56 : decode cX4_share 56 = .ok (.iinc 3 1, 3) := by decide +kernel
theorem dX4_share_59 : decode cX4_share 59 = .ok (.goto (-29), 3) := by decide +kernel
theorem dX4_share_62 : decode cX4_share 62 = .ok (.iconst 1, 1) := by decide +kernel
theorem dX4_share_63 : decode cX4_share 63 = .ok (.ireturn, 1) := by decide +kernel
theorem dX4_sheet_0 : decode cX4_sheet 0 = .ok (.iload_n 1, 1) := by decide +kernel
theorem dX4_sheet_1 : decode cX4_sheet 1 = .ok (.ifCond .lt 14, 3) := by decide +kernel
theorem dX4_sheet_4 : decode cX4_sheet 4 = .ok (.iload_n 1, 1) := by decide +kernel
theorem dX4_sheet_5 : decode cX4_sheet 5 = .ok (.iconst 3, 1) := by decide +kernel
theorem dX4_sheet_6 : decode cX4_sheet 6 = .ok (.if_icmp .gt 9, 3) := by decide +kernel
theorem dX4_sheet_9 : decode cX4_sheet 9 = .ok (.iload_n 2, 1) := by decide +kernel
theorem dX4_sheet_10 : decode cX4_sheet 10 = .ok (.bipush 24, 2) := by decide +kernel
theorem dX4_sheet_12 : decode cX4_sheet 12 = .ok (.if_icmp .le 5, 3) := by decide +kernel
theorem dX4_sheet_15 : decode cX4_sheet 15 = .ok (.iconst (-1), 1) := by decide +kernel
theorem dX4_sheet_16 : decode cX4_sheet 16 = .ok (.ireturn, 1) := by decide +kernel
theorem dX4_sheet_17 : decode cX4_sheet 17 = .ok (.aload_n 0, 1) := by decide +kernel
theorem dX4_sheet_18 : decode cX4_sheet 18 = .ok (.getfield 46, 3) := by decide +kernel
theorem dX4_sheet_21 : decode cX4_sheet 21 = .ok (.ifCond .lt 15, 3) := by decide +kernel
theorem dX4_sheet_24 : decode cX4_sheet 24 = .ok (.aload_n 0, 1) := by decide +kernel
theorem dX4_sheet_25 : decode cX4_sheet 25 = .ok (.getfield 46, 3) := by decide +kernel
theorem dX4_sheet_28 : decode cX4_sheet 28 = .ok (.aload_n 0, 1) := by decide +kernel
theorem dX4_sheet_29 : decode cX4_sheet 29 = .ok (.getfield 17, 3) := by decide +kernel
theorem dX4_sheet_32 : decode cX4_sheet 32 = .ok (.arraylength, 1) := by decide +kernel
theorem dX4_sheet_33 : decode cX4_sheet 33 = .ok (.if_icmp .lt 6, 3) := by decide +kernel
theorem dX4_sheet_36 : decode cX4_sheet 36 = .ok (.bipush (-2), 2) := by decide +kernel
theorem dX4_sheet_38 : decode cX4_sheet 38 = .ok (.ireturn, 1) := by decide +kernel
theorem dX4_sheet_39 : decode cX4_sheet 39 = .ok (.iload_n 2, 1) := by decide +kernel
theorem dX4_sheet_40 : decode cX4_sheet 40 = .ok (.ifCond .ge 9, 3) := by decide +kernel
theorem dX4_sheet_43 : decode cX4_sheet 43 = .ok (.aload_n 0, 1) := by decide +kernel
theorem dX4_sheet_44 : decode cX4_sheet 44 = .ok (.iconst 5, 1) := by decide +kernel
theorem dX4_sheet_45 : decode cX4_sheet 45 = .ok (.invokevirtual 79, 3) := by decide +kernel
theorem dX4_sheet_48 : decode cX4_sheet 48 = .ok (.ireturn, 1) := by decide +kernel
theorem dX4_sheet_49 : decode cX4_sheet 49 = .ok (.aload_n 0, 1) := by decide +kernel
theorem dX4_sheet_50 : decode cX4_sheet 50 = .ok (.getfield 17, 3) := by decide +kernel
theorem dX4_sheet_53 : decode cX4_sheet 53 = .ok (.aload_n 0, 1) := by decide +kernel
theorem dX4_sheet_54 : decode cX4_sheet 54 = .ok (.getfield 46, 3) := by decide +kernel
theorem dX4_sheet_57 : decode cX4_sheet 57 = .ok (.new 15, 3) := by decide +kernel
theorem dX4_sheet_60 : decode cX4_sheet 60 = .ok (.dup, 1) := by decide +kernel
theorem dX4_sheet_61 : decode cX4_sheet 61 = .ok (.iload_n 1, 1) := by decide +kernel
theorem dX4_sheet_62 : decode cX4_sheet 62 = .ok (.iload_n 2, 1) := by decide +kernel
theorem dX4_sheet_63 : decode cX4_sheet 63 = .ok (.invokespecial 83, 3) := by decide +kernel
theorem dX4_sheet_66 : decode cX4_sheet 66 = .ok (.aastore, 1) := by decide +kernel
theorem dX4_sheet_67 : decode cX4_sheet 67 = .ok (.aload_n 0, 1) := by decide +kernel
theorem dX4_sheet_68 : decode cX4_sheet 68 = .ok (.dup, 1) := by decide +kernel
theorem dX4_sheet_69 : decode cX4_sheet 69 = .ok (.getfield 46, 3) := by decide +kernel
theorem dX4_sheet_72 : decode cX4_sheet 72 = .ok (.iconst 1, 1) := by decide +kernel
theorem dX4_sheet_73 : decode cX4_sheet 73 = .ok (.iadd, 1) := by decide +kernel
theorem dX4_sheet_74 : decode cX4_sheet 74 = .ok (.putfield 46, 3) := by decide +kernel
theorem dX4_sheet_77 : decode cX4_sheet 77 = .ok (.aload_n 0, 1) := by decide +kernel
theorem dX4_sheet_78 : decode cX4_sheet 78 = .ok (.getfield 46, 3) := by decide +kernel
theorem dX4_sheet_81 : decode cX4_sheet 81 = .ok (.iconst 1, 1) := by decide +kernel
theorem dX4_sheet_82 : decode cX4_sheet 82 = .ok (.isub, 1) := by decide +kernel
theorem dX4_sheet_83 : decode cX4_sheet 83 = .ok (.ireturn, 1) := by decide +kernel
theorem dX4_tear_0 : decode cX4_tear 0 = .ok (.aload_n 0, 1) := by decide +kernel
theorem dX4_tear_1 : decode cX4_tear 1 = .ok (.iload_n 1, 1) := by decide +kernel
theorem dX4_tear_2 : decode cX4_tear 2 = .ok (.invokevirtual 86, 3) := by decide +kernel
theorem dX4_tear_5 : decode cX4_tear 5 = .ok (.astore_n 2, 1) := by decide +kernel
theorem dX4_tear_6 : decode cX4_tear 6 = .ok (.aload_n 2, 1) := by decide +kernel
theorem dX4_tear_7 : decode cX4_tear 7 = .ok (.ifnonnull 5, 3) := by decide +kernel
theorem dX4_tear_10 : decode cX4_tear 10 = .ok (.iconst (-1), 1) := by decide +kernel
theorem dX4_tear_11 : decode cX4_tear 11 = .ok (.ireturn, 1) := by decide +kernel
theorem dX4_tear_12 : decode cX4_tear 12 = .ok (.aload_n 2, 1) := by decide +kernel
theorem dX4_tear_13 : decode cX4_tear 13 = .ok (.getfield 90, 3) := by decide +kernel
theorem dX4_tear_16 : decode cX4_tear 16 = .ok (.ifCond .eq 9, 3) := by decide +kernel
theorem dX4_tear_19 : decode cX4_tear 19 = .ok (.aload_n 0, 1) := by decide +kernel
theorem dX4_tear_20 : decode cX4_tear 20 = .ok (.iconst 1, 1) := by decide +kernel
theorem dX4_tear_21 : decode cX4_tear 21 = .ok (.invokevirtual 79, 3) := by decide +kernel
theorem dX4_tear_24 : decode cX4_tear 24 = .ok (.ireturn, 1) := by decide +kernel
theorem dX4_tear_25 : decode cX4_tear 25 = .ok (.aload_n 2, 1) := by decide +kernel
theorem dX4_tear_26 : decode cX4_tear 26 = .ok (.iconst 1, 1) := by decide +kernel
theorem dX4_tear_27 : decode cX4_tear 27 = .ok (.putfield 90, 3) := by decide +kernel
theorem dX4_tear_30 : decode cX4_tear 30 = .ok (.iconst 1, 1) := by decide +kernel
theorem dX4_tear_31 : decode cX4_tear 31 = .ok (.ireturn, 1) := by decide +kernel
theorem dX4_lay_0 : decode cX4_lay 0 = .ok (.aload_n 0, 1) := by decide +kernel
theorem dX4_lay_1 : decode cX4_lay 1 = .ok (.iload_n 1, 1) := by decide +kernel
theorem dX4_lay_2 : decode cX4_lay 2 = .ok (.invokevirtual 86, 3) := by decide +kernel
theorem dX4_lay_5 : decode cX4_lay 5 = .ok (.astore 5, 2) := by decide +kernel
theorem dX4_lay_7 : decode cX4_lay 7 = .ok (.aload 5, 2) := by decide +kernel
theorem dX4_lay_9 : decode cX4_lay 9 = .ok (.ifnonnull 5, 3) := by decide +kernel
theorem dX4_lay_12 : decode cX4_lay 12 = .ok (.iconst (-1), 1) := by decide +kernel
theorem dX4_lay_13 : decode cX4_lay 13 = .ok (.ireturn, 1) := by decide +kernel
theorem dX4_lay_14 : decode cX4_lay 14 = .ok (.aload 5, 2) := by decide +kernel
theorem dX4_lay_16 : decode cX4_lay 16 = .ok (.getfield 90, 3) := by decide +kernel
theorem dX4_lay_19 : decode cX4_lay 19 = .ok (.ifCond .eq 9, 3) := by decide +kernel
theorem dX4_lay_22 : decode cX4_lay 22 = .ok (.aload_n 0, 1) := by decide +kernel
theorem dX4_lay_23 : decode cX4_lay 23 = .ok (.iconst 1, 1) := by decide +kernel
theorem dX4_lay_24 : decode cX4_lay 24 = .ok (.invokevirtual 79, 3) := by decide +kernel
theorem dX4_lay_27 : decode cX4_lay 27 = .ok (.ireturn, 1) := by decide +kernel
theorem dX4_lay_28 : decode cX4_lay 28 = .ok (.aload 5, 2) := by decide +kernel
theorem dX4_lay_30 : decode cX4_lay 30 = .ok (.iload_n 2, 1) := by decide +kernel
theorem dX4_lay_31 : decode cX4_lay 31 = .ok (.iconst 1, 1) := by decide +kernel
theorem dX4_lay_32 : decode cX4_lay 32 = .ok (.invokevirtual 93, 3) := by decide +kernel
theorem dX4_lay_35 : decode cX4_lay 35 = .ok (.ifCond .ne 9, 3) := by decide +kernel
theorem dX4_lay_38 : decode cX4_lay 38 = .ok (.aload_n 0, 1) := by decide +kernel
theorem dX4_lay_39 : decode cX4_lay 39 = .ok (.iconst 2, 1) := by decide +kernel
theorem dX4_lay_40 : decode cX4_lay 40 = .ok (.invokevirtual 79, 3) := by decide +kernel
theorem dX4_lay_43 : decode cX4_lay 43 = .ok (.ireturn, 1) := by decide +kernel
theorem dX4_lay_44 : decode cX4_lay 44 = .ok (.aload 5, 2) := by decide +kernel
theorem dX4_lay_46 : decode cX4_lay 46 = .ok (.iload_n 2, 1) := by decide +kernel
theorem dX4_lay_47 : decode cX4_lay 47 = .ok (.lload_n 3, 1) := by decide +kernel
theorem dX4_lay_48 : decode cX4_lay 48 = .ok (.invokevirtual 97, 3) := by decide +kernel
theorem dX4_lay_51 : decode cX4_lay 51 = .ok (.iconst 1, 1) := by decide +kernel
theorem dX4_lay_52 : decode cX4_lay 52 = .ok (.ireturn, 1) := by decide +kernel
theorem dX4_get_0 : decode cX4_get 0 = .ok (.aload_n 0, 1) := by decide +kernel
theorem dX4_get_1 : decode cX4_get 1 = .ok (.iload_n 1, 1) := by decide +kernel
theorem dX4_get_2 : decode cX4_get 2 = .ok (.invokevirtual 86, 3) := by decide +kernel
theorem dX4_get_5 : decode cX4_get 5 = .ok (.astore_n 3, 1) := by decide +kernel
theorem dX4_get_6 : decode cX4_get 6 = .ok (.aload_n 3, 1) := by decide +kernel
theorem dX4_get_7 : decode cX4_get 7 = .ok (.ifnonnull 5, 3) := by decide +kernel
theorem dX4_get_10 : decode cX4_get 10 = .ok (.iconst (-1), 1) := by decide +kernel
theorem dX4_get_11 : decode cX4_get 11 = .ok (.ireturn, 1) := by decide +kernel
theorem dX4_get_12 : decode cX4_get 12 = .ok (.aload_n 3, 1) := by decide +kernel
theorem dX4_get_13 : decode cX4_get 13 = .ok (.getfield 90, 3) := by decide +kernel
theorem dX4_get_16 : decode cX4_get 16 = .ok (.ifCond .eq 9, 3) := by decide +kernel
theorem dX4_get_19 : decode cX4_get 19 = .ok (.aload_n 0, 1) := by decide +kernel
theorem dX4_get_20 : decode cX4_get 20 = .ok (.iconst 1, 1) := by decide +kernel
theorem dX4_get_21 : decode cX4_get 21 = .ok (.invokevirtual 79, 3) := by decide +kernel
theorem dX4_get_24 : decode cX4_get 24 = .ok (.ireturn, 1) := by decide +kernel
theorem dX4_get_25 : decode cX4_get 25 = .ok (.aload_n 3, 1) := by decide +kernel
theorem dX4_get_26 : decode cX4_get 26 = .ok (.iload_n 2, 1) := by decide +kernel
theorem dX4_get_27 : decode cX4_get 27 = .ok (.iconst 1, 1) := by decide +kernel
theorem dX4_get_28 : decode cX4_get 28 = .ok (.invokevirtual 93, 3) := by decide +kernel
theorem dX4_get_31 : decode cX4_get 31 = .ok (.ifCond .ne 9, 3) := by decide +kernel
theorem dX4_get_34 : decode cX4_get 34 = .ok (.aload_n 0, 1) := by decide +kernel
theorem dX4_get_35 : decode cX4_get 35 = .ok (.iconst 2, 1) := by decide +kernel
theorem dX4_get_36 : decode cX4_get 36 = .ok (.invokevirtual 79, 3) := by decide +kernel
theorem dX4_get_39 : decode cX4_get 39 = .ok (.ireturn, 1) := by decide +kernel
theorem dX4_get_40 : decode cX4_get 40 = .ok (.aload_n 0, 1) := by decide +kernel
theorem dX4_get_41 : decode cX4_get 41 = .ok (.aload_n 3, 1) := by decide +kernel
theorem dX4_get_42 : decode cX4_get 42 = .ok (.iload_n 2, 1) := by decide +kernel
theorem dX4_get_43 : decode cX4_get 43 = .ok (.invokevirtual 101, 3) := by decide +kernel
theorem dX4_get_46 : decode cX4_get 46 = .ok (.putfield 64, 3) := by decide +kernel
theorem dX4_get_49 : decode cX4_get 49 = .ok (.iconst 1, 1) := by decide +kernel
theorem dX4_get_50 : decode cX4_get 50 = .ok (.ireturn, 1) := by decide +kernel
theorem dX4_copy_0 : decode cX4_copy 0 = .ok (.aload_n 0, 1) := by decide +kernel
theorem dX4_copy_1 : decode cX4_copy 1 = .ok (.iload_n 1, 1) := by decide +kernel
theorem dX4_copy_2 : decode cX4_copy 2 = .ok (.invokevirtual 86, 3) := by decide +kernel
theorem dX4_copy_5 : decode cX4_copy 5 = .ok (.astore 6, 2) := by decide +kernel
theorem dX4_copy_7 : decode cX4_copy 7 = .ok (.aload_n 0, 1) := by decide +kernel
theorem dX4_copy_8 : decode cX4_copy 8 = .ok (.iload_n 3, 1) := by decide +kernel
theorem dX4_copy_9 : decode cX4_copy 9 = .ok (.invokevirtual 86, 3) := by decide +kernel
theorem dX4_copy_12 : decode cX4_copy 12 = .ok (.astore 7, 2) := by decide +kernel
theorem dX4_copy_14 : decode cX4_copy 14 = .ok (.aload 6, 2) := by decide +kernel
theorem dX4_copy_16 : decode cX4_copy 16 = .ok (.ifnull 8, 3) := by decide +kernel
theorem dX4_copy_19 : decode cX4_copy 19 = .ok (.aload 7, 2) := by decide +kernel
theorem dX4_copy_21 : decode cX4_copy 21 = .ok (.ifnonnull 5, 3) := by decide +kernel
theorem dX4_copy_24 : decode cX4_copy 24 = .ok (.iconst (-1), 1) := by decide +kernel
theorem dX4_copy_25 : decode cX4_copy 25 = .ok (.ireturn, 1) := by decide +kernel
theorem dX4_copy_26 : decode cX4_copy 26 = .ok (.aload 6, 2) := by decide +kernel
theorem dX4_copy_28 : decode cX4_copy 28 = .ok (.getfield 90, 3) := by decide +kernel
theorem dX4_copy_31 : decode cX4_copy 31 = .ok (.ifCond .ne 11, 3) := by decide +kernel
theorem dX4_copy_34 : decode cX4_copy 34 = .ok (.aload 7, 2) := by decide +kernel
theorem dX4_copy_36 : decode cX4_copy 36 = .ok (.getfield 90, 3) := by decide +kernel
theorem dX4_copy_39 : decode cX4_copy 39 = .ok (.ifCond .eq 9, 3) := by decide +kernel
theorem dX4_copy_42 : decode cX4_copy 42 = .ok (.aload_n 0, 1) := by decide +kernel
theorem dX4_copy_43 : decode cX4_copy 43 = .ok (.iconst 1, 1) := by decide +kernel
theorem dX4_copy_44 : decode cX4_copy 44 = .ok (.invokevirtual 79, 3) := by decide +kernel
theorem dX4_copy_47 : decode cX4_copy 47 = .ok (.ireturn, 1) := by decide +kernel
theorem dX4_copy_48 : decode cX4_copy 48 = .ok (.aload 6, 2) := by decide +kernel
theorem dX4_copy_50 : decode cX4_copy 50 = .ok (.getfield 105, 3) := by decide +kernel
theorem dX4_copy_53 : decode cX4_copy 53 = .ok (.aload 7, 2) := by decide +kernel
theorem dX4_copy_55 : decode cX4_copy 55 = .ok (.getfield 105, 3) := by decide +kernel
theorem dX4_copy_58 : decode cX4_copy 58 = .ok (.if_icmp .eq 9, 3) := by decide +kernel
theorem dX4_copy_61 : decode cX4_copy 61 = .ok (.aload_n 0, 1) := by decide +kernel
theorem dX4_copy_62 : decode cX4_copy 62 = .ok (.iconst 3, 1) := by decide +kernel
theorem dX4_copy_63 : decode cX4_copy 63 = .ok (.invokevirtual 79, 3) := by decide +kernel
theorem dX4_copy_66 : decode cX4_copy 66 = .ok (.ireturn, 1) := by decide +kernel
theorem dX4_copy_67 : decode cX4_copy 67 = .ok (.aload 6, 2) := by decide +kernel
theorem dX4_copy_69 : decode cX4_copy 69 = .ok (.iload_n 2, 1) := by decide +kernel
theorem dX4_copy_70 : decode cX4_copy 70 = .ok (.iload 5, 2) := by decide +kernel
theorem dX4_copy_72 : decode cX4_copy 72 = .ok (.invokevirtual 93, 3) := by decide +kernel
theorem dX4_copy_75 : decode cX4_copy 75 = .ok (.ifCond .eq 15, 3) := by decide +kernel
theorem dX4_copy_78 : decode cX4_copy 78 = .ok (.aload 7, 2) := by decide +kernel
theorem dX4_copy_80 : decode cX4_copy 80 = .ok (.iload 4, 2) := by decide +kernel
theorem dX4_copy_82 : decode cX4_copy 82 = .ok (.iload 5, 2) := by decide +kernel
theorem dX4_copy_84 : decode cX4_copy 84 = .ok (.invokevirtual 93, 3) := by decide +kernel
theorem dX4_copy_87 : decode cX4_copy 87 = .ok (.ifCond .ne 9, 3) := by decide +kernel
theorem dX4_copy_90 : decode cX4_copy 90 = .ok (.aload_n 0, 1) := by decide +kernel
theorem dX4_copy_91 : decode cX4_copy 91 = .ok (.iconst 2, 1) := by decide +kernel
theorem dX4_copy_92 : decode cX4_copy 92 = .ok (.invokevirtual 79, 3) := by decide +kernel
theorem dX4_copy_95 : decode cX4_copy 95 = .ok (.ireturn, 1) := by decide +kernel
theorem dX4_copy_96 : decode cX4_copy 96 = .ok (.aload 6, 2) := by decide +kernel
theorem dX4_copy_98 : decode cX4_copy 98 = .ok (.getfield 108, 3) := by decide +kernel
theorem dX4_copy_101 : decode cX4_copy 101 = .ok (.iload_n 2, 1) := by decide +kernel
theorem dX4_copy_102 : decode cX4_copy 102 = .ok (.aload 7, 2) := by decide +kernel
theorem dX4_copy_104 : decode cX4_copy 104 = .ok (.getfield 108, 3) := by decide +kernel
theorem dX4_copy_107 : decode cX4_copy 107 = .ok (.iload 4, 2) := by decide +kernel
theorem dX4_copy_109 : decode cX4_copy 109 = .ok (.iload 5, 2) := by decide +kernel
theorem dX4_copy_111 : decode cX4_copy 111 = .ok (.invokestatic 112, 3) := by decide +kernel
theorem dX4_copy_114 : decode cX4_copy 114 = .ok (.iconst 1, 1) := by decide +kernel
theorem dX4_copy_115 : decode cX4_copy 115 = .ok (.ireturn, 1) := by decide +kernel
theorem dX4_machine_0 : decode cX4_machine 0 = .ok (.iload_n 1, 1) := by decide +kernel
theorem dX4_machine_1 : decode cX4_machine 1 = .ok (.ifCond .lt 13, 3) := by decide +kernel
theorem dX4_machine_4 : decode cX4_machine 4 = .ok (.iload_n 1, 1) := by decide +kernel
theorem dX4_machine_5 : decode cX4_machine 5 = .ok (.iconst 3, 1) := by decide +kernel
theorem dX4_machine_6 : decode cX4_machine 6 = .ok (.if_icmp .gt 8, 3) := by decide +kernel
theorem dX4_machine_9 : decode cX4_machine 9 = .ok (.iload_n 2, 1) := by decide +kernel
theorem dX4_machine_10 : decode cX4_machine 10 = .ok (.iconst 5, 1) := by decide +kernel
theorem dX4_machine_11 : decode cX4_machine 11 = .ok (.if_icmp .le 5, 3) := by decide +kernel
theorem dX4_machine_14 : decode cX4_machine 14 = .ok (.iconst (-1), 1) := by decide +kernel
theorem dX4_machine_15 : decode cX4_machine 15 = .ok (.ireturn, 1) := by decide +kernel
theorem dX4_machine_16 : decode cX4_machine 16 = .ok (.iload_n 2, 1) := by decide +kernel
theorem dX4_machine_17 : decode cX4_machine 17 = .ok (.ifCond .lt 13, 3) := by decide +kernel
theorem dX4_machine_20 : decode cX4_machine 20 = .ok (.iload_n 1, 1) := by decide +kernel
theorem dX4_machine_21 : decode cX4_machine 21 = .ok (.iload_n 2, 1) := by decide +kernel
theorem dX4_machine_22 : decode cX4_machine 22 = .ok (.invokestatic 118, 3) := by decide +kernel
theorem dX4_machine_25 : decode cX4_machine 25 = .ok (.ifCond .ne 5, 3) := by decide +kernel
theorem dX4_machine_28 : decode cX4_machine 28 = .ok (.iconst (-1), 1) := by decide +kernel
theorem dX4_machine_29 : decode cX4_machine 29 = .ok (.ireturn, 1) := by decide +kernel
theorem dX4_machine_30 : decode cX4_machine 30 = .ok (.aload_n 0, 1) := by decide +kernel
theorem dX4_machine_31 : decode cX4_machine 31 = .ok (.getfield 42, 3) := by decide +kernel
theorem dX4_machine_34 : decode cX4_machine 34 = .ok (.ifCond .lt 15, 3) := by decide +kernel
theorem dX4_machine_37 : decode cX4_machine 37 = .ok (.aload_n 0, 1) := by decide +kernel
theorem dX4_machine_38 : decode cX4_machine 38 = .ok (.getfield 42, 3) := by decide +kernel
theorem dX4_machine_41 : decode cX4_machine 41 = .ok (.aload_n 0, 1) := by decide +kernel
theorem dX4_machine_42 : decode cX4_machine 42 = .ok (.getfield 11, 3) := by decide +kernel
theorem dX4_machine_45 : decode cX4_machine 45 = .ok (.arraylength, 1) := by decide +kernel
theorem dX4_machine_46 : decode cX4_machine 46 = .ok (.if_icmp .lt 6, 3) := by decide +kernel
theorem dX4_machine_49 : decode cX4_machine 49 = .ok (.bipush (-2), 2) := by decide +kernel
theorem dX4_machine_51 : decode cX4_machine 51 = .ok (.ireturn, 1) := by decide +kernel
theorem dX4_machine_52 : decode cX4_machine 52 = .ok (.iload_n 2, 1) := by decide +kernel
theorem dX4_machine_53 : decode cX4_machine 53 = .ok (.ifCond .ge 9, 3) := by decide +kernel
theorem dX4_machine_56 : decode cX4_machine 56 = .ok (.aload_n 0, 1) := by decide +kernel
theorem dX4_machine_57 : decode cX4_machine 57 = .ok (.iconst 5, 1) := by decide +kernel
theorem dX4_machine_58 : decode cX4_machine 58 = .ok (.invokevirtual 79, 3) := by decide +kernel
theorem dX4_machine_61 : decode cX4_machine 61 = .ok (.ireturn, 1) := by decide +kernel
theorem dX4_machine_62 : decode cX4_machine 62 = .ok (.aload_n 0, 1) := by decide +kernel
theorem dX4_machine_63 : decode cX4_machine 63 = .ok (.getfield 11, 3) := by decide +kernel
theorem dX4_machine_66 : decode cX4_machine 66 = .ok (.aload_n 0, 1) := by decide +kernel
theorem dX4_machine_67 : decode cX4_machine 67 = .ok (.getfield 42, 3) := by decide +kernel
theorem dX4_machine_70 : decode cX4_machine 70 = .ok (.new 9, 3) := by decide +kernel
theorem dX4_machine_73 : decode cX4_machine 73 = .ok (.dup, 1) := by decide +kernel
theorem dX4_machine_74 : decode cX4_machine 74 = .ok (.iload_n 1, 1) := by decide +kernel
theorem dX4_machine_75 : decode cX4_machine 75 = .ok (.iload_n 2, 1) := by decide +kernel
theorem dX4_machine_76 : decode cX4_machine 76 = .ok (.invokespecial 121, 3) := by decide +kernel
theorem dX4_machine_79 : decode cX4_machine 79 = .ok (.aastore, 1) := by decide +kernel
theorem dX4_machine_80 : decode cX4_machine 80 = .ok (.aload_n 0, 1) := by decide +kernel
theorem dX4_machine_81 : decode cX4_machine 81 = .ok (.dup, 1) := by decide +kernel
theorem dX4_machine_82 : decode cX4_machine 82 = .ok (.getfield 42, 3) := by decide +kernel
theorem dX4_machine_85 : decode cX4_machine 85 = .ok (.iconst 1, 1) := by decide +kernel
theorem dX4_machine_86 : decode cX4_machine 86 = .ok (.iadd, 1) := by decide +kernel
theorem dX4_machine_87 : decode cX4_machine 87 = .ok (.putfield 42, 3) := by decide +kernel
theorem dX4_machine_90 : decode cX4_machine 90 = .ok (.aload_n 0, 1) := by decide +kernel
theorem dX4_machine_91 : decode cX4_machine 91 = .ok (.getfield 42, 3) := by decide +kernel
theorem dX4_machine_94 : decode cX4_machine 94 = .ok (.iconst 1, 1) := by decide +kernel
theorem dX4_machine_95 : decode cX4_machine 95 = .ok (.isub, 1) := by decide +kernel
theorem dX4_machine_96 : decode cX4_machine 96 = .ok (.ireturn, 1) := by decide +kernel
theorem dX4_is_0 : decode cX4_is 0 = .ok (.aload_n 0, 1) := by decide +kernel
theorem dX4_is_1 : decode cX4_is 1 = .ok (.iload_n 1, 1) := by decide +kernel
theorem dX4_is_2 : decode cX4_is 2 = .ok (.invokevirtual 71, 3) := by decide +kernel
theorem dX4_is_5 : decode cX4_is 5 = .ok (.astore_n 3, 1) := by decide +kernel
theorem dX4_is_6 : decode cX4_is 6 = .ok (.aload_n 3, 1) := by decide +kernel
theorem dX4_is_7 : decode cX4_is 7 = .ok (.ifnull 12, 3) := by decide +kernel
theorem dX4_is_10 : decode cX4_is 10 = .ok (.iload_n 2, 1) := by decide +kernel
theorem dX4_is_11 : decode cX4_is 11 = .ok (.ifCond .lt 8, 3) := by decide +kernel
theorem dX4_is_14 : decode cX4_is 14 = .ok (.iload_n 2, 1) := by decide +kernel
theorem dX4_is_15 : decode cX4_is 15 = .ok (.iconst 3, 1) := by decide +kernel
theorem dX4_is_16 : decode cX4_is 16 = .ok (.if_icmp .le 5, 3) := by decide +kernel
theorem dX4_is_19 : decode cX4_is 19 = .ok (.iconst (-1), 1) := by decide +kernel
theorem dX4_is_20 : decode cX4_is 20 = .ok (.ireturn, 1) := by decide +kernel
theorem dX4_is_21 : decode cX4_is 21 = .ok (.aload_n 3, 1) := by decide +kernel
theorem dX4_is_22 : decode cX4_is 22 = .ok (.iload_n 2, 1) := by decide +kernel
theorem dX4_is_23 : decode cX4_is 23 = .ok (.invokevirtual 122, 3) := by decide +kernel
theorem dX4_is_26 : decode cX4_is 26 = .ok (.ifCond .eq 7, 3) := by decide +kernel
theorem dX4_is_29 : decode cX4_is 29 = .ok (.iconst 1, 1) := by decide +kernel
theorem dX4_is_30 : decode cX4_is 30 = .ok (.goto 4, 3) := by decide +kernel
theorem dX4_is_33 : decode cX4_is 33 = .ok (.iconst 0, 1) := by decide +kernel
theorem dX4_is_34 : decode cX4_is 34 = .ok (.ireturn, 1) := by decide +kernel
theorem dX4_told_0 : decode cX4_told 0 = .ok (.aload_n 0, 1) := by decide +kernel
theorem dX4_told_1 : decode cX4_told 1 = .ok (.iload_n 1, 1) := by decide +kernel
theorem dX4_told_2 : decode cX4_told 2 = .ok (.invokevirtual 71, 3) := by decide +kernel
theorem dX4_told_5 : decode cX4_told 5 = .ok (.astore_n 3, 1) := by decide +kernel
theorem dX4_told_6 : decode cX4_told 6 = .ok (.aload_n 3, 1) := by decide +kernel
theorem dX4_told_7 : decode cX4_told 7 = .ok (.ifnonnull 5, 3) := by decide +kernel
theorem dX4_told_10 : decode cX4_told 10 = .ok (.iconst (-1), 1) := by decide +kernel
theorem dX4_told_11 : decode cX4_told 11 = .ok (.ireturn, 1) := by decide +kernel
theorem dX4_told_12 : decode cX4_told 12 = .ok (.iload_n 2, 1) := by decide +kernel
theorem dX4_told_13 : decode cX4_told 13 = .ok (.tableswitch 42 0 2 #[27, 32, 37], 27) := by decide +kernel
theorem dX4_told_40 : decode cX4_told 40 = .ok (.aload_n 3, 1) := by decide +kernel
theorem dX4_told_41 : decode cX4_told 41 = .ok (.getfield 126, 3) := by decide +kernel
theorem dX4_told_44 : decode cX4_told 44 = .ok (.ireturn, 1) := by decide +kernel
theorem dX4_told_45 : decode cX4_told 45 = .ok (.aload_n 3, 1) := by decide +kernel
theorem dX4_told_46 : decode cX4_told 46 = .ok (.getfield 127, 3) := by decide +kernel
theorem dX4_told_49 : decode cX4_told 49 = .ok (.ireturn, 1) := by decide +kernel
theorem dX4_told_50 : decode cX4_told 50 = .ok (.aload_n 3, 1) := by decide +kernel
theorem dX4_told_51 : decode cX4_told 51 = .ok (.getfield 130, 3) := by decide +kernel
theorem dX4_told_54 : decode cX4_told 54 = .ok (.ireturn, 1) := by decide +kernel
theorem dX4_told_55 : decode cX4_told 55 = .ok (.iconst (-1), 1) := by decide +kernel
theorem dX4_told_56 : decode cX4_told 56 = .ok (.ireturn, 1) := by decide +kernel
theorem dX4_pay_0 : decode cX4_pay 0 = .ok (.aload_n 0, 1) := by decide +kernel
theorem dX4_pay_1 : decode cX4_pay 1 = .ok (.iload_n 1, 1) := by decide +kernel
theorem dX4_pay_2 : decode cX4_pay 2 = .ok (.invokevirtual 71, 3) := by decide +kernel
theorem dX4_pay_5 : decode cX4_pay 5 = .ok (.astore 4, 2) := by decide +kernel
theorem dX4_pay_7 : decode cX4_pay 7 = .ok (.aload 4, 2) := by decide +kernel
theorem dX4_pay_9 : decode cX4_pay 9 = .ok (.ifnull 11, 3) := by decide +kernel
theorem dX4_pay_12 : decode cX4_pay 12 = .ok (.iload_n 3, 1) := by decide +kernel
theorem dX4_pay_13 : decode cX4_pay 13 = .ok (.i2l, 1) := by decide +kernel
theorem dX4_pay_14 : decode cX4_pay 14 = .ok (.invokestatic 133, 3) := by decide +kernel
theorem dX4_pay_17 : decode cX4_pay 17 = .ok (.ifCond .ne 5, 3) := by decide +kernel
theorem dX4_pay_20 : decode cX4_pay 20 = .ok (.iconst (-1), 1) := by decide +kernel
theorem dX4_pay_21 : decode cX4_pay 21 = .ok (.ireturn, 1) := by decide +kernel
theorem dX4_pay_22 : decode cX4_pay 22 = .ok (.aload 4, 2) := by decide +kernel
theorem dX4_pay_24 : decode cX4_pay 24 = .ok (.iload_n 2, 1) := by decide +kernel
theorem dX4_pay_25 : decode cX4_pay 25 = .ok (.invokevirtual 137, 3) := by decide +kernel
theorem dX4_pay_28 : decode cX4_pay 28 = .ok (.ifCond .ne 9, 3) := by decide +kernel
theorem dX4_pay_31 : decode cX4_pay 31 = .ok (.aload_n 0, 1) := by decide +kernel
theorem dX4_pay_32 : decode cX4_pay 32 = .ok (.iconst 2, 1) := by decide +kernel
theorem dX4_pay_33 : decode cX4_pay 33 = .ok (.invokevirtual 79, 3) := by decide +kernel
theorem dX4_pay_36 : decode cX4_pay 36 = .ok (.ireturn, 1) := by decide +kernel
theorem dX4_pay_37 : decode cX4_pay 37 = .ok (.aload 4, 2) := by decide +kernel
theorem dX4_pay_39 : decode cX4_pay 39 = .ok (.iload_n 2, 1) := by decide +kernel
theorem dX4_pay_40 : decode cX4_pay 40 = .ok (.invokevirtual 140, 3) := by decide +kernel
theorem dX4_pay_43 : decode cX4_pay 43 = .ok (.ifCond .ne 6, 3) := by decide +kernel
theorem dX4_pay_46 : decode cX4_pay 46 = .ok (.bipush (-4), 2) := by decide +kernel
theorem dX4_pay_48 : decode cX4_pay 48 = .ok (.ireturn, 1) := by decide +kernel
theorem dX4_pay_49 : decode cX4_pay 49 = .ok (.aload 4, 2) := by decide +kernel
theorem dX4_pay_51 : decode cX4_pay 51 = .ok (.iload_n 2, 1) := by decide +kernel
theorem dX4_pay_52 : decode cX4_pay 52 = .ok (.invokevirtual 143, 3) := by decide +kernel
theorem dX4_pay_55 : decode cX4_pay 55 = .ok (.istore 5, 2) := by decide +kernel
theorem dX4_pay_57 : decode cX4_pay 57 = .ok (.aload 4, 2) := by decide +kernel
theorem dX4_pay_59 : decode cX4_pay 59 = .ok (.iload_n 2, 1) := by decide +kernel
theorem dX4_pay_60 : decode cX4_pay 60 = .ok (.iload_n 3, 1) := by decide +kernel
theorem dX4_pay_61 : decode cX4_pay 61 = .ok (.invokevirtual 146, 3) := by decide +kernel
theorem dX4_pay_64 : decode cX4_pay 64 = .ok (.sipush 1000, 3) := by decide +kernel
theorem dX4_pay_67 : decode cX4_pay 67 = .ok (.iload 5, 2) := by decide +kernel
theorem dX4_pay_69 : decode cX4_pay 69 = .ok (.iadd, 1) := by decide +kernel
theorem dX4_pay_70 : decode cX4_pay 70 = .ok (.ireturn, 1) := by decide +kernel
theorem dX4_chance_0 : decode cX4_chance 0 = .ok (.aload_n 0, 1) := by decide +kernel
theorem dX4_chance_1 : decode cX4_chance 1 = .ok (.iload_n 1, 1) := by decide +kernel
theorem dX4_chance_2 : decode cX4_chance 2 = .ok (.invokevirtual 71, 3) := by decide +kernel
theorem dX4_chance_5 : decode cX4_chance 5 = .ok (.astore 5, 2) := by decide +kernel
theorem dX4_chance_7 : decode cX4_chance 7 = .ok (.aload 5, 2) := by decide +kernel
theorem dX4_chance_9 : decode cX4_chance 9 = .ok (.ifnull 15, 3) := by decide +kernel
theorem dX4_chance_12 : decode cX4_chance 12 = .ok (.iload 4, 2) := by decide +kernel
theorem dX4_chance_14 : decode cX4_chance 14 = .ok (.ifCond .lt 10, 3) := by decide +kernel
theorem dX4_chance_17 : decode cX4_chance 17 = .ok (.iload 4, 2) := by decide +kernel
theorem dX4_chance_19 : decode cX4_chance 19 = .ok (.bipush 10, 2) := by decide +kernel
theorem dX4_chance_21 : decode cX4_chance 21 = .ok (.if_icmp .le 5, 3) := by decide +kernel
theorem dX4_chance_24 : decode cX4_chance 24 = .ok (.iconst (-1), 1) := by decide +kernel
theorem dX4_chance_25 : decode cX4_chance 25 = .ok (.ireturn, 1) := by decide +kernel
theorem dX4_chance_26 : decode cX4_chance 26 = .ok (.aload 5, 2) := by decide +kernel
theorem dX4_chance_28 : decode cX4_chance 28 = .ok (.iconst 2, 1) := by decide +kernel
theorem dX4_chance_29 : decode cX4_chance 29 = .ok (.invokevirtual 122, 3) := by decide +kernel
theorem dX4_chance_32 : decode cX4_chance 32 = .ok (.ifCond .eq 9, 3) := by decide +kernel
theorem dX4_chance_35 : decode cX4_chance 35 = .ok (.aload_n 0, 1) := by decide +kernel
theorem dX4_chance_36 : decode cX4_chance 36 = .ok (.iconst 3, 1) := by decide +kernel
theorem dX4_chance_37 : decode cX4_chance 37 = .ok (.invokevirtual 79, 3) := by decide +kernel
theorem dX4_chance_40 : decode cX4_chance 40 = .ok (.ireturn, 1) := by decide +kernel
theorem dX4_chance_41 : decode cX4_chance 41 = .ok (.aload 5, 2) := by decide +kernel
theorem dX4_chance_43 : decode cX4_chance 43 = .ok (.iload_n 2, 1) := by decide +kernel
theorem dX4_chance_44 : decode cX4_chance 44 = .ok (.invokevirtual 137, 3) := by decide +kernel
theorem dX4_chance_47 : decode cX4_chance 47 = .ok (.ifCond .eq 12, 3) := by decide +kernel
theorem dX4_chance_50 : decode cX4_chance 50 = .ok (.aload 5, 2) := by decide +kernel
theorem dX4_chance_52 : decode cX4_chance 52 = .ok (.iload_n 3, 1) := by decide +kernel
theorem dX4_chance_53 : decode cX4_chance 53 = .ok (.invokevirtual 137, 3) := by decide +kernel
theorem dX4_chance_56 : decode cX4_chance 56 = .ok (.ifCond .ne 9, 3) := by decide +kernel
theorem dX4_chance_59 : decode cX4_chance 59 = .ok (.aload_n 0, 1) := by decide +kernel
theorem dX4_chance_60 : decode cX4_chance 60 = .ok (.iconst 2, 1) := by decide +kernel
theorem dX4_chance_61 : decode cX4_chance 61 = .ok (.invokevirtual 79, 3) := by decide +kernel
theorem dX4_chance_64 : decode cX4_chance 64 = .ok (.ireturn, 1) := by decide +kernel
theorem dX4_chance_65 : decode cX4_chance 65 = .ok (.aload 5, 2) := by decide +kernel
theorem dX4_chance_67 : decode cX4_chance 67 = .ok (.iload_n 2, 1) := by decide +kernel
theorem dX4_chance_68 : decode cX4_chance 68 = .ok (.iload_n 3, 1) := by decide +kernel
theorem dX4_chance_69 : decode cX4_chance 69 = .ok (.invokevirtual 149, 3) := by decide +kernel
theorem dX4_chance_72 : decode cX4_chance 72 = .ok (.istore 6, 2) := by decide +kernel
theorem dX4_chance_74 : decode cX4_chance 74 = .ok (.aload 5, 2) := by decide +kernel
theorem dX4_chance_76 : decode cX4_chance 76 = .ok (.iload_n 2, 1) := by decide +kernel
theorem dX4_chance_77 : decode cX4_chance 77 = .ok (.invokevirtual 153, 3) := by decide +kernel
theorem dX4_chance_80 : decode cX4_chance 80 = .ok (.iload 6, 2) := by decide +kernel
theorem dX4_chance_82 : decode cX4_chance 82 = .ok (.isub, 1) := by decide +kernel
theorem dX4_chance_83 : decode cX4_chance 83 = .ok (.iload 4, 2) := by decide +kernel
theorem dX4_chance_85 : decode cX4_chance 85 = .ok (.iadd, 1) := by decide +kernel
theorem dX4_chance_86 : decode cX4_chance 86 = .ok (.istore 7, 2) := by decide +kernel
theorem dX4_chance_88 : decode cX4_chance 88 = .ok (.iload 7, 2) := by decide +kernel
theorem dX4_chance_90 : decode cX4_chance 90 = .ok (.iconst 1, 1) := by decide +kernel
theorem dX4_chance_91 : decode cX4_chance 91 = .ok (.if_icmp .lt 10, 3) := by decide +kernel
theorem dX4_chance_94 : decode cX4_chance 94 = .ok (.iload 7, 2) := by decide +kernel
theorem dX4_chance_96 : decode cX4_chance 96 = .ok (.bipush 10, 2) := by decide +kernel
theorem dX4_chance_98 : decode cX4_chance 98 = .ok (.if_icmp .le 6, 3) := by decide +kernel
theorem dX4_chance_101 : decode cX4_chance 101 = .ok (.bipush (-4), 2) := by decide +kernel
theorem dX4_chance_103 : decode cX4_chance 103 = .ok (.ireturn, 1) := by decide +kernel
theorem dX4_chance_104 : decode cX4_chance 104 = .ok (.aload 5, 2) := by decide +kernel
theorem dX4_chance_106 : decode cX4_chance 106 = .ok (.iload_n 2, 1) := by decide +kernel
theorem dX4_chance_107 : decode cX4_chance 107 = .ok (.iload_n 3, 1) := by decide +kernel
theorem dX4_chance_108 : decode cX4_chance 108 = .ok (.iload 4, 2) := by decide +kernel
theorem dX4_chance_110 : decode cX4_chance 110 = .ok (.invokevirtual 156, 3) := by decide +kernel
theorem dX4_chance_113 : decode cX4_chance 113 = .ok (.iload 6, 2) := by decide +kernel
theorem dX4_chance_115 : decode cX4_chance 115 = .ok (.ireturn, 1) := by decide +kernel
theorem dX4_fill_0 : decode cX4_fill 0 = .ok (.aload_n 0, 1) := by decide +kernel
theorem dX4_fill_1 : decode cX4_fill 1 = .ok (.iload_n 1, 1) := by decide +kernel
theorem dX4_fill_2 : decode cX4_fill 2 = .ok (.invokevirtual 71, 3) := by decide +kernel
theorem dX4_fill_5 : decode cX4_fill 5 = .ok (.astore 4, 2) := by decide +kernel
theorem dX4_fill_7 : decode cX4_fill 7 = .ok (.aload_n 0, 1) := by decide +kernel
theorem dX4_fill_8 : decode cX4_fill 8 = .ok (.iload_n 2, 1) := by decide +kernel
theorem dX4_fill_9 : decode cX4_fill 9 = .ok (.invokevirtual 86, 3) := by decide +kernel
theorem dX4_fill_12 : decode cX4_fill 12 = .ok (.astore 5, 2) := by decide +kernel
theorem dX4_fill_14 : decode cX4_fill 14 = .ok (.aload 4, 2) := by decide +kernel
theorem dX4_fill_16 : decode cX4_fill 16 = .ok (.ifnull 8, 3) := by decide +kernel
theorem dX4_fill_19 : decode cX4_fill 19 = .ok (.aload 5, 2) := by decide +kernel
theorem dX4_fill_21 : decode cX4_fill 21 = .ok (.ifnonnull 5, 3) := by decide +kernel
theorem dX4_fill_24 : decode cX4_fill 24 = .ok (.iconst (-1), 1) := by decide +kernel
theorem dX4_fill_25 : decode cX4_fill 25 = .ok (.ireturn, 1) := by decide +kernel
theorem dX4_fill_26 : decode cX4_fill 26 = .ok (.aload 5, 2) := by decide +kernel
theorem dX4_fill_28 : decode cX4_fill 28 = .ok (.getfield 90, 3) := by decide +kernel
theorem dX4_fill_31 : decode cX4_fill 31 = .ok (.ifCond .eq 9, 3) := by decide +kernel
theorem dX4_fill_34 : decode cX4_fill 34 = .ok (.aload_n 0, 1) := by decide +kernel
theorem dX4_fill_35 : decode cX4_fill 35 = .ok (.iconst 1, 1) := by decide +kernel
theorem dX4_fill_36 : decode cX4_fill 36 = .ok (.invokevirtual 79, 3) := by decide +kernel
theorem dX4_fill_39 : decode cX4_fill 39 = .ok (.ireturn, 1) := by decide +kernel
theorem dX4_fill_40 : decode cX4_fill 40 = .ok (.aload 5, 2) := by decide +kernel
theorem dX4_fill_42 : decode cX4_fill 42 = .ok (.iload_n 3, 1) := by decide +kernel
theorem dX4_fill_43 : decode cX4_fill 43 = .ok (.aload 4, 2) := by decide +kernel
theorem dX4_fill_45 : decode cX4_fill 45 = .ok (.getfield 127, 3) := by decide +kernel
theorem dX4_fill_48 : decode cX4_fill 48 = .ok (.invokevirtual 93, 3) := by decide +kernel
theorem dX4_fill_51 : decode cX4_fill 51 = .ok (.ifCond .ne 9, 3) := by decide +kernel
theorem dX4_fill_54 : decode cX4_fill 54 = .ok (.aload_n 0, 1) := by decide +kernel
theorem dX4_fill_55 : decode cX4_fill 55 = .ok (.iconst 2, 1) := by decide +kernel
theorem dX4_fill_56 : decode cX4_fill 56 = .ok (.invokevirtual 79, 3) := by decide +kernel
theorem dX4_fill_59 : decode cX4_fill 59 = .ok (.ireturn, 1) := by decide +kernel
theorem dX4_fill_60 : decode cX4_fill 60 = .ok (.iconst 0, 1) := by decide +kernel
theorem dX4_fill_61 : decode cX4_fill 61 = .ok (.istore 6, 2) := by decide +kernel
theorem dX4_fill_63 : decode cX4_fill 63 = .ok (.iload 6, 2) := by decide +kernel
theorem dX4_fill_65 : decode cX4_fill 65 = .ok (.aload 4, 2) := by decide +kernel
theorem dX4_fill_67 : decode cX4_fill 67 = .ok (.getfield 127, 3) := by decide +kernel
theorem dX4_fill_70 : decode cX4_fill 70 = .ok (.if_icmp .ge 48, 3) := by decide +kernel
theorem dX4_fill_73 : decode cX4_fill 73 = .ok (.aload 5, 2) := by decide +kernel
theorem dX4_fill_75 : decode cX4_fill 75 = .ok (.iload_n 3, 1) := by decide +kernel
theorem dX4_fill_76 : decode cX4_fill 76 = .ok (.iload 6, 2) := by decide +kernel
theorem dX4_fill_78 : decode cX4_fill 78 = .ok (.iadd, 1) := by decide +kernel
theorem dX4_fill_79 : decode cX4_fill 79 = .ok (.invokevirtual 101, 3) := by decide +kernel
theorem dX4_fill_82 : decode cX4_fill 82 = .ok (.lstore 7, 2) := by decide +kernel
theorem dX4_fill_84 : decode cX4_fill 84 = .ok (.lload 7, 2) := by decide +kernel
theorem dX4_fill_86 : decode cX4_fill 86 = .ok (.invokestatic 133, 3) := by decide +kernel
theorem dX4_fill_89 : decode cX4_fill 89 = .ok (.ifCond .eq 20, 3) := by decide +kernel
theorem dX4_fill_92 : decode cX4_fill 92 = .ok (.lload 7, 2) := by decide +kernel
theorem dX4_fill_94 : decode cX4_fill 94 = .ok (.lconst 0, 1) := by decide +kernel
theorem dX4_fill_95 : decode cX4_fill 95 = .ok (.lcmp, 1) := by decide +kernel
theorem dX4_fill_96 : decode cX4_fill 96 = .ok (.ifCond .eq 16, 3) := by decide +kernel
theorem dX4_fill_99 : decode cX4_fill 99 = .ok (.aload 4, 2) := by decide +kernel
theorem dX4_fill_101 : decode cX4_fill 101 = .ok (.iload 6, 2) := by decide +kernel
theorem dX4_fill_103 : decode cX4_fill 103 = .ok (.invokevirtual 140, 3) := by decide +kernel
theorem dX4_fill_106 : decode cX4_fill 106 = .ok (.ifCond .ne 6, 3) := by decide +kernel
theorem dX4_fill_109 : decode cX4_fill 109 = .ok (.bipush (-4), 2) := by decide +kernel
theorem dX4_fill_111 : decode cX4_fill 111 = .ok (.ireturn, 1) := by decide +kernel
theorem dX4_fill_112 : decode cX4_fill 112 = .ok (.iinc 6 1, 3) := by decide +kernel
theorem dX4_fill_115 : decode cX4_fill 115 = .ok (.goto (-52), 3) := by decide +kernel
theorem dX4_fill_118 : decode cX4_fill 118 = .ok (.iconst 0, 1) := by decide +kernel
theorem dX4_fill_119 : decode cX4_fill 119 = .ok (.istore 6, 2) := by decide +kernel
theorem dX4_fill_121 : decode cX4_fill 121 = .ok (.iload 6, 2) := by decide +kernel
theorem dX4_fill_123 : decode cX4_fill 123 = .ok (.aload 4, 2) := by decide +kernel
theorem dX4_fill_125 : decode cX4_fill 125 = .ok (.getfield 127, 3) := by decide +kernel
theorem dX4_fill_128 : decode cX4_fill 128 = .ok (.if_icmp .ge 26, 3) := by decide +kernel
theorem dX4_fill_131 : decode cX4_fill 131 = .ok (.aload 4, 2) := by decide +kernel
theorem dX4_fill_133 : decode cX4_fill 133 = .ok (.iload 6, 2) := by decide +kernel
theorem dX4_fill_135 : decode cX4_fill 135 = .ok (.aload 5, 2) := by decide +kernel
theorem dX4_fill_137 : decode cX4_fill 137 = .ok (.iload_n 3, 1) := by decide +kernel
theorem dX4_fill_138 : decode cX4_fill 138 = .ok (.iload 6, 2) := by decide +kernel
theorem dX4_fill_140 : decode cX4_fill 140 = .ok (.iadd, 1) := by decide +kernel
theorem dX4_fill_141 : decode cX4_fill 141 = .ok (.invokevirtual 101, 3) := by decide +kernel
theorem dX4_fill_144 : decode cX4_fill 144 = .ok (.l2i, 1) := by decide +kernel
theorem dX4_fill_145 : decode cX4_fill 145 = .ok (.invokevirtual 146, 3) := by decide +kernel
theorem dX4_fill_148 : decode cX4_fill 148 = .ok (.iinc 6 1, 3) := by decide +kernel
theorem dX4_fill_151 : decode cX4_fill 151 = .ok (.goto (-30), 3) := by decide +kernel
theorem dX4_fill_154 : decode cX4_fill 154 = .ok (.aload 4, 2) := by decide +kernel
theorem dX4_fill_156 : decode cX4_fill 156 = .ok (.getfield 127, 3) := by decide +kernel
theorem dX4_fill_159 : decode cX4_fill 159 = .ok (.ireturn, 1) := by decide +kernel
theorem dX4_ask_0 : decode cX4_ask 0 = .ok (.aload_n 0, 1) := by decide +kernel
theorem dX4_ask_1 : decode cX4_ask 1 = .ok (.iload_n 1, 1) := by decide +kernel
theorem dX4_ask_2 : decode cX4_ask 2 = .ok (.invokevirtual 71, 3) := by decide +kernel
theorem dX4_ask_5 : decode cX4_ask 5 = .ok (.astore 4, 2) := by decide +kernel
theorem dX4_ask_7 : decode cX4_ask 7 = .ok (.aload 4, 2) := by decide +kernel
theorem dX4_ask_9 : decode cX4_ask 9 = .ok (.ifnonnull 5, 3) := by decide +kernel
theorem dX4_ask_12 : decode cX4_ask 12 = .ok (.iconst (-1), 1) := by decide +kernel
theorem dX4_ask_13 : decode cX4_ask 13 = .ok (.ireturn, 1) := by decide +kernel
theorem dX4_ask_14 : decode cX4_ask 14 = .ok (.aload 4, 2) := by decide +kernel
theorem dX4_ask_16 : decode cX4_ask 16 = .ok (.iload_n 2, 1) := by decide +kernel
theorem dX4_ask_17 : decode cX4_ask 17 = .ok (.invokevirtual 137, 3) := by decide +kernel
theorem dX4_ask_20 : decode cX4_ask 20 = .ok (.ifCond .ne 9, 3) := by decide +kernel
theorem dX4_ask_23 : decode cX4_ask 23 = .ok (.aload_n 0, 1) := by decide +kernel
theorem dX4_ask_24 : decode cX4_ask 24 = .ok (.iconst 2, 1) := by decide +kernel
theorem dX4_ask_25 : decode cX4_ask 25 = .ok (.invokevirtual 79, 3) := by decide +kernel
theorem dX4_ask_28 : decode cX4_ask 28 = .ok (.ireturn, 1) := by decide +kernel
theorem dX4_ask_29 : decode cX4_ask 29 = .ok (.iload_n 3, 1) := by decide +kernel
theorem dX4_ask_30 : decode cX4_ask 30 = .ok (.ifCond .lt 12, 3) := by decide +kernel
theorem dX4_ask_33 : decode cX4_ask 33 = .ok (.iload_n 3, 1) := by decide +kernel
theorem dX4_ask_34 : decode cX4_ask 34 = .ok (.aload 4, 2) := by decide +kernel
theorem dX4_ask_36 : decode cX4_ask 36 = .ok (.getfield 127, 3) := by decide +kernel
theorem dX4_ask_39 : decode cX4_ask 39 = .ok (.if_icmp .le 5, 3) := by decide +kernel
theorem dX4_ask_42 : decode cX4_ask 42 = .ok (.iconst (-1), 1) := by decide +kernel
theorem dX4_ask_43 : decode cX4_ask 43 = .ok (.ireturn, 1) := by decide +kernel
theorem dX4_ask_44 : decode cX4_ask 44 = .ok (.aload_n 0, 1) := by decide +kernel
theorem dX4_ask_45 : decode cX4_ask 45 = .ok (.iload_n 3, 1) := by decide +kernel
theorem dX4_ask_46 : decode cX4_ask 46 = .ok (.ifCond .ne 13, 3) := by decide +kernel
theorem dX4_ask_49 : decode cX4_ask 49 = .ok (.aload 4, 2) := by decide +kernel
theorem dX4_ask_51 : decode cX4_ask 51 = .ok (.iload_n 2, 1) := by decide +kernel
theorem dX4_ask_52 : decode cX4_ask 52 = .ok (.invokevirtual 143, 3) := by decide +kernel
theorem dX4_ask_55 : decode cX4_ask 55 = .ok (.i2l, 1) := by decide +kernel
theorem dX4_ask_56 : decode cX4_ask 56 = .ok (.goto 13, 3) := by decide +kernel
theorem dX4_ask_59 : decode cX4_ask 59 = .ok (.aload 4, 2) := by decide +kernel
theorem dX4_ask_61 : decode cX4_ask 61 = .ok (.iload_n 2, 1) := by decide +kernel
theorem dX4_ask_62 : decode cX4_ask 62 = .ok (.iload_n 3, 1) := by decide +kernel
theorem dX4_ask_63 : decode cX4_ask 63 = .ok (.iconst 1, 1) := by decide +kernel
theorem dX4_ask_64 : decode cX4_ask 64 = .ok (.isub, 1) := by decide +kernel
theorem dX4_ask_65 : decode cX4_ask 65 = .ok (.invokevirtual 149, 3) := by decide +kernel
theorem dX4_ask_68 : decode cX4_ask 68 = .ok (.i2l, 1) := by decide +kernel
theorem dX4_ask_69 : decode cX4_ask 69 = .ok (.putfield 64, 3) := by decide +kernel
theorem dX4_ask_72 : decode cX4_ask 72 = .ok (.iconst 1, 1) := by decide +kernel
theorem dX4_ask_73 : decode cX4_ask 73 = .ok (.ireturn, 1) := by decide +kernel
theorem dX4_stand_0 : decode cX4_stand 0 = .ok (.aload_n 0, 1) := by decide +kernel
theorem dX4_stand_1 : decode cX4_stand 1 = .ok (.iload_n 1, 1) := by decide +kernel
theorem dX4_stand_2 : decode cX4_stand 2 = .ok (.invokevirtual 71, 3) := by decide +kernel
theorem dX4_stand_5 : decode cX4_stand 5 = .ok (.astore_n 3, 1) := by decide +kernel
theorem dX4_stand_6 : decode cX4_stand 6 = .ok (.aload_n 3, 1) := by decide +kernel
theorem dX4_stand_7 : decode cX4_stand 7 = .ok (.ifnonnull 5, 3) := by decide +kernel
theorem dX4_stand_10 : decode cX4_stand 10 = .ok (.iconst (-1), 1) := by decide +kernel
theorem dX4_stand_11 : decode cX4_stand 11 = .ok (.ireturn, 1) := by decide +kernel
theorem dX4_stand_12 : decode cX4_stand 12 = .ok (.aload_n 3, 1) := by decide +kernel
theorem dX4_stand_13 : decode cX4_stand 13 = .ok (.iload_n 2, 1) := by decide +kernel
theorem dX4_stand_14 : decode cX4_stand 14 = .ok (.invokevirtual 137, 3) := by decide +kernel
theorem dX4_stand_17 : decode cX4_stand 17 = .ok (.ifCond .ne 9, 3) := by decide +kernel
theorem dX4_stand_20 : decode cX4_stand 20 = .ok (.aload_n 0, 1) := by decide +kernel
theorem dX4_stand_21 : decode cX4_stand 21 = .ok (.iconst 2, 1) := by decide +kernel
theorem dX4_stand_22 : decode cX4_stand 22 = .ok (.invokevirtual 79, 3) := by decide +kernel
theorem dX4_stand_25 : decode cX4_stand 25 = .ok (.ireturn, 1) := by decide +kernel
theorem dX4_stand_26 : decode cX4_stand 26 = .ok (.aload_n 3, 1) := by decide +kernel
theorem dX4_stand_27 : decode cX4_stand 27 = .ok (.getfield 130, 3) := by decide +kernel
theorem dX4_stand_30 : decode cX4_stand 30 = .ok (.istore 4, 2) := by decide +kernel
theorem dX4_stand_32 : decode cX4_stand 32 = .ok (.aload_n 3, 1) := by decide +kernel
theorem dX4_stand_33 : decode cX4_stand 33 = .ok (.iload_n 2, 1) := by decide +kernel
theorem dX4_stand_34 : decode cX4_stand 34 = .ok (.putfield 130, 3) := by decide +kernel
theorem dX4_stand_37 : decode cX4_stand 37 = .ok (.iload 4, 2) := by decide +kernel
theorem dX4_stand_39 : decode cX4_stand 39 = .ok (.ireturn, 1) := by decide +kernel
theorem dX4_worth_0 : decode cX4_worth 0 = .ok (.aload_n 0, 1) := by decide +kernel
theorem dX4_worth_1 : decode cX4_worth 1 = .ok (.iload_n 1, 1) := by decide +kernel
theorem dX4_worth_2 : decode cX4_worth 2 = .ok (.invokevirtual 71, 3) := by decide +kernel
theorem dX4_worth_5 : decode cX4_worth 5 = .ok (.astore_n 3, 1) := by decide +kernel
theorem dX4_worth_6 : decode cX4_worth 6 = .ok (.aload_n 3, 1) := by decide +kernel
theorem dX4_worth_7 : decode cX4_worth 7 = .ok (.ifnonnull 5, 3) := by decide +kernel
theorem dX4_worth_10 : decode cX4_worth 10 = .ok (.iconst (-1), 1) := by decide +kernel
theorem dX4_worth_11 : decode cX4_worth 11 = .ok (.ireturn, 1) := by decide +kernel
theorem dX4_worth_12 : decode cX4_worth 12 = .ok (.aload_n 3, 1) := by decide +kernel
theorem dX4_worth_13 : decode cX4_worth 13 = .ok (.iload_n 2, 1) := by decide +kernel
theorem dX4_worth_14 : decode cX4_worth 14 = .ok (.invokevirtual 137, 3) := by decide +kernel
theorem dX4_worth_17 : decode cX4_worth 17 = .ok (.ifCond .ne 9, 3) := by decide +kernel
theorem dX4_worth_20 : decode cX4_worth 20 = .ok (.aload_n 0, 1) := by decide +kernel
theorem dX4_worth_21 : decode cX4_worth 21 = .ok (.iconst 2, 1) := by decide +kernel
theorem dX4_worth_22 : decode cX4_worth 22 = .ok (.invokevirtual 79, 3) := by decide +kernel
theorem dX4_worth_25 : decode cX4_worth 25 = .ok (.ireturn, 1) := by decide +kernel
theorem dX4_worth_26 : decode cX4_worth 26 = .ok (.aload_n 0, 1) := by decide +kernel
theorem dX4_worth_27 : decode cX4_worth 27 = .ok (.getfield 31, 3) := by decide +kernel
theorem dX4_worth_30 : decode cX4_worth 30 = .ok (.aload_n 0, 1) := by decide +kernel
theorem dX4_worth_31 : decode cX4_worth 31 = .ok (.aload_n 3, 1) := by decide +kernel
theorem dX4_worth_32 : decode cX4_worth 32 = .ok (.iload_n 2, 1) := by decide +kernel
theorem dX4_worth_33 : decode cX4_worth 33 = .ok (.invokevirtual 160, 3) := by decide +kernel
theorem dX4_worth_36 : decode cX4_worth 36 = .ok (.invokevirtual 164, 3) := by decide +kernel
theorem dX4_worth_39 : decode cX4_worth 39 = .ok (.iconst 1, 1) := by decide +kernel
theorem dX4_worth_40 : decode cX4_worth 40 = .ok (.ireturn, 1) := by decide +kernel
theorem dX4_way_0 : decode cX4_way 0 = .ok (.aload_n 0, 1) := by decide +kernel
theorem dX4_way_1 : decode cX4_way 1 = .ok (.iload_n 1, 1) := by decide +kernel
theorem dX4_way_2 : decode cX4_way 2 = .ok (.invokevirtual 71, 3) := by decide +kernel
theorem dX4_way_5 : decode cX4_way 5 = .ok (.astore 4, 2) := by decide +kernel
theorem dX4_way_7 : decode cX4_way 7 = .ok (.aload 4, 2) := by decide +kernel
theorem dX4_way_9 : decode cX4_way 9 = .ok (.ifnull 13, 3) := by decide +kernel
theorem dX4_way_12 : decode cX4_way 12 = .ok (.iload_n 3, 1) := by decide +kernel
theorem dX4_way_13 : decode cX4_way 13 = .ok (.ifCond .lt 9, 3) := by decide +kernel
theorem dX4_way_16 : decode cX4_way 16 = .ok (.iload_n 3, 1) := by decide +kernel
theorem dX4_way_17 : decode cX4_way 17 = .ok (.bipush 31, 2) := by decide +kernel
theorem dX4_way_19 : decode cX4_way 19 = .ok (.if_icmp .le 5, 3) := by decide +kernel
theorem dX4_way_22 : decode cX4_way 22 = .ok (.iconst (-1), 1) := by decide +kernel
theorem dX4_way_23 : decode cX4_way 23 = .ok (.ireturn, 1) := by decide +kernel
theorem dX4_way_24 : decode cX4_way 24 = .ok (.aload 4, 2) := by decide +kernel
theorem dX4_way_26 : decode cX4_way 26 = .ok (.iload_n 2, 1) := by decide +kernel
theorem dX4_way_27 : decode cX4_way 27 = .ok (.invokevirtual 137, 3) := by decide +kernel
theorem dX4_way_30 : decode cX4_way 30 = .ok (.ifCond .ne 9, 3) := by decide +kernel
theorem dX4_way_33 : decode cX4_way 33 = .ok (.aload_n 0, 1) := by decide +kernel
theorem dX4_way_34 : decode cX4_way 34 = .ok (.iconst 2, 1) := by decide +kernel
theorem dX4_way_35 : decode cX4_way 35 = .ok (.invokevirtual 79, 3) := by decide +kernel
theorem dX4_way_38 : decode cX4_way 38 = .ok (.ireturn, 1) := by decide +kernel
theorem dX4_way_39 : decode cX4_way 39 = .ok (.aload_n 0, 1) := by decide +kernel
theorem dX4_way_40 : decode cX4_way 40 = .ok (.getfield 31, 3) := by decide +kernel
theorem dX4_way_43 : decode cX4_way 43 = .ok (.aload_n 0, 1) := by decide +kernel
theorem dX4_way_44 : decode cX4_way 44 = .ok (.getfield 24, 3) := by decide +kernel
theorem dX4_way_47 : decode cX4_way 47 = .ok (.aload 4, 2) := by decide +kernel
theorem dX4_way_49 : decode cX4_way 49 = .ok (.iload_n 2, 1) := by decide +kernel
theorem dX4_way_50 : decode cX4_way 50 = .ok (.iload_n 3, 1) := by decide +kernel
theorem dX4_way_51 : decode cX4_way 51 = .ok (.aload_n 0, 1) := by decide +kernel
theorem dX4_way_52 : decode cX4_way 52 = .ok (.getfield 49, 3) := by decide +kernel
theorem dX4_way_55 : decode cX4_way 55 = .ok (.aload_n 0, 1) := by decide +kernel
theorem dX4_way_56 : decode cX4_way 56 = .ok (.getfield 52, 3) := by decide +kernel
theorem dX4_way_59 : decode cX4_way 59 = .ok (.invokevirtual 168, 3) := by decide +kernel
theorem dX4_way_62 : decode cX4_way 62 = .ok (.invokevirtual 164, 3) := by decide +kernel
theorem dX4_way_65 : decode cX4_way 65 = .ok (.iconst 1, 1) := by decide +kernel
theorem dX4_way_66 : decode cX4_way 66 = .ok (.ireturn, 1) := by decide +kernel
theorem dX4_upper_0 : decode cX4_upper 0 = .ok (.aload_n 0, 1) := by decide +kernel
theorem dX4_upper_1 : decode cX4_upper 1 = .ok (.getfield 31, 3) := by decide +kernel
theorem dX4_upper_4 : decode cX4_upper 4 = .ok (.getfield 172, 3) := by decide +kernel
theorem dX4_upper_7 : decode cX4_upper 7 = .ok (.lreturn, 1) := by decide +kernel
theorem dX4_lower_0 : decode cX4_lower 0 = .ok (.aload_n 0, 1) := by decide +kernel
theorem dX4_lower_1 : decode cX4_lower 1 = .ok (.getfield 31, 3) := by decide +kernel
theorem dX4_lower_4 : decode cX4_lower 4 = .ok (.getfield 175, 3) := by decide +kernel
theorem dX4_lower_7 : decode cX4_lower 7 = .ok (.lreturn, 1) := by decide +kernel
theorem dX4_order_0 : decode cX4_order 0 = .ok (.aload_n 0, 1) := by decide +kernel
theorem dX4_order_1 : decode cX4_order 1 = .ok (.iload_n 1, 1) := by decide +kernel
theorem dX4_order_2 : decode cX4_order 2 = .ok (.invokevirtual 71, 3) := by decide +kernel
theorem dX4_order_5 : decode cX4_order 5 = .ok (.astore_n 3, 1) := by decide +kernel
theorem dX4_order_6 : decode cX4_order 6 = .ok (.aload_n 3, 1) := by decide +kernel
theorem dX4_order_7 : decode cX4_order 7 = .ok (.ifnonnull 5, 3) := by decide +kernel
theorem dX4_order_10 : decode cX4_order 10 = .ok (.iconst (-1), 1) := by decide +kernel
theorem dX4_order_11 : decode cX4_order 11 = .ok (.ireturn, 1) := by decide +kernel
theorem dX4_order_12 : decode cX4_order 12 = .ok (.iconst 0, 1) := by decide +kernel
theorem dX4_order_13 : decode cX4_order 13 = .ok (.istore 4, 2) := by decide +kernel
theorem dX4_order_15 : decode cX4_order 15 = .ok (.iload 4, 2) := by decide +kernel
theorem dX4_order_17 : decode cX4_order 17 = .ok (.aload_n 3, 1) := by decide +kernel
theorem dX4_order_18 : decode cX4_order 18 = .ok (.getfield 127, 3) := by decide +kernel
theorem dX4_order_21 : decode cX4_order 21 = .ok (.if_icmp .ge 23, 3) := by decide +kernel
theorem dX4_order_24 : decode cX4_order 24 = .ok (.aload_n 0, 1) := by decide +kernel
theorem dX4_order_25 : decode cX4_order 25 = .ok (.aload_n 3, 1) := by decide +kernel
theorem dX4_order_26 : decode cX4_order 26 = .ok (.iload 4, 2) := by decide +kernel
theorem dX4_order_28 : decode cX4_order 28 = .ok (.invokevirtual 178, 3) := by decide +kernel
theorem dX4_order_31 : decode cX4_order 31 = .ok (.iload_n 2, 1) := by decide +kernel
theorem dX4_order_32 : decode cX4_order 32 = .ok (.if_icmp .ne 6, 3) := by decide +kernel
theorem dX4_order_35 : decode cX4_order 35 = .ok (.iload 4, 2) := by decide +kernel
theorem dX4_order_37 : decode cX4_order 37 = .ok (.ireturn, 1) := by decide +kernel
theorem dX4_order_38 : decode cX4_order 38 = .ok (.iinc 4 1, 3) := by decide +kernel
theorem dX4_order_41 : decode cX4_order 41 = .ok (.goto (-26), 3) := by decide +kernel
theorem dX4_order_44 : decode cX4_order 44 = .ok (.bipush (-9), 2) := by decide +kernel
theorem dX4_order_46 : decode cX4_order 46 = .ok (.ireturn, 1) := by decide +kernel
theorem dX4_goes_0 : decode cX4_goes 0 = .ok (.aload_n 0, 1) := by decide +kernel
theorem dX4_goes_1 : decode cX4_goes 1 = .ok (.iload_n 1, 1) := by decide +kernel
theorem dX4_goes_2 : decode cX4_goes 2 = .ok (.invokevirtual 71, 3) := by decide +kernel
theorem dX4_goes_5 : decode cX4_goes 5 = .ok (.astore_n 3, 1) := by decide +kernel
theorem dX4_goes_6 : decode cX4_goes 6 = .ok (.aload_n 3, 1) := by decide +kernel
theorem dX4_goes_7 : decode cX4_goes 7 = .ok (.ifnonnull 5, 3) := by decide +kernel
theorem dX4_goes_10 : decode cX4_goes 10 = .ok (.iconst (-1), 1) := by decide +kernel
theorem dX4_goes_11 : decode cX4_goes 11 = .ok (.ireturn, 1) := by decide +kernel
theorem dX4_goes_12 : decode cX4_goes 12 = .ok (.aload_n 3, 1) := by decide +kernel
theorem dX4_goes_13 : decode cX4_goes 13 = .ok (.iload_n 2, 1) := by decide +kernel
theorem dX4_goes_14 : decode cX4_goes 14 = .ok (.invokevirtual 137, 3) := by decide +kernel
theorem dX4_goes_17 : decode cX4_goes 17 = .ok (.ifCond .ne 9, 3) := by decide +kernel
theorem dX4_goes_20 : decode cX4_goes 20 = .ok (.aload_n 0, 1) := by decide +kernel
theorem dX4_goes_21 : decode cX4_goes 21 = .ok (.iconst 2, 1) := by decide +kernel
theorem dX4_goes_22 : decode cX4_goes 22 = .ok (.invokevirtual 79, 3) := by decide +kernel
theorem dX4_goes_25 : decode cX4_goes 25 = .ok (.ireturn, 1) := by decide +kernel
theorem dX4_goes_26 : decode cX4_goes 26 = .ok (.iconst 0, 1) := by decide +kernel
theorem dX4_goes_27 : decode cX4_goes 27 = .ok (.istore 4, 2) := by decide +kernel
theorem dX4_goes_29 : decode cX4_goes 29 = .ok (.iconst 0, 1) := by decide +kernel
theorem dX4_goes_30 : decode cX4_goes 30 = .ok (.istore 5, 2) := by decide +kernel
theorem dX4_goes_32 : decode cX4_goes 32 = .ok (.iload 5, 2) := by decide +kernel
theorem dX4_goes_34 : decode cX4_goes 34 = .ok (.aload_n 3, 1) := by decide +kernel
theorem dX4_goes_35 : decode cX4_goes 35 = .ok (.getfield 127, 3) := by decide +kernel
theorem dX4_goes_38 : decode cX4_goes 38 = .ok (.if_icmp .ge 37, 3) := by decide +kernel
theorem dX4_goes_41 : decode cX4_goes 41 = .ok (.aload_n 0, 1) := by decide +kernel
theorem dX4_goes_42 : decode cX4_goes 42 = .ok (.aload_n 3, 1) := by decide +kernel
theorem dX4_goes_43 : decode cX4_goes 43 = .ok (.iload 5, 2) := by decide +kernel
theorem dX4_goes_45 : decode cX4_goes 45 = .ok (.invokevirtual 160, 3) := by decide +kernel
theorem dX4_goes_48 : decode cX4_goes 48 = .ok (.aload_n 0, 1) := by decide +kernel
theorem dX4_goes_49 : decode cX4_goes 49 = .ok (.aload_n 3, 1) := by decide +kernel
theorem dX4_goes_50 : decode cX4_goes 50 = .ok (.iload_n 2, 1) := by decide +kernel
theorem dX4_goes_51 : decode cX4_goes 51 = .ok (.invokevirtual 160, 3) := by decide +kernel
theorem dX4_goes_54 : decode cX4_goes 54 = .ok (.invokevirtual 182, 3) := by decide +kernel
theorem dX4_goes_57 : decode cX4_goes 57 = .ok (.ifCond .lt 12, 3) := by decide +kernel
theorem dX4_goes_60 : decode cX4_goes 60 = .ok (.iload 4, 2) := by decide +kernel
theorem dX4_goes_62 : decode cX4_goes 62 = .ok (.iconst 1, 1) := by decide +kernel
theorem dX4_goes_63 : decode cX4_goes 63 = .ok (.iload 5, 2) := by decide +kernel
theorem dX4_goes_65 : decode cX4_goes 65 = .ok (.ishl, 1) := by decide +kernel
theorem dX4_goes_66 : decode cX4_goes 66 = .ok (.ior, 1) := by decide +kernel
theorem dX4_goes_67 : decode cX4_goes 67 = .ok (.istore 4, 2) := by decide +kernel
theorem dX4_goes_69 : decode cX4_goes 69 = .ok (.iinc 5 1, 3) := by decide +kernel
theorem dX4_goes_72 : decode cX4_goes 72 = .ok (.goto (-40), 3) := by decide +kernel
theorem dX4_goes_75 : decode cX4_goes 75 = .ok (.iload 4, 2) := by decide +kernel
theorem dX4_goes_77 : decode cX4_goes 77 = .ok (.ireturn, 1) := by decide +kernel
theorem dX4_even_0 : decode cX4_even 0 = .ok (.aload_n 0, 1) := by decide +kernel
theorem dX4_even_1 : decode cX4_even 1 = .ok (.iload_n 1, 1) := by decide +kernel
theorem dX4_even_2 : decode cX4_even 2 = .ok (.invokevirtual 71, 3) := by decide +kernel
theorem dX4_even_5 : decode cX4_even 5 = .ok (.astore 5, 2) := by decide +kernel
theorem dX4_even_7 : decode cX4_even 7 = .ok (.aload 5, 2) := by decide +kernel
theorem dX4_even_9 : decode cX4_even 9 = .ok (.ifnull 27, 3) := by decide +kernel
theorem dX4_even_12 : decode cX4_even 12 = .ok (.iload_n 3, 1) := by decide +kernel
theorem dX4_even_13 : decode cX4_even 13 = .ok (.ldc 186, 2) := by decide +kernel
theorem dX4_even_15 : decode cX4_even 15 = .ok (.if_icmp .lt 21, 3) := by decide +kernel
theorem dX4_even_18 : decode cX4_even 18 = .ok (.iload_n 3, 1) := by decide +kernel
theorem dX4_even_19 : decode cX4_even 19 = .ok (.ldc 187, 2) := by decide +kernel
theorem dX4_even_21 : decode cX4_even 21 = .ok (.if_icmp .gt 15, 3) := by decide +kernel
theorem dX4_even_24 : decode cX4_even 24 = .ok (.iload 4, 2) := by decide +kernel
theorem dX4_even_26 : decode cX4_even 26 = .ok (.ifCond .lt 10, 3) := by decide +kernel
theorem dX4_even_29 : decode cX4_even 29 = .ok (.iload 4, 2) := by decide +kernel
theorem dX4_even_31 : decode cX4_even 31 = .ok (.ldc 187, 2) := by decide +kernel
theorem dX4_even_33 : decode cX4_even 33 = .ok (.if_icmp .le 5, 3) := by decide +kernel
theorem dX4_even_36 : decode cX4_even 36 = .ok (.iconst (-1), 1) := by decide +kernel
theorem dX4_even_37 : decode cX4_even 37 = .ok (.ireturn, 1) := by decide +kernel
theorem dX4_even_38 : decode cX4_even 38 = .ok (.aload 5, 2) := by decide +kernel
theorem dX4_even_40 : decode cX4_even 40 = .ok (.iload_n 2, 1) := by decide +kernel
theorem dX4_even_41 : decode cX4_even 41 = .ok (.invokevirtual 137, 3) := by decide +kernel
theorem dX4_even_44 : decode cX4_even 44 = .ok (.ifCond .ne 9, 3) := by decide +kernel
theorem dX4_even_47 : decode cX4_even 47 = .ok (.aload_n 0, 1) := by decide +kernel
theorem dX4_even_48 : decode cX4_even 48 = .ok (.iconst 2, 1) := by decide +kernel
theorem dX4_even_49 : decode cX4_even 49 = .ok (.invokevirtual 79, 3) := by decide +kernel
theorem dX4_even_52 : decode cX4_even 52 = .ok (.ireturn, 1) := by decide +kernel
theorem dX4_even_53 : decode cX4_even 53 = .ok (.iload 4, 2) := by decide +kernel
theorem dX4_even_55 : decode cX4_even 55 = .ok (.ifCond .ne 9, 3) := by decide +kernel
theorem dX4_even_58 : decode cX4_even 58 = .ok (.aload_n 0, 1) := by decide +kernel
theorem dX4_even_59 : decode cX4_even 59 = .ok (.iconst 4, 1) := by decide +kernel
theorem dX4_even_60 : decode cX4_even 60 = .ok (.invokevirtual 79, 3) := by decide +kernel
theorem dX4_even_63 : decode cX4_even 63 = .ok (.ireturn, 1) := by decide +kernel
theorem dX4_even_64 : decode cX4_even 64 = .ok (.aload_n 0, 1) := by decide +kernel
theorem dX4_even_65 : decode cX4_even 65 = .ok (.aload 5, 2) := by decide +kernel
theorem dX4_even_67 : decode cX4_even 67 = .ok (.iload_n 2, 1) := by decide +kernel
theorem dX4_even_68 : decode cX4_even 68 = .ok (.invokevirtual 160, 3) := by decide +kernel
theorem dX4_even_71 : decode cX4_even 71 = .ok (.astore 6, 2) := by decide +kernel
theorem dX4_even_73 : decode cX4_even 73 = .ok (.aload 6, 2) := by decide +kernel
theorem dX4_even_75 : decode cX4_even 75 = .ok (.getfield 172, 3) := by decide +kernel
theorem dX4_even_78 : decode cX4_even 78 = .ok (.aload 6, 2) := by decide +kernel
theorem dX4_even_80 : decode cX4_even 80 = .ok (.getfield 175, 3) := by decide +kernel
theorem dX4_even_83 : decode cX4_even 83 = .ok (.iload_n 3, 1) := by decide +kernel
theorem dX4_even_84 : decode cX4_even 84 = .ok (.i2l, 1) := by decide +kernel
theorem dX4_even_85 : decode cX4_even 85 = .ok (.iload 4, 2) := by decide +kernel
theorem dX4_even_87 : decode cX4_even 87 = .ok (.i2l, 1) := by decide +kernel
theorem dX4_even_88 : decode cX4_even 88 = .ok (.invokestatic 188, 3) := by decide +kernel
theorem dX4_even_91 : decode cX4_even 91 = .ok (.invokestatic 192, 3) := by decide +kernel
theorem dX4_even_94 : decode cX4_even 94 = .ok (.ireturn, 1) := by decide +kernel
theorem dX4_better_0 : decode cX4_better 0 = .ok (.aload_n 0, 1) := by decide +kernel
theorem dX4_better_1 : decode cX4_better 1 = .ok (.iload_n 1, 1) := by decide +kernel
theorem dX4_better_2 : decode cX4_better 2 = .ok (.invokevirtual 71, 3) := by decide +kernel
theorem dX4_better_5 : decode cX4_better 5 = .ok (.astore_n 3, 1) := by decide +kernel
theorem dX4_better_6 : decode cX4_better 6 = .ok (.aload_n 3, 1) := by decide +kernel
theorem dX4_better_7 : decode cX4_better 7 = .ok (.ifnonnull 5, 3) := by decide +kernel
theorem dX4_better_10 : decode cX4_better 10 = .ok (.iconst (-1), 1) := by decide +kernel
theorem dX4_better_11 : decode cX4_better 11 = .ok (.ireturn, 1) := by decide +kernel
theorem dX4_better_12 : decode cX4_better 12 = .ok (.aload_n 3, 1) := by decide +kernel
theorem dX4_better_13 : decode cX4_better 13 = .ok (.iload_n 2, 1) := by decide +kernel
theorem dX4_better_14 : decode cX4_better 14 = .ok (.invokevirtual 137, 3) := by decide +kernel
theorem dX4_better_17 : decode cX4_better 17 = .ok (.ifCond .ne 9, 3) := by decide +kernel
theorem dX4_better_20 : decode cX4_better 20 = .ok (.aload_n 0, 1) := by decide +kernel
theorem dX4_better_21 : decode cX4_better 21 = .ok (.iconst 2, 1) := by decide +kernel
theorem dX4_better_22 : decode cX4_better 22 = .ok (.invokevirtual 79, 3) := by decide +kernel
theorem dX4_better_25 : decode cX4_better 25 = .ok (.ireturn, 1) := by decide +kernel
theorem dX4_better_26 : decode cX4_better 26 = .ok (.aload_n 0, 1) := by decide +kernel
theorem dX4_better_27 : decode cX4_better 27 = .ok (.aload_n 3, 1) := by decide +kernel
theorem dX4_better_28 : decode cX4_better 28 = .ok (.iload_n 2, 1) := by decide +kernel
theorem dX4_better_29 : decode cX4_better 29 = .ok (.invokevirtual 160, 3) := by decide +kernel
theorem dX4_better_32 : decode cX4_better 32 = .ok (.astore 4, 2) := by decide +kernel
theorem dX4_better_34 : decode cX4_better 34 = .ok (.aload_n 0, 1) := by decide +kernel
theorem dX4_better_35 : decode cX4_better 35 = .ok (.getfield 31, 3) := by decide +kernel
theorem dX4_better_38 : decode cX4_better 38 = .ok (.aload 4, 2) := by decide +kernel
theorem dX4_better_40 : decode cX4_better 40 = .ok (.getfield 172, 3) := by decide +kernel
theorem dX4_better_43 : decode cX4_better 43 = .ok (.aload_n 3, 1) := by decide +kernel
theorem dX4_better_44 : decode cX4_better 44 = .ok (.iload_n 2, 1) := by decide +kernel
theorem dX4_better_45 : decode cX4_better 45 = .ok (.invokevirtual 143, 3) := by decide +kernel
theorem dX4_better_48 : decode cX4_better 48 = .ok (.i2l, 1) := by decide +kernel
theorem dX4_better_49 : decode cX4_better 49 = .ok (.aload 4, 2) := by decide +kernel
theorem dX4_better_51 : decode cX4_better 51 = .ok (.getfield 175, 3) := by decide +kernel
theorem dX4_better_54 : decode cX4_better 54 = .ok (.lmul, 1) := by decide +kernel
theorem dX4_better_55 : decode cX4_better 55 = .ok (.lsub, 1) := by decide +kernel
theorem dX4_better_56 : decode cX4_better 56 = .ok (.aload 4, 2) := by decide +kernel
theorem dX4_better_58 : decode cX4_better 58 = .ok (.getfield 175, 3) := by decide +kernel
theorem dX4_better_61 : decode cX4_better 61 = .ok (.invokevirtual 195, 3) := by decide +kernel
theorem dX4_better_64 : decode cX4_better 64 = .ok (.iconst 1, 1) := by decide +kernel
theorem dX4_better_65 : decode cX4_better 65 = .ok (.ireturn, 1) := by decide +kernel
theorem dX4_mean_0 : decode cX4_mean 0 = .ok (.aload_n 0, 1) := by decide +kernel
theorem dX4_mean_1 : decode cX4_mean 1 = .ok (.iload_n 1, 1) := by decide +kernel
theorem dX4_mean_2 : decode cX4_mean 2 = .ok (.invokevirtual 71, 3) := by decide +kernel
theorem dX4_mean_5 : decode cX4_mean 5 = .ok (.astore_n 3, 1) := by decide +kernel
theorem dX4_mean_6 : decode cX4_mean 6 = .ok (.aload_n 3, 1) := by decide +kernel
theorem dX4_mean_7 : decode cX4_mean 7 = .ok (.ifnonnull 5, 3) := by decide +kernel
theorem dX4_mean_10 : decode cX4_mean 10 = .ok (.iconst (-1), 1) := by decide +kernel
theorem dX4_mean_11 : decode cX4_mean 11 = .ok (.ireturn, 1) := by decide +kernel
theorem dX4_mean_12 : decode cX4_mean 12 = .ok (.aload_n 3, 1) := by decide +kernel
theorem dX4_mean_13 : decode cX4_mean 13 = .ok (.iload_n 2, 1) := by decide +kernel
theorem dX4_mean_14 : decode cX4_mean 14 = .ok (.invokevirtual 137, 3) := by decide +kernel
theorem dX4_mean_17 : decode cX4_mean 17 = .ok (.ifCond .ne 9, 3) := by decide +kernel
theorem dX4_mean_20 : decode cX4_mean 20 = .ok (.aload_n 0, 1) := by decide +kernel
theorem dX4_mean_21 : decode cX4_mean 21 = .ok (.iconst 2, 1) := by decide +kernel
theorem dX4_mean_22 : decode cX4_mean 22 = .ok (.invokevirtual 79, 3) := by decide +kernel
theorem dX4_mean_25 : decode cX4_mean 25 = .ok (.ireturn, 1) := by decide +kernel
theorem dX4_mean_26 : decode cX4_mean 26 = .ok (.lconst 0, 1) := by decide +kernel
theorem dX4_mean_27 : decode cX4_mean 27 = .ok (.lstore 4, 2) := by decide +kernel
theorem dX4_mean_29 : decode cX4_mean 29 = .ok (.iconst 0, 1) := by decide +kernel
theorem dX4_mean_30 : decode cX4_mean 30 = .ok (.istore 6, 2) := by decide +kernel
theorem dX4_mean_32 : decode cX4_mean 32 = .ok (.iload 6, 2) := by decide +kernel
theorem dX4_mean_34 : decode cX4_mean 34 = .ok (.aload_n 3, 1) := by decide +kernel
theorem dX4_mean_35 : decode cX4_mean 35 = .ok (.getfield 127, 3) := by decide +kernel
theorem dX4_mean_38 : decode cX4_mean 38 = .ok (.if_icmp .ge 29, 3) := by decide +kernel
theorem dX4_mean_41 : decode cX4_mean 41 = .ok (.lload 4, 2) := by decide +kernel
theorem dX4_mean_43 : decode cX4_mean 43 = .ok (.aload_n 3, 1) := by decide +kernel
theorem dX4_mean_44 : decode cX4_mean 44 = .ok (.iload_n 2, 1) := by decide +kernel
theorem dX4_mean_45 : decode cX4_mean 45 = .ok (.iload 6, 2) := by decide +kernel
theorem dX4_mean_47 : decode cX4_mean 47 = .ok (.invokevirtual 149, 3) := by decide +kernel
theorem dX4_mean_50 : decode cX4_mean 50 = .ok (.aload_n 3, 1) := by decide +kernel
theorem dX4_mean_51 : decode cX4_mean 51 = .ok (.iload 6, 2) := by decide +kernel
theorem dX4_mean_53 : decode cX4_mean 53 = .ok (.invokevirtual 143, 3) := by decide +kernel
theorem dX4_mean_56 : decode cX4_mean 56 = .ok (.imul, 1) := by decide +kernel
theorem dX4_mean_57 : decode cX4_mean 57 = .ok (.i2l, 1) := by decide +kernel
theorem dX4_mean_58 : decode cX4_mean 58 = .ok (.ladd, 1) := by decide +kernel
theorem dX4_mean_59 : decode cX4_mean 59 = .ok (.lstore 4, 2) := by decide +kernel
theorem dX4_mean_61 : decode cX4_mean 61 = .ok (.iinc 6 1, 3) := by decide +kernel
theorem dX4_mean_64 : decode cX4_mean 64 = .ok (.goto (-32), 3) := by decide +kernel
theorem dX4_mean_67 : decode cX4_mean 67 = .ok (.aload_n 0, 1) := by decide +kernel
theorem dX4_mean_68 : decode cX4_mean 68 = .ok (.getfield 31, 3) := by decide +kernel
theorem dX4_mean_71 : decode cX4_mean 71 = .ok (.lload 4, 2) := by decide +kernel
theorem dX4_mean_73 : decode cX4_mean 73 = .ok (.aload_n 3, 1) := by decide +kernel
theorem dX4_mean_74 : decode cX4_mean 74 = .ok (.iload_n 2, 1) := by decide +kernel
theorem dX4_mean_75 : decode cX4_mean 75 = .ok (.invokevirtual 153, 3) := by decide +kernel
theorem dX4_mean_78 : decode cX4_mean 78 = .ok (.i2l, 1) := by decide +kernel
theorem dX4_mean_79 : decode cX4_mean 79 = .ok (.invokevirtual 195, 3) := by decide +kernel
theorem dX4_mean_82 : decode cX4_mean 82 = .ok (.iconst 1, 1) := by decide +kernel
theorem dX4_mean_83 : decode cX4_mean 83 = .ok (.ireturn, 1) := by decide +kernel
theorem dX4_row_0 : decode cX4_row 0 = .ok (.aload_n 0, 1) := by decide +kernel
theorem dX4_row_1 : decode cX4_row 1 = .ok (.iload_n 1, 1) := by decide +kernel
theorem dX4_row_2 : decode cX4_row 2 = .ok (.invokevirtual 71, 3) := by decide +kernel
theorem dX4_row_5 : decode cX4_row 5 = .ok (.astore_n 3, 1) := by decide +kernel
theorem dX4_row_6 : decode cX4_row 6 = .ok (.aload_n 3, 1) := by decide +kernel
theorem dX4_row_7 : decode cX4_row 7 = .ok (.ifnonnull 5, 3) := by decide +kernel
theorem dX4_row_10 : decode cX4_row 10 = .ok (.iconst (-1), 1) := by decide +kernel
theorem dX4_row_11 : decode cX4_row 11 = .ok (.ireturn, 1) := by decide +kernel
theorem dX4_row_12 : decode cX4_row 12 = .ok (.aload_n 3, 1) := by decide +kernel
theorem dX4_row_13 : decode cX4_row 13 = .ok (.iconst 2, 1) := by decide +kernel
theorem dX4_row_14 : decode cX4_row 14 = .ok (.invokevirtual 122, 3) := by decide +kernel
theorem dX4_row_17 : decode cX4_row 17 = .ok (.ifCond .ne 9, 3) := by decide +kernel
theorem dX4_row_20 : decode cX4_row 20 = .ok (.aload_n 0, 1) := by decide +kernel
theorem dX4_row_21 : decode cX4_row 21 = .ok (.iconst 3, 1) := by decide +kernel
theorem dX4_row_22 : decode cX4_row 22 = .ok (.invokevirtual 79, 3) := by decide +kernel
theorem dX4_row_25 : decode cX4_row 25 = .ok (.ireturn, 1) := by decide +kernel
theorem dX4_row_26 : decode cX4_row 26 = .ok (.aload_n 3, 1) := by decide +kernel
theorem dX4_row_27 : decode cX4_row 27 = .ok (.iload_n 2, 1) := by decide +kernel
theorem dX4_row_28 : decode cX4_row 28 = .ok (.invokevirtual 137, 3) := by decide +kernel
theorem dX4_row_31 : decode cX4_row 31 = .ok (.ifCond .ne 9, 3) := by decide +kernel
theorem dX4_row_34 : decode cX4_row 34 = .ok (.aload_n 0, 1) := by decide +kernel
theorem dX4_row_35 : decode cX4_row 35 = .ok (.iconst 2, 1) := by decide +kernel
theorem dX4_row_36 : decode cX4_row 36 = .ok (.invokevirtual 79, 3) := by decide +kernel
theorem dX4_row_39 : decode cX4_row 39 = .ok (.ireturn, 1) := by decide +kernel
theorem dX4_row_40 : decode cX4_row 40 = .ok (.aload_n 0, 1) := by decide +kernel
theorem dX4_row_41 : decode cX4_row 41 = .ok (.getfield 24, 3) := by decide +kernel
theorem dX4_row_44 : decode cX4_row 44 = .ok (.aload_n 3, 1) := by decide +kernel
theorem dX4_row_45 : decode cX4_row 45 = .ok (.iload_n 2, 1) := by decide +kernel
theorem dX4_row_46 : decode cX4_row 46 = .ok (.aload_n 0, 1) := by decide +kernel
theorem dX4_row_47 : decode cX4_row 47 = .ok (.getfield 49, 3) := by decide +kernel
theorem dX4_row_50 : decode cX4_row 50 = .ok (.aload_n 0, 1) := by decide +kernel
theorem dX4_row_51 : decode cX4_row 51 = .ok (.getfield 52, 3) := by decide +kernel
theorem dX4_row_54 : decode cX4_row 54 = .ok (.invokevirtual 199, 3) := by decide +kernel
theorem dX4_row_57 : decode cX4_row 57 = .ok (.ireturn, 1) := by decide +kernel
theorem dX4_least_0 : decode cX4_least 0 = .ok (.aload_n 0, 1) := by decide +kernel
theorem dX4_least_1 : decode cX4_least 1 = .ok (.iload_n 1, 1) := by decide +kernel
theorem dX4_least_2 : decode cX4_least 2 = .ok (.invokevirtual 71, 3) := by decide +kernel
theorem dX4_least_5 : decode cX4_least 5 = .ok (.astore_n 2, 1) := by decide +kernel
theorem dX4_least_6 : decode cX4_least 6 = .ok (.aload_n 2, 1) := by decide +kernel
theorem dX4_least_7 : decode cX4_least 7 = .ok (.ifnonnull 5, 3) := by decide +kernel
theorem dX4_least_10 : decode cX4_least 10 = .ok (.iconst (-1), 1) := by decide +kernel
theorem dX4_least_11 : decode cX4_least 11 = .ok (.ireturn, 1) := by decide +kernel
theorem dX4_least_12 : decode cX4_least 12 = .ok (.iconst 0, 1) := by decide +kernel
theorem dX4_least_13 : decode cX4_least 13 = .ok (.istore_n 3, 1) := by decide +kernel
theorem dX4_least_14 : decode cX4_least 14 = .ok (.iconst 1, 1) := by decide +kernel
theorem dX4_least_15 : decode cX4_least 15 = .ok (.istore 4, 2) := by decide +kernel
theorem dX4_least_17 : decode cX4_least 17 = .ok (.iload 4, 2) := by decide +kernel
theorem dX4_least_19 : decode cX4_least 19 = .ok (.aload_n 2, 1) := by decide +kernel
theorem dX4_least_20 : decode cX4_least 20 = .ok (.getfield 127, 3) := by decide +kernel
theorem dX4_least_23 : decode cX4_least 23 = .ok (.if_icmp .ge 31, 3) := by decide +kernel
theorem dX4_least_26 : decode cX4_least 26 = .ok (.aload_n 0, 1) := by decide +kernel
theorem dX4_least_27 : decode cX4_least 27 = .ok (.aload_n 2, 1) := by decide +kernel
theorem dX4_least_28 : decode cX4_least 28 = .ok (.iload 4, 2) := by decide +kernel
theorem dX4_least_30 : decode cX4_least 30 = .ok (.invokevirtual 160, 3) := by decide +kernel
theorem dX4_least_33 : decode cX4_least 33 = .ok (.aload_n 0, 1) := by decide +kernel
theorem dX4_least_34 : decode cX4_least 34 = .ok (.aload_n 2, 1) := by decide +kernel
theorem dX4_least_35 : decode cX4_least 35 = .ok (.iload_n 3, 1) := by decide +kernel
theorem dX4_least_36 : decode cX4_least 36 = .ok (.invokevirtual 160, 3) := by decide +kernel
theorem dX4_least_39 : decode cX4_least 39 = .ok (.invokevirtual 182, 3) := by decide +kernel
theorem dX4_least_42 : decode cX4_least 42 = .ok (.ifCond .ge 6, 3) := by decide +kernel
theorem dX4_least_45 : decode cX4_least 45 = .ok (.iload 4, 2) := by decide +kernel
theorem dX4_least_47 : decode cX4_least 47 = .ok (.istore_n 3, 1) := by decide +kernel
theorem dX4_least_48 : decode cX4_least 48 = .ok (.iinc 4 1, 3) := by decide +kernel
theorem dX4_least_51 : decode cX4_least 51 = .ok (.goto (-34), 3) := by decide +kernel
theorem dX4_least_54 : decode cX4_least 54 = .ok (.aload_n 0, 1) := by decide +kernel
theorem dX4_least_55 : decode cX4_least 55 = .ok (.getfield 31, 3) := by decide +kernel
theorem dX4_least_58 : decode cX4_least 58 = .ok (.aload_n 0, 1) := by decide +kernel
theorem dX4_least_59 : decode cX4_least 59 = .ok (.aload_n 2, 1) := by decide +kernel
theorem dX4_least_60 : decode cX4_least 60 = .ok (.iload_n 3, 1) := by decide +kernel
theorem dX4_least_61 : decode cX4_least 61 = .ok (.invokevirtual 160, 3) := by decide +kernel
theorem dX4_least_64 : decode cX4_least 64 = .ok (.invokevirtual 164, 3) := by decide +kernel
theorem dX4_least_67 : decode cX4_least 67 = .ok (.iconst 1, 1) := by decide +kernel
theorem dX4_least_68 : decode cX4_least 68 = .ok (.ireturn, 1) := by decide +kernel
theorem dX4_compare_0 : decode cX4_compare 0 = .ok (.aload_n 0, 1) := by decide +kernel
theorem dX4_compare_1 : decode cX4_compare 1 = .ok (.iload_n 1, 1) := by decide +kernel
theorem dX4_compare_2 : decode cX4_compare 2 = .ok (.invokevirtual 71, 3) := by decide +kernel
theorem dX4_compare_5 : decode cX4_compare 5 = .ok (.astore 5, 2) := by decide +kernel
theorem dX4_compare_7 : decode cX4_compare 7 = .ok (.aload_n 0, 1) := by decide +kernel
theorem dX4_compare_8 : decode cX4_compare 8 = .ok (.iload_n 3, 1) := by decide +kernel
theorem dX4_compare_9 : decode cX4_compare 9 = .ok (.invokevirtual 71, 3) := by decide +kernel
theorem dX4_compare_12 : decode cX4_compare 12 = .ok (.astore 6, 2) := by decide +kernel
theorem dX4_compare_14 : decode cX4_compare 14 = .ok (.aload 5, 2) := by decide +kernel
theorem dX4_compare_16 : decode cX4_compare 16 = .ok (.ifnull 8, 3) := by decide +kernel
theorem dX4_compare_19 : decode cX4_compare 19 = .ok (.aload 6, 2) := by decide +kernel
theorem dX4_compare_21 : decode cX4_compare 21 = .ok (.ifnonnull 5, 3) := by decide +kernel
theorem dX4_compare_24 : decode cX4_compare 24 = .ok (.iconst (-1), 1) := by decide +kernel
theorem dX4_compare_25 : decode cX4_compare 25 = .ok (.ireturn, 1) := by decide +kernel
theorem dX4_compare_26 : decode cX4_compare 26 = .ok (.aload 5, 2) := by decide +kernel
theorem dX4_compare_28 : decode cX4_compare 28 = .ok (.iload_n 2, 1) := by decide +kernel
theorem dX4_compare_29 : decode cX4_compare 29 = .ok (.invokevirtual 137, 3) := by decide +kernel
theorem dX4_compare_32 : decode cX4_compare 32 = .ok (.ifCond .eq 13, 3) := by decide +kernel
theorem dX4_compare_35 : decode cX4_compare 35 = .ok (.aload 6, 2) := by decide +kernel
theorem dX4_compare_37 : decode cX4_compare 37 = .ok (.iload 4, 2) := by decide +kernel
theorem dX4_compare_39 : decode cX4_compare 39 = .ok (.invokevirtual 137, 3) := by decide +kernel
theorem dX4_compare_42 : decode cX4_compare 42 = .ok (.ifCond .ne 9, 3) := by decide +kernel
theorem dX4_compare_45 : decode cX4_compare 45 = .ok (.aload_n 0, 1) := by decide +kernel
theorem dX4_compare_46 : decode cX4_compare 46 = .ok (.iconst 2, 1) := by decide +kernel
theorem dX4_compare_47 : decode cX4_compare 47 = .ok (.invokevirtual 79, 3) := by decide +kernel
theorem dX4_compare_50 : decode cX4_compare 50 = .ok (.ireturn, 1) := by decide +kernel
theorem dX4_compare_51 : decode cX4_compare 51 = .ok (.aload_n 0, 1) := by decide +kernel
theorem dX4_compare_52 : decode cX4_compare 52 = .ok (.aload 5, 2) := by decide +kernel
theorem dX4_compare_54 : decode cX4_compare 54 = .ok (.iload_n 2, 1) := by decide +kernel
theorem dX4_compare_55 : decode cX4_compare 55 = .ok (.invokevirtual 160, 3) := by decide +kernel
theorem dX4_compare_58 : decode cX4_compare 58 = .ok (.aload_n 0, 1) := by decide +kernel
theorem dX4_compare_59 : decode cX4_compare 59 = .ok (.aload 6, 2) := by decide +kernel
theorem dX4_compare_61 : decode cX4_compare 61 = .ok (.iload 4, 2) := by decide +kernel
theorem dX4_compare_63 : decode cX4_compare 63 = .ok (.invokevirtual 160, 3) := by decide +kernel
theorem dX4_compare_66 : decode cX4_compare 66 = .ok (.invokevirtual 182, 3) := by decide +kernel
theorem dX4_compare_69 : decode cX4_compare 69 = .ok (.invokestatic 192, 3) := by decide +kernel
theorem dX4_compare_72 : decode cX4_compare 72 = .ok (.ireturn, 1) := by decide +kernel
theorem dX4_seed_0 : decode cX4_seed 0 = .ok (.iload_n 1, 1) := by decide +kernel
theorem dX4_seed_1 : decode cX4_seed 1 = .ok (.ifCond .ge 5, 3) := by decide +kernel
theorem dX4_seed_4 : decode cX4_seed 4 = .ok (.iconst (-1), 1) := by decide +kernel
theorem dX4_seed_5 : decode cX4_seed 5 = .ok (.ireturn, 1) := by decide +kernel
theorem dX4_seed_6 : decode cX4_seed 6 = .ok (.aload_n 0, 1) := by decide +kernel
theorem dX4_seed_7 : decode cX4_seed 7 = .ok (.getfield 55, 3) := by decide +kernel
theorem dX4_seed_10 : decode cX4_seed 10 = .ok (.istore_n 2, 1) := by decide +kernel
theorem dX4_seed_11 : decode cX4_seed 11 = .ok (.aload_n 0, 1) := by decide +kernel
theorem dX4_seed_12 : decode cX4_seed 12 = .ok (.iload_n 1, 1) := by decide +kernel
theorem dX4_seed_13 : decode cX4_seed 13 = .ok (.putfield 55, 3) := by decide +kernel
theorem dX4_seed_16 : decode cX4_seed 16 = .ok (.iload_n 2, 1) := by decide +kernel
theorem dX4_seed_17 : decode cX4_seed 17 = .ok (.ireturn, 1) := by decide +kernel
theorem dX4_best_0 : decode cX4_best 0 = .ok (.aload_n 0, 1) := by decide +kernel
theorem dX4_best_1 : decode cX4_best 1 = .ok (.invokevirtual 203, 3) := by decide +kernel
theorem dX4_best_4 : decode cX4_best 4 = .ok (.ireturn, 1) := by decide +kernel
theorem dX4_work_0 : decode cX4_work 0 = .ok (.aload_n 0, 1) := by decide +kernel
theorem dX4_work_1 : decode cX4_work 1 = .ok (.iload_n 1, 1) := by decide +kernel
theorem dX4_work_2 : decode cX4_work 2 = .ok (.invokevirtual 71, 3) := by decide +kernel
theorem dX4_work_5 : decode cX4_work 5 = .ok (.astore_n 2, 1) := by decide +kernel
theorem dX4_work_6 : decode cX4_work 6 = .ok (.aload_n 2, 1) := by decide +kernel
theorem dX4_work_7 : decode cX4_work 7 = .ok (.ifnonnull 5, 3) := by decide +kernel
theorem dX4_work_10 : decode cX4_work 10 = .ok (.iconst (-1), 1) := by decide +kernel
theorem dX4_work_11 : decode cX4_work 11 = .ok (.ireturn, 1) := by decide +kernel
theorem dX4_work_12 : decode cX4_work 12 = .ok (.aload_n 0, 1) := by decide +kernel
theorem dX4_work_13 : decode cX4_work 13 = .ok (.aload_n 2, 1) := by decide +kernel
theorem dX4_work_14 : decode cX4_work 14 = .ok (.invokevirtual 207, 3) := by decide +kernel
theorem dX4_work_17 : decode cX4_work 17 = .ok (.pop, 1) := by decide +kernel
theorem dX4_work_18 : decode cX4_work 18 = .ok (.aload_n 2, 1) := by decide +kernel
theorem dX4_work_19 : decode cX4_work 19 = .ok (.getfield 130, 3) := by decide +kernel
theorem dX4_work_22 : decode cX4_work 22 = .ok (.ireturn, 1) := by decide +kernel
theorem dX4_run_0 : decode cX4_run 0 = .ok (.iload_n 1, 1) := by decide +kernel
theorem dX4_run_1 : decode cX4_run 1 = .ok (.ifCond .lt 10, 3) := by decide +kernel
theorem dX4_run_4 : decode cX4_run 4 = .ok (.iload_n 1, 1) := by decide +kernel
theorem dX4_run_5 : decode cX4_run 5 = .ok (.sipush 500, 3) := by decide +kernel
theorem dX4_run_8 : decode cX4_run 8 = .ok (.if_icmp .le 6, 3) := by decide +kernel
theorem dX4_run_11 : decode cX4_run 11 = .ok (.ldc 186, 2) := by decide +kernel
theorem dX4_run_13 : decode cX4_run 13 = .ok (.ireturn, 1) := by decide +kernel
theorem dX4_run_14 : decode cX4_run 14 = .ok (.aload_n 0, 1) := by decide +kernel
theorem dX4_run_15 : decode cX4_run 15 = .ok (.getfield 42, 3) := by decide +kernel
theorem dX4_run_18 : decode cX4_run 18 = .ok (.ifCond .ne 6, 3) := by decide +kernel
theorem dX4_run_21 : decode cX4_run 21 = .ok (.ldc 211, 2) := by decide +kernel
theorem dX4_run_23 : decode cX4_run 23 = .ok (.ireturn, 1) := by decide +kernel
theorem dX4_run_24 : decode cX4_run 24 = .ok (.aload_n 0, 1) := by decide +kernel
theorem dX4_run_25 : decode cX4_run 25 = .ok (.iconst 0, 1) := by decide +kernel
theorem dX4_run_26 : decode cX4_run 26 = .ok (.putfield 58, 3) := by decide +kernel
theorem dX4_run_29 : decode cX4_run 29 = .ok (.iconst 0, 1) := by decide +kernel
theorem dX4_run_30 : decode cX4_run 30 = .ok (.istore_n 2, 1) := by decide +kernel
theorem dX4_run_31 : decode cX4_run 31 = .ok (.iconst 0, 1) := by decide +kernel
theorem dX4_run_32 : decode cX4_run 32 = .ok (.istore_n 3, 1) := by decide +kernel
theorem dX4_run_33 : decode cX4_run 33 = .ok (.iload_n 3, 1) := by decide +kernel
theorem dX4_run_34 : decode cX4_run 34 = .ok (.iload_n 1, 1) := by decide +kernel
theorem dX4_run_35 : decode cX4_run 35 = .ok (.if_icmp .ge 52, 3) := by decide +kernel
theorem dX4_run_38 : decode cX4_run 38 = .ok (.aload_n 0, 1) := by decide +kernel
theorem dX4_run_39 : decode cX4_run 39 = .ok (.invokevirtual 203, 3) := by decide +kernel
theorem dX4_run_42 : decode cX4_run 42 = .ok (.istore 4, 2) := by decide +kernel
theorem dX4_run_44 : decode cX4_run 44 = .ok (.iload_n 3, 1) := by decide +kernel
theorem dX4_run_45 : decode cX4_run 45 = .ok (.aload_n 0, 1) := by decide +kernel
theorem dX4_run_46 : decode cX4_run 46 = .ok (.getfield 39, 3) := by decide +kernel
theorem dX4_run_49 : decode cX4_run 49 = .ok (.arraylength, 1) := by decide +kernel
theorem dX4_run_50 : decode cX4_run 50 = .ok (.if_icmp .ge 18, 3) := by decide +kernel
theorem dX4_run_53 : decode cX4_run 53 = .ok (.aload_n 0, 1) := by decide +kernel
theorem dX4_run_54 : decode cX4_run 54 = .ok (.getfield 39, 3) := by decide +kernel
theorem dX4_run_57 : decode cX4_run 57 = .ok (.iload_n 3, 1) := by decide +kernel
theorem dX4_run_58 : decode cX4_run 58 = .ok (.iload 4, 2) := by decide +kernel
theorem dX4_run_60 : decode cX4_run 60 = .ok (.iastore, 1) := by decide +kernel
theorem dX4_run_61 : decode cX4_run 61 = .ok (.aload_n 0, 1) := by decide +kernel
theorem dX4_run_62 : decode cX4_run 62 = .ok (.iload_n 3, 1) := by decide +kernel
theorem dX4_run_63 : decode cX4_run 63 = .ok (.iconst 1, 1) := by decide +kernel
theorem dX4_run_64 : decode cX4_run 64 = .ok (.iadd, 1) := by decide +kernel
theorem dX4_run_65 : decode cX4_run 65 = .ok (.putfield 58, 3) := by decide +kernel
theorem dX4_run_68 : decode cX4_run 68 = .ok (.iload_n 2, 1) := by decide +kernel
theorem dX4_run_69 : decode cX4_run 69 = .ok (.aload_n 0, 1) := by decide +kernel
theorem dX4_run_70 : decode cX4_run 70 = .ok (.aload_n 0, 1) := by decide +kernel
theorem dX4_run_71 : decode cX4_run 71 = .ok (.iload 4, 2) := by decide +kernel
theorem dX4_run_73 : decode cX4_run 73 = .ok (.invokevirtual 71, 3) := by decide +kernel
theorem dX4_run_76 : decode cX4_run 76 = .ok (.invokevirtual 207, 3) := by decide +kernel
theorem dX4_run_79 : decode cX4_run 79 = .ok (.iadd, 1) := by decide +kernel
theorem dX4_run_80 : decode cX4_run 80 = .ok (.istore_n 2, 1) := by decide +kernel
theorem dX4_run_81 : decode cX4_run 81 = .ok (.iinc 3 1, 3) := by decide +kernel
theorem dX4_run_84 : decode cX4_run 84 = .ok (.goto (-51), 3) := by decide +kernel
theorem dX4_run_87 : decode cX4_run 87 = .ok (.iload_n 2, 1) := by decide +kernel
theorem dX4_run_88 : decode cX4_run 88 = .ok (.ireturn, 1) := by decide +kernel
theorem dX4_step_0 : decode cX4_step 0 = .ok (.iload_n 1, 1) := by decide +kernel
theorem dX4_step_1 : decode cX4_step 1 = .ok (.ifCond .lt 20, 3) := by decide +kernel
theorem dX4_step_4 : decode cX4_step 4 = .ok (.iload_n 1, 1) := by decide +kernel
theorem dX4_step_5 : decode cX4_step 5 = .ok (.aload_n 0, 1) := by decide +kernel
theorem dX4_step_6 : decode cX4_step 6 = .ok (.getfield 58, 3) := by decide +kernel
theorem dX4_step_9 : decode cX4_step 9 = .ok (.if_icmp .ge 12, 3) := by decide +kernel
theorem dX4_step_12 : decode cX4_step 12 = .ok (.iload_n 1, 1) := by decide +kernel
theorem dX4_step_13 : decode cX4_step 13 = .ok (.aload_n 0, 1) := by decide +kernel
theorem dX4_step_14 : decode cX4_step 14 = .ok (.getfield 39, 3) := by decide +kernel
theorem dX4_step_17 : decode cX4_step 17 = .ok (.arraylength, 1) := by decide +kernel
theorem dX4_step_18 : decode cX4_step 18 = .ok (.if_icmp .lt 6, 3) := by decide +kernel
theorem dX4_step_21 : decode cX4_step 21 = .ok (.bipush (-9), 2) := by decide +kernel
theorem dX4_step_23 : decode cX4_step 23 = .ok (.ireturn, 1) := by decide +kernel
theorem dX4_step_24 : decode cX4_step 24 = .ok (.aload_n 0, 1) := by decide +kernel
theorem dX4_step_25 : decode cX4_step 25 = .ok (.getfield 39, 3) := by decide +kernel
theorem dX4_step_28 : decode cX4_step 28 = .ok (.iload_n 1, 1) := by decide +kernel
theorem dX4_step_29 : decode cX4_step 29 = .ok (.iaload, 1) := by decide +kernel
theorem dX4_step_30 : decode cX4_step 30 = .ok (.ireturn, 1) := by decide +kernel
theorem dX4_worked_0 : decode cX4_worked 0 = .ok (.aload_n 0, 1) := by decide +kernel
theorem dX4_worked_1 : decode cX4_worked 1 = .ok (.iload_n 1, 1) := by decide +kernel
theorem dX4_worked_2 : decode cX4_worked 2 = .ok (.invokevirtual 71, 3) := by decide +kernel
theorem dX4_worked_5 : decode cX4_worked 5 = .ok (.astore_n 2, 1) := by decide +kernel
theorem dX4_worked_6 : decode cX4_worked 6 = .ok (.aload_n 2, 1) := by decide +kernel
theorem dX4_worked_7 : decode cX4_worked 7 = .ok (.ifnonnull 7, 3) := by decide +kernel
theorem dX4_worked_10 : decode cX4_worked 10 = .ok (.iconst (-1), 1) := by decide +kernel
theorem dX4_worked_11 : decode cX4_worked 11 = .ok (.goto 7, 3) := by decide +kernel
theorem dX4_worked_14 : decode cX4_worked 14 = .ok (.aload_n 2, 1) := by decide +kernel
theorem dX4_worked_15 : decode cX4_worked 15 = .ok (.getfield 212, 3) := by decide +kernel
theorem dX4_worked_18 : decode cX4_worked 18 = .ok (.ireturn, 1) := by decide +kernel
theorem dX4_paid_0 : decode cX4_paid 0 = .ok (.aload_n 0, 1) := by decide +kernel
theorem dX4_paid_1 : decode cX4_paid 1 = .ok (.getfield 68, 3) := by decide +kernel
theorem dX4_paid_4 : decode cX4_paid 4 = .ok (.lreturn, 1) := by decide +kernel
theorem dX4_fail_0 : decode cX4_fail 0 = .ok (.aload_n 0, 1) := by decide +kernel
theorem dX4_fail_1 : decode cX4_fail 1 = .ok (.iload_n 1, 1) := by decide +kernel
theorem dX4_fail_2 : decode cX4_fail 2 = .ok (.invokevirtual 71, 3) := by decide +kernel
theorem dX4_fail_5 : decode cX4_fail 5 = .ok (.ifnonnull 5, 3) := by decide +kernel
theorem dX4_fail_8 : decode cX4_fail 8 = .ok (.iconst (-1), 1) := by decide +kernel
theorem dX4_fail_9 : decode cX4_fail 9 = .ok (.ireturn, 1) := by decide +kernel
theorem dX4_fail_10 : decode cX4_fail 10 = .ok (.iload_n 2, 1) := by decide +kernel
theorem dX4_fail_11 : decode cX4_fail 11 = .ok (.tableswitch 40 0 2 #[25, 32, 34], 25) := by decide +kernel
theorem dX4_fail_36 : decode cX4_fail 36 = .ok (.aload_n 0, 1) := by decide +kernel
theorem dX4_fail_37 : decode cX4_fail 37 = .ok (.bipush 6, 2) := by decide +kernel
theorem dX4_fail_39 : decode cX4_fail 39 = .ok (.invokevirtual 79, 3) := by decide +kernel
theorem dX4_fail_42 : decode cX4_fail 42 = .ok (.ireturn, 1) := by decide +kernel
theorem dX4_fail_43 : decode cX4_fail 43 = .ok (.iconst 2, 1) := by decide +kernel
theorem dX4_fail_44 : decode cX4_fail 44 = .ok (.ireturn, 1) := by decide +kernel
theorem dX4_fail_45 : decode cX4_fail 45 = .ok (.aload_n 0, 1) := by decide +kernel
theorem dX4_fail_46 : decode cX4_fail 46 = .ok (.iconst 2, 1) := by decide +kernel
theorem dX4_fail_47 : decode cX4_fail 47 = .ok (.invokevirtual 79, 3) := by decide +kernel
theorem dX4_fail_50 : decode cX4_fail 50 = .ok (.ireturn, 1) := by decide +kernel
theorem dX4_fail_51 : decode cX4_fail 51 = .ok (.iconst (-1), 1) := by decide +kernel
theorem dX4_fail_52 : decode cX4_fail 52 = .ok (.ireturn, 1) := by decide +kernel
theorem dX4_asked_0 : decode cX4_asked 0 = .ok (.aload_n 0, 1) := by decide +kernel
theorem dX4_asked_1 : decode cX4_asked 1 = .ok (.getfield 64, 3) := by decide +kernel
theorem dX4_asked_4 : decode cX4_asked 4 = .ok (.lreturn, 1) := by decide +kernel
theorem dX4_count_0 : decode cX4_count 0 = .ok (.iload_n 1, 1) := by decide +kernel
theorem dX4_count_1 : decode cX4_count 1 = .ok (.tableswitch 60 0 4 #[35, 40, 45, 50, 55], 35) := by decide +kernel
theorem dX4_count_36 : decode cX4_count 36 = .ok (.aload_n 0, 1) := by decide +kernel
theorem dX4_count_37 : decode cX4_count 37 = .ok (.getfield 42, 3) := by decide +kernel
theorem dX4_count_40 : decode cX4_count 40 = .ok (.ireturn, 1) := by decide +kernel
theorem dX4_count_41 : decode cX4_count 41 = .ok (.aload_n 0, 1) := by decide +kernel
theorem dX4_count_42 : decode cX4_count 42 = .ok (.getfield 46, 3) := by decide +kernel
theorem dX4_count_45 : decode cX4_count 45 = .ok (.ireturn, 1) := by decide +kernel
theorem dX4_count_46 : decode cX4_count 46 = .ok (.aload_n 0, 1) := by decide +kernel
theorem dX4_count_47 : decode cX4_count 47 = .ok (.getfield 49, 3) := by decide +kernel
theorem dX4_count_50 : decode cX4_count 50 = .ok (.ireturn, 1) := by decide +kernel
theorem dX4_count_51 : decode cX4_count 51 = .ok (.aload_n 0, 1) := by decide +kernel
theorem dX4_count_52 : decode cX4_count 52 = .ok (.getfield 52, 3) := by decide +kernel
theorem dX4_count_55 : decode cX4_count 55 = .ok (.ireturn, 1) := by decide +kernel
theorem dX4_count_56 : decode cX4_count 56 = .ok (.aload_n 0, 1) := by decide +kernel
theorem dX4_count_57 : decode cX4_count 57 = .ok (.getfield 55, 3) := by decide +kernel
theorem dX4_count_60 : decode cX4_count 60 = .ok (.ireturn, 1) := by decide +kernel
theorem dX4_count_61 : decode cX4_count 61 = .ok (.iconst (-1), 1) := by decide +kernel
theorem dX4_count_62 : decode cX4_count 62 = .ok (.ireturn, 1) := by decide +kernel
theorem dX4_finding_0 : decode cX4_finding 0 = .ok (.aload_n 0, 1) := by decide +kernel
theorem dX4_finding_1 : decode cX4_finding 1 = .ok (.getfield 61, 3) := by decide +kernel
theorem dX4_finding_4 : decode cX4_finding 4 = .ok (.ireturn, 1) := by decide +kernel
theorem dX4_findings_0 : decode cX4_findings 0 = .ok (.iload_n 1, 1) := by decide +kernel
theorem dX4_findings_1 : decode cX4_findings 1 = .ok (.iconst 1, 1) := by decide +kernel
theorem dX4_findings_2 : decode cX4_findings 2 = .ok (.if_icmp .lt 18, 3) := by decide +kernel
theorem dX4_findings_5 : decode cX4_findings 5 = .ok (.iload_n 1, 1) := by decide +kernel
theorem dX4_findings_6 : decode cX4_findings 6 = .ok (.bipush 6, 2) := by decide +kernel
theorem dX4_findings_8 : decode cX4_findings 8 = .ok (.if_icmp .gt 12, 3) := by decide +kernel
theorem dX4_findings_11 : decode cX4_findings 11 = .ok (.iload_n 1, 1) := by decide +kernel
theorem dX4_findings_12 : decode cX4_findings 12 = .ok (.aload_n 0, 1) := by decide +kernel
theorem dX4_findings_13 : decode cX4_findings 13 = .ok (.getfield 35, 3) := by decide +kernel
theorem dX4_findings_16 : decode cX4_findings 16 = .ok (.arraylength, 1) := by decide +kernel
theorem dX4_findings_17 : decode cX4_findings 17 = .ok (.if_icmp .lt 5, 3) := by decide +kernel
theorem dX4_findings_20 : decode cX4_findings 20 = .ok (.iconst (-1), 1) := by decide +kernel
theorem dX4_findings_21 : decode cX4_findings 21 = .ok (.ireturn, 1) := by decide +kernel
theorem dX4_findings_22 : decode cX4_findings 22 = .ok (.aload_n 0, 1) := by decide +kernel
theorem dX4_findings_23 : decode cX4_findings 23 = .ok (.getfield 35, 3) := by decide +kernel
theorem dX4_findings_26 : decode cX4_findings 26 = .ok (.iload_n 1, 1) := by decide +kernel
theorem dX4_findings_27 : decode cX4_findings 27 = .ok (.iaload, 1) := by decide +kernel
theorem dX4_findings_28 : decode cX4_findings 28 = .ok (.ireturn, 1) := by decide +kernel
theorem dX4_digest_0 : decode cX4_digest 0 = .ok (.ldc2_w 215, 3) := by decide +kernel
theorem dX4_digest_3 : decode cX4_digest 3 = .ok (.aload_n 0, 1) := by decide +kernel
theorem dX4_digest_4 : decode cX4_digest 4 = .ok (.getfield 49, 3) := by decide +kernel
theorem dX4_digest_7 : decode cX4_digest 7 = .ok (.i2l, 1) := by decide +kernel
theorem dX4_digest_8 : decode cX4_digest 8 = .ok (.invokestatic 217, 3) := by decide +kernel
theorem dX4_digest_11 : decode cX4_digest 11 = .ok (.aload_n 0, 1) := by decide +kernel
theorem dX4_digest_12 : decode cX4_digest 12 = .ok (.getfield 52, 3) := by decide +kernel
theorem dX4_digest_15 : decode cX4_digest 15 = .ok (.i2l, 1) := by decide +kernel
theorem dX4_digest_16 : decode cX4_digest 16 = .ok (.invokestatic 217, 3) := by decide +kernel
theorem dX4_digest_19 : decode cX4_digest 19 = .ok (.aload_n 0, 1) := by decide +kernel
theorem dX4_digest_20 : decode cX4_digest 20 = .ok (.getfield 55, 3) := by decide +kernel
theorem dX4_digest_23 : decode cX4_digest 23 = .ok (.i2l, 1) := by decide +kernel
theorem dX4_digest_24 : decode cX4_digest 24 = .ok (.invokestatic 217, 3) := by decide +kernel
theorem dX4_digest_27 : decode cX4_digest 27 = .ok (.lstore_n 1, 1) := by decide +kernel
theorem dX4_digest_28 : decode cX4_digest 28 = .ok (.iconst 0, 1) := by decide +kernel
theorem dX4_digest_29 : decode cX4_digest 29 = .ok (.istore_n 3, 1) := by decide +kernel
theorem dX4_digest_30 : decode cX4_digest 30 = .ok (.iload_n 3, 1) := by decide +kernel
theorem dX4_digest_31 : decode cX4_digest 31 = .ok (.aload_n 0, 1) := by decide +kernel
theorem dX4_digest_32 : decode cX4_digest 32 = .ok (.getfield 42, 3) := by decide +kernel
theorem dX4_digest_35 : decode cX4_digest 35 = .ok (.if_icmp .ge 19, 3) := by decide +kernel
theorem dX4_digest_38 : decode cX4_digest 38 = .ok (.lload_n 1, 1) := by decide +kernel
theorem dX4_digest_39 : decode cX4_digest 39 = .ok (.aload_n 0, 1) := by decide +kernel
theorem dX4_digest_40 : decode cX4_digest 40 = .ok (.iload_n 3, 1) := by decide +kernel
theorem dX4_digest_41 : decode cX4_digest 41 = .ok (.invokevirtual 71, 3) := by decide +kernel
theorem dX4_digest_44 : decode cX4_digest 44 = .ok (.invokestatic 221, 3) := by decide +kernel
theorem dX4_digest_47 : decode cX4_digest 47 = .ok (.lstore_n 1, 1) := by decide +kernel
theorem dX4_digest_48 : decode cX4_digest 48 = .ok (.iinc 3 1, 3) := by decide +kernel
theorem dX4_digest_51 : decode cX4_digest 51 = .ok (.goto (-21), 3) := by decide +kernel
theorem dX4_digest_54 : decode cX4_digest 54 = .ok (.iconst 0, 1) := by decide +kernel
theorem dX4_digest_55 : decode cX4_digest 55 = .ok (.istore_n 3, 1) := by decide +kernel
theorem dX4_digest_56 : decode cX4_digest 56 = .ok (.iload_n 3, 1) := by decide +kernel
theorem dX4_digest_57 : decode cX4_digest 57 = .ok (.aload_n 0, 1) := by decide +kernel
theorem dX4_digest_58 : decode cX4_digest 58 = .ok (.getfield 46, 3) := by decide +kernel
theorem dX4_digest_61 : decode cX4_digest 61 = .ok (.if_icmp .ge 19, 3) := by decide +kernel
theorem dX4_digest_64 : decode cX4_digest 64 = .ok (.lload_n 1, 1) := by decide +kernel
theorem dX4_digest_65 : decode cX4_digest 65 = .ok (.aload_n 0, 1) := by decide +kernel
theorem dX4_digest_66 : decode cX4_digest 66 = .ok (.iload_n 3, 1) := by decide +kernel
theorem dX4_digest_67 : decode cX4_digest 67 = .ok (.invokevirtual 86, 3) := by decide +kernel
theorem dX4_digest_70 : decode cX4_digest 70 = .ok (.invokestatic 225, 3) := by decide +kernel
theorem dX4_digest_73 : decode cX4_digest 73 = .ok (.lstore_n 1, 1) := by decide +kernel
theorem dX4_digest_74 : decode cX4_digest 74 = .ok (.iinc 3 1, 3) := by decide +kernel
theorem dX4_digest_77 : decode cX4_digest 77 = .ok (.goto (-21), 3) := by decide +kernel
theorem dX4_digest_80 : decode cX4_digest 80 = .ok (.lload_n 1, 1) := by decide +kernel
theorem dX4_digest_81 : decode cX4_digest 81 = .ok (.lreturn, 1) := by decide +kernel
theorem dX4_machineAt_0 : decode cX4_machineAt 0 = .ok (.iload_n 1, 1) := by decide +kernel
theorem dX4_machineAt_1 : decode cX4_machineAt 1 = .ok (.ifCond .lt 20, 3) := by decide +kernel
theorem dX4_machineAt_4 : decode cX4_machineAt 4 = .ok (.iload_n 1, 1) := by decide +kernel
theorem dX4_machineAt_5 : decode cX4_machineAt 5 = .ok (.aload_n 0, 1) := by decide +kernel
theorem dX4_machineAt_6 : decode cX4_machineAt 6 = .ok (.getfield 42, 3) := by decide +kernel
theorem dX4_machineAt_9 : decode cX4_machineAt 9 = .ok (.if_icmp .ge 12, 3) := by decide +kernel
theorem dX4_machineAt_12 : decode cX4_machineAt 12 = .ok (.iload_n 1, 1) := by decide +kernel
theorem dX4_machineAt_13 : decode cX4_machineAt 13 = .ok (.aload_n 0, 1) := by decide +kernel
theorem dX4_machineAt_14 : decode cX4_machineAt 14 = .ok (.getfield 11, 3) := by decide +kernel
theorem dX4_machineAt_17 : decode cX4_machineAt 17 = .ok (.arraylength, 1) := by decide +kernel
theorem dX4_machineAt_18 : decode cX4_machineAt 18 = .ok (.if_icmp .lt 5, 3) := by decide +kernel
theorem dX4_machineAt_21 : decode cX4_machineAt 21 = .ok (.aconst_null, 1) := by decide +kernel
theorem dX4_machineAt_22 : decode cX4_machineAt 22 = .ok (.areturn, 1) := by decide +kernel
theorem dX4_machineAt_23 : decode cX4_machineAt 23 = .ok (.aload_n 0, 1) := by decide +kernel
theorem dX4_machineAt_24 : decode cX4_machineAt 24 = .ok (.getfield 11, 3) := by decide +kernel
theorem dX4_machineAt_27 : decode cX4_machineAt 27 = .ok (.iload_n 1, 1) := by decide +kernel
theorem dX4_machineAt_28 : decode cX4_machineAt 28 = .ok (.aaload, 1) := by decide +kernel
theorem dX4_machineAt_29 : decode cX4_machineAt 29 = .ok (.areturn, 1) := by decide +kernel
theorem dX4_sheetAt_0 : decode cX4_sheetAt 0 = .ok (.iload_n 1, 1) := by decide +kernel
theorem dX4_sheetAt_1 : decode cX4_sheetAt 1 = .ok (.ifCond .lt 20, 3) := by decide +kernel
theorem dX4_sheetAt_4 : decode cX4_sheetAt 4 = .ok (.iload_n 1, 1) := by decide +kernel
theorem dX4_sheetAt_5 : decode cX4_sheetAt 5 = .ok (.aload_n 0, 1) := by decide +kernel
theorem dX4_sheetAt_6 : decode cX4_sheetAt 6 = .ok (.getfield 46, 3) := by decide +kernel
theorem dX4_sheetAt_9 : decode cX4_sheetAt 9 = .ok (.if_icmp .ge 12, 3) := by decide +kernel
theorem dX4_sheetAt_12 : decode cX4_sheetAt 12 = .ok (.iload_n 1, 1) := by decide +kernel
theorem dX4_sheetAt_13 : decode cX4_sheetAt 13 = .ok (.aload_n 0, 1) := by decide +kernel
theorem dX4_sheetAt_14 : decode cX4_sheetAt 14 = .ok (.getfield 17, 3) := by decide +kernel
theorem dX4_sheetAt_17 : decode cX4_sheetAt 17 = .ok (.arraylength, 1) := by decide +kernel
theorem dX4_sheetAt_18 : decode cX4_sheetAt 18 = .ok (.if_icmp .lt 5, 3) := by decide +kernel
theorem dX4_sheetAt_21 : decode cX4_sheetAt 21 = .ok (.aconst_null, 1) := by decide +kernel
theorem dX4_sheetAt_22 : decode cX4_sheetAt 22 = .ok (.areturn, 1) := by decide +kernel
theorem dX4_sheetAt_23 : decode cX4_sheetAt 23 = .ok (.aload_n 0, 1) := by decide +kernel
theorem dX4_sheetAt_24 : decode cX4_sheetAt 24 = .ok (.getfield 17, 3) := by decide +kernel
theorem dX4_sheetAt_27 : decode cX4_sheetAt 27 = .ok (.iload_n 1, 1) := by decide +kernel
theorem dX4_sheetAt_28 : decode cX4_sheetAt 28 = .ok (.aaload, 1) := by decide +kernel
theorem dX4_sheetAt_29 : decode cX4_sheetAt 29 = .ok (.areturn, 1) := by decide +kernel
theorem dX4_found_0 : decode cX4_found 0 = .ok (.iload_n 1, 1) := by decide +kernel
theorem dX4_found_1 : decode cX4_found 1 = .ok (.ifCond .lt 27, 3) := by decide +kernel
theorem dX4_found_4 : decode cX4_found 4 = .ok (.iload_n 1, 1) := by decide +kernel
theorem dX4_found_5 : decode cX4_found 5 = .ok (.aload_n 0, 1) := by decide +kernel
theorem dX4_found_6 : decode cX4_found 6 = .ok (.getfield 35, 3) := by decide +kernel
theorem dX4_found_9 : decode cX4_found 9 = .ok (.arraylength, 1) := by decide +kernel
theorem dX4_found_10 : decode cX4_found 10 = .ok (.if_icmp .ge 18, 3) := by decide +kernel
theorem dX4_found_13 : decode cX4_found 13 = .ok (.aload_n 0, 1) := by decide +kernel
theorem dX4_found_14 : decode cX4_found 14 = .ok (.iload_n 1, 1) := by decide +kernel
theorem dX4_found_15 : decode cX4_found 15 = .ok (.putfield 61, 3) := by decide +kernel
theorem dX4_found_18 : decode cX4_found 18 = .ok (.aload_n 0, 1) := by decide +kernel
theorem dX4_found_19 : decode cX4_found 19 = .ok (.getfield 35, 3) := by decide +kernel
theorem dX4_found_22 : decode cX4_found 22 = .ok (.iload_n 1, 1) := by decide +kernel
theorem dX4_found_23 : decode cX4_found 23 = .ok (.dup2, 1) := by decide +kernel
theorem dX4_found_24 : decode cX4_found 24 = .ok (.iaload, 1) := by decide +kernel
theorem dX4_found_25 : decode cX4_found 25 = .ok (.iconst 1, 1) := by decide +kernel
theorem dX4_found_26 : decode cX4_found 26 = .ok (.iadd, 1) := by decide +kernel
theorem dX4_found_27 : decode cX4_found 27 = .ok (.iastore, 1) := by decide +kernel
theorem dX4_found_28 : decode cX4_found 28 = .ok (.bipush (-3), 2) := by decide +kernel
theorem dX4_found_30 : decode cX4_found 30 = .ok (.ireturn, 1) := by decide +kernel
theorem dX4_isPay_0 : decode cX4_isPay 0 = .ok (.lload_n 0, 1) := by decide +kernel
theorem dX4_isPay_1 : decode cX4_isPay 1 = .ok (.ldc2_w 229, 3) := by decide +kernel
theorem dX4_isPay_4 : decode cX4_isPay 4 = .ok (.lcmp, 1) := by decide +kernel
theorem dX4_isPay_5 : decode cX4_isPay 5 = .ok (.ifCond .lt 15, 3) := by decide +kernel
theorem dX4_isPay_8 : decode cX4_isPay 8 = .ok (.lload_n 0, 1) := by decide +kernel
theorem dX4_isPay_9 : decode cX4_isPay 9 = .ok (.ldc2_w 231, 3) := by decide +kernel
theorem dX4_isPay_12 : decode cX4_isPay 12 = .ok (.lcmp, 1) := by decide +kernel
theorem dX4_isPay_13 : decode cX4_isPay 13 = .ok (.ifCond .gt 7, 3) := by decide +kernel
theorem dX4_isPay_16 : decode cX4_isPay 16 = .ok (.iconst 1, 1) := by decide +kernel
theorem dX4_isPay_17 : decode cX4_isPay 17 = .ok (.goto 4, 3) := by decide +kernel
theorem dX4_isPay_20 : decode cX4_isPay 20 = .ok (.iconst 0, 1) := by decide +kernel
theorem dX4_isPay_21 : decode cX4_isPay 21 = .ok (.ireturn, 1) := by decide +kernel
theorem dX4_fits_0 : decode cX4_fits 0 = .ok (.iload_n 0, 1) := by decide +kernel
theorem dX4_fits_1 : decode cX4_fits 1 = .ok (.iconst 1, 1) := by decide +kernel
theorem dX4_fits_2 : decode cX4_fits 2 = .ok (.if_icmp .ne 14, 3) := by decide +kernel
theorem dX4_fits_5 : decode cX4_fits 5 = .ok (.iload_n 1, 1) := by decide +kernel
theorem dX4_fits_6 : decode cX4_fits 6 = .ok (.iconst 1, 1) := by decide +kernel
theorem dX4_fits_7 : decode cX4_fits 7 = .ok (.if_icmp .ne 7, 3) := by decide +kernel
theorem dX4_fits_10 : decode cX4_fits 10 = .ok (.iconst 1, 1) := by decide +kernel
theorem dX4_fits_11 : decode cX4_fits 11 = .ok (.goto 4, 3) := by decide +kernel
theorem dX4_fits_14 : decode cX4_fits 14 = .ok (.iconst 0, 1) := by decide +kernel
theorem dX4_fits_15 : decode cX4_fits 15 = .ok (.ireturn, 1) := by decide +kernel
theorem dX4_fits_16 : decode cX4_fits 16 = .ok (.iload_n 1, 1) := by decide +kernel
theorem dX4_fits_17 : decode cX4_fits 17 = .ok (.iload_n 0, 1) := by decide +kernel
theorem dX4_fits_18 : decode cX4_fits 18 = .ok (.iconst 3, 1) := by decide +kernel
theorem dX4_fits_19 : decode cX4_fits 19 = .ok (.if_icmp .ne 7, 3) := by decide +kernel
theorem dX4_fits_22 : decode cX4_fits 22 = .ok (.iconst 2, 1) := by decide +kernel
theorem dX4_fits_23 : decode cX4_fits 23 = .ok (.goto 4, 3) := by decide +kernel
theorem dX4_fits_26 : decode cX4_fits 26 = .ok (.iconst 1, 1) := by decide +kernel
theorem dX4_fits_27 : decode cX4_fits 27 = .ok (.if_icmp .lt 12, 3) := by decide +kernel
theorem dX4_fits_30 : decode cX4_fits 30 = .ok (.iload_n 1, 1) := by decide +kernel
theorem dX4_fits_31 : decode cX4_fits 31 = .ok (.iconst 5, 1) := by decide +kernel
theorem dX4_fits_32 : decode cX4_fits 32 = .ok (.if_icmp .gt 7, 3) := by decide +kernel
theorem dX4_fits_35 : decode cX4_fits 35 = .ok (.iconst 1, 1) := by decide +kernel
theorem dX4_fits_36 : decode cX4_fits 36 = .ok (.goto 4, 3) := by decide +kernel
theorem dX4_fits_39 : decode cX4_fits 39 = .ok (.iconst 0, 1) := by decide +kernel
theorem dX4_fits_40 : decode cX4_fits 40 = .ok (.ireturn, 1) := by decide +kernel
theorem dX4_asAnswer_0 : decode cX4_asAnswer 0 = .ok (.iload_n 0, 1) := by decide +kernel
theorem dX4_asAnswer_1 : decode cX4_asAnswer 1 = .ok (.ifCond .ne 5, 3) := by decide +kernel
theorem dX4_asAnswer_4 : decode cX4_asAnswer 4 = .ok (.iconst 0, 1) := by decide +kernel
theorem dX4_asAnswer_5 : decode cX4_asAnswer 5 = .ok (.ireturn, 1) := by decide +kernel
theorem dX4_asAnswer_6 : decode cX4_asAnswer 6 = .ok (.iload_n 0, 1) := by decide +kernel
theorem dX4_asAnswer_7 : decode cX4_asAnswer 7 = .ok (.ifCond .le 7, 3) := by decide +kernel
theorem dX4_asAnswer_10 : decode cX4_asAnswer 10 = .ok (.iconst 1, 1) := by decide +kernel
theorem dX4_asAnswer_11 : decode cX4_asAnswer 11 = .ok (.goto 4, 3) := by decide +kernel
theorem dX4_asAnswer_14 : decode cX4_asAnswer 14 = .ok (.iconst 2, 1) := by decide +kernel
theorem dX4_asAnswer_15 : decode cX4_asAnswer 15 = .ok (.ireturn, 1) := by decide +kernel
theorem dX4_worthOf_0 : decode cX4_worthOf 0 = .ok (.aload_n 1, 1) := by decide +kernel
theorem dX4_worthOf_1 : decode cX4_worthOf 1 = .ok (.getfield 75, 3) := by decide +kernel
theorem dX4_worthOf_4 : decode cX4_worthOf 4 = .ok (.ifCond .ne 19, 3) := by decide +kernel
theorem dX4_worthOf_7 : decode cX4_worthOf 7 = .ok (.aload_n 0, 1) := by decide +kernel
theorem dX4_worthOf_8 : decode cX4_worthOf 8 = .ok (.getfield 24, 3) := by decide +kernel
theorem dX4_worthOf_11 : decode cX4_worthOf 11 = .ok (.aload_n 1, 1) := by decide +kernel
theorem dX4_worthOf_12 : decode cX4_worthOf 12 = .ok (.aload_n 0, 1) := by decide +kernel
theorem dX4_worthOf_13 : decode cX4_worthOf 13 = .ok (.getfield 49, 3) := by decide +kernel
theorem dX4_worthOf_16 : decode cX4_worthOf 16 = .ok (.aload_n 0, 1) := by decide +kernel
theorem dX4_worthOf_17 : decode cX4_worthOf 17 = .ok (.getfield 52, 3) := by decide +kernel
theorem dX4_worthOf_20 : decode cX4_worthOf 20 = .ok (.invokevirtual 233, 3) := by decide +kernel
theorem dX4_worthOf_23 : decode cX4_worthOf 23 = .ok (.aload_n 1, 1) := by decide +kernel
theorem dX4_worthOf_24 : decode cX4_worthOf 24 = .ok (.iload_n 2, 1) := by decide +kernel
theorem dX4_worthOf_25 : decode cX4_worthOf 25 = .ok (.invokevirtual 237, 3) := by decide +kernel
theorem dX4_worthOf_28 : decode cX4_worthOf 28 = .ok (.areturn, 1) := by decide +kernel
theorem dX4_rankOf_0 : decode cX4_rankOf 0 = .ok (.iconst 0, 1) := by decide +kernel
theorem dX4_rankOf_1 : decode cX4_rankOf 1 = .ok (.istore_n 3, 1) := by decide +kernel
theorem dX4_rankOf_2 : decode cX4_rankOf 2 = .ok (.iconst 0, 1) := by decide +kernel
theorem dX4_rankOf_3 : decode cX4_rankOf 3 = .ok (.istore 4, 2) := by decide +kernel
theorem dX4_rankOf_5 : decode cX4_rankOf 5 = .ok (.iload 4, 2) := by decide +kernel
theorem dX4_rankOf_7 : decode cX4_rankOf 7 = .ok (.aload_n 1, 1) := by decide +kernel
theorem dX4_rankOf_8 : decode cX4_rankOf 8 = .ok (.getfield 127, 3) := by decide +kernel
theorem dX4_rankOf_11 : decode cX4_rankOf 11 = .ok (.if_icmp .ge 46, 3) := by decide +kernel
theorem dX4_rankOf_14 : decode cX4_rankOf 14 = .ok (.aload_n 0, 1) := by decide +kernel
theorem dX4_rankOf_15 : decode cX4_rankOf 15 = .ok (.aload_n 1, 1) := by decide +kernel
theorem dX4_rankOf_16 : decode cX4_rankOf 16 = .ok (.iload 4, 2) := by decide +kernel
theorem dX4_rankOf_18 : decode cX4_rankOf 18 = .ok (.invokevirtual 160, 3) := by decide +kernel
theorem dX4_rankOf_21 : decode cX4_rankOf 21 = .ok (.aload_n 0, 1) := by decide +kernel
theorem dX4_rankOf_22 : decode cX4_rankOf 22 = .ok (.aload_n 1, 1) := by decide +kernel
theorem dX4_rankOf_23 : decode cX4_rankOf 23 = .ok (.iload_n 2, 1) := by decide +kernel
theorem dX4_rankOf_24 : decode cX4_rankOf 24 = .ok (.invokevirtual 160, 3) := by decide +kernel
theorem dX4_rankOf_27 : decode cX4_rankOf 27 = .ok (.invokevirtual 182, 3) := by decide +kernel
theorem dX4_rankOf_30 : decode cX4_rankOf 30 = .ok (.istore 5, 2) := by decide +kernel
theorem dX4_rankOf_32 : decode cX4_rankOf 32 = .ok (.iload 5, 2) := by decide +kernel
theorem dX4_rankOf_34 : decode cX4_rankOf 34 = .ok (.ifCond .gt 14, 3) := by decide +kernel
theorem dX4_rankOf_37 : decode cX4_rankOf 37 = .ok (.iload 5, 2) := by decide +kernel
theorem dX4_rankOf_39 : decode cX4_rankOf 39 = .ok (.ifCond .ne 12, 3) := by decide +kernel
theorem dX4_rankOf_42 : decode cX4_rankOf 42 = .ok (.iload 4, 2) := by decide +kernel
theorem dX4_rankOf_44 : decode cX4_rankOf 44 = .ok (.iload_n 2, 1) := by decide +kernel
theorem dX4_rankOf_45 : decode cX4_rankOf 45 = .ok (.if_icmp .ge 6, 3) := by decide +kernel
theorem dX4_rankOf_48 : decode cX4_rankOf 48 = .ok (.iinc 3 1, 3) := by decide +kernel
theorem dX4_rankOf_51 : decode cX4_rankOf 51 = .ok (.iinc 4 1, 3) := by decide +kernel
theorem dX4_rankOf_54 : decode cX4_rankOf 54 = .ok (.goto (-49), 3) := by decide +kernel
theorem dX4_rankOf_57 : decode cX4_rankOf 57 = .ok (.iload_n 3, 1) := by decide +kernel
theorem dX4_rankOf_58 : decode cX4_rankOf 58 = .ok (.ireturn, 1) := by decide +kernel
theorem dX4_bestMachine_0 : decode cX4_bestMachine 0 = .ok (.bipush (-9), 2) := by decide +kernel
theorem dX4_bestMachine_2 : decode cX4_bestMachine 2 = .ok (.istore_n 1, 1) := by decide +kernel
theorem dX4_bestMachine_3 : decode cX4_bestMachine 3 = .ok (.aconst_null, 1) := by decide +kernel
theorem dX4_bestMachine_4 : decode cX4_bestMachine 4 = .ok (.astore_n 2, 1) := by decide +kernel
theorem dX4_bestMachine_5 : decode cX4_bestMachine 5 = .ok (.iconst 0, 1) := by decide +kernel
theorem dX4_bestMachine_6 : decode cX4_bestMachine 6 = .ok (.istore_n 3, 1) := by decide +kernel
theorem dX4_bestMachine_7 : decode cX4_bestMachine 7 = .ok (.iload_n 3, 1) := by decide +kernel
theorem dX4_bestMachine_8 : decode cX4_bestMachine 8 = .ok (.aload_n 0, 1) := by decide +kernel
theorem dX4_bestMachine_9 : decode cX4_bestMachine 9 = .ok (.getfield 42, 3) := by decide +kernel
theorem dX4_bestMachine_12 : decode cX4_bestMachine 12 = .ok (.if_icmp .ge 52, 3) := by decide +kernel
theorem dX4_bestMachine_15 : decode cX4_bestMachine 15 = .ok (.aload_n 0, 1) := by decide +kernel
theorem dX4_bestMachine_16 : decode cX4_bestMachine 16 = .ok (.iload_n 3, 1) := by decide +kernel
theorem dX4_bestMachine_17 : decode cX4_bestMachine 17 = .ok (.invokevirtual 71, 3) := by decide +kernel
theorem dX4_bestMachine_20 : decode cX4_bestMachine 20 = .ok (.astore 4, 2) := by decide +kernel
theorem dX4_bestMachine_22 : decode cX4_bestMachine 22 = .ok (.aload 4, 2) := by decide +kernel
theorem dX4_bestMachine_24 : decode cX4_bestMachine 24 = .ok (.ifnull 34, 3) := by decide +kernel
theorem dX4_bestMachine_27 : decode cX4_bestMachine 27 = .ok (.aload_n 0, 1) := by decide +kernel
theorem dX4_bestMachine_28 : decode cX4_bestMachine 28 = .ok (.aload 4, 2) := by decide +kernel
theorem dX4_bestMachine_30 : decode cX4_bestMachine 30 = .ok (.aload 4, 2) := by decide +kernel
theorem dX4_bestMachine_32 : decode cX4_bestMachine 32 = .ok (.getfield 130, 3) := by decide +kernel
theorem dX4_bestMachine_35 : decode cX4_bestMachine 35 = .ok (.invokevirtual 160, 3) := by decide +kernel
theorem dX4_bestMachine_38 : decode cX4_bestMachine 38 = .ok (.astore 5, 2) := by decide +kernel
theorem dX4_bestMachine_40 : decode cX4_bestMachine 40 = .ok (.aload_n 2, 1) := by decide +kernel
theorem dX4_bestMachine_41 : decode cX4_bestMachine 41 = .ok (.ifnull 12, 3) := by decide +kernel
theorem dX4_bestMachine_44 : decode cX4_bestMachine 44 = .ok (.aload 5, 2) := by decide +kernel
theorem dX4_bestMachine_46 : decode cX4_bestMachine 46 = .ok (.aload_n 2, 1) := by decide +kernel
theorem dX4_bestMachine_47 : decode cX4_bestMachine 47 = .ok (.invokevirtual 182, 3) := by decide +kernel
theorem dX4_bestMachine_50 : decode cX4_bestMachine 50 = .ok (.ifCond .le 8, 3) := by decide +kernel
theorem dX4_bestMachine_53 : decode cX4_bestMachine 53 = .ok (.aload 5, 2) := by decide +kernel
theorem dX4_bestMachine_55 : decode cX4_bestMachine 55 = .ok (.astore_n 2, 1) := by decide +kernel
theorem dX4_bestMachine_56 : decode cX4_bestMachine 56 = .ok (.iload_n 3, 1) := by decide +kernel
theorem dX4_bestMachine_57 : decode cX4_bestMachine 57 = .ok (.istore_n 1, 1) := by decide +kernel
theorem dX4_bestMachine_58 : decode cX4_bestMachine 58 = .ok (.iinc 3 1, 3) := by decide +kernel
theorem dX4_bestMachine_61 : decode cX4_bestMachine 61 = .ok (.goto (-54), 3) := by decide +kernel
theorem dX4_bestMachine_64 : decode cX4_bestMachine 64 = .ok (.iload_n 1, 1) := by decide +kernel
theorem dX4_bestMachine_65 : decode cX4_bestMachine 65 = .ok (.ireturn, 1) := by decide +kernel
theorem dX4_workOnce_0 : decode cX4_workOnce 0 = .ok (.aload_n 1, 1) := by decide +kernel
theorem dX4_workOnce_1 : decode cX4_workOnce 1 = .ok (.ifnonnull 5, 3) := by decide +kernel
theorem dX4_workOnce_4 : decode cX4_workOnce 4 = .ok (.iconst 0, 1) := by decide +kernel
theorem dX4_workOnce_5 : decode cX4_workOnce 5 = .ok (.ireturn, 1) := by decide +kernel
theorem dX4_workOnce_6 : decode cX4_workOnce 6 = .ok (.aload_n 1, 1) := by decide +kernel
theorem dX4_workOnce_7 : decode cX4_workOnce 7 = .ok (.aload_n 1, 1) := by decide +kernel
theorem dX4_workOnce_8 : decode cX4_workOnce 8 = .ok (.getfield 130, 3) := by decide +kernel
theorem dX4_workOnce_11 : decode cX4_workOnce 11 = .ok (.invokevirtual 143, 3) := by decide +kernel
theorem dX4_workOnce_14 : decode cX4_workOnce 14 = .ok (.istore_n 2, 1) := by decide +kernel
theorem dX4_workOnce_15 : decode cX4_workOnce 15 = .ok (.aload_n 1, 1) := by decide +kernel
theorem dX4_workOnce_16 : decode cX4_workOnce 16 = .ok (.aload_n 1, 1) := by decide +kernel
theorem dX4_workOnce_17 : decode cX4_workOnce 17 = .ok (.aload_n 0, 1) := by decide +kernel
theorem dX4_workOnce_18 : decode cX4_workOnce 18 = .ok (.aload_n 1, 1) := by decide +kernel
theorem dX4_workOnce_19 : decode cX4_workOnce 19 = .ok (.aload_n 1, 1) := by decide +kernel
theorem dX4_workOnce_20 : decode cX4_workOnce 20 = .ok (.getfield 130, 3) := by decide +kernel
theorem dX4_workOnce_23 : decode cX4_workOnce 23 = .ok (.invokevirtual 153, 3) := by decide +kernel
theorem dX4_workOnce_26 : decode cX4_workOnce 26 = .ok (.invokevirtual 241, 3) := by decide +kernel
theorem dX4_workOnce_29 : decode cX4_workOnce 29 = .ok (.invokevirtual 244, 3) := by decide +kernel
theorem dX4_workOnce_32 : decode cX4_workOnce 32 = .ok (.putfield 130, 3) := by decide +kernel
theorem dX4_workOnce_35 : decode cX4_workOnce 35 = .ok (.aload_n 1, 1) := by decide +kernel
theorem dX4_workOnce_36 : decode cX4_workOnce 36 = .ok (.dup, 1) := by decide +kernel
theorem dX4_workOnce_37 : decode cX4_workOnce 37 = .ok (.getfield 212, 3) := by decide +kernel
theorem dX4_workOnce_40 : decode cX4_workOnce 40 = .ok (.iconst 1, 1) := by decide +kernel
theorem dX4_workOnce_41 : decode cX4_workOnce 41 = .ok (.iadd, 1) := by decide +kernel
theorem dX4_workOnce_42 : decode cX4_workOnce 42 = .ok (.putfield 212, 3) := by decide +kernel
theorem dX4_workOnce_45 : decode cX4_workOnce 45 = .ok (.aload_n 0, 1) := by decide +kernel
theorem dX4_workOnce_46 : decode cX4_workOnce 46 = .ok (.dup, 1) := by decide +kernel
theorem dX4_workOnce_47 : decode cX4_workOnce 47 = .ok (.getfield 68, 3) := by decide +kernel
theorem dX4_workOnce_50 : decode cX4_workOnce 50 = .ok (.iload_n 2, 1) := by decide +kernel
theorem dX4_workOnce_51 : decode cX4_workOnce 51 = .ok (.i2l, 1) := by decide +kernel
theorem dX4_workOnce_52 : decode cX4_workOnce 52 = .ok (.ladd, 1) := by decide +kernel
theorem dX4_workOnce_53 : decode cX4_workOnce 53 = .ok (.putfield 68, 3) := by decide +kernel
theorem dX4_workOnce_56 : decode cX4_workOnce 56 = .ok (.iload_n 2, 1) := by decide +kernel
theorem dX4_workOnce_57 : decode cX4_workOnce 57 = .ok (.ireturn, 1) := by decide +kernel
theorem dX4_draw_0 : decode cX4_draw 0 = .ok (.aload_n 0, 1) := by decide +kernel
theorem dX4_draw_1 : decode cX4_draw 1 = .ok (.aload_n 0, 1) := by decide +kernel
theorem dX4_draw_2 : decode cX4_draw 2 = .ok (.getfield 55, 3) := by decide +kernel
theorem dX4_draw_5 : decode cX4_draw 5 = .ok (.i2l, 1) := by decide +kernel
theorem dX4_draw_6 : decode cX4_draw 6 = .ok (.ldc2_w 247, 3) := by decide +kernel
theorem dX4_draw_9 : decode cX4_draw 9 = .ok (.lmul, 1) := by decide +kernel
theorem dX4_draw_10 : decode cX4_draw 10 = .ok (.ldc2_w 249, 3) := by decide +kernel
theorem dX4_draw_13 : decode cX4_draw 13 = .ok (.ladd, 1) := by decide +kernel
theorem dX4_draw_14 : decode cX4_draw 14 = .ok (.ldc2_w 251, 3) := by decide +kernel
theorem dX4_draw_17 : decode cX4_draw 17 = .ok (.land, 1) := by decide +kernel
theorem dX4_draw_18 : decode cX4_draw 18 = .ok (.l2i, 1) := by decide +kernel
theorem dX4_draw_19 : decode cX4_draw 19 = .ok (.putfield 55, 3) := by decide +kernel
theorem dX4_draw_22 : decode cX4_draw 22 = .ok (.iload_n 1, 1) := by decide +kernel
theorem dX4_draw_23 : decode cX4_draw 23 = .ok (.ifCond .le 15, 3) := by decide +kernel
theorem dX4_draw_26 : decode cX4_draw 26 = .ok (.aload_n 0, 1) := by decide +kernel
theorem dX4_draw_27 : decode cX4_draw 27 = .ok (.getfield 55, 3) := by decide +kernel
theorem dX4_draw_30 : decode cX4_draw 30 = .ok (.ldc 253, 2) := by decide +kernel
theorem dX4_draw_32 : decode cX4_draw 32 = .ok (.idiv, 1) := by decide +kernel
theorem dX4_draw_33 : decode cX4_draw 33 = .ok (.iload_n 1, 1) := by decide +kernel
theorem dX4_draw_34 : decode cX4_draw 34 = .ok (.irem, 1) := by decide +kernel
theorem dX4_draw_35 : decode cX4_draw 35 = .ok (.goto 4, 3) := by decide +kernel
theorem dX4_draw_38 : decode cX4_draw 38 = .ok (.iconst 0, 1) := by decide +kernel
theorem dX4_draw_39 : decode cX4_draw 39 = .ok (.ireturn, 1) := by decide +kernel
theorem dX4_mix_0 : decode cX4_mix 0 = .ok (.ldc2_w 254, 3) := by decide +kernel
theorem dX4_mix_3 : decode cX4_mix 3 = .ok (.lload_n 0, 1) := by decide +kernel
theorem dX4_mix_4 : decode cX4_mix 4 = .ok (.lmul, 1) := by decide +kernel
theorem dX4_mix_5 : decode cX4_mix 5 = .ok (.lload_n 2, 1) := by decide +kernel
theorem dX4_mix_6 : decode cX4_mix 6 = .ok (.ladd, 1) := by decide +kernel
theorem dX4_mix_7 : decode cX4_mix 7 = .ok (.lreturn, 1) := by decide +kernel
theorem dX4_mixMachine_0 : decode cX4_mixMachine 0 = .ok (.aload_n 2, 1) := by decide +kernel
theorem dX4_mixMachine_1 : decode cX4_mixMachine 1 = .ok (.ifnonnull 5, 3) := by decide +kernel
theorem dX4_mixMachine_4 : decode cX4_mixMachine 4 = .ok (.lload_n 0, 1) := by decide +kernel
theorem dX4_mixMachine_5 : decode cX4_mixMachine 5 = .ok (.lreturn, 1) := by decide +kernel
theorem dX4_mixMachine_6 : decode cX4_mixMachine 6 = .ok (.lload_n 0, 1) := by decide +kernel
theorem dX4_mixMachine_7 : decode cX4_mixMachine 7 = .ok (.aload_n 2, 1) := by decide +kernel
theorem dX4_mixMachine_8 : decode cX4_mixMachine 8 = .ok (.getfield 126, 3) := by decide +kernel
theorem dX4_mixMachine_11 : decode cX4_mixMachine 11 = .ok (.i2l, 1) := by decide +kernel
theorem dX4_mixMachine_12 : decode cX4_mixMachine 12 = .ok (.invokestatic 217, 3) := by decide +kernel
theorem dX4_mixMachine_15 : decode cX4_mixMachine 15 = .ok (.aload_n 2, 1) := by decide +kernel
theorem dX4_mixMachine_16 : decode cX4_mixMachine 16 = .ok (.getfield 127, 3) := by decide +kernel
theorem dX4_mixMachine_19 : decode cX4_mixMachine 19 = .ok (.i2l, 1) := by decide +kernel
theorem dX4_mixMachine_20 : decode cX4_mixMachine 20 = .ok (.invokestatic 217, 3) := by decide +kernel
theorem dX4_mixMachine_23 : decode cX4_mixMachine 23 = .ok (.aload_n 2, 1) := by decide +kernel
theorem dX4_mixMachine_24 : decode cX4_mixMachine 24 = .ok (.getfield 130, 3) := by decide +kernel
theorem dX4_mixMachine_27 : decode cX4_mixMachine 27 = .ok (.i2l, 1) := by decide +kernel
theorem dX4_mixMachine_28 : decode cX4_mixMachine 28 = .ok (.invokestatic 217, 3) := by decide +kernel
theorem dX4_mixMachine_31 : decode cX4_mixMachine 31 = .ok (.lstore_n 3, 1) := by decide +kernel
theorem dX4_mixMachine_32 : decode cX4_mixMachine 32 = .ok (.iconst 0, 1) := by decide +kernel
theorem dX4_mixMachine_33 : decode cX4_mixMachine 33 = .ok (.istore 5, 2) := by decide +kernel
theorem dX4_mixMachine_35 : decode cX4_mixMachine 35 = .ok (.iload 5, 2) := by decide +kernel
theorem dX4_mixMachine_37 : decode cX4_mixMachine 37 = .ok (.aload_n 2, 1) := by decide +kernel
theorem dX4_mixMachine_38 : decode cX4_mixMachine 38 = .ok (.getfield 127, 3) := by decide +kernel
theorem dX4_mixMachine_41 : decode cX4_mixMachine 41 = .ok (.if_icmp .ge 53, 3) := by decide +kernel
theorem dX4_mixMachine_44 : decode cX4_mixMachine 44 = .ok (.lload_n 3, 1) := by decide +kernel
theorem dX4_mixMachine_45 : decode cX4_mixMachine 45 = .ok (.aload_n 2, 1) := by decide +kernel
theorem dX4_mixMachine_46 : decode cX4_mixMachine 46 = .ok (.iload 5, 2) := by decide +kernel
theorem dX4_mixMachine_48 : decode cX4_mixMachine 48 = .ok (.invokevirtual 143, 3) := by decide +kernel
theorem dX4_mixMachine_51 : decode cX4_mixMachine 51 = .ok (.i2l, 1) := by decide +kernel
theorem dX4_mixMachine_52 : decode cX4_mixMachine 52 = .ok (.invokestatic 217, 3) := by decide +kernel
theorem dX4_mixMachine_55 : decode cX4_mixMachine 55 = .ok (.lstore_n 3, 1) := by decide +kernel
theorem dX4_mixMachine_56 : decode cX4_mixMachine 56 = .ok (.iconst 0, 1) := by decide +kernel
theorem dX4_mixMachine_57 : decode cX4_mixMachine 57 = .ok (.istore 6, 2) := by decide +kernel
theorem dX4_mixMachine_59 : decode cX4_mixMachine 59 = .ok (.iload 6, 2) := by decide +kernel
theorem dX4_mixMachine_61 : decode cX4_mixMachine 61 = .ok (.aload_n 2, 1) := by decide +kernel
theorem dX4_mixMachine_62 : decode cX4_mixMachine 62 = .ok (.getfield 127, 3) := by decide +kernel
theorem dX4_mixMachine_65 : decode cX4_mixMachine 65 = .ok (.if_icmp .ge 23, 3) := by decide +kernel
theorem dX4_mixMachine_68 : decode cX4_mixMachine 68 = .ok (.lload_n 3, 1) := by decide +kernel
theorem dX4_mixMachine_69 : decode cX4_mixMachine 69 = .ok (.aload_n 2, 1) := by decide +kernel
theorem dX4_mixMachine_70 : decode cX4_mixMachine 70 = .ok (.iload 5, 2) := by decide +kernel
theorem dX4_mixMachine_72 : decode cX4_mixMachine 72 = .ok (.iload 6, 2) := by decide +kernel
theorem dX4_mixMachine_74 : decode cX4_mixMachine 74 = .ok (.invokevirtual 149, 3) := by decide +kernel
theorem dX4_mixMachine_77 : decode cX4_mixMachine 77 = .ok (.i2l, 1) := by decide +kernel
theorem dX4_mixMachine_78 : decode cX4_mixMachine 78 = .ok (.invokestatic 217, 3) := by decide +kernel
theorem dX4_mixMachine_81 : decode cX4_mixMachine 81 = .ok (.lstore_n 3, 1) := by decide +kernel
theorem dX4_mixMachine_82 : decode cX4_mixMachine 82 = .ok (.iinc 6 1, 3) := by decide +kernel
theorem dX4_mixMachine_85 : decode cX4_mixMachine 85 = .ok (.goto (-26), 3) := by decide +kernel
theorem dX4_mixMachine_88 : decode cX4_mixMachine 88 = .ok (.iinc 5 1, 3) := by decide +kernel
theorem dX4_mixMachine_91 : decode cX4_mixMachine 91 = .ok (.goto (-56), 3) := by decide +kernel
theorem dX4_mixMachine_94 : decode cX4_mixMachine 94 = .ok (.lload_n 3, 1) := by decide +kernel
theorem dX4_mixMachine_95 : decode cX4_mixMachine 95 = .ok (.lreturn, 1) := by decide +kernel
theorem dX4_mixSheet_0 : decode cX4_mixSheet 0 = .ok (.aload_n 2, 1) := by decide +kernel
theorem dX4_mixSheet_1 : decode cX4_mixSheet 1 = .ok (.ifnull 10, 3) := by decide +kernel
theorem dX4_mixSheet_4 : decode cX4_mixSheet 4 = .ok (.aload_n 2, 1) := by decide +kernel
theorem dX4_mixSheet_5 : decode cX4_mixSheet 5 = .ok (.getfield 90, 3) := by decide +kernel
theorem dX4_mixSheet_8 : decode cX4_mixSheet 8 = .ok (.ifCond .eq 11, 3) := by decide +kernel
theorem dX4_mixSheet_11 : decode cX4_mixSheet 11 = .ok (.lload_n 0, 1) := by decide +kernel
theorem dX4_mixSheet_12 : decode cX4_mixSheet 12 = .ok (.ldc2_w 256, 3) := by decide +kernel
theorem dX4_mixSheet_15 : decode cX4_mixSheet 15 = .ok (.invokestatic 217, 3) := by decide +kernel
theorem dX4_mixSheet_18 : decode cX4_mixSheet 18 = .ok (.lreturn, 1) := by decide +kernel
theorem dX4_mixSheet_19 : decode cX4_mixSheet 19 = .ok (.lload_n 0, 1) := by decide +kernel
theorem dX4_mixSheet_20 : decode cX4_mixSheet 20 = .ok (.aload_n 2, 1) := by decide +kernel
theorem dX4_mixSheet_21 : decode cX4_mixSheet 21 = .ok (.getfield 108, 3) := by decide +kernel
theorem dX4_mixSheet_24 : decode cX4_mixSheet 24 = .ok (.arraylength, 1) := by decide +kernel
theorem dX4_mixSheet_25 : decode cX4_mixSheet 25 = .ok (.i2l, 1) := by decide +kernel
theorem dX4_mixSheet_26 : decode cX4_mixSheet 26 = .ok (.invokestatic 217, 3) := by decide +kernel
theorem dX4_mixSheet_29 : decode cX4_mixSheet 29 = .ok (.lstore_n 3, 1) := by decide +kernel
theorem dX4_mixSheet_30 : decode cX4_mixSheet 30 = .ok (.iconst 0, 1) := by decide +kernel
theorem dX4_mixSheet_31 : decode cX4_mixSheet 31 = .ok (.istore 5, 2) := by decide +kernel
theorem dX4_mixSheet_33 : decode cX4_mixSheet 33 = .ok (.iload 5, 2) := by decide +kernel
theorem dX4_mixSheet_35 : decode cX4_mixSheet 35 = .ok (.aload_n 2, 1) := by decide +kernel
theorem dX4_mixSheet_36 : decode cX4_mixSheet 36 = .ok (.getfield 108, 3) := by decide +kernel
theorem dX4_mixSheet_39 : decode cX4_mixSheet 39 = .ok (.arraylength, 1) := by decide +kernel
theorem dX4_mixSheet_40 : decode cX4_mixSheet 40 = .ok (.if_icmp .ge 21, 3) := by decide +kernel
theorem dX4_mixSheet_43 : decode cX4_mixSheet 43 = .ok (.lload_n 3, 1) := by decide +kernel
theorem dX4_mixSheet_44 : decode cX4_mixSheet 44 = .ok (.aload_n 2, 1) := by decide +kernel
theorem dX4_mixSheet_45 : decode cX4_mixSheet 45 = .ok (.getfield 108, 3) := by decide +kernel
theorem dX4_mixSheet_48 : decode cX4_mixSheet 48 = .ok (.iload 5, 2) := by decide +kernel
theorem dX4_mixSheet_50 : decode cX4_mixSheet 50 = .ok (.laload, 1) := by decide +kernel
theorem dX4_mixSheet_51 : decode cX4_mixSheet 51 = .ok (.invokestatic 217, 3) := by decide +kernel
theorem dX4_mixSheet_54 : decode cX4_mixSheet 54 = .ok (.lstore_n 3, 1) := by decide +kernel
theorem dX4_mixSheet_55 : decode cX4_mixSheet 55 = .ok (.iinc 5 1, 3) := by decide +kernel
theorem dX4_mixSheet_58 : decode cX4_mixSheet 58 = .ok (.goto (-25), 3) := by decide +kernel
theorem dX4_mixSheet_61 : decode cX4_mixSheet 61 = .ok (.lload_n 3, 1) := by decide +kernel
theorem dX4_mixSheet_62 : decode cX4_mixSheet 62 = .ok (.lreturn, 1) := by decide +kernel
end
section
theorem dX5_init_0 : decode cX5_init 0 = .ok (.aload_n 0, 1) := by decide +kernel
theorem dX5_init_1 : decode cX5_init 1 = .ok (.invokespecial 1, 3) := by decide +kernel
theorem dX5_init_4 : decode cX5_init 4 = .ok (.aload_n 0, 1) := by decide +kernel
theorem dX5_init_5 : decode cX5_init 5 = .ok (.bipush 7, 2) := by decide +kernel
theorem dX5_init_7 : decode cX5_init 7 = .ok (.newarray .int, 2) := by decide +kernel
theorem dX5_init_9 : decode cX5_init 9 = .ok (.putfield 7, 3) := by decide +kernel
theorem dX5_init_12 : decode cX5_init 12 = .ok (.aload_n 0, 1) := by decide +kernel
theorem dX5_init_13 : decode cX5_init 13 = .ok (.bipush 12, 2) := by decide +kernel
theorem dX5_init_15 : decode cX5_init 15 = .ok (.newarray .int, 2) := by decide +kernel
theorem dX5_init_17 : decode cX5_init 17 = .ok (.putfield 13, 3) := by decide +kernel
theorem dX5_init_20 : decode cX5_init 20 = .ok (.aload_n 0, 1) := by decide +kernel
theorem dX5_init_21 : decode cX5_init 21 = .ok (.bipush 12, 2) := by decide +kernel
theorem dX5_init_23 : decode cX5_init 23 = .ok (.newarray .int, 2) := by decide +kernel
theorem dX5_init_25 : decode cX5_init 25 = .ok (.putfield 16, 3) := by decide +kernel
theorem dX5_init_28 : decode cX5_init 28 = .ok (.aload_n 0, 1) := by decide +kernel
theorem dX5_init_29 : decode cX5_init 29 = .ok (.sipush 288, 3) := by decide +kernel
theorem dX5_init_32 : decode cX5_init 32 = .ok (.newarray .long, 2) := by decide +kernel
theorem dX5_init_34 : decode cX5_init 34 = .ok (.putfield 19, 3) := by decide +kernel
theorem dX5_init_37 : decode cX5_init 37 = .ok (.aload_n 0, 1) := by decide +kernel
theorem dX5_init_38 : decode cX5_init 38 = .ok (.bipush 24, 2) := by decide +kernel
theorem dX5_init_40 : decode cX5_init 40 = .ok (.newarray .long, 2) := by decide +kernel
theorem dX5_init_42 : decode cX5_init 42 = .ok (.putfield 23, 3) := by decide +kernel
theorem dX5_init_45 : decode cX5_init 45 = .ok (.aload_n 0, 1) := by decide +kernel
theorem dX5_init_46 : decode cX5_init 46 = .ok (.bipush 16, 2) := by decide +kernel
theorem dX5_init_48 : decode cX5_init 48 = .ok (.newarray .int, 2) := by decide +kernel
theorem dX5_init_50 : decode cX5_init 50 = .ok (.putfield 26, 3) := by decide +kernel
theorem dX5_init_53 : decode cX5_init 53 = .ok (.aload_n 0, 1) := by decide +kernel
theorem dX5_init_54 : decode cX5_init 54 = .ok (.bipush 16, 2) := by decide +kernel
theorem dX5_init_56 : decode cX5_init 56 = .ok (.newarray .int, 2) := by decide +kernel
theorem dX5_init_58 : decode cX5_init 58 = .ok (.putfield 29, 3) := by decide +kernel
theorem dX5_init_61 : decode cX5_init 61 = .ok (.aload_n 0, 1) := by decide +kernel
theorem dX5_init_62 : decode cX5_init 62 = .ok (.bipush 16, 2) := by decide +kernel
theorem dX5_init_64 : decode cX5_init 64 = .ok (.newarray .int, 2) := by decide +kernel
theorem dX5_init_66 : decode cX5_init 66 = .ok (.putfield 32, 3) := by decide +kernel
theorem dX5_init_69 : decode cX5_init 69 = .ok (.aload_n 0, 1) := by decide +kernel
theorem dX5_init_70 : decode cX5_init 70 = .ok (.bipush 80, 2) := by decide +kernel
theorem dX5_init_72 : decode cX5_init 72 = .ok (.newarray .int, 2) := by decide +kernel
theorem dX5_init_74 : decode cX5_init 74 = .ok (.putfield 35, 3) := by decide +kernel
theorem dX5_init_77 : decode cX5_init 77 = .ok (.aload_n 0, 1) := by decide +kernel
theorem dX5_init_78 : decode cX5_init 78 = .ok (.sipush 400, 3) := by decide +kernel
theorem dX5_init_81 : decode cX5_init 81 = .ok (.newarray .int, 2) := by decide +kernel
theorem dX5_init_83 : decode cX5_init 83 = .ok (.putfield 38, 3) := by decide +kernel
theorem dX5_init_86 : decode cX5_init 86 = .ok (.aload_n 0, 1) := by decide +kernel
theorem dX5_init_87 : decode cX5_init 87 = .ok (.bipush 16, 2) := by decide +kernel
theorem dX5_init_89 : decode cX5_init 89 = .ok (.newarray .int, 2) := by decide +kernel
theorem dX5_init_91 : decode cX5_init 91 = .ok (.putfield 41, 3) := by decide +kernel
theorem dX5_init_94 : decode cX5_init 94 = .ok (.aload_n 0, 1) := by decide +kernel
theorem dX5_init_95 : decode cX5_init 95 = .ok (.bipush 25, 2) := by decide +kernel
theorem dX5_init_97 : decode cX5_init 97 = .ok (.newarray .long, 2) := by decide +kernel
theorem dX5_init_99 : decode cX5_init 99 = .ok (.putfield 44, 3) := by decide +kernel
theorem dX5_init_102 : decode cX5_init 102 = .ok (.aload_n 0, 1) := by decide +kernel
theorem dX5_init_103 : decode cX5_init 103 = .ok (.bipush 32, 2) := by decide +kernel
theorem dX5_init_105 : decode cX5_init 105 = .ok (.newarray .long, 2) := by decide +kernel
theorem dX5_init_107 : decode cX5_init 107 = .ok (.putfield 47, 3) := by decide +kernel
theorem dX5_init_110 : decode cX5_init 110 = .ok (.aload_n 0, 1) := by decide +kernel
theorem dX5_init_111 : decode cX5_init 111 = .ok (.iconst 5, 1) := by decide +kernel
theorem dX5_init_112 : decode cX5_init 112 = .ok (.newarray .long, 2) := by decide +kernel
theorem dX5_init_114 : decode cX5_init 114 = .ok (.putfield 50, 3) := by decide +kernel
theorem dX5_init_117 : decode cX5_init 117 = .ok (.aload_n 0, 1) := by decide +kernel
theorem dX5_init_118 : decode cX5_init 118 = .ok (.iconst 5, 1) := by decide +kernel
theorem dX5_init_119 : decode cX5_init 119 = .ok (.newarray .long, 2) := by decide +kernel
theorem dX5_init_121 : decode cX5_init 121 = .ok (.putfield 53, 3) := by decide +kernel
theorem dX5_init_124 : decode cX5_init 124 = .ok (.aload_n 0, 1) := by decide +kernel
theorem dX5_init_125 : decode cX5_init 125 = .ok (.iconst 5, 1) := by decide +kernel
theorem dX5_init_126 : decode cX5_init 126 = .ok (.newarray .int, 2) := by decide +kernel
theorem dX5_init_128 : decode cX5_init 128 = .ok (.putfield 56, 3) := by decide +kernel
theorem dX5_init_131 : decode cX5_init 131 = .ok (.aload_n 0, 1) := by decide +kernel
theorem dX5_init_132 : decode cX5_init 132 = .ok (.sipush 200, 3) := by decide +kernel
theorem dX5_init_135 : decode cX5_init 135 = .ok (.newarray .int, 2) := by decide +kernel
theorem dX5_init_137 : decode cX5_init 137 = .ok (.putfield 59, 3) := by decide +kernel
theorem dX5_init_140 : decode cX5_init 140 = .ok (.aload_n 0, 1) := by decide +kernel
theorem dX5_init_141 : decode cX5_init 141 = .ok (.iconst 1, 1) := by decide +kernel
theorem dX5_init_142 : decode cX5_init 142 = .ok (.putfield 62, 3) := by decide +kernel
theorem dX5_init_145 : decode cX5_init 145 = .ok (.aload_n 0, 1) := by decide +kernel
theorem dX5_init_146 : decode cX5_init 146 = .ok (.iconst 2, 1) := by decide +kernel
theorem dX5_init_147 : decode cX5_init 147 = .ok (.putfield 66, 3) := by decide +kernel
theorem dX5_init_150 : decode cX5_init 150 = .ok (.aload_n 0, 1) := by decide +kernel
theorem dX5_init_151 : decode cX5_init 151 = .ok (.iconst 1, 1) := by decide +kernel
theorem dX5_init_152 : decode cX5_init 152 = .ok (.putfield 69, 3) := by decide +kernel
theorem dX5_init_155 : decode cX5_init 155 = .ok (.aload_n 0, 1) := by decide +kernel
theorem dX5_init_156 : decode cX5_init 156 = .ok (.lconst 1, 1) := by decide +kernel
theorem dX5_init_157 : decode cX5_init 157 = .ok (.putfield 72, 3) := by decide +kernel
theorem dX5_init_160 : decode cX5_init 160 = .ok (.return_, 1) := by decide +kernel
theorem dX5_in_0 : decode cX5_in 0 = .ok (.lload_n 0, 1) := by decide +kernel
theorem dX5_in_1 : decode cX5_in 1 = .ok (.lload_n 2, 1) := by decide +kernel
theorem dX5_in_2 : decode cX5_in 2 = .ok (.lcmp, 1) := by decide +kernel
theorem dX5_in_3 : decode cX5_in 3 = .ok (.ifCond .lt 14, 3) := by decide +kernel
theorem dX5_in_6 : decode cX5_in 6 = .ok (.lload_n 0, 1) := by decide +kernel
theorem dX5_in_7 : decode cX5_in 7 = .ok (.lload 4, 2) := by decide +kernel
theorem dX5_in_9 : decode cX5_in 9 = .ok (.lcmp, 1) := by decide +kernel
theorem dX5_in_10 : decode cX5_in 10 = .ok (.ifCond .gt 7, 3) := by decide +kernel
theorem dX5_in_13 : decode cX5_in 13 = .ok (.iconst 1, 1) := by decide +kernel
theorem dX5_in_14 : decode cX5_in 14 = .ok (.goto 4, 3) := by decide +kernel
theorem dX5_in_17 : decode cX5_in 17 = .ok (.iconst 0, 1) := by decide +kernel
theorem dX5_in_18 : decode cX5_in 18 = .ok (.ireturn, 1) := by decide +kernel
theorem dX5_meets_0 : decode cX5_meets 0 = .ok (.aload_n 0, 1) := by decide +kernel
theorem dX5_meets_1 : decode cX5_meets 1 = .ok (.iload_n 1, 1) := by decide +kernel
theorem dX5_meets_2 : decode cX5_meets 2 = .ok (.putfield 76, 3) := by decide +kernel
theorem dX5_meets_5 : decode cX5_meets 5 = .ok (.aload_n 0, 1) := by decide +kernel
theorem dX5_meets_6 : decode cX5_meets 6 = .ok (.getfield 7, 3) := by decide +kernel
theorem dX5_meets_9 : decode cX5_meets 9 = .ok (.iload_n 1, 1) := by decide +kernel
theorem dX5_meets_10 : decode cX5_meets 10 = .ok (.dup2, 1) := by decide +kernel
theorem dX5_meets_11 : decode cX5_meets 11 = .ok (.iaload, 1) := by decide +kernel
theorem dX5_meets_12 : decode cX5_meets 12 = .ok (.iconst 1, 1) := by decide +kernel
theorem dX5_meets_13 : decode cX5_meets 13 = .ok (.iadd, 1) := by decide +kernel
theorem dX5_meets_14 : decode cX5_meets 14 = .ok (.iastore, 1) := by decide +kernel
theorem dX5_meets_15 : decode cX5_meets 15 = .ok (.bipush (-3), 2) := by decide +kernel
theorem dX5_meets_17 : decode cX5_meets 17 = .ok (.ireturn, 1) := by decide +kernel
theorem dX5_finding_0 : decode cX5_finding 0 = .ok (.aload_n 0, 1) := by decide +kernel
theorem dX5_finding_1 : decode cX5_finding 1 = .ok (.getfield 76, 3) := by decide +kernel
theorem dX5_finding_4 : decode cX5_finding 4 = .ok (.ireturn, 1) := by decide +kernel
theorem dX5_findings_0 : decode cX5_findings 0 = .ok (.iload_n 1, 1) := by decide +kernel
theorem dX5_findings_1 : decode cX5_findings 1 = .ok (.i2l, 1) := by decide +kernel
theorem dX5_findings_2 : decode cX5_findings 2 = .ok (.lconst 1, 1) := by decide +kernel
theorem dX5_findings_3 : decode cX5_findings 3 = .ok (.ldc2_w 79, 3) := by decide +kernel
theorem dX5_findings_6 : decode cX5_findings 6 = .ok (.invokestatic 81, 3) := by decide +kernel
theorem dX5_findings_9 : decode cX5_findings 9 = .ok (.ifCond .eq 12, 3) := by decide +kernel
theorem dX5_findings_12 : decode cX5_findings 12 = .ok (.aload_n 0, 1) := by decide +kernel
theorem dX5_findings_13 : decode cX5_findings 13 = .ok (.getfield 7, 3) := by decide +kernel
theorem dX5_findings_16 : decode cX5_findings 16 = .ok (.iload_n 1, 1) := by decide +kernel
theorem dX5_findings_17 : decode cX5_findings 17 = .ok (.iaload, 1) := by decide +kernel
theorem dX5_findings_18 : decode cX5_findings 18 = .ok (.goto 4, 3) := by decide +kernel
theorem dX5_findings_21 : decode cX5_findings 21 = .ok (.iconst (-1), 1) := by decide +kernel
theorem dX5_findings_22 : decode cX5_findings 22 = .ok (.ireturn, 1) := by decide +kernel
theorem dX5_share_0 : decode cX5_share 0 = .ok (.iload_n 1, 1) := by decide +kernel
theorem dX5_share_1 : decode cX5_share 1 = .ok (.i2l, 1) := by decide +kernel
theorem dX5_share_2 : decode cX5_share 2 = .ok (.lconst 1, 1) := by decide +kernel
theorem dX5_share_3 : decode cX5_share 3 = .ok (.ldc2_w 85, 3) := by decide +kernel
theorem dX5_share_6 : decode cX5_share 6 = .ok (.invokestatic 81, 3) := by decide +kernel
theorem dX5_share_9 : decode cX5_share 9 = .ok (.ifCond .eq 22, 3) := by decide +kernel
theorem dX5_share_12 : decode cX5_share 12 = .ok (.iload_n 2, 1) := by decide +kernel
theorem dX5_share_13 : decode cX5_share 13 = .ok (.i2l, 1) := by decide +kernel
theorem dX5_share_14 : decode cX5_share 14 = .ok (.ldc2_w 87, 3) := by decide +kernel
theorem dX5_share_17 : decode cX5_share 17 = .ok (.ldc2_w 89, 3) := by decide +kernel
theorem dX5_share_20 : decode cX5_share 20 = .ok (.invokestatic 81, 3) := by decide +kernel
theorem dX5_share_23 : decode cX5_share 23 = .ok (.ifCond .eq 8, 3) := by decide +kernel
theorem dX5_share_26 : decode cX5_share 26 = .ok (.iload_n 1, 1) := by decide +kernel
theorem dX5_share_27 : decode cX5_share 27 = .ok (.iload_n 2, 1) := by decide +kernel
theorem dX5_share_28 : decode cX5_share 28 = .ok (.if_icmp .lt 5, 3) := by decide +kernel
theorem dX5_share_31 : decode cX5_share 31 = .ok (.iconst (-1), 1) := by decide +kernel
theorem dX5_share_32 : decode cX5_share 32 = .ok (.ireturn, 1) := by decide +kernel
theorem dX5_share_33 : decode cX5_share 33 = .ok (.aload_n 0, 1) := by decide +kernel
theorem dX5_share_34 : decode cX5_share 34 = .ok (.iload_n 1, 1) := by decide +kernel
theorem dX5_share_35 : decode cX5_share 35 = .ok (.putfield 62, 3) := by decide +kernel
theorem dX5_share_38 : decode cX5_share 38 = .ok (.aload_n 0, 1) := by decide +kernel
theorem dX5_share_39 : decode cX5_share 39 = .ok (.iload_n 2, 1) := by decide +kernel
theorem dX5_share_40 : decode cX5_share 40 = .ok (.putfield 66, 3) := by decide +kernel
theorem dX5_share_43 : decode cX5_share 43 = .ok (.iconst 1, 1) := by decide +kernel
theorem dX5_share_44 : decode cX5_share 44 = .ok (.ireturn, 1) := by decide +kernel
theorem dX5_isSheet_0 : decode cX5_isSheet 0 = .ok (.iload_n 1, 1) := by decide +kernel
theorem dX5_isSheet_1 : decode cX5_isSheet 1 = .ok (.i2l, 1) := by decide +kernel
theorem dX5_isSheet_2 : decode cX5_isSheet 2 = .ok (.lconst 0, 1) := by decide +kernel
theorem dX5_isSheet_3 : decode cX5_isSheet 3 = .ok (.aload_n 0, 1) := by decide +kernel
theorem dX5_isSheet_4 : decode cX5_isSheet 4 = .ok (.getfield 91, 3) := by decide +kernel
theorem dX5_isSheet_7 : decode cX5_isSheet 7 = .ok (.iconst 1, 1) := by decide +kernel
theorem dX5_isSheet_8 : decode cX5_isSheet 8 = .ok (.isub, 1) := by decide +kernel
theorem dX5_isSheet_9 : decode cX5_isSheet 9 = .ok (.i2l, 1) := by decide +kernel
theorem dX5_isSheet_10 : decode cX5_isSheet 10 = .ok (.invokestatic 81, 3) := by decide +kernel
theorem dX5_isSheet_13 : decode cX5_isSheet 13 = .ok (.ireturn, 1) := by decide +kernel
theorem dX5_sheet_0 : decode cX5_sheet 0 = .ok (.iload_n 1, 1) := by decide +kernel
theorem dX5_sheet_1 : decode cX5_sheet 1 = .ok (.i2l, 1) := by decide +kernel
theorem dX5_sheet_2 : decode cX5_sheet 2 = .ok (.lconst 0, 1) := by decide +kernel
theorem dX5_sheet_3 : decode cX5_sheet 3 = .ok (.ldc2_w 94, 3) := by decide +kernel
theorem dX5_sheet_6 : decode cX5_sheet 6 = .ok (.invokestatic 81, 3) := by decide +kernel
theorem dX5_sheet_9 : decode cX5_sheet 9 = .ok (.ifCond .eq 9, 3) := by decide +kernel
theorem dX5_sheet_12 : decode cX5_sheet 12 = .ok (.iload_n 2, 1) := by decide +kernel
theorem dX5_sheet_13 : decode cX5_sheet 13 = .ok (.bipush 24, 2) := by decide +kernel
theorem dX5_sheet_15 : decode cX5_sheet 15 = .ok (.if_icmp .le 5, 3) := by decide +kernel
theorem dX5_sheet_18 : decode cX5_sheet 18 = .ok (.iconst (-1), 1) := by decide +kernel
theorem dX5_sheet_19 : decode cX5_sheet 19 = .ok (.ireturn, 1) := by decide +kernel
theorem dX5_sheet_20 : decode cX5_sheet 20 = .ok (.aload_n 0, 1) := by decide +kernel
theorem dX5_sheet_21 : decode cX5_sheet 21 = .ok (.getfield 91, 3) := by decide +kernel
theorem dX5_sheet_24 : decode cX5_sheet 24 = .ok (.bipush 12, 2) := by decide +kernel
theorem dX5_sheet_26 : decode cX5_sheet 26 = .ok (.if_icmp .ne 6, 3) := by decide +kernel
theorem dX5_sheet_29 : decode cX5_sheet 29 = .ok (.bipush (-2), 2) := by decide +kernel
theorem dX5_sheet_31 : decode cX5_sheet 31 = .ok (.ireturn, 1) := by decide +kernel
theorem dX5_sheet_32 : decode cX5_sheet 32 = .ok (.iload_n 2, 1) := by decide +kernel
theorem dX5_sheet_33 : decode cX5_sheet 33 = .ok (.ifCond .ge 9, 3) := by decide +kernel
theorem dX5_sheet_36 : decode cX5_sheet 36 = .ok (.aload_n 0, 1) := by decide +kernel
theorem dX5_sheet_37 : decode cX5_sheet 37 = .ok (.iconst 5, 1) := by decide +kernel
theorem dX5_sheet_38 : decode cX5_sheet 38 = .ok (.invokevirtual 96, 3) := by decide +kernel
theorem dX5_sheet_41 : decode cX5_sheet 41 = .ok (.ireturn, 1) := by decide +kernel
theorem dX5_sheet_42 : decode cX5_sheet 42 = .ok (.aload_n 0, 1) := by decide +kernel
theorem dX5_sheet_43 : decode cX5_sheet 43 = .ok (.getfield 13, 3) := by decide +kernel
theorem dX5_sheet_46 : decode cX5_sheet 46 = .ok (.aload_n 0, 1) := by decide +kernel
theorem dX5_sheet_47 : decode cX5_sheet 47 = .ok (.getfield 91, 3) := by decide +kernel
theorem dX5_sheet_50 : decode cX5_sheet 50 = .ok (.iload_n 1, 1) := by decide +kernel
theorem dX5_sheet_51 : decode cX5_sheet 51 = .ok (.iastore, 1) := by decide +kernel
theorem dX5_sheet_52 : decode cX5_sheet 52 = .ok (.aload_n 0, 1) := by decide +kernel
theorem dX5_sheet_53 : decode cX5_sheet 53 = .ok (.getfield 16, 3) := by decide +kernel
theorem dX5_sheet_56 : decode cX5_sheet 56 = .ok (.aload_n 0, 1) := by decide +kernel
theorem dX5_sheet_57 : decode cX5_sheet 57 = .ok (.getfield 91, 3) := by decide +kernel
theorem dX5_sheet_60 : decode cX5_sheet 60 = .ok (.iload_n 2, 1) := by decide +kernel
theorem dX5_sheet_61 : decode cX5_sheet 61 = .ok (.iastore, 1) := by decide +kernel
theorem dX5_sheet_62 : decode cX5_sheet 62 = .ok (.iconst 0, 1) := by decide +kernel
theorem dX5_sheet_63 : decode cX5_sheet 63 = .ok (.istore_n 3, 1) := by decide +kernel
theorem dX5_sheet_64 : decode cX5_sheet 64 = .ok (.iload_n 3, 1) := by decide +kernel
theorem dX5_sheet_65 : decode cX5_sheet 65 = .ok (.bipush 24, 2) := by decide +kernel
theorem dX5_sheet_67 : decode cX5_sheet 67 = .ok (.if_icmp .ge 24, 3) := by decide +kernel
theorem dX5_sheet_70 : decode cX5_sheet 70 = .ok (.aload_n 0, 1) := by decide +kernel
theorem dX5_sheet_71 : decode cX5_sheet 71 = .ok (.getfield 19, 3) := by decide +kernel
theorem dX5_sheet_74 : decode cX5_sheet 74 = .ok (.bipush 24, 2) := by decide +kernel
theorem dX5_sheet_76 : decode cX5_sheet 76 = .ok (.aload_n 0, 1) := by decide +kernel
theorem dX5_sheet_77 : decode cX5_sheet 77 = .ok (.getfield 91, 3) := by decide +kernel
theorem dX5_sheet_80 : decode cX5_sheet 80 = .ok (.imul, 1) := by decide +kernel
theorem dX5_sheet_81 : decode cX5_sheet 81 = .ok (.iload_n 3, 1) := by decide +kernel
theorem dX5_sheet_82 : decode cX5_sheet 82 = .ok (.iadd, 1) := by decide +kernel
theorem dX5_sheet_83 : decode cX5_sheet 83 = .ok (.lconst 0, 1) := by decide +kernel
theorem dX5_sheet_84 : decode cX5_sheet 84 = .ok (.lastore, 1) := by decide +kernel
theorem dX5_sheet_85 : decode cX5_sheet 85 = .ok (.iinc 3 1, 3) := by decide +kernel
theorem dX5_sheet_88 : decode cX5_sheet 88 = .ok (.goto (-24), 3) := by decide +kernel
theorem dX5_sheet_91 : decode cX5_sheet 91 = .ok (.aload_n 0, 1) := by decide +kernel
theorem dX5_sheet_92 : decode cX5_sheet 92 = .ok (.dup, 1) := by decide +kernel
theorem dX5_sheet_93 : decode cX5_sheet 93 = .ok (.getfield 91, 3) := by decide +kernel
theorem dX5_sheet_96 : decode cX5_sheet 96 = .ok (.iconst 1, 1) := by decide +kernel
theorem dX5_sheet_97 : decode cX5_sheet 97 = .ok (.iadd, 1) := by decide +kernel
theorem dX5_sheet_98 : decode cX5_sheet 98 = .ok (.putfield 91, 3) := by decide +kernel
theorem dX5_sheet_101 : decode cX5_sheet 101 = .ok (.aload_n 0, 1) := by decide +kernel
theorem dX5_sheet_102 : decode cX5_sheet 102 = .ok (.getfield 91, 3) := by decide +kernel
theorem dX5_sheet_105 : decode cX5_sheet 105 = .ok (.iconst 1, 1) := by decide +kernel
theorem dX5_sheet_106 : decode cX5_sheet 106 = .ok (.isub, 1) := by decide +kernel
theorem dX5_sheet_107 : decode cX5_sheet 107 = .ok (.ireturn, 1) := by decide +kernel
theorem dX5_tear_0 : decode cX5_tear 0 = .ok (.aload_n 0, 1) := by decide +kernel
theorem dX5_tear_1 : decode cX5_tear 1 = .ok (.iload_n 1, 1) := by decide +kernel
theorem dX5_tear_2 : decode cX5_tear 2 = .ok (.invokevirtual 100, 3) := by decide +kernel
theorem dX5_tear_5 : decode cX5_tear 5 = .ok (.ifCond .ne 5, 3) := by decide +kernel
theorem dX5_tear_8 : decode cX5_tear 8 = .ok (.iconst (-1), 1) := by decide +kernel
theorem dX5_tear_9 : decode cX5_tear 9 = .ok (.ireturn, 1) := by decide +kernel
theorem dX5_tear_10 : decode cX5_tear 10 = .ok (.aload_n 0, 1) := by decide +kernel
theorem dX5_tear_11 : decode cX5_tear 11 = .ok (.getfield 16, 3) := by decide +kernel
theorem dX5_tear_14 : decode cX5_tear 14 = .ok (.iload_n 1, 1) := by decide +kernel
theorem dX5_tear_15 : decode cX5_tear 15 = .ok (.iaload, 1) := by decide +kernel
theorem dX5_tear_16 : decode cX5_tear 16 = .ok (.ifCond .ge 9, 3) := by decide +kernel
theorem dX5_tear_19 : decode cX5_tear 19 = .ok (.aload_n 0, 1) := by decide +kernel
theorem dX5_tear_20 : decode cX5_tear 20 = .ok (.iconst 1, 1) := by decide +kernel
theorem dX5_tear_21 : decode cX5_tear 21 = .ok (.invokevirtual 96, 3) := by decide +kernel
theorem dX5_tear_24 : decode cX5_tear 24 = .ok (.ireturn, 1) := by decide +kernel
theorem dX5_tear_25 : decode cX5_tear 25 = .ok (.aload_n 0, 1) := by decide +kernel
theorem dX5_tear_26 : decode cX5_tear 26 = .ok (.getfield 16, 3) := by decide +kernel
theorem dX5_tear_29 : decode cX5_tear 29 = .ok (.iload_n 1, 1) := by decide +kernel
theorem dX5_tear_30 : decode cX5_tear 30 = .ok (.iconst (-1), 1) := by decide +kernel
theorem dX5_tear_31 : decode cX5_tear 31 = .ok (.iastore, 1) := by decide +kernel
theorem dX5_tear_32 : decode cX5_tear 32 = .ok (.iconst 1, 1) := by decide +kernel
theorem dX5_tear_33 : decode cX5_tear 33 = .ok (.ireturn, 1) := by decide +kernel
theorem dX5_lacks_0 : decode cX5_lacks 0 = .ok (.aload_n 0, 1) := by decide +kernel
theorem dX5_lacks_1 : decode cX5_lacks 1 = .ok (.getfield 16, 3) := by decide +kernel
theorem dX5_lacks_4 : decode cX5_lacks 4 = .ok (.iload_n 1, 1) := by decide +kernel
theorem dX5_lacks_5 : decode cX5_lacks 5 = .ok (.iaload, 1) := by decide +kernel
theorem dX5_lacks_6 : decode cX5_lacks 6 = .ok (.ifCond .ge 7, 3) := by decide +kernel
theorem dX5_lacks_9 : decode cX5_lacks 9 = .ok (.iconst 1, 1) := by decide +kernel
theorem dX5_lacks_10 : decode cX5_lacks 10 = .ok (.goto 26, 3) := by decide +kernel
theorem dX5_lacks_13 : decode cX5_lacks 13 = .ok (.iload_n 2, 1) := by decide +kernel
theorem dX5_lacks_14 : decode cX5_lacks 14 = .ok (.i2l, 1) := by decide +kernel
theorem dX5_lacks_15 : decode cX5_lacks 15 = .ok (.lconst 0, 1) := by decide +kernel
theorem dX5_lacks_16 : decode cX5_lacks 16 = .ok (.aload_n 0, 1) := by decide +kernel
theorem dX5_lacks_17 : decode cX5_lacks 17 = .ok (.getfield 16, 3) := by decide +kernel
theorem dX5_lacks_20 : decode cX5_lacks 20 = .ok (.iload_n 1, 1) := by decide +kernel
theorem dX5_lacks_21 : decode cX5_lacks 21 = .ok (.iaload, 1) := by decide +kernel
theorem dX5_lacks_22 : decode cX5_lacks 22 = .ok (.iconst 1, 1) := by decide +kernel
theorem dX5_lacks_23 : decode cX5_lacks 23 = .ok (.isub, 1) := by decide +kernel
theorem dX5_lacks_24 : decode cX5_lacks 24 = .ok (.i2l, 1) := by decide +kernel
theorem dX5_lacks_25 : decode cX5_lacks 25 = .ok (.invokestatic 81, 3) := by decide +kernel
theorem dX5_lacks_28 : decode cX5_lacks 28 = .ok (.ifCond .eq 7, 3) := by decide +kernel
theorem dX5_lacks_31 : decode cX5_lacks 31 = .ok (.iconst 0, 1) := by decide +kernel
theorem dX5_lacks_32 : decode cX5_lacks 32 = .ok (.goto 4, 3) := by decide +kernel
theorem dX5_lacks_35 : decode cX5_lacks 35 = .ok (.iconst 2, 1) := by decide +kernel
theorem dX5_lacks_36 : decode cX5_lacks 36 = .ok (.ireturn, 1) := by decide +kernel
theorem dX5_lay_0 : decode cX5_lay 0 = .ok (.aload_n 0, 1) := by decide +kernel
theorem dX5_lay_1 : decode cX5_lay 1 = .ok (.iload_n 1, 1) := by decide +kernel
theorem dX5_lay_2 : decode cX5_lay 2 = .ok (.invokevirtual 100, 3) := by decide +kernel
theorem dX5_lay_5 : decode cX5_lay 5 = .ok (.ifCond .ne 5, 3) := by decide +kernel
theorem dX5_lay_8 : decode cX5_lay 8 = .ok (.iconst (-1), 1) := by decide +kernel
theorem dX5_lay_9 : decode cX5_lay 9 = .ok (.ireturn, 1) := by decide +kernel
theorem dX5_lay_10 : decode cX5_lay 10 = .ok (.aload_n 0, 1) := by decide +kernel
theorem dX5_lay_11 : decode cX5_lay 11 = .ok (.iload_n 1, 1) := by decide +kernel
theorem dX5_lay_12 : decode cX5_lay 12 = .ok (.iload_n 2, 1) := by decide +kernel
theorem dX5_lay_13 : decode cX5_lay 13 = .ok (.invokevirtual 104, 3) := by decide +kernel
theorem dX5_lay_16 : decode cX5_lay 16 = .ok (.istore 5, 2) := by decide +kernel
theorem dX5_lay_18 : decode cX5_lay 18 = .ok (.iload 5, 2) := by decide +kernel
theorem dX5_lay_20 : decode cX5_lay 20 = .ok (.ifCond .le 10, 3) := by decide +kernel
theorem dX5_lay_23 : decode cX5_lay 23 = .ok (.aload_n 0, 1) := by decide +kernel
theorem dX5_lay_24 : decode cX5_lay 24 = .ok (.iload 5, 2) := by decide +kernel
theorem dX5_lay_26 : decode cX5_lay 26 = .ok (.invokevirtual 96, 3) := by decide +kernel
theorem dX5_lay_29 : decode cX5_lay 29 = .ok (.ireturn, 1) := by decide +kernel
theorem dX5_lay_30 : decode cX5_lay 30 = .ok (.aload_n 0, 1) := by decide +kernel
theorem dX5_lay_31 : decode cX5_lay 31 = .ok (.getfield 13, 3) := by decide +kernel
theorem dX5_lay_34 : decode cX5_lay 34 = .ok (.iload_n 1, 1) := by decide +kernel
theorem dX5_lay_35 : decode cX5_lay 35 = .ok (.iaload, 1) := by decide +kernel
theorem dX5_lay_36 : decode cX5_lay 36 = .ok (.istore 6, 2) := by decide +kernel
theorem dX5_lay_38 : decode cX5_lay 38 = .ok (.aload_n 0, 1) := by decide +kernel
theorem dX5_lay_39 : decode cX5_lay 39 = .ok (.getfield 19, 3) := by decide +kernel
theorem dX5_lay_42 : decode cX5_lay 42 = .ok (.bipush 24, 2) := by decide +kernel
theorem dX5_lay_44 : decode cX5_lay 44 = .ok (.iload_n 1, 1) := by decide +kernel
theorem dX5_lay_45 : decode cX5_lay 45 = .ok (.imul, 1) := by decide +kernel
theorem dX5_lay_46 : decode cX5_lay 46 = .ok (.iload_n 2, 1) := by decide +kernel
theorem dX5_lay_47 : decode cX5_lay 47 = .ok (.iadd, 1) := by decide +kernel
theorem dX5_lay_48 : decode cX5_lay 48 = .ok (.iload 6, 2) := by decide +kernel
theorem dX5_lay_50 : decode cX5_lay 50 = .ok (.ifCond .ne 10, 3) := by decide +kernel
theorem dX5_lay_53 : decode cX5_lay 53 = .ok (.lload_n 3, 1) := by decide +kernel
theorem dX5_lay_54 : decode cX5_lay 54 = .ok (.l2i, 1) := by decide +kernel
theorem dX5_lay_55 : decode cX5_lay 55 = .ok (.i2b, 1) := by decide +kernel
theorem dX5_lay_56 : decode cX5_lay 56 = .ok (.i2l, 1) := by decide +kernel
theorem dX5_lay_57 : decode cX5_lay 57 = .ok (.goto 29, 3) := by decide +kernel
theorem dX5_lay_60 : decode cX5_lay 60 = .ok (.iload 6, 2) := by decide +kernel
theorem dX5_lay_62 : decode cX5_lay 62 = .ok (.iconst 1, 1) := by decide +kernel
theorem dX5_lay_63 : decode cX5_lay 63 = .ok (.if_icmp .ne 10, 3) := by decide +kernel
theorem dX5_lay_66 : decode cX5_lay 66 = .ok (.lload_n 3, 1) := by decide +kernel
theorem dX5_lay_67 : decode cX5_lay 67 = .ok (.l2i, 1) := by decide +kernel
theorem dX5_lay_68 : decode cX5_lay 68 = .ok (.i2s, 1) := by decide +kernel
theorem dX5_lay_69 : decode cX5_lay 69 = .ok (.i2l, 1) := by decide +kernel
theorem dX5_lay_70 : decode cX5_lay 70 = .ok (.goto 16, 3) := by decide +kernel
theorem dX5_lay_73 : decode cX5_lay 73 = .ok (.iload 6, 2) := by decide +kernel
theorem dX5_lay_75 : decode cX5_lay 75 = .ok (.iconst 2, 1) := by decide +kernel
theorem dX5_lay_76 : decode cX5_lay 76 = .ok (.if_icmp .ne 9, 3) := by decide +kernel
theorem dX5_lay_79 : decode cX5_lay 79 = .ok (.lload_n 3, 1) := by decide +kernel
theorem dX5_lay_80 : decode cX5_lay 80 = .ok (.l2i, 1) := by decide +kernel
theorem dX5_lay_81 : decode cX5_lay 81 = .ok (.i2l, 1) := by decide +kernel
theorem dX5_lay_82 : decode cX5_lay 82 = .ok (.goto 4, 3) := by decide +kernel
theorem dX5_lay_85 : decode cX5_lay 85 = .ok (.lload_n 3, 1) := by decide +kernel
theorem dX5_lay_86 : decode cX5_lay 86 = .ok (.lastore, 1) := by decide +kernel
theorem dX5_lay_87 : decode cX5_lay 87 = .ok (.iconst 1, 1) := by decide +kernel
theorem dX5_lay_88 : decode cX5_lay 88 = .ok (.ireturn, 1) := by decide +kernel
theorem dX5_get_0 : decode cX5_get 0 = .ok (.aload_n 0, 1) := by decide +kernel
theorem dX5_get_1 : decode cX5_get 1 = .ok (.iload_n 1, 1) := by decide +kernel
theorem dX5_get_2 : decode cX5_get 2 = .ok (.invokevirtual 100, 3) := by decide +kernel
theorem dX5_get_5 : decode cX5_get 5 = .ok (.ifCond .ne 5, 3) := by decide +kernel
theorem dX5_get_8 : decode cX5_get 8 = .ok (.iconst (-1), 1) := by decide +kernel
theorem dX5_get_9 : decode cX5_get 9 = .ok (.ireturn, 1) := by decide +kernel
theorem dX5_get_10 : decode cX5_get 10 = .ok (.aload_n 0, 1) := by decide +kernel
theorem dX5_get_11 : decode cX5_get 11 = .ok (.iload_n 1, 1) := by decide +kernel
theorem dX5_get_12 : decode cX5_get 12 = .ok (.iload_n 2, 1) := by decide +kernel
theorem dX5_get_13 : decode cX5_get 13 = .ok (.invokevirtual 104, 3) := by decide +kernel
theorem dX5_get_16 : decode cX5_get 16 = .ok (.istore_n 3, 1) := by decide +kernel
theorem dX5_get_17 : decode cX5_get 17 = .ok (.iload_n 3, 1) := by decide +kernel
theorem dX5_get_18 : decode cX5_get 18 = .ok (.ifCond .le 9, 3) := by decide +kernel
theorem dX5_get_21 : decode cX5_get 21 = .ok (.aload_n 0, 1) := by decide +kernel
theorem dX5_get_22 : decode cX5_get 22 = .ok (.iload_n 3, 1) := by decide +kernel
theorem dX5_get_23 : decode cX5_get 23 = .ok (.invokevirtual 96, 3) := by decide +kernel
theorem dX5_get_26 : decode cX5_get 26 = .ok (.ireturn, 1) := by decide +kernel
theorem dX5_get_27 : decode cX5_get 27 = .ok (.aload_n 0, 1) := by decide +kernel
theorem dX5_get_28 : decode cX5_get 28 = .ok (.aload_n 0, 1) := by decide +kernel
theorem dX5_get_29 : decode cX5_get 29 = .ok (.getfield 19, 3) := by decide +kernel
theorem dX5_get_32 : decode cX5_get 32 = .ok (.bipush 24, 2) := by decide +kernel
theorem dX5_get_34 : decode cX5_get 34 = .ok (.iload_n 1, 1) := by decide +kernel
theorem dX5_get_35 : decode cX5_get 35 = .ok (.imul, 1) := by decide +kernel
theorem dX5_get_36 : decode cX5_get 36 = .ok (.iload_n 2, 1) := by decide +kernel
theorem dX5_get_37 : decode cX5_get 37 = .ok (.iadd, 1) := by decide +kernel
theorem dX5_get_38 : decode cX5_get 38 = .ok (.laload, 1) := by decide +kernel
theorem dX5_get_39 : decode cX5_get 39 = .ok (.putfield 108, 3) := by decide +kernel
theorem dX5_get_42 : decode cX5_get 42 = .ok (.iconst 1, 1) := by decide +kernel
theorem dX5_get_43 : decode cX5_get 43 = .ok (.ireturn, 1) := by decide +kernel
theorem dX5_copy_0 : decode cX5_copy 0 = .ok (.aload_n 0, 1) := by decide +kernel
theorem dX5_copy_1 : decode cX5_copy 1 = .ok (.iload_n 1, 1) := by decide +kernel
theorem dX5_copy_2 : decode cX5_copy 2 = .ok (.invokevirtual 100, 3) := by decide +kernel
theorem dX5_copy_5 : decode cX5_copy 5 = .ok (.ifCond .eq 11, 3) := by decide +kernel
theorem dX5_copy_8 : decode cX5_copy 8 = .ok (.aload_n 0, 1) := by decide +kernel
theorem dX5_copy_9 : decode cX5_copy 9 = .ok (.iload_n 3, 1) := by decide +kernel
theorem dX5_copy_10 : decode cX5_copy 10 = .ok (.invokevirtual 100, 3) := by decide +kernel
theorem dX5_copy_13 : decode cX5_copy 13 = .ok (.ifCond .ne 5, 3) := by decide +kernel
theorem dX5_copy_16 : decode cX5_copy 16 = .ok (.iconst (-1), 1) := by decide +kernel
theorem dX5_copy_17 : decode cX5_copy 17 = .ok (.ireturn, 1) := by decide +kernel
theorem dX5_copy_18 : decode cX5_copy 18 = .ok (.aload_n 0, 1) := by decide +kernel
theorem dX5_copy_19 : decode cX5_copy 19 = .ok (.getfield 16, 3) := by decide +kernel
theorem dX5_copy_22 : decode cX5_copy 22 = .ok (.iload_n 1, 1) := by decide +kernel
theorem dX5_copy_23 : decode cX5_copy 23 = .ok (.iaload, 1) := by decide +kernel
theorem dX5_copy_24 : decode cX5_copy 24 = .ok (.ifCond .lt 12, 3) := by decide +kernel
theorem dX5_copy_27 : decode cX5_copy 27 = .ok (.aload_n 0, 1) := by decide +kernel
theorem dX5_copy_28 : decode cX5_copy 28 = .ok (.getfield 16, 3) := by decide +kernel
theorem dX5_copy_31 : decode cX5_copy 31 = .ok (.iload_n 3, 1) := by decide +kernel
theorem dX5_copy_32 : decode cX5_copy 32 = .ok (.iaload, 1) := by decide +kernel
theorem dX5_copy_33 : decode cX5_copy 33 = .ok (.ifCond .ge 9, 3) := by decide +kernel
theorem dX5_copy_36 : decode cX5_copy 36 = .ok (.aload_n 0, 1) := by decide +kernel
theorem dX5_copy_37 : decode cX5_copy 37 = .ok (.iconst 1, 1) := by decide +kernel
theorem dX5_copy_38 : decode cX5_copy 38 = .ok (.invokevirtual 96, 3) := by decide +kernel
theorem dX5_copy_41 : decode cX5_copy 41 = .ok (.ireturn, 1) := by decide +kernel
theorem dX5_copy_42 : decode cX5_copy 42 = .ok (.aload_n 0, 1) := by decide +kernel
theorem dX5_copy_43 : decode cX5_copy 43 = .ok (.getfield 13, 3) := by decide +kernel
theorem dX5_copy_46 : decode cX5_copy 46 = .ok (.iload_n 1, 1) := by decide +kernel
theorem dX5_copy_47 : decode cX5_copy 47 = .ok (.iaload, 1) := by decide +kernel
theorem dX5_copy_48 : decode cX5_copy 48 = .ok (.aload_n 0, 1) := by decide +kernel
theorem dX5_copy_49 : decode cX5_copy 49 = .ok (.getfield 13, 3) := by decide +kernel
theorem dX5_copy_52 : decode cX5_copy 52 = .ok (.iload_n 3, 1) := by decide +kernel
theorem dX5_copy_53 : decode cX5_copy 53 = .ok (.iaload, 1) := by decide +kernel
theorem dX5_copy_54 : decode cX5_copy 54 = .ok (.if_icmp .eq 9, 3) := by decide +kernel
theorem dX5_copy_57 : decode cX5_copy 57 = .ok (.aload_n 0, 1) := by decide +kernel
theorem dX5_copy_58 : decode cX5_copy 58 = .ok (.iconst 3, 1) := by decide +kernel
theorem dX5_copy_59 : decode cX5_copy 59 = .ok (.invokevirtual 96, 3) := by decide +kernel
theorem dX5_copy_62 : decode cX5_copy 62 = .ok (.ireturn, 1) := by decide +kernel
theorem dX5_copy_63 : decode cX5_copy 63 = .ok (.iload_n 2, 1) := by decide +kernel
theorem dX5_copy_64 : decode cX5_copy 64 = .ok (.ifCond .lt 48, 3) := by decide +kernel
theorem dX5_copy_67 : decode cX5_copy 67 = .ok (.iload 4, 2) := by decide +kernel
theorem dX5_copy_69 : decode cX5_copy 69 = .ok (.ifCond .lt 43, 3) := by decide +kernel
theorem dX5_copy_72 : decode cX5_copy 72 = .ok (.iload 5, 2) := by decide +kernel
theorem dX5_copy_74 : decode cX5_copy 74 = .ok (.ifCond .lt 38, 3) := by decide +kernel
theorem dX5_copy_77 : decode cX5_copy 77 = .ok (.iload_n 2, 1) := by decide +kernel
theorem dX5_copy_78 : decode cX5_copy 78 = .ok (.i2l, 1) := by decide +kernel
theorem dX5_copy_79 : decode cX5_copy 79 = .ok (.iload 5, 2) := by decide +kernel
theorem dX5_copy_81 : decode cX5_copy 81 = .ok (.i2l, 1) := by decide +kernel
theorem dX5_copy_82 : decode cX5_copy 82 = .ok (.ladd, 1) := by decide +kernel
theorem dX5_copy_83 : decode cX5_copy 83 = .ok (.aload_n 0, 1) := by decide +kernel
theorem dX5_copy_84 : decode cX5_copy 84 = .ok (.getfield 16, 3) := by decide +kernel
theorem dX5_copy_87 : decode cX5_copy 87 = .ok (.iload_n 1, 1) := by decide +kernel
theorem dX5_copy_88 : decode cX5_copy 88 = .ok (.iaload, 1) := by decide +kernel
theorem dX5_copy_89 : decode cX5_copy 89 = .ok (.i2l, 1) := by decide +kernel
theorem dX5_copy_90 : decode cX5_copy 90 = .ok (.lcmp, 1) := by decide +kernel
theorem dX5_copy_91 : decode cX5_copy 91 = .ok (.ifCond .gt 21, 3) := by decide +kernel
theorem dX5_copy_94 : decode cX5_copy 94 = .ok (.iload 4, 2) := by decide +kernel
theorem dX5_copy_96 : decode cX5_copy 96 = .ok (.i2l, 1) := by decide +kernel
theorem dX5_copy_97 : decode cX5_copy 97 = .ok (.iload 5, 2) := by decide +kernel
theorem dX5_copy_99 : decode cX5_copy 99 = .ok (.i2l, 1) := by decide +kernel
theorem dX5_copy_100 : decode cX5_copy 100 = .ok (.ladd, 1) := by decide +kernel
theorem dX5_copy_101 : decode cX5_copy 101 = .ok (.aload_n 0, 1) := by decide +kernel
theorem dX5_copy_102 : decode cX5_copy 102 = .ok (.getfield 16, 3) := by decide +kernel
theorem dX5_copy_105 : decode cX5_copy 105 = .ok (.iload_n 3, 1) := by decide +kernel
theorem dX5_copy_106 : decode cX5_copy 106 = .ok (.iaload, 1) := by decide +kernel
theorem dX5_copy_107 : decode cX5_copy 107 = .ok (.i2l, 1) := by decide +kernel
theorem dX5_copy_108 : decode cX5_copy 108 = .ok (.lcmp, 1) := by decide +kernel
theorem dX5_copy_109 : decode cX5_copy 109 = .ok (.ifCond .le 9, 3) := by decide +kernel
theorem dX5_copy_112 : decode cX5_copy 112 = .ok (.aload_n 0, 1) := by decide +kernel
theorem dX5_copy_113 : decode cX5_copy 113 = .ok (.iconst 2, 1) := by decide +kernel
theorem dX5_copy_114 : decode cX5_copy 114 = .ok (.invokevirtual 96, 3) := by decide +kernel
theorem dX5_copy_117 : decode cX5_copy 117 = .ok (.ireturn, 1) := by decide +kernel
theorem dX5_copy_118 : decode cX5_copy 118 = .ok (.iconst 0, 1) := by decide +kernel
theorem dX5_copy_119 : decode cX5_copy 119 = .ok (.istore 6, 2) := by decide +kernel
theorem dX5_copy_121 : decode cX5_copy 121 = .ok (.iload 6, 2) := by decide +kernel
theorem dX5_copy_123 : decode cX5_copy 123 = .ok (.iload 5, 2) := by decide +kernel
theorem dX5_copy_125 : decode cX5_copy 125 = .ok (.if_icmp .ge 30, 3) := by decide +kernel
theorem dX5_copy_128 : decode cX5_copy 128 = .ok (.aload_n 0, 1) := by decide +kernel
theorem dX5_copy_129 : decode cX5_copy 129 = .ok (.getfield 23, 3) := by decide +kernel
theorem dX5_copy_132 : decode cX5_copy 132 = .ok (.iload 6, 2) := by decide +kernel
theorem dX5_copy_134 : decode cX5_copy 134 = .ok (.aload_n 0, 1) := by decide +kernel
theorem dX5_copy_135 : decode cX5_copy 135 = .ok (.getfield 19, 3) := by decide +kernel
theorem dX5_copy_138 : decode cX5_copy 138 = .ok (.bipush 24, 2) := by decide +kernel
theorem dX5_copy_140 : decode cX5_copy 140 = .ok (.iload_n 1, 1) := by decide +kernel
theorem dX5_copy_141 : decode cX5_copy 141 = .ok (.imul, 1) := by decide +kernel
theorem dX5_copy_142 : decode cX5_copy 142 = .ok (.iload_n 2, 1) := by decide +kernel
theorem dX5_copy_143 : decode cX5_copy 143 = .ok (.iadd, 1) := by decide +kernel
theorem dX5_copy_144 : decode cX5_copy 144 = .ok (.iload 6, 2) := by decide +kernel
theorem dX5_copy_146 : decode cX5_copy 146 = .ok (.iadd, 1) := by decide +kernel
theorem dX5_copy_147 : decode cX5_copy 147 = .ok (.laload, 1) := by decide +kernel
theorem dX5_copy_148 : decode cX5_copy 148 = .ok (.lastore, 1) := by decide +kernel
theorem dX5_copy_149 : decode cX5_copy 149 = .ok (.iinc 6 1, 3) := by decide +kernel
theorem dX5_copy_152 : decode cX5_copy 152 = .ok (.goto (-31), 3) := by decide +kernel
theorem dX5_copy_155 : decode cX5_copy 155 = .ok (.iconst 0, 1) := by decide +kernel
theorem dX5_copy_156 : decode cX5_copy 156 = .ok (.istore 6, 2) := by decide +kernel
theorem dX5_copy_158 : decode cX5_copy 158 = .ok (.iload 6, 2) := by decide +kernel
theorem dX5_copy_160 : decode cX5_copy 160 = .ok (.iload 5, 2) := by decide +kernel
theorem dX5_copy_162 : decode cX5_copy 162 = .ok (.if_icmp .ge 31, 3) := by decide +kernel
theorem dX5_copy_165 : decode cX5_copy 165 = .ok (.aload_n 0, 1) := by decide +kernel
theorem dX5_copy_166 : decode cX5_copy 166 = .ok (.getfield 19, 3) := by decide +kernel
theorem dX5_copy_169 : decode cX5_copy 169 = .ok (.bipush 24, 2) := by decide +kernel
theorem dX5_copy_171 : decode cX5_copy 171 = .ok (.iload_n 3, 1) := by decide +kernel
theorem dX5_copy_172 : decode cX5_copy 172 = .ok (.imul, 1) := by decide +kernel
theorem dX5_copy_173 : decode cX5_copy 173 = .ok (.iload 4, 2) := by decide +kernel
theorem dX5_copy_175 : decode cX5_copy 175 = .ok (.iadd, 1) := by decide +kernel
theorem dX5_copy_176 : decode cX5_copy 176 = .ok (.iload 6, 2) := by decide +kernel
theorem dX5_copy_178 : decode cX5_copy 178 = .ok (.iadd, 1) := by decide +kernel
theorem dX5_copy_179 : decode cX5_copy 179 = .ok (.aload_n 0, 1) := by decide +kernel
theorem dX5_copy_180 : decode cX5_copy 180 = .ok (.getfield 23, 3) := by decide +kernel
theorem dX5_copy_183 : decode cX5_copy 183 = .ok (.iload 6, 2) := by decide +kernel
theorem dX5_copy_185 : decode cX5_copy 185 = .ok (.laload, 1) := by decide +kernel
theorem dX5_copy_186 : decode cX5_copy 186 = .ok (.lastore, 1) := by decide +kernel
theorem dX5_copy_187 : decode cX5_copy 187 = .ok (.iinc 6 1, 3) := by decide +kernel
theorem dX5_copy_190 : decode cX5_copy 190 = .ok (.goto (-32), 3) := by decide +kernel
theorem dX5_copy_193 : decode cX5_copy 193 = .ok (.iconst 1, 1) := by decide +kernel
theorem dX5_copy_194 : decode cX5_copy 194 = .ok (.ireturn, 1) := by decide +kernel
theorem dX5_isMachine_0 : decode cX5_isMachine 0 = .ok (.iload_n 1, 1) := by decide +kernel
theorem dX5_isMachine_1 : decode cX5_isMachine 1 = .ok (.i2l, 1) := by decide +kernel
theorem dX5_isMachine_2 : decode cX5_isMachine 2 = .ok (.lconst 0, 1) := by decide +kernel
theorem dX5_isMachine_3 : decode cX5_isMachine 3 = .ok (.aload_n 0, 1) := by decide +kernel
theorem dX5_isMachine_4 : decode cX5_isMachine 4 = .ok (.getfield 111, 3) := by decide +kernel
theorem dX5_isMachine_7 : decode cX5_isMachine 7 = .ok (.iconst 1, 1) := by decide +kernel
theorem dX5_isMachine_8 : decode cX5_isMachine 8 = .ok (.isub, 1) := by decide +kernel
theorem dX5_isMachine_9 : decode cX5_isMachine 9 = .ok (.i2l, 1) := by decide +kernel
theorem dX5_isMachine_10 : decode cX5_isMachine 10 = .ok (.invokestatic 81, 3) := by decide +kernel
theorem dX5_isMachine_13 : decode cX5_isMachine 13 = .ok (.ireturn, 1) := by decide +kernel
theorem dX5_isAgeing_0 : decode cX5_isAgeing 0 = .ok (.aload_n 0, 1) := by decide +kernel
theorem dX5_isAgeing_1 : decode cX5_isAgeing 1 = .ok (.getfield 26, 3) := by decide +kernel
theorem dX5_isAgeing_4 : decode cX5_isAgeing 4 = .ok (.iload_n 1, 1) := by decide +kernel
theorem dX5_isAgeing_5 : decode cX5_isAgeing 5 = .ok (.iaload, 1) := by decide +kernel
theorem dX5_isAgeing_6 : decode cX5_isAgeing 6 = .ok (.iconst 2, 1) := by decide +kernel
theorem dX5_isAgeing_7 : decode cX5_isAgeing 7 = .ok (.if_icmp .lt 7, 3) := by decide +kernel
theorem dX5_isAgeing_10 : decode cX5_isAgeing 10 = .ok (.iconst 1, 1) := by decide +kernel
theorem dX5_isAgeing_11 : decode cX5_isAgeing 11 = .ok (.goto 4, 3) := by decide +kernel
theorem dX5_isAgeing_14 : decode cX5_isAgeing 14 = .ok (.iconst 0, 1) := by decide +kernel
theorem dX5_isAgeing_15 : decode cX5_isAgeing 15 = .ok (.ireturn, 1) := by decide +kernel
theorem dX5_isState_0 : decode cX5_isState 0 = .ok (.iload_n 2, 1) := by decide +kernel
theorem dX5_isState_1 : decode cX5_isState 1 = .ok (.i2l, 1) := by decide +kernel
theorem dX5_isState_2 : decode cX5_isState 2 = .ok (.lconst 0, 1) := by decide +kernel
theorem dX5_isState_3 : decode cX5_isState 3 = .ok (.aload_n 0, 1) := by decide +kernel
theorem dX5_isState_4 : decode cX5_isState 4 = .ok (.getfield 29, 3) := by decide +kernel
theorem dX5_isState_7 : decode cX5_isState 7 = .ok (.iload_n 1, 1) := by decide +kernel
theorem dX5_isState_8 : decode cX5_isState 8 = .ok (.iaload, 1) := by decide +kernel
theorem dX5_isState_9 : decode cX5_isState 9 = .ok (.iconst 1, 1) := by decide +kernel
theorem dX5_isState_10 : decode cX5_isState 10 = .ok (.isub, 1) := by decide +kernel
theorem dX5_isState_11 : decode cX5_isState 11 = .ok (.i2l, 1) := by decide +kernel
theorem dX5_isState_12 : decode cX5_isState 12 = .ok (.invokestatic 81, 3) := by decide +kernel
theorem dX5_isState_15 : decode cX5_isState 15 = .ok (.ireturn, 1) := by decide +kernel
theorem dX5_machine_0 : decode cX5_machine 0 = .ok (.iload_n 1, 1) := by decide +kernel
theorem dX5_machine_1 : decode cX5_machine 1 = .ok (.i2l, 1) := by decide +kernel
theorem dX5_machine_2 : decode cX5_machine 2 = .ok (.lconst 0, 1) := by decide +kernel
theorem dX5_machine_3 : decode cX5_machine 3 = .ok (.ldc2_w 94, 3) := by decide +kernel
theorem dX5_machine_6 : decode cX5_machine 6 = .ok (.invokestatic 81, 3) := by decide +kernel
theorem dX5_machine_9 : decode cX5_machine 9 = .ok (.ifCond .eq 36, 3) := by decide +kernel
theorem dX5_machine_12 : decode cX5_machine 12 = .ok (.iload_n 2, 1) := by decide +kernel
theorem dX5_machine_13 : decode cX5_machine 13 = .ok (.iconst 5, 1) := by decide +kernel
theorem dX5_machine_14 : decode cX5_machine 14 = .ok (.if_icmp .gt 31, 3) := by decide +kernel
theorem dX5_machine_17 : decode cX5_machine 17 = .ok (.iload_n 2, 1) := by decide +kernel
theorem dX5_machine_18 : decode cX5_machine 18 = .ok (.ifCond .lt 29, 3) := by decide +kernel
theorem dX5_machine_21 : decode cX5_machine 21 = .ok (.iload_n 2, 1) := by decide +kernel
theorem dX5_machine_22 : decode cX5_machine 22 = .ok (.iload_n 1, 1) := by decide +kernel
theorem dX5_machine_23 : decode cX5_machine 23 = .ok (.iconst 3, 1) := by decide +kernel
theorem dX5_machine_24 : decode cX5_machine 24 = .ok (.if_icmp .ne 7, 3) := by decide +kernel
theorem dX5_machine_27 : decode cX5_machine 27 = .ok (.iconst 2, 1) := by decide +kernel
theorem dX5_machine_28 : decode cX5_machine 28 = .ok (.goto 4, 3) := by decide +kernel
theorem dX5_machine_31 : decode cX5_machine 31 = .ok (.iconst 1, 1) := by decide +kernel
theorem dX5_machine_32 : decode cX5_machine 32 = .ok (.if_icmp .lt 13, 3) := by decide +kernel
theorem dX5_machine_35 : decode cX5_machine 35 = .ok (.iload_n 1, 1) := by decide +kernel
theorem dX5_machine_36 : decode cX5_machine 36 = .ok (.iconst 1, 1) := by decide +kernel
theorem dX5_machine_37 : decode cX5_machine 37 = .ok (.if_icmp .ne 10, 3) := by decide +kernel
theorem dX5_machine_40 : decode cX5_machine 40 = .ok (.iload_n 2, 1) := by decide +kernel
theorem dX5_machine_41 : decode cX5_machine 41 = .ok (.iconst 1, 1) := by decide +kernel
theorem dX5_machine_42 : decode cX5_machine 42 = .ok (.if_icmp .eq 5, 3) := by decide +kernel
theorem dX5_machine_45 : decode cX5_machine 45 = .ok (.iconst (-1), 1) := by decide +kernel
theorem dX5_machine_46 : decode cX5_machine 46 = .ok (.ireturn, 1) := by decide +kernel
theorem dX5_machine_47 : decode cX5_machine 47 = .ok (.aload_n 0, 1) := by decide +kernel
theorem dX5_machine_48 : decode cX5_machine 48 = .ok (.getfield 111, 3) := by decide +kernel
theorem dX5_machine_51 : decode cX5_machine 51 = .ok (.bipush 16, 2) := by decide +kernel
theorem dX5_machine_53 : decode cX5_machine 53 = .ok (.if_icmp .ne 6, 3) := by decide +kernel
theorem dX5_machine_56 : decode cX5_machine 56 = .ok (.bipush (-2), 2) := by decide +kernel
theorem dX5_machine_58 : decode cX5_machine 58 = .ok (.ireturn, 1) := by decide +kernel
theorem dX5_machine_59 : decode cX5_machine 59 = .ok (.iload_n 2, 1) := by decide +kernel
theorem dX5_machine_60 : decode cX5_machine 60 = .ok (.ifCond .ge 9, 3) := by decide +kernel
theorem dX5_machine_63 : decode cX5_machine 63 = .ok (.aload_n 0, 1) := by decide +kernel
theorem dX5_machine_64 : decode cX5_machine 64 = .ok (.iconst 5, 1) := by decide +kernel
theorem dX5_machine_65 : decode cX5_machine 65 = .ok (.invokevirtual 96, 3) := by decide +kernel
theorem dX5_machine_68 : decode cX5_machine 68 = .ok (.ireturn, 1) := by decide +kernel
theorem dX5_machine_69 : decode cX5_machine 69 = .ok (.aload_n 0, 1) := by decide +kernel
theorem dX5_machine_70 : decode cX5_machine 70 = .ok (.getfield 111, 3) := by decide +kernel
theorem dX5_machine_73 : decode cX5_machine 73 = .ok (.istore_n 3, 1) := by decide +kernel
theorem dX5_machine_74 : decode cX5_machine 74 = .ok (.aload_n 0, 1) := by decide +kernel
theorem dX5_machine_75 : decode cX5_machine 75 = .ok (.getfield 26, 3) := by decide +kernel
theorem dX5_machine_78 : decode cX5_machine 78 = .ok (.iload_n 3, 1) := by decide +kernel
theorem dX5_machine_79 : decode cX5_machine 79 = .ok (.iload_n 1, 1) := by decide +kernel
theorem dX5_machine_80 : decode cX5_machine 80 = .ok (.iastore, 1) := by decide +kernel
theorem dX5_machine_81 : decode cX5_machine 81 = .ok (.aload_n 0, 1) := by decide +kernel
theorem dX5_machine_82 : decode cX5_machine 82 = .ok (.getfield 29, 3) := by decide +kernel
theorem dX5_machine_85 : decode cX5_machine 85 = .ok (.iload_n 3, 1) := by decide +kernel
theorem dX5_machine_86 : decode cX5_machine 86 = .ok (.iload_n 2, 1) := by decide +kernel
theorem dX5_machine_87 : decode cX5_machine 87 = .ok (.iastore, 1) := by decide +kernel
theorem dX5_machine_88 : decode cX5_machine 88 = .ok (.aload_n 0, 1) := by decide +kernel
theorem dX5_machine_89 : decode cX5_machine 89 = .ok (.getfield 32, 3) := by decide +kernel
theorem dX5_machine_92 : decode cX5_machine 92 = .ok (.iload_n 3, 1) := by decide +kernel
theorem dX5_machine_93 : decode cX5_machine 93 = .ok (.iconst 0, 1) := by decide +kernel
theorem dX5_machine_94 : decode cX5_machine 94 = .ok (.iastore, 1) := by decide +kernel
theorem dX5_machine_95 : decode cX5_machine 95 = .ok (.aload_n 0, 1) := by decide +kernel
theorem dX5_machine_96 : decode cX5_machine 96 = .ok (.getfield 41, 3) := by decide +kernel
theorem dX5_machine_99 : decode cX5_machine 99 = .ok (.iload_n 3, 1) := by decide +kernel
theorem dX5_machine_100 : decode cX5_machine 100 = .ok (.iconst 0, 1) := by decide +kernel
theorem dX5_machine_101 : decode cX5_machine 101 = .ok (.iastore, 1) := by decide +kernel
theorem dX5_machine_102 : decode cX5_machine 102 = .ok (.iconst 0, 1) := by decide +kernel
theorem dX5_machine_103 : decode cX5_machine 103 = .ok (.istore 4, 2) := by decide +kernel
theorem dX5_machine_105 : decode cX5_machine 105 = .ok (.iload 4, 2) := by decide +kernel
theorem dX5_machine_107 : decode cX5_machine 107 = .ok (.iconst 5, 1) := by decide +kernel
theorem dX5_machine_108 : decode cX5_machine 108 = .ok (.if_icmp .ge 89, 3) := by decide +kernel
theorem dX5_machine_111 : decode cX5_machine 111 = .ok (.aload_n 0, 1) := by decide +kernel
theorem dX5_machine_112 : decode cX5_machine 112 = .ok (.getfield 35, 3) := by decide +kernel
theorem dX5_machine_115 : decode cX5_machine 115 = .ok (.iconst 5, 1) := by decide +kernel
theorem dX5_machine_116 : decode cX5_machine 116 = .ok (.iload_n 3, 1) := by decide +kernel
theorem dX5_machine_117 : decode cX5_machine 117 = .ok (.imul, 1) := by decide +kernel
theorem dX5_machine_118 : decode cX5_machine 118 = .ok (.iload 4, 2) := by decide +kernel
theorem dX5_machine_120 : decode cX5_machine 120 = .ok (.iadd, 1) := by decide +kernel
theorem dX5_machine_121 : decode cX5_machine 121 = .ok (.iconst 0, 1) := by decide +kernel
theorem dX5_machine_122 : decode cX5_machine 122 = .ok (.iastore, 1) := by decide +kernel
theorem dX5_machine_123 : decode cX5_machine 123 = .ok (.iconst 0, 1) := by decide +kernel
theorem dX5_machine_124 : decode cX5_machine 124 = .ok (.istore 5, 2) := by decide +kernel
theorem dX5_machine_126 : decode cX5_machine 126 = .ok (.iload 5, 2) := by decide +kernel
theorem dX5_machine_128 : decode cX5_machine 128 = .ok (.iconst 5, 1) := by decide +kernel
theorem dX5_machine_129 : decode cX5_machine 129 = .ok (.if_icmp .ge 62, 3) := by decide +kernel
theorem dX5_machine_132 : decode cX5_machine 132 = .ok (.iload_n 1, 1) := by decide +kernel
theorem dX5_machine_133 : decode cX5_machine 133 = .ok (.iconst 2, 1) := by decide +kernel
theorem dX5_machine_134 : decode cX5_machine 134 = .ok (.if_icmp .lt 18, 3) := by decide +kernel
theorem dX5_machine_137 : decode cX5_machine 137 = .ok (.iload 4, 2) := by decide +kernel
theorem dX5_machine_139 : decode cX5_machine 139 = .ok (.iconst 1, 1) := by decide +kernel
theorem dX5_machine_140 : decode cX5_machine 140 = .ok (.iadd, 1) := by decide +kernel
theorem dX5_machine_141 : decode cX5_machine 141 = .ok (.iload_n 2, 1) := by decide +kernel
theorem dX5_machine_142 : decode cX5_machine 142 = .ok (.if_icmp .ge 10, 3) := by decide +kernel
theorem dX5_machine_145 : decode cX5_machine 145 = .ok (.iload 4, 2) := by decide +kernel
theorem dX5_machine_147 : decode cX5_machine 147 = .ok (.iconst 1, 1) := by decide +kernel
theorem dX5_machine_148 : decode cX5_machine 148 = .ok (.iadd, 1) := by decide +kernel
theorem dX5_machine_149 : decode cX5_machine 149 = .ok (.goto 5, 3) := by decide +kernel
theorem dX5_machine_152 : decode cX5_machine 152 = .ok (.iload 4, 2) := by decide +kernel
theorem dX5_machine_154 : decode cX5_machine 154 = .ok (.istore 6, 2) := by decide +kernel
theorem dX5_machine_156 : decode cX5_machine 156 = .ok (.aload_n 0, 1) := by decide +kernel
theorem dX5_machine_157 : decode cX5_machine 157 = .ok (.getfield 38, 3) := by decide +kernel
theorem dX5_machine_160 : decode cX5_machine 160 = .ok (.bipush 25, 2) := by decide +kernel
theorem dX5_machine_162 : decode cX5_machine 162 = .ok (.iload_n 3, 1) := by decide +kernel
theorem dX5_machine_163 : decode cX5_machine 163 = .ok (.imul, 1) := by decide +kernel
theorem dX5_machine_164 : decode cX5_machine 164 = .ok (.iconst 5, 1) := by decide +kernel
theorem dX5_machine_165 : decode cX5_machine 165 = .ok (.iload 4, 2) := by decide +kernel
theorem dX5_machine_167 : decode cX5_machine 167 = .ok (.imul, 1) := by decide +kernel
theorem dX5_machine_168 : decode cX5_machine 168 = .ok (.iadd, 1) := by decide +kernel
theorem dX5_machine_169 : decode cX5_machine 169 = .ok (.iload 5, 2) := by decide +kernel
theorem dX5_machine_171 : decode cX5_machine 171 = .ok (.iadd, 1) := by decide +kernel
theorem dX5_machine_172 : decode cX5_machine 172 = .ok (.iload 5, 2) := by decide +kernel
theorem dX5_machine_174 : decode cX5_machine 174 = .ok (.iload 6, 2) := by decide +kernel
theorem dX5_machine_176 : decode cX5_machine 176 = .ok (.if_icmp .ne 7, 3) := by decide +kernel
theorem dX5_machine_179 : decode cX5_machine 179 = .ok (.iconst 1, 1) := by decide +kernel
theorem dX5_machine_180 : decode cX5_machine 180 = .ok (.goto 4, 3) := by decide +kernel
theorem dX5_machine_183 : decode cX5_machine 183 = .ok (.iconst 0, 1) := by decide +kernel
theorem dX5_machine_184 : decode cX5_machine 184 = .ok (.iastore, 1) := by decide +kernel
theorem dX5_machine_185 : decode cX5_machine 185 = .ok (.iinc 5 1, 3) := by decide +kernel
theorem dX5_machine_188 : decode cX5_machine 188 = .ok (.goto (-62), 3) := by decide +kernel
theorem dX5_machine_191 : decode cX5_machine 191 = .ok (.iinc 4 1, 3) := by decide +kernel
theorem dX5_machine_194 : decode cX5_machine 194 = .ok (.goto (-89), 3) := by decide +kernel
theorem dX5_machine_197 : decode cX5_machine 197 = .ok (.aload_n 0, 1) := by decide +kernel
theorem dX5_machine_198 : decode cX5_machine 198 = .ok (.dup, 1) := by decide +kernel
theorem dX5_machine_199 : decode cX5_machine 199 = .ok (.getfield 111, 3) := by decide +kernel
theorem dX5_machine_202 : decode cX5_machine 202 = .ok (.iconst 1, 1) := by decide +kernel
theorem dX5_machine_203 : decode cX5_machine 203 = .ok (.iadd, 1) := by decide +kernel
theorem dX5_machine_204 : decode cX5_machine 204 = .ok (.putfield 111, 3) := by decide +kernel
theorem dX5_machine_207 : decode cX5_machine 207 = .ok (.iload_n 3, 1) := by decide +kernel
theorem dX5_machine_208 : decode cX5_machine 208 = .ok (.ireturn, 1) := by decide +kernel
theorem dX5_is_0 : decode cX5_is 0 = .ok (.aload_n 0, 1) := by decide +kernel
theorem dX5_is_1 : decode cX5_is 1 = .ok (.iload_n 1, 1) := by decide +kernel
theorem dX5_is_2 : decode cX5_is 2 = .ok (.invokevirtual 114, 3) := by decide +kernel
theorem dX5_is_5 : decode cX5_is 5 = .ok (.ifCond .eq 15, 3) := by decide +kernel
theorem dX5_is_8 : decode cX5_is 8 = .ok (.iload_n 2, 1) := by decide +kernel
theorem dX5_is_9 : decode cX5_is 9 = .ok (.i2l, 1) := by decide +kernel
theorem dX5_is_10 : decode cX5_is 10 = .ok (.lconst 0, 1) := by decide +kernel
theorem dX5_is_11 : decode cX5_is 11 = .ok (.ldc2_w 94, 3) := by decide +kernel
theorem dX5_is_14 : decode cX5_is 14 = .ok (.invokestatic 81, 3) := by decide +kernel
theorem dX5_is_17 : decode cX5_is 17 = .ok (.ifCond .ne 5, 3) := by decide +kernel
theorem dX5_is_20 : decode cX5_is 20 = .ok (.iconst (-1), 1) := by decide +kernel
theorem dX5_is_21 : decode cX5_is 21 = .ok (.ireturn, 1) := by decide +kernel
theorem dX5_is_22 : decode cX5_is 22 = .ok (.aload_n 0, 1) := by decide +kernel
theorem dX5_is_23 : decode cX5_is 23 = .ok (.getfield 26, 3) := by decide +kernel
theorem dX5_is_26 : decode cX5_is 26 = .ok (.iload_n 1, 1) := by decide +kernel
theorem dX5_is_27 : decode cX5_is 27 = .ok (.iaload, 1) := by decide +kernel
theorem dX5_is_28 : decode cX5_is 28 = .ok (.istore_n 3, 1) := by decide +kernel
theorem dX5_is_29 : decode cX5_is 29 = .ok (.iload_n 2, 1) := by decide +kernel
theorem dX5_is_30 : decode cX5_is 30 = .ok (.ifCond .eq 18, 3) := by decide +kernel
theorem dX5_is_33 : decode cX5_is 33 = .ok (.iload_n 3, 1) := by decide +kernel
theorem dX5_is_34 : decode cX5_is 34 = .ok (.iload_n 2, 1) := by decide +kernel
theorem dX5_is_35 : decode cX5_is 35 = .ok (.if_icmp .eq 13, 3) := by decide +kernel
theorem dX5_is_38 : decode cX5_is 38 = .ok (.iload_n 2, 1) := by decide +kernel
theorem dX5_is_39 : decode cX5_is 39 = .ok (.iconst 2, 1) := by decide +kernel
theorem dX5_is_40 : decode cX5_is 40 = .ok (.if_icmp .ne 12, 3) := by decide +kernel
theorem dX5_is_43 : decode cX5_is 43 = .ok (.iload_n 3, 1) := by decide +kernel
theorem dX5_is_44 : decode cX5_is 44 = .ok (.iconst 3, 1) := by decide +kernel
theorem dX5_is_45 : decode cX5_is 45 = .ok (.if_icmp .ne 7, 3) := by decide +kernel
theorem dX5_is_48 : decode cX5_is 48 = .ok (.iconst 1, 1) := by decide +kernel
theorem dX5_is_49 : decode cX5_is 49 = .ok (.goto 4, 3) := by decide +kernel
theorem dX5_is_52 : decode cX5_is 52 = .ok (.iconst 0, 1) := by decide +kernel
theorem dX5_is_53 : decode cX5_is 53 = .ok (.ireturn, 1) := by decide +kernel
theorem dX5_told_0 : decode cX5_told 0 = .ok (.aload_n 0, 1) := by decide +kernel
theorem dX5_told_1 : decode cX5_told 1 = .ok (.iload_n 1, 1) := by decide +kernel
theorem dX5_told_2 : decode cX5_told 2 = .ok (.invokevirtual 114, 3) := by decide +kernel
theorem dX5_told_5 : decode cX5_told 5 = .ok (.ifCond .eq 15, 3) := by decide +kernel
theorem dX5_told_8 : decode cX5_told 8 = .ok (.iload_n 2, 1) := by decide +kernel
theorem dX5_told_9 : decode cX5_told 9 = .ok (.i2l, 1) := by decide +kernel
theorem dX5_told_10 : decode cX5_told 10 = .ok (.lconst 0, 1) := by decide +kernel
theorem dX5_told_11 : decode cX5_told 11 = .ok (.ldc2_w 87, 3) := by decide +kernel
theorem dX5_told_14 : decode cX5_told 14 = .ok (.invokestatic 81, 3) := by decide +kernel
theorem dX5_told_17 : decode cX5_told 17 = .ok (.ifCond .ne 7, 3) := by decide +kernel
theorem dX5_told_20 : decode cX5_told 20 = .ok (.iconst (-1), 1) := by decide +kernel
theorem dX5_told_21 : decode cX5_told 21 = .ok (.goto 36, 3) := by decide +kernel
theorem dX5_told_24 : decode cX5_told 24 = .ok (.iload_n 2, 1) := by decide +kernel
theorem dX5_told_25 : decode cX5_told 25 = .ok (.ifCond .ne 12, 3) := by decide +kernel
theorem dX5_told_28 : decode cX5_told 28 = .ok (.aload_n 0, 1) := by decide +kernel
theorem dX5_told_29 : decode cX5_told 29 = .ok (.getfield 26, 3) := by decide +kernel
theorem dX5_told_32 : decode cX5_told 32 = .ok (.iload_n 1, 1) := by decide +kernel
theorem dX5_told_33 : decode cX5_told 33 = .ok (.iaload, 1) := by decide +kernel
theorem dX5_told_34 : decode cX5_told 34 = .ok (.goto 23, 3) := by decide +kernel
theorem dX5_told_37 : decode cX5_told 37 = .ok (.iload_n 2, 1) := by decide +kernel
theorem dX5_told_38 : decode cX5_told 38 = .ok (.iconst 1, 1) := by decide +kernel
theorem dX5_told_39 : decode cX5_told 39 = .ok (.if_icmp .ne 12, 3) := by decide +kernel
theorem dX5_told_42 : decode cX5_told 42 = .ok (.aload_n 0, 1) := by decide +kernel
theorem dX5_told_43 : decode cX5_told 43 = .ok (.getfield 29, 3) := by decide +kernel
theorem dX5_told_46 : decode cX5_told 46 = .ok (.iload_n 1, 1) := by decide +kernel
theorem dX5_told_47 : decode cX5_told 47 = .ok (.iaload, 1) := by decide +kernel
theorem dX5_told_48 : decode cX5_told 48 = .ok (.goto 9, 3) := by decide +kernel
theorem dX5_told_51 : decode cX5_told 51 = .ok (.aload_n 0, 1) := by decide +kernel
theorem dX5_told_52 : decode cX5_told 52 = .ok (.getfield 32, 3) := by decide +kernel
theorem dX5_told_55 : decode cX5_told 55 = .ok (.iload_n 1, 1) := by decide +kernel
theorem dX5_told_56 : decode cX5_told 56 = .ok (.iaload, 1) := by decide +kernel
theorem dX5_told_57 : decode cX5_told 57 = .ok (.ireturn, 1) := by decide +kernel
theorem dX5_mayPay_0 : decode cX5_mayPay 0 = .ok (.aload_n 0, 1) := by decide +kernel
theorem dX5_mayPay_1 : decode cX5_mayPay 1 = .ok (.getfield 26, 3) := by decide +kernel
theorem dX5_mayPay_4 : decode cX5_mayPay 4 = .ok (.iload_n 1, 1) := by decide +kernel
theorem dX5_mayPay_5 : decode cX5_mayPay 5 = .ok (.iaload, 1) := by decide +kernel
theorem dX5_mayPay_6 : decode cX5_mayPay 6 = .ok (.iconst 3, 1) := by decide +kernel
theorem dX5_mayPay_7 : decode cX5_mayPay 7 = .ok (.if_icmp .ne 15, 3) := by decide +kernel
theorem dX5_mayPay_10 : decode cX5_mayPay 10 = .ok (.iload_n 2, 1) := by decide +kernel
theorem dX5_mayPay_11 : decode cX5_mayPay 11 = .ok (.aload_n 0, 1) := by decide +kernel
theorem dX5_mayPay_12 : decode cX5_mayPay 12 = .ok (.getfield 29, 3) := by decide +kernel
theorem dX5_mayPay_15 : decode cX5_mayPay 15 = .ok (.iload_n 1, 1) := by decide +kernel
theorem dX5_mayPay_16 : decode cX5_mayPay 16 = .ok (.iaload, 1) := by decide +kernel
theorem dX5_mayPay_17 : decode cX5_mayPay 17 = .ok (.iconst 2, 1) := by decide +kernel
theorem dX5_mayPay_18 : decode cX5_mayPay 18 = .ok (.isub, 1) := by decide +kernel
theorem dX5_mayPay_19 : decode cX5_mayPay 19 = .ok (.if_icmp .ne 7, 3) := by decide +kernel
theorem dX5_mayPay_22 : decode cX5_mayPay 22 = .ok (.iconst 1, 1) := by decide +kernel
theorem dX5_mayPay_23 : decode cX5_mayPay 23 = .ok (.goto 4, 3) := by decide +kernel
theorem dX5_mayPay_26 : decode cX5_mayPay 26 = .ok (.iconst 0, 1) := by decide +kernel
theorem dX5_mayPay_27 : decode cX5_mayPay 27 = .ok (.ireturn, 1) := by decide +kernel
theorem dX5_pay_0 : decode cX5_pay 0 = .ok (.aload_n 0, 1) := by decide +kernel
theorem dX5_pay_1 : decode cX5_pay 1 = .ok (.iload_n 1, 1) := by decide +kernel
theorem dX5_pay_2 : decode cX5_pay 2 = .ok (.invokevirtual 114, 3) := by decide +kernel
theorem dX5_pay_5 : decode cX5_pay 5 = .ok (.ifCond .eq 17, 3) := by decide +kernel
theorem dX5_pay_8 : decode cX5_pay 8 = .ok (.iload_n 3, 1) := by decide +kernel
theorem dX5_pay_9 : decode cX5_pay 9 = .ok (.i2l, 1) := by decide +kernel
theorem dX5_pay_10 : decode cX5_pay 10 = .ok (.ldc2_w 117, 3) := by decide +kernel
theorem dX5_pay_13 : decode cX5_pay 13 = .ok (.ldc2_w 119, 3) := by decide +kernel
theorem dX5_pay_16 : decode cX5_pay 16 = .ok (.invokestatic 81, 3) := by decide +kernel
theorem dX5_pay_19 : decode cX5_pay 19 = .ok (.ifCond .ne 5, 3) := by decide +kernel
theorem dX5_pay_22 : decode cX5_pay 22 = .ok (.iconst (-1), 1) := by decide +kernel
theorem dX5_pay_23 : decode cX5_pay 23 = .ok (.ireturn, 1) := by decide +kernel
theorem dX5_pay_24 : decode cX5_pay 24 = .ok (.aload_n 0, 1) := by decide +kernel
theorem dX5_pay_25 : decode cX5_pay 25 = .ok (.iload_n 1, 1) := by decide +kernel
theorem dX5_pay_26 : decode cX5_pay 26 = .ok (.iload_n 2, 1) := by decide +kernel
theorem dX5_pay_27 : decode cX5_pay 27 = .ok (.invokevirtual 121, 3) := by decide +kernel
theorem dX5_pay_30 : decode cX5_pay 30 = .ok (.ifCond .ne 9, 3) := by decide +kernel
theorem dX5_pay_33 : decode cX5_pay 33 = .ok (.aload_n 0, 1) := by decide +kernel
theorem dX5_pay_34 : decode cX5_pay 34 = .ok (.iconst 2, 1) := by decide +kernel
theorem dX5_pay_35 : decode cX5_pay 35 = .ok (.invokevirtual 96, 3) := by decide +kernel
theorem dX5_pay_38 : decode cX5_pay 38 = .ok (.ireturn, 1) := by decide +kernel
theorem dX5_pay_39 : decode cX5_pay 39 = .ok (.aload_n 0, 1) := by decide +kernel
theorem dX5_pay_40 : decode cX5_pay 40 = .ok (.iload_n 1, 1) := by decide +kernel
theorem dX5_pay_41 : decode cX5_pay 41 = .ok (.iload_n 2, 1) := by decide +kernel
theorem dX5_pay_42 : decode cX5_pay 42 = .ok (.invokevirtual 125, 3) := by decide +kernel
theorem dX5_pay_45 : decode cX5_pay 45 = .ok (.ifCond .ne 6, 3) := by decide +kernel
theorem dX5_pay_48 : decode cX5_pay 48 = .ok (.bipush (-4), 2) := by decide +kernel
theorem dX5_pay_50 : decode cX5_pay 50 = .ok (.ireturn, 1) := by decide +kernel
theorem dX5_pay_51 : decode cX5_pay 51 = .ok (.aload_n 0, 1) := by decide +kernel
theorem dX5_pay_52 : decode cX5_pay 52 = .ok (.getfield 35, 3) := by decide +kernel
theorem dX5_pay_55 : decode cX5_pay 55 = .ok (.iconst 5, 1) := by decide +kernel
theorem dX5_pay_56 : decode cX5_pay 56 = .ok (.iload_n 1, 1) := by decide +kernel
theorem dX5_pay_57 : decode cX5_pay 57 = .ok (.imul, 1) := by decide +kernel
theorem dX5_pay_58 : decode cX5_pay 58 = .ok (.iload_n 2, 1) := by decide +kernel
theorem dX5_pay_59 : decode cX5_pay 59 = .ok (.iadd, 1) := by decide +kernel
theorem dX5_pay_60 : decode cX5_pay 60 = .ok (.iaload, 1) := by decide +kernel
theorem dX5_pay_61 : decode cX5_pay 61 = .ok (.istore 4, 2) := by decide +kernel
theorem dX5_pay_63 : decode cX5_pay 63 = .ok (.aload_n 0, 1) := by decide +kernel
theorem dX5_pay_64 : decode cX5_pay 64 = .ok (.getfield 35, 3) := by decide +kernel
theorem dX5_pay_67 : decode cX5_pay 67 = .ok (.iconst 5, 1) := by decide +kernel
theorem dX5_pay_68 : decode cX5_pay 68 = .ok (.iload_n 1, 1) := by decide +kernel
theorem dX5_pay_69 : decode cX5_pay 69 = .ok (.imul, 1) := by decide +kernel
theorem dX5_pay_70 : decode cX5_pay 70 = .ok (.iload_n 2, 1) := by decide +kernel
theorem dX5_pay_71 : decode cX5_pay 71 = .ok (.iadd, 1) := by decide +kernel
theorem dX5_pay_72 : decode cX5_pay 72 = .ok (.iload_n 3, 1) := by decide +kernel
theorem dX5_pay_73 : decode cX5_pay 73 = .ok (.iastore, 1) := by decide +kernel
theorem dX5_pay_74 : decode cX5_pay 74 = .ok (.sipush 1000, 3) := by decide +kernel
theorem dX5_pay_77 : decode cX5_pay 77 = .ok (.iload 4, 2) := by decide +kernel
theorem dX5_pay_79 : decode cX5_pay 79 = .ok (.iadd, 1) := by decide +kernel
theorem dX5_pay_80 : decode cX5_pay 80 = .ok (.ireturn, 1) := by decide +kernel
theorem dX5_sum_0 : decode cX5_sum 0 = .ok (.iconst 0, 1) := by decide +kernel
theorem dX5_sum_1 : decode cX5_sum 1 = .ok (.istore_n 3, 1) := by decide +kernel
theorem dX5_sum_2 : decode cX5_sum 2 = .ok (.iconst 0, 1) := by decide +kernel
theorem dX5_sum_3 : decode cX5_sum 3 = .ok (.istore 4, 2) := by decide +kernel
theorem dX5_sum_5 : decode cX5_sum 5 = .ok (.iload 4, 2) := by decide +kernel
theorem dX5_sum_7 : decode cX5_sum 7 = .ok (.iconst 5, 1) := by decide +kernel
theorem dX5_sum_8 : decode cX5_sum 8 = .ok (.if_icmp .ge 28, 3) := by decide +kernel
theorem dX5_sum_11 : decode cX5_sum 11 = .ok (.iload_n 3, 1) := by decide +kernel
theorem dX5_sum_12 : decode cX5_sum 12 = .ok (.aload_n 0, 1) := by decide +kernel
theorem dX5_sum_13 : decode cX5_sum 13 = .ok (.getfield 38, 3) := by decide +kernel
theorem dX5_sum_16 : decode cX5_sum 16 = .ok (.bipush 25, 2) := by decide +kernel
theorem dX5_sum_18 : decode cX5_sum 18 = .ok (.iload_n 1, 1) := by decide +kernel
theorem dX5_sum_19 : decode cX5_sum 19 = .ok (.imul, 1) := by decide +kernel
theorem dX5_sum_20 : decode cX5_sum 20 = .ok (.iconst 5, 1) := by decide +kernel
theorem dX5_sum_21 : decode cX5_sum 21 = .ok (.iload_n 2, 1) := by decide +kernel
theorem dX5_sum_22 : decode cX5_sum 22 = .ok (.imul, 1) := by decide +kernel
theorem dX5_sum_23 : decode cX5_sum 23 = .ok (.iadd, 1) := by decide +kernel
theorem dX5_sum_24 : decode cX5_sum 24 = .ok (.iload 4, 2) := by decide +kernel
theorem dX5_sum_26 : decode cX5_sum 26 = .ok (.iadd, 1) := by decide +kernel
theorem dX5_sum_27 : decode cX5_sum 27 = .ok (.iaload, 1) := by decide +kernel
theorem dX5_sum_28 : decode cX5_sum 28 = .ok (.iadd, 1) := by decide +kernel
theorem dX5_sum_29 : decode cX5_sum 29 = .ok (.istore_n 3, 1) := by decide +kernel
theorem dX5_sum_30 : decode cX5_sum 30 = .ok (.iinc 4 1, 3) := by decide +kernel
theorem dX5_sum_33 : decode cX5_sum 33 = .ok (.goto (-28), 3) := by decide +kernel
theorem dX5_sum_36 : decode cX5_sum 36 = .ok (.iload_n 3, 1) := by decide +kernel
theorem dX5_sum_37 : decode cX5_sum 37 = .ok (.ireturn, 1) := by decide +kernel
theorem dX5_chance_0 : decode cX5_chance 0 = .ok (.aload_n 0, 1) := by decide +kernel
theorem dX5_chance_1 : decode cX5_chance 1 = .ok (.iload_n 1, 1) := by decide +kernel
theorem dX5_chance_2 : decode cX5_chance 2 = .ok (.invokevirtual 114, 3) := by decide +kernel
theorem dX5_chance_5 : decode cX5_chance 5 = .ok (.ifCond .eq 16, 3) := by decide +kernel
theorem dX5_chance_8 : decode cX5_chance 8 = .ok (.iload 4, 2) := by decide +kernel
theorem dX5_chance_10 : decode cX5_chance 10 = .ok (.i2l, 1) := by decide +kernel
theorem dX5_chance_11 : decode cX5_chance 11 = .ok (.lconst 0, 1) := by decide +kernel
theorem dX5_chance_12 : decode cX5_chance 12 = .ok (.ldc2_w 128, 3) := by decide +kernel
theorem dX5_chance_15 : decode cX5_chance 15 = .ok (.invokestatic 81, 3) := by decide +kernel
theorem dX5_chance_18 : decode cX5_chance 18 = .ok (.ifCond .ne 5, 3) := by decide +kernel
theorem dX5_chance_21 : decode cX5_chance 21 = .ok (.iconst (-1), 1) := by decide +kernel
theorem dX5_chance_22 : decode cX5_chance 22 = .ok (.ireturn, 1) := by decide +kernel
theorem dX5_chance_23 : decode cX5_chance 23 = .ok (.aload_n 0, 1) := by decide +kernel
theorem dX5_chance_24 : decode cX5_chance 24 = .ok (.iload_n 1, 1) := by decide +kernel
theorem dX5_chance_25 : decode cX5_chance 25 = .ok (.invokevirtual 130, 3) := by decide +kernel
theorem dX5_chance_28 : decode cX5_chance 28 = .ok (.ifCond .eq 9, 3) := by decide +kernel
theorem dX5_chance_31 : decode cX5_chance 31 = .ok (.aload_n 0, 1) := by decide +kernel
theorem dX5_chance_32 : decode cX5_chance 32 = .ok (.iconst 3, 1) := by decide +kernel
theorem dX5_chance_33 : decode cX5_chance 33 = .ok (.invokevirtual 96, 3) := by decide +kernel
theorem dX5_chance_36 : decode cX5_chance 36 = .ok (.ireturn, 1) := by decide +kernel
theorem dX5_chance_37 : decode cX5_chance 37 = .ok (.aload_n 0, 1) := by decide +kernel
theorem dX5_chance_38 : decode cX5_chance 38 = .ok (.iload_n 1, 1) := by decide +kernel
theorem dX5_chance_39 : decode cX5_chance 39 = .ok (.iload_n 2, 1) := by decide +kernel
theorem dX5_chance_40 : decode cX5_chance 40 = .ok (.invokevirtual 121, 3) := by decide +kernel
theorem dX5_chance_43 : decode cX5_chance 43 = .ok (.ifCond .eq 12, 3) := by decide +kernel
theorem dX5_chance_46 : decode cX5_chance 46 = .ok (.aload_n 0, 1) := by decide +kernel
theorem dX5_chance_47 : decode cX5_chance 47 = .ok (.iload_n 1, 1) := by decide +kernel
theorem dX5_chance_48 : decode cX5_chance 48 = .ok (.iload_n 3, 1) := by decide +kernel
theorem dX5_chance_49 : decode cX5_chance 49 = .ok (.invokevirtual 121, 3) := by decide +kernel
theorem dX5_chance_52 : decode cX5_chance 52 = .ok (.ifCond .ne 9, 3) := by decide +kernel
theorem dX5_chance_55 : decode cX5_chance 55 = .ok (.aload_n 0, 1) := by decide +kernel
theorem dX5_chance_56 : decode cX5_chance 56 = .ok (.iconst 2, 1) := by decide +kernel
theorem dX5_chance_57 : decode cX5_chance 57 = .ok (.invokevirtual 96, 3) := by decide +kernel
theorem dX5_chance_60 : decode cX5_chance 60 = .ok (.ireturn, 1) := by decide +kernel
theorem dX5_chance_61 : decode cX5_chance 61 = .ok (.bipush 25, 2) := by decide +kernel
theorem dX5_chance_63 : decode cX5_chance 63 = .ok (.iload_n 1, 1) := by decide +kernel
theorem dX5_chance_64 : decode cX5_chance 64 = .ok (.imul, 1) := by decide +kernel
theorem dX5_chance_65 : decode cX5_chance 65 = .ok (.iconst 5, 1) := by decide +kernel
theorem dX5_chance_66 : decode cX5_chance 66 = .ok (.iload_n 2, 1) := by decide +kernel
theorem dX5_chance_67 : decode cX5_chance 67 = .ok (.imul, 1) := by decide +kernel
theorem dX5_chance_68 : decode cX5_chance 68 = .ok (.iadd, 1) := by decide +kernel
theorem dX5_chance_69 : decode cX5_chance 69 = .ok (.iload_n 3, 1) := by decide +kernel
theorem dX5_chance_70 : decode cX5_chance 70 = .ok (.iadd, 1) := by decide +kernel
theorem dX5_chance_71 : decode cX5_chance 71 = .ok (.istore 5, 2) := by decide +kernel
theorem dX5_chance_73 : decode cX5_chance 73 = .ok (.aload_n 0, 1) := by decide +kernel
theorem dX5_chance_74 : decode cX5_chance 74 = .ok (.getfield 38, 3) := by decide +kernel
theorem dX5_chance_77 : decode cX5_chance 77 = .ok (.iload 5, 2) := by decide +kernel
theorem dX5_chance_79 : decode cX5_chance 79 = .ok (.iaload, 1) := by decide +kernel
theorem dX5_chance_80 : decode cX5_chance 80 = .ok (.istore 6, 2) := by decide +kernel
theorem dX5_chance_82 : decode cX5_chance 82 = .ok (.aload_n 0, 1) := by decide +kernel
theorem dX5_chance_83 : decode cX5_chance 83 = .ok (.iload_n 1, 1) := by decide +kernel
theorem dX5_chance_84 : decode cX5_chance 84 = .ok (.iload_n 2, 1) := by decide +kernel
theorem dX5_chance_85 : decode cX5_chance 85 = .ok (.invokevirtual 133, 3) := by decide +kernel
theorem dX5_chance_88 : decode cX5_chance 88 = .ok (.iload 6, 2) := by decide +kernel
theorem dX5_chance_90 : decode cX5_chance 90 = .ok (.isub, 1) := by decide +kernel
theorem dX5_chance_91 : decode cX5_chance 91 = .ok (.iload 4, 2) := by decide +kernel
theorem dX5_chance_93 : decode cX5_chance 93 = .ok (.iadd, 1) := by decide +kernel
theorem dX5_chance_94 : decode cX5_chance 94 = .ok (.i2l, 1) := by decide +kernel
theorem dX5_chance_95 : decode cX5_chance 95 = .ok (.lconst 1, 1) := by decide +kernel
theorem dX5_chance_96 : decode cX5_chance 96 = .ok (.ldc2_w 128, 3) := by decide +kernel
theorem dX5_chance_99 : decode cX5_chance 99 = .ok (.invokestatic 81, 3) := by decide +kernel
theorem dX5_chance_102 : decode cX5_chance 102 = .ok (.ifCond .ne 6, 3) := by decide +kernel
theorem dX5_chance_105 : decode cX5_chance 105 = .ok (.bipush (-4), 2) := by decide +kernel
theorem dX5_chance_107 : decode cX5_chance 107 = .ok (.ireturn, 1) := by decide +kernel
theorem dX5_chance_108 : decode cX5_chance 108 = .ok (.aload_n 0, 1) := by decide +kernel
theorem dX5_chance_109 : decode cX5_chance 109 = .ok (.getfield 38, 3) := by decide +kernel
theorem dX5_chance_112 : decode cX5_chance 112 = .ok (.iload 5, 2) := by decide +kernel
theorem dX5_chance_114 : decode cX5_chance 114 = .ok (.iload 4, 2) := by decide +kernel
theorem dX5_chance_116 : decode cX5_chance 116 = .ok (.iastore, 1) := by decide +kernel
theorem dX5_chance_117 : decode cX5_chance 117 = .ok (.iload 6, 2) := by decide +kernel
theorem dX5_chance_119 : decode cX5_chance 119 = .ok (.ireturn, 1) := by decide +kernel
theorem dX5_fill_0 : decode cX5_fill 0 = .ok (.aload_n 0, 1) := by decide +kernel
theorem dX5_fill_1 : decode cX5_fill 1 = .ok (.iload_n 1, 1) := by decide +kernel
theorem dX5_fill_2 : decode cX5_fill 2 = .ok (.invokevirtual 114, 3) := by decide +kernel
theorem dX5_fill_5 : decode cX5_fill 5 = .ok (.ifCond .eq 11, 3) := by decide +kernel
theorem dX5_fill_8 : decode cX5_fill 8 = .ok (.aload_n 0, 1) := by decide +kernel
theorem dX5_fill_9 : decode cX5_fill 9 = .ok (.iload_n 2, 1) := by decide +kernel
theorem dX5_fill_10 : decode cX5_fill 10 = .ok (.invokevirtual 100, 3) := by decide +kernel
theorem dX5_fill_13 : decode cX5_fill 13 = .ok (.ifCond .ne 5, 3) := by decide +kernel
theorem dX5_fill_16 : decode cX5_fill 16 = .ok (.iconst (-1), 1) := by decide +kernel
theorem dX5_fill_17 : decode cX5_fill 17 = .ok (.ireturn, 1) := by decide +kernel
theorem dX5_fill_18 : decode cX5_fill 18 = .ok (.aload_n 0, 1) := by decide +kernel
theorem dX5_fill_19 : decode cX5_fill 19 = .ok (.getfield 29, 3) := by decide +kernel
theorem dX5_fill_22 : decode cX5_fill 22 = .ok (.iload_n 1, 1) := by decide +kernel
theorem dX5_fill_23 : decode cX5_fill 23 = .ok (.iaload, 1) := by decide +kernel
theorem dX5_fill_24 : decode cX5_fill 24 = .ok (.istore 4, 2) := by decide +kernel
theorem dX5_fill_26 : decode cX5_fill 26 = .ok (.aload_n 0, 1) := by decide +kernel
theorem dX5_fill_27 : decode cX5_fill 27 = .ok (.getfield 16, 3) := by decide +kernel
theorem dX5_fill_30 : decode cX5_fill 30 = .ok (.iload_n 2, 1) := by decide +kernel
theorem dX5_fill_31 : decode cX5_fill 31 = .ok (.iaload, 1) := by decide +kernel
theorem dX5_fill_32 : decode cX5_fill 32 = .ok (.ifCond .ge 9, 3) := by decide +kernel
theorem dX5_fill_35 : decode cX5_fill 35 = .ok (.aload_n 0, 1) := by decide +kernel
theorem dX5_fill_36 : decode cX5_fill 36 = .ok (.iconst 1, 1) := by decide +kernel
theorem dX5_fill_37 : decode cX5_fill 37 = .ok (.invokevirtual 96, 3) := by decide +kernel
theorem dX5_fill_40 : decode cX5_fill 40 = .ok (.ireturn, 1) := by decide +kernel
theorem dX5_fill_41 : decode cX5_fill 41 = .ok (.iload_n 3, 1) := by decide +kernel
theorem dX5_fill_42 : decode cX5_fill 42 = .ok (.ifCond .lt 20, 3) := by decide +kernel
theorem dX5_fill_45 : decode cX5_fill 45 = .ok (.iload_n 3, 1) := by decide +kernel
theorem dX5_fill_46 : decode cX5_fill 46 = .ok (.i2l, 1) := by decide +kernel
theorem dX5_fill_47 : decode cX5_fill 47 = .ok (.iload 4, 2) := by decide +kernel
theorem dX5_fill_49 : decode cX5_fill 49 = .ok (.i2l, 1) := by decide +kernel
theorem dX5_fill_50 : decode cX5_fill 50 = .ok (.ladd, 1) := by decide +kernel
theorem dX5_fill_51 : decode cX5_fill 51 = .ok (.aload_n 0, 1) := by decide +kernel
theorem dX5_fill_52 : decode cX5_fill 52 = .ok (.getfield 16, 3) := by decide +kernel
theorem dX5_fill_55 : decode cX5_fill 55 = .ok (.iload_n 2, 1) := by decide +kernel
theorem dX5_fill_56 : decode cX5_fill 56 = .ok (.iaload, 1) := by decide +kernel
theorem dX5_fill_57 : decode cX5_fill 57 = .ok (.i2l, 1) := by decide +kernel
theorem dX5_fill_58 : decode cX5_fill 58 = .ok (.lcmp, 1) := by decide +kernel
theorem dX5_fill_59 : decode cX5_fill 59 = .ok (.ifCond .le 9, 3) := by decide +kernel
theorem dX5_fill_62 : decode cX5_fill 62 = .ok (.aload_n 0, 1) := by decide +kernel
theorem dX5_fill_63 : decode cX5_fill 63 = .ok (.iconst 2, 1) := by decide +kernel
theorem dX5_fill_64 : decode cX5_fill 64 = .ok (.invokevirtual 96, 3) := by decide +kernel
theorem dX5_fill_67 : decode cX5_fill 67 = .ok (.ireturn, 1) := by decide +kernel
theorem dX5_fill_68 : decode cX5_fill 68 = .ok (.iconst 0, 1) := by decide +kernel
theorem dX5_fill_69 : decode cX5_fill 69 = .ok (.istore 5, 2) := by decide +kernel
theorem dX5_fill_71 : decode cX5_fill 71 = .ok (.iload 5, 2) := by decide +kernel
theorem dX5_fill_73 : decode cX5_fill 73 = .ok (.iload 4, 2) := by decide +kernel
theorem dX5_fill_75 : decode cX5_fill 75 = .ok (.if_icmp .ge 59, 3) := by decide +kernel
theorem dX5_fill_78 : decode cX5_fill 78 = .ok (.aload_n 0, 1) := by decide +kernel
theorem dX5_fill_79 : decode cX5_fill 79 = .ok (.getfield 19, 3) := by decide +kernel
theorem dX5_fill_82 : decode cX5_fill 82 = .ok (.bipush 24, 2) := by decide +kernel
theorem dX5_fill_84 : decode cX5_fill 84 = .ok (.iload_n 2, 1) := by decide +kernel
theorem dX5_fill_85 : decode cX5_fill 85 = .ok (.imul, 1) := by decide +kernel
theorem dX5_fill_86 : decode cX5_fill 86 = .ok (.iload_n 3, 1) := by decide +kernel
theorem dX5_fill_87 : decode cX5_fill 87 = .ok (.iadd, 1) := by decide +kernel
theorem dX5_fill_88 : decode cX5_fill 88 = .ok (.iload 5, 2) := by decide +kernel
theorem dX5_fill_90 : decode cX5_fill 90 = .ok (.iadd, 1) := by decide +kernel
theorem dX5_fill_91 : decode cX5_fill 91 = .ok (.laload, 1) := by decide +kernel
theorem dX5_fill_92 : decode cX5_fill 92 = .ok (.lstore 6, 2) := by decide +kernel
theorem dX5_fill_94 : decode cX5_fill 94 = .ok (.lload 6, 2) := by decide +kernel
theorem dX5_fill_96 : decode cX5_fill 96 = .ok (.ldc2_w 117, 3) := by decide +kernel
theorem dX5_fill_99 : decode cX5_fill 99 = .ok (.ldc2_w 119, 3) := by decide +kernel
theorem dX5_fill_102 : decode cX5_fill 102 = .ok (.invokestatic 81, 3) := by decide +kernel
theorem dX5_fill_105 : decode cX5_fill 105 = .ok (.ifCond .eq 20, 3) := by decide +kernel
theorem dX5_fill_108 : decode cX5_fill 108 = .ok (.lload 6, 2) := by decide +kernel
theorem dX5_fill_110 : decode cX5_fill 110 = .ok (.lconst 0, 1) := by decide +kernel
theorem dX5_fill_111 : decode cX5_fill 111 = .ok (.lcmp, 1) := by decide +kernel
theorem dX5_fill_112 : decode cX5_fill 112 = .ok (.ifCond .eq 16, 3) := by decide +kernel
theorem dX5_fill_115 : decode cX5_fill 115 = .ok (.aload_n 0, 1) := by decide +kernel
theorem dX5_fill_116 : decode cX5_fill 116 = .ok (.iload_n 1, 1) := by decide +kernel
theorem dX5_fill_117 : decode cX5_fill 117 = .ok (.iload 5, 2) := by decide +kernel
theorem dX5_fill_119 : decode cX5_fill 119 = .ok (.invokevirtual 125, 3) := by decide +kernel
theorem dX5_fill_122 : decode cX5_fill 122 = .ok (.ifCond .ne 6, 3) := by decide +kernel
theorem dX5_fill_125 : decode cX5_fill 125 = .ok (.bipush (-4), 2) := by decide +kernel
theorem dX5_fill_127 : decode cX5_fill 127 = .ok (.ireturn, 1) := by decide +kernel
theorem dX5_fill_128 : decode cX5_fill 128 = .ok (.iinc 5 1, 3) := by decide +kernel
theorem dX5_fill_131 : decode cX5_fill 131 = .ok (.goto (-60), 3) := by decide +kernel
theorem dX5_fill_134 : decode cX5_fill 134 = .ok (.iconst 0, 1) := by decide +kernel
theorem dX5_fill_135 : decode cX5_fill 135 = .ok (.istore 5, 2) := by decide +kernel
theorem dX5_fill_137 : decode cX5_fill 137 = .ok (.iload 5, 2) := by decide +kernel
theorem dX5_fill_139 : decode cX5_fill 139 = .ok (.iload 4, 2) := by decide +kernel
theorem dX5_fill_141 : decode cX5_fill 141 = .ok (.if_icmp .ge 35, 3) := by decide +kernel
theorem dX5_fill_144 : decode cX5_fill 144 = .ok (.aload_n 0, 1) := by decide +kernel
theorem dX5_fill_145 : decode cX5_fill 145 = .ok (.getfield 35, 3) := by decide +kernel
theorem dX5_fill_148 : decode cX5_fill 148 = .ok (.iconst 5, 1) := by decide +kernel
theorem dX5_fill_149 : decode cX5_fill 149 = .ok (.iload_n 1, 1) := by decide +kernel
theorem dX5_fill_150 : decode cX5_fill 150 = .ok (.imul, 1) := by decide +kernel
theorem dX5_fill_151 : decode cX5_fill 151 = .ok (.iload 5, 2) := by decide +kernel
theorem dX5_fill_153 : decode cX5_fill 153 = .ok (.iadd, 1) := by decide +kernel
theorem dX5_fill_154 : decode cX5_fill 154 = .ok (.aload_n 0, 1) := by decide +kernel
theorem dX5_fill_155 : decode cX5_fill 155 = .ok (.getfield 19, 3) := by decide +kernel
theorem dX5_fill_158 : decode cX5_fill 158 = .ok (.bipush 24, 2) := by decide +kernel
theorem dX5_fill_160 : decode cX5_fill 160 = .ok (.iload_n 2, 1) := by decide +kernel
theorem dX5_fill_161 : decode cX5_fill 161 = .ok (.imul, 1) := by decide +kernel
theorem dX5_fill_162 : decode cX5_fill 162 = .ok (.iload_n 3, 1) := by decide +kernel
theorem dX5_fill_163 : decode cX5_fill 163 = .ok (.iadd, 1) := by decide +kernel
theorem dX5_fill_164 : decode cX5_fill 164 = .ok (.iload 5, 2) := by decide +kernel
theorem dX5_fill_166 : decode cX5_fill 166 = .ok (.iadd, 1) := by decide +kernel
theorem dX5_fill_167 : decode cX5_fill 167 = .ok (.laload, 1) := by decide +kernel
theorem dX5_fill_168 : decode cX5_fill 168 = .ok (.l2i, 1) := by decide +kernel
theorem dX5_fill_169 : decode cX5_fill 169 = .ok (.iastore, 1) := by decide +kernel
theorem dX5_fill_170 : decode cX5_fill 170 = .ok (.iinc 5 1, 3) := by decide +kernel
theorem dX5_fill_173 : decode cX5_fill 173 = .ok (.goto (-36), 3) := by decide +kernel
theorem dX5_fill_176 : decode cX5_fill 176 = .ok (.iload 4, 2) := by decide +kernel
theorem dX5_fill_178 : decode cX5_fill 178 = .ok (.ireturn, 1) := by decide +kernel
theorem dX5_ask_0 : decode cX5_ask 0 = .ok (.aload_n 0, 1) := by decide +kernel
theorem dX5_ask_1 : decode cX5_ask 1 = .ok (.iload_n 1, 1) := by decide +kernel
theorem dX5_ask_2 : decode cX5_ask 2 = .ok (.invokevirtual 114, 3) := by decide +kernel
theorem dX5_ask_5 : decode cX5_ask 5 = .ok (.ifCond .ne 5, 3) := by decide +kernel
theorem dX5_ask_8 : decode cX5_ask 8 = .ok (.iconst (-1), 1) := by decide +kernel
theorem dX5_ask_9 : decode cX5_ask 9 = .ok (.ireturn, 1) := by decide +kernel
theorem dX5_ask_10 : decode cX5_ask 10 = .ok (.aload_n 0, 1) := by decide +kernel
theorem dX5_ask_11 : decode cX5_ask 11 = .ok (.iload_n 1, 1) := by decide +kernel
theorem dX5_ask_12 : decode cX5_ask 12 = .ok (.iload_n 2, 1) := by decide +kernel
theorem dX5_ask_13 : decode cX5_ask 13 = .ok (.invokevirtual 121, 3) := by decide +kernel
theorem dX5_ask_16 : decode cX5_ask 16 = .ok (.ifCond .ne 9, 3) := by decide +kernel
theorem dX5_ask_19 : decode cX5_ask 19 = .ok (.aload_n 0, 1) := by decide +kernel
theorem dX5_ask_20 : decode cX5_ask 20 = .ok (.iconst 2, 1) := by decide +kernel
theorem dX5_ask_21 : decode cX5_ask 21 = .ok (.invokevirtual 96, 3) := by decide +kernel
theorem dX5_ask_24 : decode cX5_ask 24 = .ok (.ireturn, 1) := by decide +kernel
theorem dX5_ask_25 : decode cX5_ask 25 = .ok (.iload_n 3, 1) := by decide +kernel
theorem dX5_ask_26 : decode cX5_ask 26 = .ok (.i2l, 1) := by decide +kernel
theorem dX5_ask_27 : decode cX5_ask 27 = .ok (.lconst 0, 1) := by decide +kernel
theorem dX5_ask_28 : decode cX5_ask 28 = .ok (.aload_n 0, 1) := by decide +kernel
theorem dX5_ask_29 : decode cX5_ask 29 = .ok (.getfield 29, 3) := by decide +kernel
theorem dX5_ask_32 : decode cX5_ask 32 = .ok (.iload_n 1, 1) := by decide +kernel
theorem dX5_ask_33 : decode cX5_ask 33 = .ok (.iaload, 1) := by decide +kernel
theorem dX5_ask_34 : decode cX5_ask 34 = .ok (.i2l, 1) := by decide +kernel
theorem dX5_ask_35 : decode cX5_ask 35 = .ok (.invokestatic 81, 3) := by decide +kernel
theorem dX5_ask_38 : decode cX5_ask 38 = .ok (.ifCond .ne 5, 3) := by decide +kernel
theorem dX5_ask_41 : decode cX5_ask 41 = .ok (.iconst (-1), 1) := by decide +kernel
theorem dX5_ask_42 : decode cX5_ask 42 = .ok (.ireturn, 1) := by decide +kernel
theorem dX5_ask_43 : decode cX5_ask 43 = .ok (.aload_n 0, 1) := by decide +kernel
theorem dX5_ask_44 : decode cX5_ask 44 = .ok (.iload_n 3, 1) := by decide +kernel
theorem dX5_ask_45 : decode cX5_ask 45 = .ok (.ifCond .ne 17, 3) := by decide +kernel
theorem dX5_ask_48 : decode cX5_ask 48 = .ok (.aload_n 0, 1) := by decide +kernel
theorem dX5_ask_49 : decode cX5_ask 49 = .ok (.getfield 35, 3) := by decide +kernel
theorem dX5_ask_52 : decode cX5_ask 52 = .ok (.iconst 5, 1) := by decide +kernel
theorem dX5_ask_53 : decode cX5_ask 53 = .ok (.iload_n 1, 1) := by decide +kernel
theorem dX5_ask_54 : decode cX5_ask 54 = .ok (.imul, 1) := by decide +kernel
theorem dX5_ask_55 : decode cX5_ask 55 = .ok (.iload_n 2, 1) := by decide +kernel
theorem dX5_ask_56 : decode cX5_ask 56 = .ok (.iadd, 1) := by decide +kernel
theorem dX5_ask_57 : decode cX5_ask 57 = .ok (.iaload, 1) := by decide +kernel
theorem dX5_ask_58 : decode cX5_ask 58 = .ok (.i2l, 1) := by decide +kernel
theorem dX5_ask_59 : decode cX5_ask 59 = .ok (.goto 21, 3) := by decide +kernel
theorem dX5_ask_62 : decode cX5_ask 62 = .ok (.aload_n 0, 1) := by decide +kernel
theorem dX5_ask_63 : decode cX5_ask 63 = .ok (.getfield 38, 3) := by decide +kernel
theorem dX5_ask_66 : decode cX5_ask 66 = .ok (.bipush 25, 2) := by decide +kernel
theorem dX5_ask_68 : decode cX5_ask 68 = .ok (.iload_n 1, 1) := by decide +kernel
theorem dX5_ask_69 : decode cX5_ask 69 = .ok (.imul, 1) := by decide +kernel
theorem dX5_ask_70 : decode cX5_ask 70 = .ok (.iconst 5, 1) := by decide +kernel
theorem dX5_ask_71 : decode cX5_ask 71 = .ok (.iload_n 2, 1) := by decide +kernel
theorem dX5_ask_72 : decode cX5_ask 72 = .ok (.imul, 1) := by decide +kernel
theorem dX5_ask_73 : decode cX5_ask 73 = .ok (.iadd, 1) := by decide +kernel
theorem dX5_ask_74 : decode cX5_ask 74 = .ok (.iload_n 3, 1) := by decide +kernel
theorem dX5_ask_75 : decode cX5_ask 75 = .ok (.iadd, 1) := by decide +kernel
theorem dX5_ask_76 : decode cX5_ask 76 = .ok (.iconst 1, 1) := by decide +kernel
theorem dX5_ask_77 : decode cX5_ask 77 = .ok (.isub, 1) := by decide +kernel
theorem dX5_ask_78 : decode cX5_ask 78 = .ok (.iaload, 1) := by decide +kernel
theorem dX5_ask_79 : decode cX5_ask 79 = .ok (.i2l, 1) := by decide +kernel
theorem dX5_ask_80 : decode cX5_ask 80 = .ok (.putfield 108, 3) := by decide +kernel
theorem dX5_ask_83 : decode cX5_ask 83 = .ok (.iconst 1, 1) := by decide +kernel
theorem dX5_ask_84 : decode cX5_ask 84 = .ok (.ireturn, 1) := by decide +kernel
theorem dX5_asked_0 : decode cX5_asked 0 = .ok (.aload_n 0, 1) := by decide +kernel
theorem dX5_asked_1 : decode cX5_asked 1 = .ok (.getfield 108, 3) := by decide +kernel
theorem dX5_asked_4 : decode cX5_asked 4 = .ok (.lreturn, 1) := by decide +kernel
theorem dX5_stand_0 : decode cX5_stand 0 = .ok (.aload_n 0, 1) := by decide +kernel
theorem dX5_stand_1 : decode cX5_stand 1 = .ok (.iload_n 1, 1) := by decide +kernel
theorem dX5_stand_2 : decode cX5_stand 2 = .ok (.invokevirtual 114, 3) := by decide +kernel
theorem dX5_stand_5 : decode cX5_stand 5 = .ok (.ifCond .ne 5, 3) := by decide +kernel
theorem dX5_stand_8 : decode cX5_stand 8 = .ok (.iconst (-1), 1) := by decide +kernel
theorem dX5_stand_9 : decode cX5_stand 9 = .ok (.ireturn, 1) := by decide +kernel
theorem dX5_stand_10 : decode cX5_stand 10 = .ok (.aload_n 0, 1) := by decide +kernel
theorem dX5_stand_11 : decode cX5_stand 11 = .ok (.iload_n 1, 1) := by decide +kernel
theorem dX5_stand_12 : decode cX5_stand 12 = .ok (.iload_n 2, 1) := by decide +kernel
theorem dX5_stand_13 : decode cX5_stand 13 = .ok (.invokevirtual 121, 3) := by decide +kernel
theorem dX5_stand_16 : decode cX5_stand 16 = .ok (.ifCond .ne 9, 3) := by decide +kernel
theorem dX5_stand_19 : decode cX5_stand 19 = .ok (.aload_n 0, 1) := by decide +kernel
theorem dX5_stand_20 : decode cX5_stand 20 = .ok (.iconst 2, 1) := by decide +kernel
theorem dX5_stand_21 : decode cX5_stand 21 = .ok (.invokevirtual 96, 3) := by decide +kernel
theorem dX5_stand_24 : decode cX5_stand 24 = .ok (.ireturn, 1) := by decide +kernel
theorem dX5_stand_25 : decode cX5_stand 25 = .ok (.aload_n 0, 1) := by decide +kernel
theorem dX5_stand_26 : decode cX5_stand 26 = .ok (.getfield 32, 3) := by decide +kernel
theorem dX5_stand_29 : decode cX5_stand 29 = .ok (.iload_n 1, 1) := by decide +kernel
theorem dX5_stand_30 : decode cX5_stand 30 = .ok (.iaload, 1) := by decide +kernel
theorem dX5_stand_31 : decode cX5_stand 31 = .ok (.istore_n 3, 1) := by decide +kernel
theorem dX5_stand_32 : decode cX5_stand 32 = .ok (.aload_n 0, 1) := by decide +kernel
theorem dX5_stand_33 : decode cX5_stand 33 = .ok (.getfield 32, 3) := by decide +kernel
theorem dX5_stand_36 : decode cX5_stand 36 = .ok (.iload_n 1, 1) := by decide +kernel
theorem dX5_stand_37 : decode cX5_stand 37 = .ok (.iload_n 2, 1) := by decide +kernel
theorem dX5_stand_38 : decode cX5_stand 38 = .ok (.iastore, 1) := by decide +kernel
theorem dX5_stand_39 : decode cX5_stand 39 = .ok (.iload_n 3, 1) := by decide +kernel
theorem dX5_stand_40 : decode cX5_stand 40 = .ok (.ireturn, 1) := by decide +kernel
theorem dX5_gcd_0 : decode cX5_gcd 0 = .ok (.lload_n 0, 1) := by decide +kernel
theorem dX5_gcd_1 : decode cX5_gcd 1 = .ok (.lconst 0, 1) := by decide +kernel
theorem dX5_gcd_2 : decode cX5_gcd 2 = .ok (.lcmp, 1) := by decide +kernel
theorem dX5_gcd_3 : decode cX5_gcd 3 = .ok (.ifCond .ge 8, 3) := by decide +kernel
theorem dX5_gcd_6 : decode cX5_gcd 6 = .ok (.lload_n 0, 1) := by decide +kernel
theorem dX5_gcd_7 : decode cX5_gcd 7 = .ok (.lneg, 1) := by decide +kernel
theorem dX5_gcd_8 : decode cX5_gcd 8 = .ok (.goto 4, 3) := by decide +kernel
theorem dX5_gcd_11 : decode cX5_gcd 11 = .ok (.lload_n 0, 1) := by decide +kernel
theorem dX5_gcd_12 : decode cX5_gcd 12 = .ok (.lstore 4, 2) := by decide +kernel
theorem dX5_gcd_14 : decode cX5_gcd 14 = .ok (.lload_n 2, 1) := by decide +kernel
theorem dX5_gcd_15 : decode cX5_gcd 15 = .ok (.lstore 6, 2) := by decide +kernel
theorem dX5_gcd_17 : decode cX5_gcd 17 = .ok (.lload 6, 2) := by decide +kernel
theorem dX5_gcd_19 : decode cX5_gcd 19 = .ok (.lconst 0, 1) := by decide +kernel
theorem dX5_gcd_20 : decode cX5_gcd 20 = .ok (.lcmp, 1) := by decide +kernel
theorem dX5_gcd_21 : decode cX5_gcd 21 = .ok (.ifCond .eq 21, 3) := by decide +kernel
theorem dX5_gcd_24 : decode cX5_gcd 24 = .ok (.lload 4, 2) := by decide +kernel
theorem dX5_gcd_26 : decode cX5_gcd 26 = .ok (.lload 6, 2) := by decide +kernel
theorem dX5_gcd_28 : decode cX5_gcd 28 = .ok (.lrem, 1) := by decide +kernel
theorem dX5_gcd_29 : decode cX5_gcd 29 = .ok (.lstore 8, 2) := by decide +kernel
theorem dX5_gcd_31 : decode cX5_gcd 31 = .ok (.lload 6, 2) := by decide +kernel
theorem dX5_gcd_33 : decode cX5_gcd 33 = .ok (.lstore 4, 2) := by decide +kernel
theorem dX5_gcd_35 : decode cX5_gcd 35 = .ok (.lload 8, 2) := by decide +kernel
theorem dX5_gcd_37 : decode cX5_gcd 37 = .ok (.lstore 6, 2) := by decide +kernel
theorem dX5_gcd_39 : decode cX5_gcd 39 = .ok (.goto (-22), 3) := by decide +kernel
theorem dX5_gcd_42 : decode cX5_gcd 42 = .ok (.lload 4, 2) := by decide +kernel
theorem dX5_gcd_44 : decode cX5_gcd 44 = .ok (.lreturn, 1) := by decide +kernel
theorem dX5_fraction_0 : decode cX5_fraction 0 = .ok (.lload_n 1, 1) := by decide +kernel
theorem dX5_fraction_1 : decode cX5_fraction 1 = .ok (.lload_n 3, 1) := by decide +kernel
theorem dX5_fraction_2 : decode cX5_fraction 2 = .ok (.invokestatic 136, 3) := by decide +kernel
theorem dX5_fraction_5 : decode cX5_fraction 5 = .ok (.lstore 5, 2) := by decide +kernel
theorem dX5_fraction_7 : decode cX5_fraction 7 = .ok (.aload_n 0, 1) := by decide +kernel
theorem dX5_fraction_8 : decode cX5_fraction 8 = .ok (.lload_n 1, 1) := by decide +kernel
theorem dX5_fraction_9 : decode cX5_fraction 9 = .ok (.lload 5, 2) := by decide +kernel
theorem dX5_fraction_11 : decode cX5_fraction 11 = .ok (.ldiv, 1) := by decide +kernel
theorem dX5_fraction_12 : decode cX5_fraction 12 = .ok (.putfield 140, 3) := by decide +kernel
theorem dX5_fraction_15 : decode cX5_fraction 15 = .ok (.aload_n 0, 1) := by decide +kernel
theorem dX5_fraction_16 : decode cX5_fraction 16 = .ok (.lload_n 3, 1) := by decide +kernel
theorem dX5_fraction_17 : decode cX5_fraction 17 = .ok (.lload 5, 2) := by decide +kernel
theorem dX5_fraction_19 : decode cX5_fraction 19 = .ok (.ldiv, 1) := by decide +kernel
theorem dX5_fraction_20 : decode cX5_fraction 20 = .ok (.putfield 143, 3) := by decide +kernel
theorem dX5_fraction_23 : decode cX5_fraction 23 = .ok (.return_, 1) := by decide +kernel
theorem dX5_tells_0 : decode cX5_tells 0 = .ok (.aload_n 0, 1) := by decide +kernel
theorem dX5_tells_1 : decode cX5_tells 1 = .ok (.aload_n 0, 1) := by decide +kernel
theorem dX5_tells_2 : decode cX5_tells 2 = .ok (.getfield 140, 3) := by decide +kernel
theorem dX5_tells_5 : decode cX5_tells 5 = .ok (.putfield 146, 3) := by decide +kernel
theorem dX5_tells_8 : decode cX5_tells 8 = .ok (.aload_n 0, 1) := by decide +kernel
theorem dX5_tells_9 : decode cX5_tells 9 = .ok (.aload_n 0, 1) := by decide +kernel
theorem dX5_tells_10 : decode cX5_tells 10 = .ok (.getfield 143, 3) := by decide +kernel
theorem dX5_tells_13 : decode cX5_tells 13 = .ok (.putfield 72, 3) := by decide +kernel
theorem dX5_tells_16 : decode cX5_tells 16 = .ok (.iconst 1, 1) := by decide +kernel
theorem dX5_tells_17 : decode cX5_tells 17 = .ok (.ireturn, 1) := by decide +kernel
theorem dX5_upper_0 : decode cX5_upper 0 = .ok (.aload_n 0, 1) := by decide +kernel
theorem dX5_upper_1 : decode cX5_upper 1 = .ok (.getfield 146, 3) := by decide +kernel
theorem dX5_upper_4 : decode cX5_upper 4 = .ok (.lreturn, 1) := by decide +kernel
theorem dX5_lower_0 : decode cX5_lower 0 = .ok (.aload_n 0, 1) := by decide +kernel
theorem dX5_lower_1 : decode cX5_lower 1 = .ok (.getfield 72, 3) := by decide +kernel
theorem dX5_lower_4 : decode cX5_lower 4 = .ok (.lreturn, 1) := by decide +kernel
theorem dX5_cutDown_0 : decode cX5_cutDown 0 = .ok (.lload_n 0, 1) := by decide +kernel
theorem dX5_cutDown_1 : decode cX5_cutDown 1 = .ok (.lload_n 2, 1) := by decide +kernel
theorem dX5_cutDown_2 : decode cX5_cutDown 2 = .ok (.ldiv, 1) := by decide +kernel
theorem dX5_cutDown_3 : decode cX5_cutDown 3 = .ok (.lstore 4, 2) := by decide +kernel
theorem dX5_cutDown_5 : decode cX5_cutDown 5 = .ok (.lload_n 0, 1) := by decide +kernel
theorem dX5_cutDown_6 : decode cX5_cutDown 6 = .ok (.lload_n 2, 1) := by decide +kernel
theorem dX5_cutDown_7 : decode cX5_cutDown 7 = .ok (.lrem, 1) := by decide +kernel
theorem dX5_cutDown_8 : decode cX5_cutDown 8 = .ok (.lconst 0, 1) := by decide +kernel
theorem dX5_cutDown_9 : decode cX5_cutDown 9 = .ok (.lcmp, 1) := by decide +kernel
theorem dX5_cutDown_10 : decode cX5_cutDown 10 = .ok (.ifCond .ge 10, 3) := by decide +kernel
theorem dX5_cutDown_13 : decode cX5_cutDown 13 = .ok (.lload 4, 2) := by decide +kernel
theorem dX5_cutDown_15 : decode cX5_cutDown 15 = .ok (.lconst 1, 1) := by decide +kernel
theorem dX5_cutDown_16 : decode cX5_cutDown 16 = .ok (.lsub, 1) := by decide +kernel
theorem dX5_cutDown_17 : decode cX5_cutDown 17 = .ok (.goto 5, 3) := by decide +kernel
theorem dX5_cutDown_20 : decode cX5_cutDown 20 = .ok (.lload 4, 2) := by decide +kernel
theorem dX5_cutDown_22 : decode cX5_cutDown 22 = .ok (.lreturn, 1) := by decide +kernel
theorem dX5_compared_0 : decode cX5_compared 0 = .ok (.lload_n 0, 1) := by decide +kernel
theorem dX5_compared_1 : decode cX5_compared 1 = .ok (.lstore 8, 2) := by decide +kernel
theorem dX5_compared_3 : decode cX5_compared 3 = .ok (.lload_n 2, 1) := by decide +kernel
theorem dX5_compared_4 : decode cX5_compared 4 = .ok (.lstore 10, 2) := by decide +kernel
theorem dX5_compared_6 : decode cX5_compared 6 = .ok (.lload 4, 2) := by decide +kernel
theorem dX5_compared_8 : decode cX5_compared 8 = .ok (.lstore 12, 2) := by decide +kernel
theorem dX5_compared_10 : decode cX5_compared 10 = .ok (.lload 6, 2) := by decide +kernel
theorem dX5_compared_12 : decode cX5_compared 12 = .ok (.lstore 14, 2) := by decide +kernel
theorem dX5_compared_14 : decode cX5_compared 14 = .ok (.iconst 1, 1) := by decide +kernel
theorem dX5_compared_15 : decode cX5_compared 15 = .ok (.istore 16, 2) := by decide +kernel
theorem dX5_compared_17 : decode cX5_compared 17 = .ok (.lload 8, 2) := by decide +kernel
theorem dX5_compared_19 : decode cX5_compared 19 = .ok (.lload 10, 2) := by decide +kernel
theorem dX5_compared_21 : decode cX5_compared 21 = .ok (.invokestatic 149, 3) := by decide +kernel
theorem dX5_compared_24 : decode cX5_compared 24 = .ok (.lstore 17, 2) := by decide +kernel
theorem dX5_compared_26 : decode cX5_compared 26 = .ok (.lload 12, 2) := by decide +kernel
theorem dX5_compared_28 : decode cX5_compared 28 = .ok (.lload 14, 2) := by decide +kernel
theorem dX5_compared_30 : decode cX5_compared 30 = .ok (.invokestatic 149, 3) := by decide +kernel
theorem dX5_compared_33 : decode cX5_compared 33 = .ok (.lstore 19, 2) := by decide +kernel
theorem dX5_compared_35 : decode cX5_compared 35 = .ok (.lload 17, 2) := by decide +kernel
theorem dX5_compared_37 : decode cX5_compared 37 = .ok (.lload 19, 2) := by decide +kernel
theorem dX5_compared_39 : decode cX5_compared 39 = .ok (.lcmp, 1) := by decide +kernel
theorem dX5_compared_40 : decode cX5_compared 40 = .ok (.ifCond .eq 20, 3) := by decide +kernel
theorem dX5_compared_43 : decode cX5_compared 43 = .ok (.lload 17, 2) := by decide +kernel
theorem dX5_compared_45 : decode cX5_compared 45 = .ok (.lload 19, 2) := by decide +kernel
theorem dX5_compared_47 : decode cX5_compared 47 = .ok (.lcmp, 1) := by decide +kernel
theorem dX5_compared_48 : decode cX5_compared 48 = .ok (.ifCond .le 8, 3) := by decide +kernel
theorem dX5_compared_51 : decode cX5_compared 51 = .ok (.iload 16, 2) := by decide +kernel
theorem dX5_compared_53 : decode cX5_compared 53 = .ok (.goto 6, 3) := by decide +kernel
theorem dX5_compared_56 : decode cX5_compared 56 = .ok (.iload 16, 2) := by decide +kernel
theorem dX5_compared_58 : decode cX5_compared 58 = .ok (.ineg, 1) := by decide +kernel
theorem dX5_compared_59 : decode cX5_compared 59 = .ok (.ireturn, 1) := by decide +kernel
theorem dX5_compared_60 : decode cX5_compared 60 = .ok (.lload 8, 2) := by decide +kernel
theorem dX5_compared_62 : decode cX5_compared 62 = .ok (.lload 17, 2) := by decide +kernel
theorem dX5_compared_64 : decode cX5_compared 64 = .ok (.lload 10, 2) := by decide +kernel
theorem dX5_compared_66 : decode cX5_compared 66 = .ok (.lmul, 1) := by decide +kernel
theorem dX5_compared_67 : decode cX5_compared 67 = .ok (.lsub, 1) := by decide +kernel
theorem dX5_compared_68 : decode cX5_compared 68 = .ok (.lstore 21, 2) := by decide +kernel
theorem dX5_compared_70 : decode cX5_compared 70 = .ok (.lload 12, 2) := by decide +kernel
theorem dX5_compared_72 : decode cX5_compared 72 = .ok (.lload 19, 2) := by decide +kernel
theorem dX5_compared_74 : decode cX5_compared 74 = .ok (.lload 14, 2) := by decide +kernel
theorem dX5_compared_76 : decode cX5_compared 76 = .ok (.lmul, 1) := by decide +kernel
theorem dX5_compared_77 : decode cX5_compared 77 = .ok (.lsub, 1) := by decide +kernel
theorem dX5_compared_78 : decode cX5_compared 78 = .ok (.lstore 23, 2) := by decide +kernel
theorem dX5_compared_80 : decode cX5_compared 80 = .ok (.lload 21, 2) := by decide +kernel
theorem dX5_compared_82 : decode cX5_compared 82 = .ok (.lconst 0, 1) := by decide +kernel
theorem dX5_compared_83 : decode cX5_compared 83 = .ok (.lcmp, 1) := by decide +kernel
theorem dX5_compared_84 : decode cX5_compared 84 = .ok (.ifCond .eq 10, 3) := by decide +kernel
theorem dX5_compared_87 : decode cX5_compared 87 = .ok (.lload 23, 2) := by decide +kernel
theorem dX5_compared_89 : decode cX5_compared 89 = .ok (.lconst 0, 1) := by decide +kernel
theorem dX5_compared_90 : decode cX5_compared 90 = .ok (.lcmp, 1) := by decide +kernel
theorem dX5_compared_91 : decode cX5_compared 91 = .ok (.ifCond .ne 31, 3) := by decide +kernel
theorem dX5_compared_94 : decode cX5_compared 94 = .ok (.lload 21, 2) := by decide +kernel
theorem dX5_compared_96 : decode cX5_compared 96 = .ok (.lload 23, 2) := by decide +kernel
theorem dX5_compared_98 : decode cX5_compared 98 = .ok (.lcmp, 1) := by decide +kernel
theorem dX5_compared_99 : decode cX5_compared 99 = .ok (.ifCond .ne 7, 3) := by decide +kernel
theorem dX5_compared_102 : decode cX5_compared 102 = .ok (.iconst 0, 1) := by decide +kernel
theorem dX5_compared_103 : decode cX5_compared 103 = .ok (.goto 18, 3) := by decide +kernel
theorem dX5_compared_106 : decode cX5_compared 106 = .ok (.lload 21, 2) := by decide +kernel
theorem dX5_compared_108 : decode cX5_compared 108 = .ok (.lconst 0, 1) := by decide +kernel
theorem dX5_compared_109 : decode cX5_compared 109 = .ok (.lcmp, 1) := by decide +kernel
theorem dX5_compared_110 : decode cX5_compared 110 = .ok (.ifCond .ne 9, 3) := by decide +kernel
theorem dX5_compared_113 : decode cX5_compared 113 = .ok (.iload 16, 2) := by decide +kernel
theorem dX5_compared_115 : decode cX5_compared 115 = .ok (.ineg, 1) := by decide +kernel
theorem dX5_compared_116 : decode cX5_compared 116 = .ok (.goto 5, 3) := by decide +kernel
theorem dX5_compared_119 : decode cX5_compared 119 = .ok (.iload 16, 2) := by decide +kernel
theorem dX5_compared_121 : decode cX5_compared 121 = .ok (.ireturn, 1) := by decide +kernel
theorem dX5_compared_122 : decode cX5_compared 122 = .ok (.lload 10, 2) := by decide +kernel
theorem dX5_compared_124 : decode cX5_compared 124 = .ok (.lstore 8, 2) := by decide +kernel
theorem dX5_compared_126 : decode cX5_compared 126 = .ok (.lload 21, 2) := by decide +kernel
theorem dX5_compared_128 : decode cX5_compared 128 = .ok (.lstore 10, 2) := by decide +kernel
theorem dX5_compared_130 : decode cX5_compared 130 = .ok (.lload 14, 2) := by decide +kernel
theorem dX5_compared_132 : decode cX5_compared 132 = .ok (.lstore 12, 2) := by decide +kernel
theorem dX5_compared_134 : decode cX5_compared 134 = .ok (.lload 23, 2) := by decide +kernel
theorem dX5_compared_136 : decode cX5_compared 136 = .ok (.lstore 14, 2) := by decide +kernel
theorem dX5_compared_138 : decode cX5_compared 138 = .ok (.iload 16, 2) := by decide +kernel
theorem dX5_compared_140 : decode cX5_compared 140 = .ok (.ineg, 1) := by decide +kernel
theorem dX5_compared_141 : decode cX5_compared 141 = .ok (.istore 16, 2) := by decide +kernel
theorem dX5_compared_143 : decode cX5_compared 143 = .ok (.goto (-126), 3) := by decide +kernel
theorem dX5_determinant_0 : decode cX5_determinant 0 = .ok (.iconst 0, 1) := by decide +kernel
theorem dX5_determinant_1 : decode cX5_determinant 1 = .ok (.istore_n 2, 1) := by decide +kernel
theorem dX5_determinant_2 : decode cX5_determinant 2 = .ok (.iload_n 2, 1) := by decide +kernel
theorem dX5_determinant_3 : decode cX5_determinant 3 = .ok (.bipush 32, 2) := by decide +kernel
theorem dX5_determinant_5 : decode cX5_determinant 5 = .ok (.if_icmp .ge 16, 3) := by decide +kernel
theorem dX5_determinant_8 : decode cX5_determinant 8 = .ok (.aload_n 0, 1) := by decide +kernel
theorem dX5_determinant_9 : decode cX5_determinant 9 = .ok (.getfield 47, 3) := by decide +kernel
theorem dX5_determinant_12 : decode cX5_determinant 12 = .ok (.iload_n 2, 1) := by decide +kernel
theorem dX5_determinant_13 : decode cX5_determinant 13 = .ok (.lconst 0, 1) := by decide +kernel
theorem dX5_determinant_14 : decode cX5_determinant 14 = .ok (.lastore, 1) := by decide +kernel
theorem dX5_determinant_15 : decode cX5_determinant 15 = .ok (.iinc 2 1, 3) := by decide +kernel
theorem dX5_determinant_18 : decode cX5_determinant 18 = .ok (.goto (-16), 3) := by decide +kernel
theorem dX5_determinant_21 : decode cX5_determinant 21 = .ok (.aload_n 0, 1) := by decide +kernel
theorem dX5_determinant_22 : decode cX5_determinant 22 = .ok (.getfield 47, 3) := by decide +kernel
theorem dX5_determinant_25 : decode cX5_determinant 25 = .ok (.iconst 0, 1) := by decide +kernel
theorem dX5_determinant_26 : decode cX5_determinant 26 = .ok (.lconst 1, 1) := by decide +kernel
theorem dX5_determinant_27 : decode cX5_determinant 27 = .ok (.lastore, 1) := by decide +kernel
theorem dX5_determinant_28 : decode cX5_determinant 28 = .ok (.iconst 0, 1) := by decide +kernel
theorem dX5_determinant_29 : decode cX5_determinant 29 = .ok (.istore_n 2, 1) := by decide +kernel
theorem dX5_determinant_30 : decode cX5_determinant 30 = .ok (.iload_n 2, 1) := by decide +kernel
theorem dX5_determinant_31 : decode cX5_determinant 31 = .ok (.iconst 1, 1) := by decide +kernel
theorem dX5_determinant_32 : decode cX5_determinant 32 = .ok (.iload_n 1, 1) := by decide +kernel
theorem dX5_determinant_33 : decode cX5_determinant 33 = .ok (.ishl, 1) := by decide +kernel
theorem dX5_determinant_34 : decode cX5_determinant 34 = .ok (.if_icmp .ge 146, 3) := by decide +kernel
theorem dX5_determinant_37 : decode cX5_determinant 37 = .ok (.iconst 0, 1) := by decide +kernel
theorem dX5_determinant_38 : decode cX5_determinant 38 = .ok (.istore_n 3, 1) := by decide +kernel
theorem dX5_determinant_39 : decode cX5_determinant 39 = .ok (.iconst 0, 1) := by decide +kernel
theorem dX5_determinant_40 : decode cX5_determinant 40 = .ok (.istore 4, 2) := by decide +kernel
theorem dX5_determinant_42 : decode cX5_determinant 42 = .ok (.iload 4, 2) := by decide +kernel
theorem dX5_determinant_44 : decode cX5_determinant 44 = .ok (.iload_n 1, 1) := by decide +kernel
theorem dX5_determinant_45 : decode cX5_determinant 45 = .ok (.if_icmp .ge 18, 3) := by decide +kernel
theorem dX5_determinant_48 : decode cX5_determinant 48 = .ok (.iload_n 3, 1) := by decide +kernel
theorem dX5_determinant_49 : decode cX5_determinant 49 = .ok (.iload_n 2, 1) := by decide +kernel
theorem dX5_determinant_50 : decode cX5_determinant 50 = .ok (.iload 4, 2) := by decide +kernel
theorem dX5_determinant_52 : decode cX5_determinant 52 = .ok (.ishr, 1) := by decide +kernel
theorem dX5_determinant_53 : decode cX5_determinant 53 = .ok (.iconst 1, 1) := by decide +kernel
theorem dX5_determinant_54 : decode cX5_determinant 54 = .ok (.iand, 1) := by decide +kernel
theorem dX5_determinant_55 : decode cX5_determinant 55 = .ok (.iadd, 1) := by decide +kernel
theorem dX5_determinant_56 : decode cX5_determinant 56 = .ok (.istore_n 3, 1) := by decide +kernel
theorem dX5_determinant_57 : decode cX5_determinant 57 = .ok (.iinc 4 1, 3) := by decide +kernel
theorem dX5_determinant_60 : decode cX5_determinant 60 = .ok (.goto (-18), 3) := by decide +kernel
theorem dX5_determinant_63 : decode cX5_determinant 63 = .ok (.iconst 0, 1) := by decide +kernel
theorem dX5_determinant_64 : decode cX5_determinant 64 = .ok (.istore 4, 2) := by decide +kernel
theorem dX5_determinant_66 : decode cX5_determinant 66 = .ok (.iload 4, 2) := by decide +kernel
theorem dX5_determinant_68 : decode cX5_determinant 68 = .ok (.iload_n 1, 1) := by decide +kernel
theorem dX5_determinant_69 : decode cX5_determinant 69 = .ok (.if_icmp .ge 105, 3) := by decide +kernel
theorem dX5_determinant_72 : decode cX5_determinant 72 = .ok (.iload_n 3, 1) := by decide +kernel
theorem dX5_determinant_73 : decode cX5_determinant 73 = .ok (.iload_n 1, 1) := by decide +kernel
theorem dX5_determinant_74 : decode cX5_determinant 74 = .ok (.if_icmp .ge 100, 3) := by decide +kernel
theorem dX5_determinant_77 : decode cX5_determinant 77 = .ok (.iload_n 2, 1) := by decide +kernel
theorem dX5_determinant_78 : decode cX5_determinant 78 = .ok (.iload 4, 2) := by decide +kernel
theorem dX5_determinant_80 : decode cX5_determinant 80 = .ok (.ishr, 1) := by decide +kernel
theorem dX5_determinant_81 : decode cX5_determinant 81 = .ok (.iconst 1, 1) := by decide +kernel
theorem dX5_determinant_82 : decode cX5_determinant 82 = .ok (.iand, 1) := by decide +kernel
theorem dX5_determinant_83 : decode cX5_determinant 83 = .ok (.ifCond .ne 85, 3) := by decide +kernel
theorem dX5_determinant_86 : decode cX5_determinant 86 = .ok (.iconst 0, 1) := by decide +kernel
theorem dX5_determinant_87 : decode cX5_determinant 87 = .ok (.istore 5, 2) := by decide +kernel
theorem dX5_determinant_89 : decode cX5_determinant 89 = .ok (.iload 4, 2) := by decide +kernel
theorem dX5_determinant_91 : decode cX5_determinant 91 = .ok (.iconst 1, 1) := by decide +kernel
theorem dX5_determinant_92 : decode cX5_determinant 92 = .ok (.iadd, 1) := by decide +kernel
theorem dX5_determinant_93 : decode cX5_determinant 93 = .ok (.istore 6, 2) := by decide +kernel
theorem dX5_determinant_95 : decode cX5_determinant 95 = .ok (.iload 6, 2) := by decide +kernel
theorem dX5_determinant_97 : decode cX5_determinant 97 = .ok (.iload_n 1, 1) := by decide +kernel
theorem dX5_determinant_98 : decode cX5_determinant 98 = .ok (.if_icmp .ge 20, 3) := by decide +kernel
theorem dX5_determinant_101 : decode cX5_determinant 101 = .ok (.iload 5, 2) := by decide +kernel
theorem dX5_determinant_103 : decode cX5_determinant 103 = .ok (.iload_n 2, 1) := by decide +kernel
theorem dX5_determinant_104 : decode cX5_determinant 104 = .ok (.iload 6, 2) := by decide +kernel
theorem dX5_determinant_106 : decode cX5_determinant 106 = .ok (.ishr, 1) := by decide +kernel
theorem dX5_determinant_107 : decode cX5_determinant 107 = .ok (.iconst 1, 1) := by decide +kernel
theorem dX5_determinant_108 : decode cX5_determinant 108 = .ok (.iand, 1) := by decide +kernel
theorem dX5_determinant_109 : decode cX5_determinant 109 = .ok (.iadd, 1) := by decide +kernel
theorem dX5_determinant_110 : decode cX5_determinant 110 = .ok (.istore 5, 2) := by decide +kernel
theorem dX5_determinant_112 : decode cX5_determinant 112 = .ok (.iinc 6 1, 3) := by decide +kernel
theorem dX5_determinant_115 : decode cX5_determinant 115 = .ok (.goto (-20), 3) := by decide +kernel
theorem dX5_determinant_118 : decode cX5_determinant 118 = .ok (.aload_n 0, 1) := by decide +kernel
theorem dX5_determinant_119 : decode cX5_determinant 119 = .ok (.getfield 47, 3) := by decide +kernel
theorem dX5_determinant_122 : decode cX5_determinant 122 = .ok (.iload_n 2, 1) := by decide +kernel
theorem dX5_determinant_123 : decode cX5_determinant 123 = .ok (.laload, 1) := by decide +kernel
theorem dX5_determinant_124 : decode cX5_determinant 124 = .ok (.aload_n 0, 1) := by decide +kernel
theorem dX5_determinant_125 : decode cX5_determinant 125 = .ok (.getfield 44, 3) := by decide +kernel
theorem dX5_determinant_128 : decode cX5_determinant 128 = .ok (.iconst 5, 1) := by decide +kernel
theorem dX5_determinant_129 : decode cX5_determinant 129 = .ok (.iload_n 3, 1) := by decide +kernel
theorem dX5_determinant_130 : decode cX5_determinant 130 = .ok (.imul, 1) := by decide +kernel
theorem dX5_determinant_131 : decode cX5_determinant 131 = .ok (.iload 4, 2) := by decide +kernel
theorem dX5_determinant_133 : decode cX5_determinant 133 = .ok (.iadd, 1) := by decide +kernel
theorem dX5_determinant_134 : decode cX5_determinant 134 = .ok (.laload, 1) := by decide +kernel
theorem dX5_determinant_135 : decode cX5_determinant 135 = .ok (.lmul, 1) := by decide +kernel
theorem dX5_determinant_136 : decode cX5_determinant 136 = .ok (.lstore 6, 2) := by decide +kernel
theorem dX5_determinant_138 : decode cX5_determinant 138 = .ok (.aload_n 0, 1) := by decide +kernel
theorem dX5_determinant_139 : decode cX5_determinant 139 = .ok (.getfield 47, 3) := by decide +kernel
theorem dX5_determinant_142 : decode cX5_determinant 142 = .ok (.iload_n 2, 1) := by decide +kernel
theorem dX5_determinant_143 : decode cX5_determinant 143 = .ok (.iconst 1, 1) := by decide +kernel
theorem dX5_determinant_144 : decode cX5_determinant 144 = .ok (.iload 4, 2) := by decide +kernel
theorem dX5_determinant_146 : decode cX5_determinant 146 = .ok (.ishl, 1) := by decide +kernel
theorem dX5_determinant_147 : decode cX5_determinant 147 = .ok (.ior, 1) := by decide +kernel
theorem dX5_determinant_148 : decode cX5_determinant 148 = .ok (.dup2, 1) := by decide +kernel
theorem dX5_determinant_149 : decode cX5_determinant 149 = .ok (.laload, 1) := by decide +kernel
theorem dX5_determinant_150 : decode cX5_determinant 150 = .ok (.iload 5, 2) := by decide +kernel
theorem dX5_determinant_152 : decode cX5_determinant 152 = .ok (.iconst 2, 1) := by decide +kernel
theorem dX5_determinant_153 : decode cX5_determinant 153 = .ok (.irem, 1) := by decide +kernel
theorem dX5_determinant_154 : decode cX5_determinant 154 = .ok (.iconst 1, 1) := by decide +kernel
theorem dX5_determinant_155 : decode cX5_determinant 155 = .ok (.if_icmp .ne 9, 3) := by decide +kernel
theorem dX5_determinant_158 : decode cX5_determinant 158 = .ok (.lload 6, 2) := by decide +kernel
theorem dX5_determinant_160 : decode cX5_determinant 160 = .ok (.lneg, 1) := by decide +kernel
theorem dX5_determinant_161 : decode cX5_determinant 161 = .ok (.goto 5, 3) := by decide +kernel
theorem dX5_determinant_164 : decode cX5_determinant 164 = .ok (.lload 6, 2) := by decide +kernel
theorem dX5_determinant_166 : decode cX5_determinant 166 = .ok (.ladd, 1) := by decide +kernel
theorem dX5_determinant_167 : decode cX5_determinant 167 = .ok (.lastore, 1) := by decide +kernel
theorem dX5_determinant_168 : decode cX5_determinant 168 = .ok (.iinc 4 1, 3) := by decide +kernel
theorem dX5_determinant_171 : decode cX5_determinant 171 = .ok (.goto (-105), 3) := by decide +kernel
theorem dX5_determinant_174 : decode cX5_determinant 174 = .ok (.iinc 2 1, 3) := by decide +kernel
theorem dX5_determinant_177 : decode cX5_determinant 177 = .ok (.goto (-147), 3) := by decide +kernel
theorem dX5_determinant_180 : decode cX5_determinant 180 = .ok (.aload_n 0, 1) := by decide +kernel
theorem dX5_determinant_181 : decode cX5_determinant 181 = .ok (.getfield 47, 3) := by decide +kernel
theorem dX5_determinant_184 : decode cX5_determinant 184 = .ok (.iconst 1, 1) := by decide +kernel
theorem dX5_determinant_185 : decode cX5_determinant 185 = .ok (.iload_n 1, 1) := by decide +kernel
theorem dX5_determinant_186 : decode cX5_determinant 186 = .ok (.ishl, 1) := by decide +kernel
theorem dX5_determinant_187 : decode cX5_determinant 187 = .ok (.iconst 1, 1) := by decide +kernel
theorem dX5_determinant_188 : decode cX5_determinant 188 = .ok (.isub, 1) := by decide +kernel
theorem dX5_determinant_189 : decode cX5_determinant 189 = .ok (.laload, 1) := by decide +kernel
theorem dX5_determinant_190 : decode cX5_determinant 190 = .ok (.lreturn, 1) := by decide +kernel
theorem dX5_layTable_0 : decode cX5_layTable 0 = .ok (.aload_n 0, 1) := by decide +kernel
theorem dX5_layTable_1 : decode cX5_layTable 1 = .ok (.getfield 29, 3) := by decide +kernel
theorem dX5_layTable_4 : decode cX5_layTable 4 = .ok (.iload_n 1, 1) := by decide +kernel
theorem dX5_layTable_5 : decode cX5_layTable 5 = .ok (.iaload, 1) := by decide +kernel
theorem dX5_layTable_6 : decode cX5_layTable 6 = .ok (.istore 5, 2) := by decide +kernel
theorem dX5_layTable_8 : decode cX5_layTable 8 = .ok (.iconst 0, 1) := by decide +kernel
theorem dX5_layTable_9 : decode cX5_layTable 9 = .ok (.istore 6, 2) := by decide +kernel
theorem dX5_layTable_11 : decode cX5_layTable 11 = .ok (.iload 6, 2) := by decide +kernel
theorem dX5_layTable_13 : decode cX5_layTable 13 = .ok (.iload 5, 2) := by decide +kernel
theorem dX5_layTable_15 : decode cX5_layTable 15 = .ok (.if_icmp .ge 147, 3) := by decide +kernel
theorem dX5_layTable_18 : decode cX5_layTable 18 = .ok (.aload_n 0, 1) := by decide +kernel
theorem dX5_layTable_19 : decode cX5_layTable 19 = .ok (.getfield 66, 3) := by decide +kernel
theorem dX5_layTable_22 : decode cX5_layTable 22 = .ok (.i2l, 1) := by decide +kernel
theorem dX5_layTable_23 : decode cX5_layTable 23 = .ok (.aload_n 0, 1) := by decide +kernel
theorem dX5_layTable_24 : decode cX5_layTable 24 = .ok (.iload_n 1, 1) := by decide +kernel
theorem dX5_layTable_25 : decode cX5_layTable 25 = .ok (.iload 6, 2) := by decide +kernel
theorem dX5_layTable_27 : decode cX5_layTable 27 = .ok (.invokevirtual 133, 3) := by decide +kernel
theorem dX5_layTable_30 : decode cX5_layTable 30 = .ok (.i2l, 1) := by decide +kernel
theorem dX5_layTable_31 : decode cX5_layTable 31 = .ok (.lmul, 1) := by decide +kernel
theorem dX5_layTable_32 : decode cX5_layTable 32 = .ok (.lstore 7, 2) := by decide +kernel
theorem dX5_layTable_34 : decode cX5_layTable 34 = .ok (.iconst 0, 1) := by decide +kernel
theorem dX5_layTable_35 : decode cX5_layTable 35 = .ok (.istore 9, 2) := by decide +kernel
theorem dX5_layTable_37 : decode cX5_layTable 37 = .ok (.iload 9, 2) := by decide +kernel
theorem dX5_layTable_39 : decode cX5_layTable 39 = .ok (.iload 5, 2) := by decide +kernel
theorem dX5_layTable_41 : decode cX5_layTable 41 = .ok (.if_icmp .ge 115, 3) := by decide +kernel
theorem dX5_layTable_44 : decode cX5_layTable 44 = .ok (.iload 6, 2) := by decide +kernel
theorem dX5_layTable_46 : decode cX5_layTable 46 = .ok (.iload 9, 2) := by decide +kernel
theorem dX5_layTable_48 : decode cX5_layTable 48 = .ok (.if_icmp .ne 8, 3) := by decide +kernel
theorem dX5_layTable_51 : decode cX5_layTable 51 = .ok (.lload 7, 2) := by decide +kernel
theorem dX5_layTable_53 : decode cX5_layTable 53 = .ok (.goto 4, 3) := by decide +kernel
theorem dX5_layTable_56 : decode cX5_layTable 56 = .ok (.lconst 0, 1) := by decide +kernel
theorem dX5_layTable_57 : decode cX5_layTable 57 = .ok (.lstore 10, 2) := by decide +kernel
theorem dX5_layTable_59 : decode cX5_layTable 59 = .ok (.lload 10, 2) := by decide +kernel
theorem dX5_layTable_61 : decode cX5_layTable 61 = .ok (.iload_n 2, 1) := by decide +kernel
theorem dX5_layTable_62 : decode cX5_layTable 62 = .ok (.iload 9, 2) := by decide +kernel
theorem dX5_layTable_64 : decode cX5_layTable 64 = .ok (.ishr, 1) := by decide +kernel
theorem dX5_layTable_65 : decode cX5_layTable 65 = .ok (.iconst 1, 1) := by decide +kernel
theorem dX5_layTable_66 : decode cX5_layTable 66 = .ok (.iand, 1) := by decide +kernel
theorem dX5_layTable_67 : decode cX5_layTable 67 = .ok (.iconst 1, 1) := by decide +kernel
theorem dX5_layTable_68 : decode cX5_layTable 68 = .ok (.if_icmp .ne 30, 3) := by decide +kernel
theorem dX5_layTable_71 : decode cX5_layTable 71 = .ok (.aload_n 0, 1) := by decide +kernel
theorem dX5_layTable_72 : decode cX5_layTable 72 = .ok (.getfield 62, 3) := by decide +kernel
theorem dX5_layTable_75 : decode cX5_layTable 75 = .ok (.i2l, 1) := by decide +kernel
theorem dX5_layTable_76 : decode cX5_layTable 76 = .ok (.aload_n 0, 1) := by decide +kernel
theorem dX5_layTable_77 : decode cX5_layTable 77 = .ok (.getfield 38, 3) := by decide +kernel
theorem dX5_layTable_80 : decode cX5_layTable 80 = .ok (.bipush 25, 2) := by decide +kernel
theorem dX5_layTable_82 : decode cX5_layTable 82 = .ok (.iload_n 1, 1) := by decide +kernel
theorem dX5_layTable_83 : decode cX5_layTable 83 = .ok (.imul, 1) := by decide +kernel
theorem dX5_layTable_84 : decode cX5_layTable 84 = .ok (.iconst 5, 1) := by decide +kernel
theorem dX5_layTable_85 : decode cX5_layTable 85 = .ok (.iload 6, 2) := by decide +kernel
theorem dX5_layTable_87 : decode cX5_layTable 87 = .ok (.imul, 1) := by decide +kernel
theorem dX5_layTable_88 : decode cX5_layTable 88 = .ok (.iadd, 1) := by decide +kernel
theorem dX5_layTable_89 : decode cX5_layTable 89 = .ok (.iload 9, 2) := by decide +kernel
theorem dX5_layTable_91 : decode cX5_layTable 91 = .ok (.iadd, 1) := by decide +kernel
theorem dX5_layTable_92 : decode cX5_layTable 92 = .ok (.iaload, 1) := by decide +kernel
theorem dX5_layTable_93 : decode cX5_layTable 93 = .ok (.i2l, 1) := by decide +kernel
theorem dX5_layTable_94 : decode cX5_layTable 94 = .ok (.lmul, 1) := by decide +kernel
theorem dX5_layTable_95 : decode cX5_layTable 95 = .ok (.goto 4, 3) := by decide +kernel
theorem dX5_layTable_98 : decode cX5_layTable 98 = .ok (.lconst 0, 1) := by decide +kernel
theorem dX5_layTable_99 : decode cX5_layTable 99 = .ok (.lsub, 1) := by decide +kernel
theorem dX5_layTable_100 : decode cX5_layTable 100 = .ok (.lstore 10, 2) := by decide +kernel
theorem dX5_layTable_102 : decode cX5_layTable 102 = .ok (.aload_n 0, 1) := by decide +kernel
theorem dX5_layTable_103 : decode cX5_layTable 103 = .ok (.getfield 44, 3) := by decide +kernel
theorem dX5_layTable_106 : decode cX5_layTable 106 = .ok (.iconst 5, 1) := by decide +kernel
theorem dX5_layTable_107 : decode cX5_layTable 107 = .ok (.iload 6, 2) := by decide +kernel
theorem dX5_layTable_109 : decode cX5_layTable 109 = .ok (.imul, 1) := by decide +kernel
theorem dX5_layTable_110 : decode cX5_layTable 110 = .ok (.iload 9, 2) := by decide +kernel
theorem dX5_layTable_112 : decode cX5_layTable 112 = .ok (.iadd, 1) := by decide +kernel
theorem dX5_layTable_113 : decode cX5_layTable 113 = .ok (.iload 9, 2) := by decide +kernel
theorem dX5_layTable_115 : decode cX5_layTable 115 = .ok (.iload_n 3, 1) := by decide +kernel
theorem dX5_layTable_116 : decode cX5_layTable 116 = .ok (.if_icmp .eq 8, 3) := by decide +kernel
theorem dX5_layTable_119 : decode cX5_layTable 119 = .ok (.lload 10, 2) := by decide +kernel
theorem dX5_layTable_121 : decode cX5_layTable 121 = .ok (.goto 28, 3) := by decide +kernel
theorem dX5_layTable_124 : decode cX5_layTable 124 = .ok (.iload 4, 2) := by decide +kernel
theorem dX5_layTable_126 : decode cX5_layTable 126 = .ok (.ifCond .eq 21, 3) := by decide +kernel
theorem dX5_layTable_129 : decode cX5_layTable 129 = .ok (.lload 7, 2) := by decide +kernel
theorem dX5_layTable_131 : decode cX5_layTable 131 = .ok (.aload_n 0, 1) := by decide +kernel
theorem dX5_layTable_132 : decode cX5_layTable 132 = .ok (.getfield 35, 3) := by decide +kernel
theorem dX5_layTable_135 : decode cX5_layTable 135 = .ok (.iconst 5, 1) := by decide +kernel
theorem dX5_layTable_136 : decode cX5_layTable 136 = .ok (.iload_n 1, 1) := by decide +kernel
theorem dX5_layTable_137 : decode cX5_layTable 137 = .ok (.imul, 1) := by decide +kernel
theorem dX5_layTable_138 : decode cX5_layTable 138 = .ok (.iload 6, 2) := by decide +kernel
theorem dX5_layTable_140 : decode cX5_layTable 140 = .ok (.iadd, 1) := by decide +kernel
theorem dX5_layTable_141 : decode cX5_layTable 141 = .ok (.iaload, 1) := by decide +kernel
theorem dX5_layTable_142 : decode cX5_layTable 142 = .ok (.i2l, 1) := by decide +kernel
theorem dX5_layTable_143 : decode cX5_layTable 143 = .ok (.lmul, 1) := by decide +kernel
theorem dX5_layTable_144 : decode cX5_layTable 144 = .ok (.goto 5, 3) := by decide +kernel
theorem dX5_layTable_147 : decode cX5_layTable 147 = .ok (.lload 7, 2) := by decide +kernel
theorem dX5_layTable_149 : decode cX5_layTable 149 = .ok (.lastore, 1) := by decide +kernel
theorem dX5_layTable_150 : decode cX5_layTable 150 = .ok (.iinc 9 1, 3) := by decide +kernel
theorem dX5_layTable_153 : decode cX5_layTable 153 = .ok (.goto (-116), 3) := by decide +kernel
theorem dX5_layTable_156 : decode cX5_layTable 156 = .ok (.iinc 6 1, 3) := by decide +kernel
theorem dX5_layTable_159 : decode cX5_layTable 159 = .ok (.goto (-148), 3) := by decide +kernel
theorem dX5_layTable_162 : decode cX5_layTable 162 = .ok (.return_, 1) := by decide +kernel
theorem dX5_value_0 : decode cX5_value 0 = .ok (.aload_n 0, 1) := by decide +kernel
theorem dX5_value_1 : decode cX5_value 1 = .ok (.iload_n 1, 1) := by decide +kernel
theorem dX5_value_2 : decode cX5_value 2 = .ok (.iload_n 3, 1) := by decide +kernel
theorem dX5_value_3 : decode cX5_value 3 = .ok (.iload_n 2, 1) := by decide +kernel
theorem dX5_value_4 : decode cX5_value 4 = .ok (.iconst 1, 1) := by decide +kernel
theorem dX5_value_5 : decode cX5_value 5 = .ok (.invokevirtual 152, 3) := by decide +kernel
theorem dX5_value_8 : decode cX5_value 8 = .ok (.aload_n 0, 1) := by decide +kernel
theorem dX5_value_9 : decode cX5_value 9 = .ok (.aload_n 0, 1) := by decide +kernel
theorem dX5_value_10 : decode cX5_value 10 = .ok (.getfield 29, 3) := by decide +kernel
theorem dX5_value_13 : decode cX5_value 13 = .ok (.iload_n 1, 1) := by decide +kernel
theorem dX5_value_14 : decode cX5_value 14 = .ok (.iaload, 1) := by decide +kernel
theorem dX5_value_15 : decode cX5_value 15 = .ok (.invokevirtual 156, 3) := by decide +kernel
theorem dX5_value_18 : decode cX5_value 18 = .ok (.lstore 4, 2) := by decide +kernel
theorem dX5_value_20 : decode cX5_value 20 = .ok (.aload_n 0, 1) := by decide +kernel
theorem dX5_value_21 : decode cX5_value 21 = .ok (.iload_n 1, 1) := by decide +kernel
theorem dX5_value_22 : decode cX5_value 22 = .ok (.iload_n 3, 1) := by decide +kernel
theorem dX5_value_23 : decode cX5_value 23 = .ok (.iload_n 2, 1) := by decide +kernel
theorem dX5_value_24 : decode cX5_value 24 = .ok (.iconst 0, 1) := by decide +kernel
theorem dX5_value_25 : decode cX5_value 25 = .ok (.invokevirtual 152, 3) := by decide +kernel
theorem dX5_value_28 : decode cX5_value 28 = .ok (.aload_n 0, 1) := by decide +kernel
theorem dX5_value_29 : decode cX5_value 29 = .ok (.aload_n 0, 1) := by decide +kernel
theorem dX5_value_30 : decode cX5_value 30 = .ok (.getfield 29, 3) := by decide +kernel
theorem dX5_value_33 : decode cX5_value 33 = .ok (.iload_n 1, 1) := by decide +kernel
theorem dX5_value_34 : decode cX5_value 34 = .ok (.iaload, 1) := by decide +kernel
theorem dX5_value_35 : decode cX5_value 35 = .ok (.invokevirtual 156, 3) := by decide +kernel
theorem dX5_value_38 : decode cX5_value 38 = .ok (.lstore 6, 2) := by decide +kernel
theorem dX5_value_40 : decode cX5_value 40 = .ok (.aload_n 0, 1) := by decide +kernel
theorem dX5_value_41 : decode cX5_value 41 = .ok (.lload 4, 2) := by decide +kernel
theorem dX5_value_43 : decode cX5_value 43 = .ok (.lload 6, 2) := by decide +kernel
theorem dX5_value_45 : decode cX5_value 45 = .ok (.invokevirtual 160, 3) := by decide +kernel
theorem dX5_value_48 : decode cX5_value 48 = .ok (.return_, 1) := by decide +kernel
theorem dX5_worthOf_0 : decode cX5_worthOf 0 = .ok (.aload_n 0, 1) := by decide +kernel
theorem dX5_worthOf_1 : decode cX5_worthOf 1 = .ok (.iload_n 1, 1) := by decide +kernel
theorem dX5_worthOf_2 : decode cX5_worthOf 2 = .ok (.iload_n 2, 1) := by decide +kernel
theorem dX5_worthOf_3 : decode cX5_worthOf 3 = .ok (.iconst 0, 1) := by decide +kernel
theorem dX5_worthOf_4 : decode cX5_worthOf 4 = .ok (.invokevirtual 164, 3) := by decide +kernel
theorem dX5_worthOf_7 : decode cX5_worthOf 7 = .ok (.aload_n 0, 1) := by decide +kernel
theorem dX5_worthOf_8 : decode cX5_worthOf 8 = .ok (.getfield 140, 3) := by decide +kernel
theorem dX5_worthOf_11 : decode cX5_worthOf 11 = .ok (.lstore_n 3, 1) := by decide +kernel
theorem dX5_worthOf_12 : decode cX5_worthOf 12 = .ok (.aload_n 0, 1) := by decide +kernel
theorem dX5_worthOf_13 : decode cX5_worthOf 13 = .ok (.getfield 143, 3) := by decide +kernel
theorem dX5_worthOf_16 : decode cX5_worthOf 16 = .ok (.lstore 5, 2) := by decide +kernel
theorem dX5_worthOf_18 : decode cX5_worthOf 18 = .ok (.iconst 1, 1) := by decide +kernel
theorem dX5_worthOf_19 : decode cX5_worthOf 19 = .ok (.istore 7, 2) := by decide +kernel
theorem dX5_worthOf_21 : decode cX5_worthOf 21 = .ok (.iload 7, 2) := by decide +kernel
theorem dX5_worthOf_23 : decode cX5_worthOf 23 = .ok (.iconst 1, 1) := by decide +kernel
theorem dX5_worthOf_24 : decode cX5_worthOf 24 = .ok (.aload_n 0, 1) := by decide +kernel
theorem dX5_worthOf_25 : decode cX5_worthOf 25 = .ok (.getfield 29, 3) := by decide +kernel
theorem dX5_worthOf_28 : decode cX5_worthOf 28 = .ok (.iload_n 1, 1) := by decide +kernel
theorem dX5_worthOf_29 : decode cX5_worthOf 29 = .ok (.iaload, 1) := by decide +kernel
theorem dX5_worthOf_30 : decode cX5_worthOf 30 = .ok (.ishl, 1) := by decide +kernel
theorem dX5_worthOf_31 : decode cX5_worthOf 31 = .ok (.if_icmp .ge 45, 3) := by decide +kernel
theorem dX5_worthOf_34 : decode cX5_worthOf 34 = .ok (.aload_n 0, 1) := by decide +kernel
theorem dX5_worthOf_35 : decode cX5_worthOf 35 = .ok (.iload_n 1, 1) := by decide +kernel
theorem dX5_worthOf_36 : decode cX5_worthOf 36 = .ok (.iload_n 2, 1) := by decide +kernel
theorem dX5_worthOf_37 : decode cX5_worthOf 37 = .ok (.iload 7, 2) := by decide +kernel
theorem dX5_worthOf_39 : decode cX5_worthOf 39 = .ok (.invokevirtual 164, 3) := by decide +kernel
theorem dX5_worthOf_42 : decode cX5_worthOf 42 = .ok (.aload_n 0, 1) := by decide +kernel
theorem dX5_worthOf_43 : decode cX5_worthOf 43 = .ok (.getfield 140, 3) := by decide +kernel
theorem dX5_worthOf_46 : decode cX5_worthOf 46 = .ok (.aload_n 0, 1) := by decide +kernel
theorem dX5_worthOf_47 : decode cX5_worthOf 47 = .ok (.getfield 143, 3) := by decide +kernel
theorem dX5_worthOf_50 : decode cX5_worthOf 50 = .ok (.lload_n 3, 1) := by decide +kernel
theorem dX5_worthOf_51 : decode cX5_worthOf 51 = .ok (.lload 5, 2) := by decide +kernel
theorem dX5_worthOf_53 : decode cX5_worthOf 53 = .ok (.invokestatic 168, 3) := by decide +kernel
theorem dX5_worthOf_56 : decode cX5_worthOf 56 = .ok (.ifCond .le 14, 3) := by decide +kernel
theorem dX5_worthOf_59 : decode cX5_worthOf 59 = .ok (.aload_n 0, 1) := by decide +kernel
theorem dX5_worthOf_60 : decode cX5_worthOf 60 = .ok (.getfield 140, 3) := by decide +kernel
theorem dX5_worthOf_63 : decode cX5_worthOf 63 = .ok (.lstore_n 3, 1) := by decide +kernel
theorem dX5_worthOf_64 : decode cX5_worthOf 64 = .ok (.aload_n 0, 1) := by decide +kernel
theorem dX5_worthOf_65 : decode cX5_worthOf 65 = .ok (.getfield 143, 3) := by decide +kernel
theorem dX5_worthOf_68 : decode cX5_worthOf 68 = .ok (.lstore 5, 2) := by decide +kernel
theorem dX5_worthOf_70 : decode cX5_worthOf 70 = .ok (.iinc 7 1, 3) := by decide +kernel
theorem dX5_worthOf_73 : decode cX5_worthOf 73 = .ok (.goto (-52), 3) := by decide +kernel
theorem dX5_worthOf_76 : decode cX5_worthOf 76 = .ok (.aload_n 0, 1) := by decide +kernel
theorem dX5_worthOf_77 : decode cX5_worthOf 77 = .ok (.lload_n 3, 1) := by decide +kernel
theorem dX5_worthOf_78 : decode cX5_worthOf 78 = .ok (.putfield 140, 3) := by decide +kernel
theorem dX5_worthOf_81 : decode cX5_worthOf 81 = .ok (.aload_n 0, 1) := by decide +kernel
theorem dX5_worthOf_82 : decode cX5_worthOf 82 = .ok (.lload 5, 2) := by decide +kernel
theorem dX5_worthOf_84 : decode cX5_worthOf 84 = .ok (.putfield 143, 3) := by decide +kernel
theorem dX5_worthOf_87 : decode cX5_worthOf 87 = .ok (.return_, 1) := by decide +kernel
theorem dX5_need_0 : decode cX5_need 0 = .ok (.aload_n 0, 1) := by decide +kernel
theorem dX5_need_1 : decode cX5_need 1 = .ok (.iload_n 1, 1) := by decide +kernel
theorem dX5_need_2 : decode cX5_need 2 = .ok (.invokevirtual 114, 3) := by decide +kernel
theorem dX5_need_5 : decode cX5_need 5 = .ok (.ifCond .ne 7, 3) := by decide +kernel
theorem dX5_need_8 : decode cX5_need 8 = .ok (.iconst (-1), 1) := by decide +kernel
theorem dX5_need_9 : decode cX5_need 9 = .ok (.goto 21, 3) := by decide +kernel
theorem dX5_need_12 : decode cX5_need 12 = .ok (.aload_n 0, 1) := by decide +kernel
theorem dX5_need_13 : decode cX5_need 13 = .ok (.iload_n 1, 1) := by decide +kernel
theorem dX5_need_14 : decode cX5_need 14 = .ok (.iload_n 2, 1) := by decide +kernel
theorem dX5_need_15 : decode cX5_need 15 = .ok (.invokevirtual 121, 3) := by decide +kernel
theorem dX5_need_18 : decode cX5_need 18 = .ok (.ifCond .ne 11, 3) := by decide +kernel
theorem dX5_need_21 : decode cX5_need 21 = .ok (.aload_n 0, 1) := by decide +kernel
theorem dX5_need_22 : decode cX5_need 22 = .ok (.iconst 2, 1) := by decide +kernel
theorem dX5_need_23 : decode cX5_need 23 = .ok (.invokevirtual 96, 3) := by decide +kernel
theorem dX5_need_26 : decode cX5_need 26 = .ok (.goto 4, 3) := by decide +kernel
theorem dX5_need_29 : decode cX5_need 29 = .ok (.iconst 0, 1) := by decide +kernel
theorem dX5_need_30 : decode cX5_need 30 = .ok (.ireturn, 1) := by decide +kernel
theorem dX5_worth_0 : decode cX5_worth 0 = .ok (.aload_n 0, 1) := by decide +kernel
theorem dX5_worth_1 : decode cX5_worth 1 = .ok (.iload_n 1, 1) := by decide +kernel
theorem dX5_worth_2 : decode cX5_worth 2 = .ok (.iload_n 2, 1) := by decide +kernel
theorem dX5_worth_3 : decode cX5_worth 3 = .ok (.invokevirtual 172, 3) := by decide +kernel
theorem dX5_worth_6 : decode cX5_worth 6 = .ok (.istore_n 3, 1) := by decide +kernel
theorem dX5_worth_7 : decode cX5_worth 7 = .ok (.iload_n 3, 1) := by decide +kernel
theorem dX5_worth_8 : decode cX5_worth 8 = .ok (.ifCond .ge 5, 3) := by decide +kernel
theorem dX5_worth_11 : decode cX5_worth 11 = .ok (.iload_n 3, 1) := by decide +kernel
theorem dX5_worth_12 : decode cX5_worth 12 = .ok (.ireturn, 1) := by decide +kernel
theorem dX5_worth_13 : decode cX5_worth 13 = .ok (.aload_n 0, 1) := by decide +kernel
theorem dX5_worth_14 : decode cX5_worth 14 = .ok (.iload_n 1, 1) := by decide +kernel
theorem dX5_worth_15 : decode cX5_worth 15 = .ok (.iload_n 2, 1) := by decide +kernel
theorem dX5_worth_16 : decode cX5_worth 16 = .ok (.invokevirtual 175, 3) := by decide +kernel
theorem dX5_worth_19 : decode cX5_worth 19 = .ok (.aload_n 0, 1) := by decide +kernel
theorem dX5_worth_20 : decode cX5_worth 20 = .ok (.invokevirtual 179, 3) := by decide +kernel
theorem dX5_worth_23 : decode cX5_worth 23 = .ok (.ireturn, 1) := by decide +kernel
theorem dX5_way_0 : decode cX5_way 0 = .ok (.iload_n 3, 1) := by decide +kernel
theorem dX5_way_1 : decode cX5_way 1 = .ok (.i2l, 1) := by decide +kernel
theorem dX5_way_2 : decode cX5_way 2 = .ok (.lconst 0, 1) := by decide +kernel
theorem dX5_way_3 : decode cX5_way 3 = .ok (.ldc2_w 183, 3) := by decide +kernel
theorem dX5_way_6 : decode cX5_way 6 = .ok (.invokestatic 81, 3) := by decide +kernel
theorem dX5_way_9 : decode cX5_way 9 = .ok (.ifCond .ne 5, 3) := by decide +kernel
theorem dX5_way_12 : decode cX5_way 12 = .ok (.iconst (-1), 1) := by decide +kernel
theorem dX5_way_13 : decode cX5_way 13 = .ok (.ireturn, 1) := by decide +kernel
theorem dX5_way_14 : decode cX5_way 14 = .ok (.aload_n 0, 1) := by decide +kernel
theorem dX5_way_15 : decode cX5_way 15 = .ok (.iload_n 1, 1) := by decide +kernel
theorem dX5_way_16 : decode cX5_way 16 = .ok (.iload_n 2, 1) := by decide +kernel
theorem dX5_way_17 : decode cX5_way 17 = .ok (.invokevirtual 172, 3) := by decide +kernel
theorem dX5_way_20 : decode cX5_way 20 = .ok (.istore 4, 2) := by decide +kernel
theorem dX5_way_22 : decode cX5_way 22 = .ok (.iload 4, 2) := by decide +kernel
theorem dX5_way_24 : decode cX5_way 24 = .ok (.ifCond .ge 6, 3) := by decide +kernel
theorem dX5_way_27 : decode cX5_way 27 = .ok (.iload 4, 2) := by decide +kernel
theorem dX5_way_29 : decode cX5_way 29 = .ok (.ireturn, 1) := by decide +kernel
theorem dX5_way_30 : decode cX5_way 30 = .ok (.aload_n 0, 1) := by decide +kernel
theorem dX5_way_31 : decode cX5_way 31 = .ok (.iload_n 1, 1) := by decide +kernel
theorem dX5_way_32 : decode cX5_way 32 = .ok (.iload_n 2, 1) := by decide +kernel
theorem dX5_way_33 : decode cX5_way 33 = .ok (.iload_n 3, 1) := by decide +kernel
theorem dX5_way_34 : decode cX5_way 34 = .ok (.invokevirtual 164, 3) := by decide +kernel
theorem dX5_way_37 : decode cX5_way 37 = .ok (.aload_n 0, 1) := by decide +kernel
theorem dX5_way_38 : decode cX5_way 38 = .ok (.invokevirtual 179, 3) := by decide +kernel
theorem dX5_way_41 : decode cX5_way 41 = .ok (.ireturn, 1) := by decide +kernel
theorem dX5_layWorths_0 : decode cX5_layWorths 0 = .ok (.iconst 0, 1) := by decide +kernel
theorem dX5_layWorths_1 : decode cX5_layWorths 1 = .ok (.istore_n 2, 1) := by decide +kernel
theorem dX5_layWorths_2 : decode cX5_layWorths 2 = .ok (.iload_n 2, 1) := by decide +kernel
theorem dX5_layWorths_3 : decode cX5_layWorths 3 = .ok (.aload_n 0, 1) := by decide +kernel
theorem dX5_layWorths_4 : decode cX5_layWorths 4 = .ok (.getfield 29, 3) := by decide +kernel
theorem dX5_layWorths_7 : decode cX5_layWorths 7 = .ok (.iload_n 1, 1) := by decide +kernel
theorem dX5_layWorths_8 : decode cX5_layWorths 8 = .ok (.iaload, 1) := by decide +kernel
theorem dX5_layWorths_9 : decode cX5_layWorths 9 = .ok (.if_icmp .ge 35, 3) := by decide +kernel
theorem dX5_layWorths_12 : decode cX5_layWorths 12 = .ok (.aload_n 0, 1) := by decide +kernel
theorem dX5_layWorths_13 : decode cX5_layWorths 13 = .ok (.iload_n 1, 1) := by decide +kernel
theorem dX5_layWorths_14 : decode cX5_layWorths 14 = .ok (.iload_n 2, 1) := by decide +kernel
theorem dX5_layWorths_15 : decode cX5_layWorths 15 = .ok (.invokevirtual 175, 3) := by decide +kernel
theorem dX5_layWorths_18 : decode cX5_layWorths 18 = .ok (.aload_n 0, 1) := by decide +kernel
theorem dX5_layWorths_19 : decode cX5_layWorths 19 = .ok (.getfield 50, 3) := by decide +kernel
theorem dX5_layWorths_22 : decode cX5_layWorths 22 = .ok (.iload_n 2, 1) := by decide +kernel
theorem dX5_layWorths_23 : decode cX5_layWorths 23 = .ok (.aload_n 0, 1) := by decide +kernel
theorem dX5_layWorths_24 : decode cX5_layWorths 24 = .ok (.getfield 140, 3) := by decide +kernel
theorem dX5_layWorths_27 : decode cX5_layWorths 27 = .ok (.lastore, 1) := by decide +kernel
theorem dX5_layWorths_28 : decode cX5_layWorths 28 = .ok (.aload_n 0, 1) := by decide +kernel
theorem dX5_layWorths_29 : decode cX5_layWorths 29 = .ok (.getfield 53, 3) := by decide +kernel
theorem dX5_layWorths_32 : decode cX5_layWorths 32 = .ok (.iload_n 2, 1) := by decide +kernel
theorem dX5_layWorths_33 : decode cX5_layWorths 33 = .ok (.aload_n 0, 1) := by decide +kernel
theorem dX5_layWorths_34 : decode cX5_layWorths 34 = .ok (.getfield 143, 3) := by decide +kernel
theorem dX5_layWorths_37 : decode cX5_layWorths 37 = .ok (.lastore, 1) := by decide +kernel
theorem dX5_layWorths_38 : decode cX5_layWorths 38 = .ok (.iinc 2 1, 3) := by decide +kernel
theorem dX5_layWorths_41 : decode cX5_layWorths 41 = .ok (.goto (-39), 3) := by decide +kernel
theorem dX5_layWorths_44 : decode cX5_layWorths 44 = .ok (.return_, 1) := by decide +kernel
theorem dX5_between_0 : decode cX5_between 0 = .ok (.aload_n 0, 1) := by decide +kernel
theorem dX5_between_1 : decode cX5_between 1 = .ok (.getfield 50, 3) := by decide +kernel
theorem dX5_between_4 : decode cX5_between 4 = .ok (.iload_n 1, 1) := by decide +kernel
theorem dX5_between_5 : decode cX5_between 5 = .ok (.laload, 1) := by decide +kernel
theorem dX5_between_6 : decode cX5_between 6 = .ok (.aload_n 0, 1) := by decide +kernel
theorem dX5_between_7 : decode cX5_between 7 = .ok (.getfield 53, 3) := by decide +kernel
theorem dX5_between_10 : decode cX5_between 10 = .ok (.iload_n 1, 1) := by decide +kernel
theorem dX5_between_11 : decode cX5_between 11 = .ok (.laload, 1) := by decide +kernel
theorem dX5_between_12 : decode cX5_between 12 = .ok (.aload_n 0, 1) := by decide +kernel
theorem dX5_between_13 : decode cX5_between 13 = .ok (.getfield 50, 3) := by decide +kernel
theorem dX5_between_16 : decode cX5_between 16 = .ok (.iload_n 2, 1) := by decide +kernel
theorem dX5_between_17 : decode cX5_between 17 = .ok (.laload, 1) := by decide +kernel
theorem dX5_between_18 : decode cX5_between 18 = .ok (.aload_n 0, 1) := by decide +kernel
theorem dX5_between_19 : decode cX5_between 19 = .ok (.getfield 53, 3) := by decide +kernel
theorem dX5_between_22 : decode cX5_between 22 = .ok (.iload_n 2, 1) := by decide +kernel
theorem dX5_between_23 : decode cX5_between 23 = .ok (.laload, 1) := by decide +kernel
theorem dX5_between_24 : decode cX5_between 24 = .ok (.invokestatic 168, 3) := by decide +kernel
theorem dX5_between_27 : decode cX5_between 27 = .ok (.ireturn, 1) := by decide +kernel
theorem dX5_order_0 : decode cX5_order 0 = .ok (.aload_n 0, 1) := by decide +kernel
theorem dX5_order_1 : decode cX5_order 1 = .ok (.iload_n 1, 1) := by decide +kernel
theorem dX5_order_2 : decode cX5_order 2 = .ok (.invokevirtual 114, 3) := by decide +kernel
theorem dX5_order_5 : decode cX5_order 5 = .ok (.ifCond .ne 5, 3) := by decide +kernel
theorem dX5_order_8 : decode cX5_order 8 = .ok (.iconst (-1), 1) := by decide +kernel
theorem dX5_order_9 : decode cX5_order 9 = .ok (.ireturn, 1) := by decide +kernel
theorem dX5_order_10 : decode cX5_order 10 = .ok (.iload_n 2, 1) := by decide +kernel
theorem dX5_order_11 : decode cX5_order 11 = .ok (.i2l, 1) := by decide +kernel
theorem dX5_order_12 : decode cX5_order 12 = .ok (.lconst 0, 1) := by decide +kernel
theorem dX5_order_13 : decode cX5_order 13 = .ok (.aload_n 0, 1) := by decide +kernel
theorem dX5_order_14 : decode cX5_order 14 = .ok (.getfield 29, 3) := by decide +kernel
theorem dX5_order_17 : decode cX5_order 17 = .ok (.iload_n 1, 1) := by decide +kernel
theorem dX5_order_18 : decode cX5_order 18 = .ok (.iaload, 1) := by decide +kernel
theorem dX5_order_19 : decode cX5_order 19 = .ok (.iconst 1, 1) := by decide +kernel
theorem dX5_order_20 : decode cX5_order 20 = .ok (.isub, 1) := by decide +kernel
theorem dX5_order_21 : decode cX5_order 21 = .ok (.i2l, 1) := by decide +kernel
theorem dX5_order_22 : decode cX5_order 22 = .ok (.invokestatic 81, 3) := by decide +kernel
theorem dX5_order_25 : decode cX5_order 25 = .ok (.ifCond .ne 6, 3) := by decide +kernel
theorem dX5_order_28 : decode cX5_order 28 = .ok (.bipush (-9), 2) := by decide +kernel
theorem dX5_order_30 : decode cX5_order 30 = .ok (.ireturn, 1) := by decide +kernel
theorem dX5_order_31 : decode cX5_order 31 = .ok (.aload_n 0, 1) := by decide +kernel
theorem dX5_order_32 : decode cX5_order 32 = .ok (.iload_n 1, 1) := by decide +kernel
theorem dX5_order_33 : decode cX5_order 33 = .ok (.invokevirtual 185, 3) := by decide +kernel
theorem dX5_order_36 : decode cX5_order 36 = .ok (.iconst 0, 1) := by decide +kernel
theorem dX5_order_37 : decode cX5_order 37 = .ok (.istore_n 3, 1) := by decide +kernel
theorem dX5_order_38 : decode cX5_order 38 = .ok (.iload_n 3, 1) := by decide +kernel
theorem dX5_order_39 : decode cX5_order 39 = .ok (.aload_n 0, 1) := by decide +kernel
theorem dX5_order_40 : decode cX5_order 40 = .ok (.getfield 29, 3) := by decide +kernel
theorem dX5_order_43 : decode cX5_order 43 = .ok (.iload_n 1, 1) := by decide +kernel
theorem dX5_order_44 : decode cX5_order 44 = .ok (.iaload, 1) := by decide +kernel
theorem dX5_order_45 : decode cX5_order 45 = .ok (.if_icmp .ge 64, 3) := by decide +kernel
theorem dX5_order_48 : decode cX5_order 48 = .ok (.iload_n 3, 1) := by decide +kernel
theorem dX5_order_49 : decode cX5_order 49 = .ok (.istore 4, 2) := by decide +kernel
theorem dX5_order_51 : decode cX5_order 51 = .ok (.iload 4, 2) := by decide +kernel
theorem dX5_order_53 : decode cX5_order 53 = .ok (.ifCond .le 42, 3) := by decide +kernel
theorem dX5_order_56 : decode cX5_order 56 = .ok (.aload_n 0, 1) := by decide +kernel
theorem dX5_order_57 : decode cX5_order 57 = .ok (.iload_n 3, 1) := by decide +kernel
theorem dX5_order_58 : decode cX5_order 58 = .ok (.aload_n 0, 1) := by decide +kernel
theorem dX5_order_59 : decode cX5_order 59 = .ok (.getfield 56, 3) := by decide +kernel
theorem dX5_order_62 : decode cX5_order 62 = .ok (.iload 4, 2) := by decide +kernel
theorem dX5_order_64 : decode cX5_order 64 = .ok (.iconst 1, 1) := by decide +kernel
theorem dX5_order_65 : decode cX5_order 65 = .ok (.isub, 1) := by decide +kernel
theorem dX5_order_66 : decode cX5_order 66 = .ok (.iaload, 1) := by decide +kernel
theorem dX5_order_67 : decode cX5_order 67 = .ok (.invokevirtual 189, 3) := by decide +kernel
theorem dX5_order_70 : decode cX5_order 70 = .ok (.ifCond .le 25, 3) := by decide +kernel
theorem dX5_order_73 : decode cX5_order 73 = .ok (.aload_n 0, 1) := by decide +kernel
theorem dX5_order_74 : decode cX5_order 74 = .ok (.getfield 56, 3) := by decide +kernel
theorem dX5_order_77 : decode cX5_order 77 = .ok (.iload 4, 2) := by decide +kernel
theorem dX5_order_79 : decode cX5_order 79 = .ok (.aload_n 0, 1) := by decide +kernel
theorem dX5_order_80 : decode cX5_order 80 = .ok (.getfield 56, 3) := by decide +kernel
theorem dX5_order_83 : decode cX5_order 83 = .ok (.iload 4, 2) := by decide +kernel
theorem dX5_order_85 : decode cX5_order 85 = .ok (.iconst 1, 1) := by decide +kernel
theorem dX5_order_86 : decode cX5_order 86 = .ok (.isub, 1) := by decide +kernel
theorem dX5_order_87 : decode cX5_order 87 = .ok (.iaload, 1) := by decide +kernel
theorem dX5_order_88 : decode cX5_order 88 = .ok (.iastore, 1) := by decide +kernel
theorem dX5_order_89 : decode cX5_order 89 = .ok (.iinc 4 (-1), 3) := by decide +kernel
theorem dX5_order_92 : decode cX5_order 92 = .ok (.goto (-41), 3) := by decide +kernel
theorem dX5_order_95 : decode cX5_order 95 = .ok (.aload_n 0, 1) := by decide +kernel
theorem dX5_order_96 : decode cX5_order 96 = .ok (.getfield 56, 3) := by decide +kernel
theorem dX5_order_99 : decode cX5_order 99 = .ok (.iload 4, 2) := by decide +kernel
theorem dX5_order_101 : decode cX5_order 101 = .ok (.iload_n 3, 1) := by decide +kernel
theorem dX5_order_102 : decode cX5_order 102 = .ok (.iastore, 1) := by decide +kernel
theorem dX5_order_103 : decode cX5_order 103 = .ok (.iinc 3 1, 3) := by decide +kernel
theorem dX5_order_106 : decode cX5_order 106 = .ok (.goto (-68), 3) := by decide +kernel
theorem dX5_order_109 : decode cX5_order 109 = .ok (.aload_n 0, 1) := by decide +kernel
theorem dX5_order_110 : decode cX5_order 110 = .ok (.getfield 56, 3) := by decide +kernel
theorem dX5_order_113 : decode cX5_order 113 = .ok (.iload_n 2, 1) := by decide +kernel
theorem dX5_order_114 : decode cX5_order 114 = .ok (.iaload, 1) := by decide +kernel
theorem dX5_order_115 : decode cX5_order 115 = .ok (.ireturn, 1) := by decide +kernel
theorem dX5_goes_0 : decode cX5_goes 0 = .ok (.aload_n 0, 1) := by decide +kernel
theorem dX5_goes_1 : decode cX5_goes 1 = .ok (.iload_n 1, 1) := by decide +kernel
theorem dX5_goes_2 : decode cX5_goes 2 = .ok (.iload_n 2, 1) := by decide +kernel
theorem dX5_goes_3 : decode cX5_goes 3 = .ok (.invokevirtual 172, 3) := by decide +kernel
theorem dX5_goes_6 : decode cX5_goes 6 = .ok (.istore_n 3, 1) := by decide +kernel
theorem dX5_goes_7 : decode cX5_goes 7 = .ok (.iload_n 3, 1) := by decide +kernel
theorem dX5_goes_8 : decode cX5_goes 8 = .ok (.ifCond .ge 5, 3) := by decide +kernel
theorem dX5_goes_11 : decode cX5_goes 11 = .ok (.iload_n 3, 1) := by decide +kernel
theorem dX5_goes_12 : decode cX5_goes 12 = .ok (.ireturn, 1) := by decide +kernel
theorem dX5_goes_13 : decode cX5_goes 13 = .ok (.aload_n 0, 1) := by decide +kernel
theorem dX5_goes_14 : decode cX5_goes 14 = .ok (.iload_n 1, 1) := by decide +kernel
theorem dX5_goes_15 : decode cX5_goes 15 = .ok (.invokevirtual 185, 3) := by decide +kernel
theorem dX5_goes_18 : decode cX5_goes 18 = .ok (.iconst 0, 1) := by decide +kernel
theorem dX5_goes_19 : decode cX5_goes 19 = .ok (.istore 4, 2) := by decide +kernel
theorem dX5_goes_21 : decode cX5_goes 21 = .ok (.iconst 0, 1) := by decide +kernel
theorem dX5_goes_22 : decode cX5_goes 22 = .ok (.istore 5, 2) := by decide +kernel
theorem dX5_goes_24 : decode cX5_goes 24 = .ok (.iload 5, 2) := by decide +kernel
theorem dX5_goes_26 : decode cX5_goes 26 = .ok (.aload_n 0, 1) := by decide +kernel
theorem dX5_goes_27 : decode cX5_goes 27 = .ok (.getfield 29, 3) := by decide +kernel
theorem dX5_goes_30 : decode cX5_goes 30 = .ok (.iload_n 1, 1) := by decide +kernel
theorem dX5_goes_31 : decode cX5_goes 31 = .ok (.iaload, 1) := by decide +kernel
theorem dX5_goes_32 : decode cX5_goes 32 = .ok (.if_icmp .ge 32, 3) := by decide +kernel
theorem dX5_goes_35 : decode cX5_goes 35 = .ok (.iload 4, 2) := by decide +kernel
theorem dX5_goes_37 : decode cX5_goes 37 = .ok (.aload_n 0, 1) := by decide +kernel
theorem dX5_goes_38 : decode cX5_goes 38 = .ok (.iload 5, 2) := by decide +kernel
theorem dX5_goes_40 : decode cX5_goes 40 = .ok (.iload_n 2, 1) := by decide +kernel
theorem dX5_goes_41 : decode cX5_goes 41 = .ok (.invokevirtual 189, 3) := by decide +kernel
theorem dX5_goes_44 : decode cX5_goes 44 = .ok (.ifCond .lt 10, 3) := by decide +kernel
theorem dX5_goes_47 : decode cX5_goes 47 = .ok (.iconst 1, 1) := by decide +kernel
theorem dX5_goes_48 : decode cX5_goes 48 = .ok (.iload 5, 2) := by decide +kernel
theorem dX5_goes_50 : decode cX5_goes 50 = .ok (.ishl, 1) := by decide +kernel
theorem dX5_goes_51 : decode cX5_goes 51 = .ok (.goto 4, 3) := by decide +kernel
theorem dX5_goes_54 : decode cX5_goes 54 = .ok (.iconst 0, 1) := by decide +kernel
theorem dX5_goes_55 : decode cX5_goes 55 = .ok (.ior, 1) := by decide +kernel
theorem dX5_goes_56 : decode cX5_goes 56 = .ok (.istore 4, 2) := by decide +kernel
theorem dX5_goes_58 : decode cX5_goes 58 = .ok (.iinc 5 1, 3) := by decide +kernel
theorem dX5_goes_61 : decode cX5_goes 61 = .ok (.goto (-37), 3) := by decide +kernel
theorem dX5_goes_64 : decode cX5_goes 64 = .ok (.iload 4, 2) := by decide +kernel
theorem dX5_goes_66 : decode cX5_goes 66 = .ok (.ireturn, 1) := by decide +kernel
theorem dX5_even_0 : decode cX5_even 0 = .ok (.aload_n 0, 1) := by decide +kernel
theorem dX5_even_1 : decode cX5_even 1 = .ok (.iload_n 1, 1) := by decide +kernel
theorem dX5_even_2 : decode cX5_even 2 = .ok (.invokevirtual 114, 3) := by decide +kernel
theorem dX5_even_5 : decode cX5_even 5 = .ok (.ifCond .eq 30, 3) := by decide +kernel
theorem dX5_even_8 : decode cX5_even 8 = .ok (.iload_n 3, 1) := by decide +kernel
theorem dX5_even_9 : decode cX5_even 9 = .ok (.i2l, 1) := by decide +kernel
theorem dX5_even_10 : decode cX5_even 10 = .ok (.ldc2_w 192, 3) := by decide +kernel
theorem dX5_even_13 : decode cX5_even 13 = .ok (.ldc2_w 194, 3) := by decide +kernel
theorem dX5_even_16 : decode cX5_even 16 = .ok (.invokestatic 81, 3) := by decide +kernel
theorem dX5_even_19 : decode cX5_even 19 = .ok (.ifCond .eq 16, 3) := by decide +kernel
theorem dX5_even_22 : decode cX5_even 22 = .ok (.iload 4, 2) := by decide +kernel
theorem dX5_even_24 : decode cX5_even 24 = .ok (.i2l, 1) := by decide +kernel
theorem dX5_even_25 : decode cX5_even 25 = .ok (.lconst 0, 1) := by decide +kernel
theorem dX5_even_26 : decode cX5_even 26 = .ok (.ldc2_w 194, 3) := by decide +kernel
theorem dX5_even_29 : decode cX5_even 29 = .ok (.invokestatic 81, 3) := by decide +kernel
theorem dX5_even_32 : decode cX5_even 32 = .ok (.ifCond .ne 5, 3) := by decide +kernel
theorem dX5_even_35 : decode cX5_even 35 = .ok (.iconst (-1), 1) := by decide +kernel
theorem dX5_even_36 : decode cX5_even 36 = .ok (.ireturn, 1) := by decide +kernel
theorem dX5_even_37 : decode cX5_even 37 = .ok (.aload_n 0, 1) := by decide +kernel
theorem dX5_even_38 : decode cX5_even 38 = .ok (.iload_n 1, 1) := by decide +kernel
theorem dX5_even_39 : decode cX5_even 39 = .ok (.iload_n 2, 1) := by decide +kernel
theorem dX5_even_40 : decode cX5_even 40 = .ok (.invokevirtual 121, 3) := by decide +kernel
theorem dX5_even_43 : decode cX5_even 43 = .ok (.ifCond .ne 9, 3) := by decide +kernel
theorem dX5_even_46 : decode cX5_even 46 = .ok (.aload_n 0, 1) := by decide +kernel
theorem dX5_even_47 : decode cX5_even 47 = .ok (.iconst 2, 1) := by decide +kernel
theorem dX5_even_48 : decode cX5_even 48 = .ok (.invokevirtual 96, 3) := by decide +kernel
theorem dX5_even_51 : decode cX5_even 51 = .ok (.ireturn, 1) := by decide +kernel
theorem dX5_even_52 : decode cX5_even 52 = .ok (.iload 4, 2) := by decide +kernel
theorem dX5_even_54 : decode cX5_even 54 = .ok (.ifCond .ne 9, 3) := by decide +kernel
theorem dX5_even_57 : decode cX5_even 57 = .ok (.aload_n 0, 1) := by decide +kernel
theorem dX5_even_58 : decode cX5_even 58 = .ok (.iconst 4, 1) := by decide +kernel
theorem dX5_even_59 : decode cX5_even 59 = .ok (.invokevirtual 96, 3) := by decide +kernel
theorem dX5_even_62 : decode cX5_even 62 = .ok (.ireturn, 1) := by decide +kernel
theorem dX5_even_63 : decode cX5_even 63 = .ok (.aload_n 0, 1) := by decide +kernel
theorem dX5_even_64 : decode cX5_even 64 = .ok (.iload_n 1, 1) := by decide +kernel
theorem dX5_even_65 : decode cX5_even 65 = .ok (.iload_n 2, 1) := by decide +kernel
theorem dX5_even_66 : decode cX5_even 66 = .ok (.invokevirtual 175, 3) := by decide +kernel
theorem dX5_even_69 : decode cX5_even 69 = .ok (.aload_n 0, 1) := by decide +kernel
theorem dX5_even_70 : decode cX5_even 70 = .ok (.getfield 140, 3) := by decide +kernel
theorem dX5_even_73 : decode cX5_even 73 = .ok (.aload_n 0, 1) := by decide +kernel
theorem dX5_even_74 : decode cX5_even 74 = .ok (.getfield 143, 3) := by decide +kernel
theorem dX5_even_77 : decode cX5_even 77 = .ok (.iload_n 3, 1) := by decide +kernel
theorem dX5_even_78 : decode cX5_even 78 = .ok (.i2l, 1) := by decide +kernel
theorem dX5_even_79 : decode cX5_even 79 = .ok (.iload 4, 2) := by decide +kernel
theorem dX5_even_81 : decode cX5_even 81 = .ok (.i2l, 1) := by decide +kernel
theorem dX5_even_82 : decode cX5_even 82 = .ok (.invokestatic 168, 3) := by decide +kernel
theorem dX5_even_85 : decode cX5_even 85 = .ok (.istore 5, 2) := by decide +kernel
theorem dX5_even_87 : decode cX5_even 87 = .ok (.iload 5, 2) := by decide +kernel
theorem dX5_even_89 : decode cX5_even 89 = .ok (.ifCond .le 7, 3) := by decide +kernel
theorem dX5_even_92 : decode cX5_even 92 = .ok (.iconst 1, 1) := by decide +kernel
theorem dX5_even_93 : decode cX5_even 93 = .ok (.goto 13, 3) := by decide +kernel
theorem dX5_even_96 : decode cX5_even 96 = .ok (.iload 5, 2) := by decide +kernel
theorem dX5_even_98 : decode cX5_even 98 = .ok (.ifCond .ne 7, 3) := by decide +kernel
theorem dX5_even_101 : decode cX5_even 101 = .ok (.iconst 0, 1) := by decide +kernel
theorem dX5_even_102 : decode cX5_even 102 = .ok (.goto 4, 3) := by decide +kernel
theorem dX5_even_105 : decode cX5_even 105 = .ok (.iconst 2, 1) := by decide +kernel
theorem dX5_even_106 : decode cX5_even 106 = .ok (.ireturn, 1) := by decide +kernel
theorem dX5_better_0 : decode cX5_better 0 = .ok (.aload_n 0, 1) := by decide +kernel
theorem dX5_better_1 : decode cX5_better 1 = .ok (.iload_n 1, 1) := by decide +kernel
theorem dX5_better_2 : decode cX5_better 2 = .ok (.iload_n 2, 1) := by decide +kernel
theorem dX5_better_3 : decode cX5_better 3 = .ok (.invokevirtual 172, 3) := by decide +kernel
theorem dX5_better_6 : decode cX5_better 6 = .ok (.istore_n 3, 1) := by decide +kernel
theorem dX5_better_7 : decode cX5_better 7 = .ok (.iload_n 3, 1) := by decide +kernel
theorem dX5_better_8 : decode cX5_better 8 = .ok (.ifCond .ge 5, 3) := by decide +kernel
theorem dX5_better_11 : decode cX5_better 11 = .ok (.iload_n 3, 1) := by decide +kernel
theorem dX5_better_12 : decode cX5_better 12 = .ok (.ireturn, 1) := by decide +kernel
theorem dX5_better_13 : decode cX5_better 13 = .ok (.aload_n 0, 1) := by decide +kernel
theorem dX5_better_14 : decode cX5_better 14 = .ok (.iload_n 1, 1) := by decide +kernel
theorem dX5_better_15 : decode cX5_better 15 = .ok (.iload_n 2, 1) := by decide +kernel
theorem dX5_better_16 : decode cX5_better 16 = .ok (.invokevirtual 175, 3) := by decide +kernel
theorem dX5_better_19 : decode cX5_better 19 = .ok (.aload_n 0, 1) := by decide +kernel
theorem dX5_better_20 : decode cX5_better 20 = .ok (.aload_n 0, 1) := by decide +kernel
theorem dX5_better_21 : decode cX5_better 21 = .ok (.getfield 140, 3) := by decide +kernel
theorem dX5_better_24 : decode cX5_better 24 = .ok (.aload_n 0, 1) := by decide +kernel
theorem dX5_better_25 : decode cX5_better 25 = .ok (.getfield 143, 3) := by decide +kernel
theorem dX5_better_28 : decode cX5_better 28 = .ok (.aload_n 0, 1) := by decide +kernel
theorem dX5_better_29 : decode cX5_better 29 = .ok (.getfield 35, 3) := by decide +kernel
theorem dX5_better_32 : decode cX5_better 32 = .ok (.iconst 5, 1) := by decide +kernel
theorem dX5_better_33 : decode cX5_better 33 = .ok (.iload_n 1, 1) := by decide +kernel
theorem dX5_better_34 : decode cX5_better 34 = .ok (.imul, 1) := by decide +kernel
theorem dX5_better_35 : decode cX5_better 35 = .ok (.iload_n 2, 1) := by decide +kernel
theorem dX5_better_36 : decode cX5_better 36 = .ok (.iadd, 1) := by decide +kernel
theorem dX5_better_37 : decode cX5_better 37 = .ok (.iaload, 1) := by decide +kernel
theorem dX5_better_38 : decode cX5_better 38 = .ok (.i2l, 1) := by decide +kernel
theorem dX5_better_39 : decode cX5_better 39 = .ok (.lmul, 1) := by decide +kernel
theorem dX5_better_40 : decode cX5_better 40 = .ok (.lsub, 1) := by decide +kernel
theorem dX5_better_41 : decode cX5_better 41 = .ok (.aload_n 0, 1) := by decide +kernel
theorem dX5_better_42 : decode cX5_better 42 = .ok (.getfield 143, 3) := by decide +kernel
theorem dX5_better_45 : decode cX5_better 45 = .ok (.invokevirtual 160, 3) := by decide +kernel
theorem dX5_better_48 : decode cX5_better 48 = .ok (.aload_n 0, 1) := by decide +kernel
theorem dX5_better_49 : decode cX5_better 49 = .ok (.invokevirtual 179, 3) := by decide +kernel
theorem dX5_better_52 : decode cX5_better 52 = .ok (.ireturn, 1) := by decide +kernel
theorem dX5_mean_0 : decode cX5_mean 0 = .ok (.aload_n 0, 1) := by decide +kernel
theorem dX5_mean_1 : decode cX5_mean 1 = .ok (.iload_n 1, 1) := by decide +kernel
theorem dX5_mean_2 : decode cX5_mean 2 = .ok (.iload_n 2, 1) := by decide +kernel
theorem dX5_mean_3 : decode cX5_mean 3 = .ok (.invokevirtual 172, 3) := by decide +kernel
theorem dX5_mean_6 : decode cX5_mean 6 = .ok (.istore_n 3, 1) := by decide +kernel
theorem dX5_mean_7 : decode cX5_mean 7 = .ok (.iload_n 3, 1) := by decide +kernel
theorem dX5_mean_8 : decode cX5_mean 8 = .ok (.ifCond .ge 5, 3) := by decide +kernel
theorem dX5_mean_11 : decode cX5_mean 11 = .ok (.iload_n 3, 1) := by decide +kernel
theorem dX5_mean_12 : decode cX5_mean 12 = .ok (.ireturn, 1) := by decide +kernel
theorem dX5_mean_13 : decode cX5_mean 13 = .ok (.lconst 0, 1) := by decide +kernel
theorem dX5_mean_14 : decode cX5_mean 14 = .ok (.lstore 4, 2) := by decide +kernel
theorem dX5_mean_16 : decode cX5_mean 16 = .ok (.iconst 0, 1) := by decide +kernel
theorem dX5_mean_17 : decode cX5_mean 17 = .ok (.istore 6, 2) := by decide +kernel
theorem dX5_mean_19 : decode cX5_mean 19 = .ok (.iload 6, 2) := by decide +kernel
theorem dX5_mean_21 : decode cX5_mean 21 = .ok (.aload_n 0, 1) := by decide +kernel
theorem dX5_mean_22 : decode cX5_mean 22 = .ok (.getfield 29, 3) := by decide +kernel
theorem dX5_mean_25 : decode cX5_mean 25 = .ok (.iload_n 1, 1) := by decide +kernel
theorem dX5_mean_26 : decode cX5_mean 26 = .ok (.iaload, 1) := by decide +kernel
theorem dX5_mean_27 : decode cX5_mean 27 = .ok (.if_icmp .ge 44, 3) := by decide +kernel
theorem dX5_mean_30 : decode cX5_mean 30 = .ok (.lload 4, 2) := by decide +kernel
theorem dX5_mean_32 : decode cX5_mean 32 = .ok (.aload_n 0, 1) := by decide +kernel
theorem dX5_mean_33 : decode cX5_mean 33 = .ok (.getfield 38, 3) := by decide +kernel
theorem dX5_mean_36 : decode cX5_mean 36 = .ok (.bipush 25, 2) := by decide +kernel
theorem dX5_mean_38 : decode cX5_mean 38 = .ok (.iload_n 1, 1) := by decide +kernel
theorem dX5_mean_39 : decode cX5_mean 39 = .ok (.imul, 1) := by decide +kernel
theorem dX5_mean_40 : decode cX5_mean 40 = .ok (.iconst 5, 1) := by decide +kernel
theorem dX5_mean_41 : decode cX5_mean 41 = .ok (.iload_n 2, 1) := by decide +kernel
theorem dX5_mean_42 : decode cX5_mean 42 = .ok (.imul, 1) := by decide +kernel
theorem dX5_mean_43 : decode cX5_mean 43 = .ok (.iadd, 1) := by decide +kernel
theorem dX5_mean_44 : decode cX5_mean 44 = .ok (.iload 6, 2) := by decide +kernel
theorem dX5_mean_46 : decode cX5_mean 46 = .ok (.iadd, 1) := by decide +kernel
theorem dX5_mean_47 : decode cX5_mean 47 = .ok (.iaload, 1) := by decide +kernel
theorem dX5_mean_48 : decode cX5_mean 48 = .ok (.i2l, 1) := by decide +kernel
theorem dX5_mean_49 : decode cX5_mean 49 = .ok (.aload_n 0, 1) := by decide +kernel
theorem dX5_mean_50 : decode cX5_mean 50 = .ok (.getfield 35, 3) := by decide +kernel
theorem dX5_mean_53 : decode cX5_mean 53 = .ok (.iconst 5, 1) := by decide +kernel
theorem dX5_mean_54 : decode cX5_mean 54 = .ok (.iload_n 1, 1) := by decide +kernel
theorem dX5_mean_55 : decode cX5_mean 55 = .ok (.imul, 1) := by decide +kernel
theorem dX5_mean_56 : decode cX5_mean 56 = .ok (.iload 6, 2) := by decide +kernel
theorem dX5_mean_58 : decode cX5_mean 58 = .ok (.iadd, 1) := by decide +kernel
theorem dX5_mean_59 : decode cX5_mean 59 = .ok (.iaload, 1) := by decide +kernel
theorem dX5_mean_60 : decode cX5_mean 60 = .ok (.i2l, 1) := by decide +kernel
theorem dX5_mean_61 : decode cX5_mean 61 = .ok (.lmul, 1) := by decide +kernel
theorem dX5_mean_62 : decode cX5_mean 62 = .ok (.ladd, 1) := by decide +kernel
theorem dX5_mean_63 : decode cX5_mean 63 = .ok (.lstore 4, 2) := by decide +kernel
theorem dX5_mean_65 : decode cX5_mean 65 = .ok (.iinc 6 1, 3) := by decide +kernel
theorem dX5_mean_68 : decode cX5_mean 68 = .ok (.goto (-49), 3) := by decide +kernel
theorem dX5_mean_71 : decode cX5_mean 71 = .ok (.aload_n 0, 1) := by decide +kernel
theorem dX5_mean_72 : decode cX5_mean 72 = .ok (.lload 4, 2) := by decide +kernel
theorem dX5_mean_74 : decode cX5_mean 74 = .ok (.aload_n 0, 1) := by decide +kernel
theorem dX5_mean_75 : decode cX5_mean 75 = .ok (.iload_n 1, 1) := by decide +kernel
theorem dX5_mean_76 : decode cX5_mean 76 = .ok (.iload_n 2, 1) := by decide +kernel
theorem dX5_mean_77 : decode cX5_mean 77 = .ok (.invokevirtual 133, 3) := by decide +kernel
theorem dX5_mean_80 : decode cX5_mean 80 = .ok (.i2l, 1) := by decide +kernel
theorem dX5_mean_81 : decode cX5_mean 81 = .ok (.invokevirtual 160, 3) := by decide +kernel
theorem dX5_mean_84 : decode cX5_mean 84 = .ok (.aload_n 0, 1) := by decide +kernel
theorem dX5_mean_85 : decode cX5_mean 85 = .ok (.invokevirtual 179, 3) := by decide +kernel
theorem dX5_mean_88 : decode cX5_mean 88 = .ok (.ireturn, 1) := by decide +kernel
theorem dX5_row_0 : decode cX5_row 0 = .ok (.aload_n 0, 1) := by decide +kernel
theorem dX5_row_1 : decode cX5_row 1 = .ok (.iload_n 1, 1) := by decide +kernel
theorem dX5_row_2 : decode cX5_row 2 = .ok (.invokevirtual 114, 3) := by decide +kernel
theorem dX5_row_5 : decode cX5_row 5 = .ok (.ifCond .ne 5, 3) := by decide +kernel
theorem dX5_row_8 : decode cX5_row 8 = .ok (.iconst (-1), 1) := by decide +kernel
theorem dX5_row_9 : decode cX5_row 9 = .ok (.ireturn, 1) := by decide +kernel
theorem dX5_row_10 : decode cX5_row 10 = .ok (.aload_n 0, 1) := by decide +kernel
theorem dX5_row_11 : decode cX5_row 11 = .ok (.iload_n 1, 1) := by decide +kernel
theorem dX5_row_12 : decode cX5_row 12 = .ok (.invokevirtual 130, 3) := by decide +kernel
theorem dX5_row_15 : decode cX5_row 15 = .ok (.ifCond .ne 9, 3) := by decide +kernel
theorem dX5_row_18 : decode cX5_row 18 = .ok (.aload_n 0, 1) := by decide +kernel
theorem dX5_row_19 : decode cX5_row 19 = .ok (.iconst 3, 1) := by decide +kernel
theorem dX5_row_20 : decode cX5_row 20 = .ok (.invokevirtual 96, 3) := by decide +kernel
theorem dX5_row_23 : decode cX5_row 23 = .ok (.ireturn, 1) := by decide +kernel
theorem dX5_row_24 : decode cX5_row 24 = .ok (.aload_n 0, 1) := by decide +kernel
theorem dX5_row_25 : decode cX5_row 25 = .ok (.iload_n 1, 1) := by decide +kernel
theorem dX5_row_26 : decode cX5_row 26 = .ok (.iload_n 2, 1) := by decide +kernel
theorem dX5_row_27 : decode cX5_row 27 = .ok (.invokevirtual 121, 3) := by decide +kernel
theorem dX5_row_30 : decode cX5_row 30 = .ok (.ifCond .ne 9, 3) := by decide +kernel
theorem dX5_row_33 : decode cX5_row 33 = .ok (.aload_n 0, 1) := by decide +kernel
theorem dX5_row_34 : decode cX5_row 34 = .ok (.iconst 2, 1) := by decide +kernel
theorem dX5_row_35 : decode cX5_row 35 = .ok (.invokevirtual 96, 3) := by decide +kernel
theorem dX5_row_38 : decode cX5_row 38 = .ok (.ireturn, 1) := by decide +kernel
theorem dX5_row_39 : decode cX5_row 39 = .ok (.iconst 0, 1) := by decide +kernel
theorem dX5_row_40 : decode cX5_row 40 = .ok (.istore_n 3, 1) := by decide +kernel
theorem dX5_row_41 : decode cX5_row 41 = .ok (.lconst 0, 1) := by decide +kernel
theorem dX5_row_42 : decode cX5_row 42 = .ok (.lstore 4, 2) := by decide +kernel
theorem dX5_row_44 : decode cX5_row 44 = .ok (.lconst 1, 1) := by decide +kernel
theorem dX5_row_45 : decode cX5_row 45 = .ok (.lstore 6, 2) := by decide +kernel
theorem dX5_row_47 : decode cX5_row 47 = .ok (.iconst 0, 1) := by decide +kernel
theorem dX5_row_48 : decode cX5_row 48 = .ok (.istore 8, 2) := by decide +kernel
theorem dX5_row_50 : decode cX5_row 50 = .ok (.iconst 1, 1) := by decide +kernel
theorem dX5_row_51 : decode cX5_row 51 = .ok (.istore 9, 2) := by decide +kernel
theorem dX5_row_53 : decode cX5_row 53 = .ok (.iload_n 2, 1) := by decide +kernel
theorem dX5_row_54 : decode cX5_row 54 = .ok (.iload 9, 2) := by decide +kernel
theorem dX5_row_56 : decode cX5_row 56 = .ok (.iadd, 1) := by decide +kernel
theorem dX5_row_57 : decode cX5_row 57 = .ok (.aload_n 0, 1) := by decide +kernel
theorem dX5_row_58 : decode cX5_row 58 = .ok (.getfield 29, 3) := by decide +kernel
theorem dX5_row_61 : decode cX5_row 61 = .ok (.iload_n 1, 1) := by decide +kernel
theorem dX5_row_62 : decode cX5_row 62 = .ok (.iaload, 1) := by decide +kernel
theorem dX5_row_63 : decode cX5_row 63 = .ok (.if_icmp .gt 67, 3) := by decide +kernel
theorem dX5_row_66 : decode cX5_row 66 = .ok (.iload 8, 2) := by decide +kernel
theorem dX5_row_68 : decode cX5_row 68 = .ok (.iconst 1, 1) := by decide +kernel
theorem dX5_row_69 : decode cX5_row 69 = .ok (.iload_n 2, 1) := by decide +kernel
theorem dX5_row_70 : decode cX5_row 70 = .ok (.iload 9, 2) := by decide +kernel
theorem dX5_row_72 : decode cX5_row 72 = .ok (.iadd, 1) := by decide +kernel
theorem dX5_row_73 : decode cX5_row 73 = .ok (.iconst 1, 1) := by decide +kernel
theorem dX5_row_74 : decode cX5_row 74 = .ok (.isub, 1) := by decide +kernel
theorem dX5_row_75 : decode cX5_row 75 = .ok (.ishl, 1) := by decide +kernel
theorem dX5_row_76 : decode cX5_row 76 = .ok (.ior, 1) := by decide +kernel
theorem dX5_row_77 : decode cX5_row 77 = .ok (.istore 8, 2) := by decide +kernel
theorem dX5_row_79 : decode cX5_row 79 = .ok (.aload_n 0, 1) := by decide +kernel
theorem dX5_row_80 : decode cX5_row 80 = .ok (.iload_n 1, 1) := by decide +kernel
theorem dX5_row_81 : decode cX5_row 81 = .ok (.iload_n 2, 1) := by decide +kernel
theorem dX5_row_82 : decode cX5_row 82 = .ok (.iload 8, 2) := by decide +kernel
theorem dX5_row_84 : decode cX5_row 84 = .ok (.invokevirtual 164, 3) := by decide +kernel
theorem dX5_row_87 : decode cX5_row 87 = .ok (.iload_n 3, 1) := by decide +kernel
theorem dX5_row_88 : decode cX5_row 88 = .ok (.ifCond .eq 21, 3) := by decide +kernel
theorem dX5_row_91 : decode cX5_row 91 = .ok (.aload_n 0, 1) := by decide +kernel
theorem dX5_row_92 : decode cX5_row 92 = .ok (.getfield 140, 3) := by decide +kernel
theorem dX5_row_95 : decode cX5_row 95 = .ok (.aload_n 0, 1) := by decide +kernel
theorem dX5_row_96 : decode cX5_row 96 = .ok (.getfield 143, 3) := by decide +kernel
theorem dX5_row_99 : decode cX5_row 99 = .ok (.lload 4, 2) := by decide +kernel
theorem dX5_row_101 : decode cX5_row 101 = .ok (.lload 6, 2) := by decide +kernel
theorem dX5_row_103 : decode cX5_row 103 = .ok (.invokestatic 168, 3) := by decide +kernel
theorem dX5_row_106 : decode cX5_row 106 = .ok (.ifCond .le 18, 3) := by decide +kernel
theorem dX5_row_109 : decode cX5_row 109 = .ok (.iload 9, 2) := by decide +kernel
theorem dX5_row_111 : decode cX5_row 111 = .ok (.istore_n 3, 1) := by decide +kernel
theorem dX5_row_112 : decode cX5_row 112 = .ok (.aload_n 0, 1) := by decide +kernel
theorem dX5_row_113 : decode cX5_row 113 = .ok (.getfield 140, 3) := by decide +kernel
theorem dX5_row_116 : decode cX5_row 116 = .ok (.lstore 4, 2) := by decide +kernel
theorem dX5_row_118 : decode cX5_row 118 = .ok (.aload_n 0, 1) := by decide +kernel
theorem dX5_row_119 : decode cX5_row 119 = .ok (.getfield 143, 3) := by decide +kernel
theorem dX5_row_122 : decode cX5_row 122 = .ok (.lstore 6, 2) := by decide +kernel
theorem dX5_row_124 : decode cX5_row 124 = .ok (.iinc 9 1, 3) := by decide +kernel
theorem dX5_row_127 : decode cX5_row 127 = .ok (.goto (-74), 3) := by decide +kernel
theorem dX5_row_130 : decode cX5_row 130 = .ok (.iload_n 3, 1) := by decide +kernel
theorem dX5_row_131 : decode cX5_row 131 = .ok (.ireturn, 1) := by decide +kernel
theorem dX5_least_0 : decode cX5_least 0 = .ok (.aload_n 0, 1) := by decide +kernel
theorem dX5_least_1 : decode cX5_least 1 = .ok (.iload_n 1, 1) := by decide +kernel
theorem dX5_least_2 : decode cX5_least 2 = .ok (.invokevirtual 114, 3) := by decide +kernel
theorem dX5_least_5 : decode cX5_least 5 = .ok (.ifCond .ne 5, 3) := by decide +kernel
theorem dX5_least_8 : decode cX5_least 8 = .ok (.iconst (-1), 1) := by decide +kernel
theorem dX5_least_9 : decode cX5_least 9 = .ok (.ireturn, 1) := by decide +kernel
theorem dX5_least_10 : decode cX5_least 10 = .ok (.aload_n 0, 1) := by decide +kernel
theorem dX5_least_11 : decode cX5_least 11 = .ok (.iload_n 1, 1) := by decide +kernel
theorem dX5_least_12 : decode cX5_least 12 = .ok (.invokevirtual 185, 3) := by decide +kernel
theorem dX5_least_15 : decode cX5_least 15 = .ok (.iconst 0, 1) := by decide +kernel
theorem dX5_least_16 : decode cX5_least 16 = .ok (.istore_n 2, 1) := by decide +kernel
theorem dX5_least_17 : decode cX5_least 17 = .ok (.iconst 1, 1) := by decide +kernel
theorem dX5_least_18 : decode cX5_least 18 = .ok (.istore_n 3, 1) := by decide +kernel
theorem dX5_least_19 : decode cX5_least 19 = .ok (.iload_n 3, 1) := by decide +kernel
theorem dX5_least_20 : decode cX5_least 20 = .ok (.aload_n 0, 1) := by decide +kernel
theorem dX5_least_21 : decode cX5_least 21 = .ok (.getfield 29, 3) := by decide +kernel
theorem dX5_least_24 : decode cX5_least 24 = .ok (.iload_n 1, 1) := by decide +kernel
theorem dX5_least_25 : decode cX5_least 25 = .ok (.iaload, 1) := by decide +kernel
theorem dX5_least_26 : decode cX5_least 26 = .ok (.if_icmp .ge 24, 3) := by decide +kernel
theorem dX5_least_29 : decode cX5_least 29 = .ok (.aload_n 0, 1) := by decide +kernel
theorem dX5_least_30 : decode cX5_least 30 = .ok (.iload_n 3, 1) := by decide +kernel
theorem dX5_least_31 : decode cX5_least 31 = .ok (.iload_n 2, 1) := by decide +kernel
theorem dX5_least_32 : decode cX5_least 32 = .ok (.invokevirtual 189, 3) := by decide +kernel
theorem dX5_least_35 : decode cX5_least 35 = .ok (.ifCond .ge 7, 3) := by decide +kernel
theorem dX5_least_38 : decode cX5_least 38 = .ok (.iload_n 3, 1) := by decide +kernel
theorem dX5_least_39 : decode cX5_least 39 = .ok (.goto 4, 3) := by decide +kernel
theorem dX5_least_42 : decode cX5_least 42 = .ok (.iload_n 2, 1) := by decide +kernel
theorem dX5_least_43 : decode cX5_least 43 = .ok (.istore_n 2, 1) := by decide +kernel
theorem dX5_least_44 : decode cX5_least 44 = .ok (.iinc 3 1, 3) := by decide +kernel
theorem dX5_least_47 : decode cX5_least 47 = .ok (.goto (-28), 3) := by decide +kernel
theorem dX5_least_50 : decode cX5_least 50 = .ok (.aload_n 0, 1) := by decide +kernel
theorem dX5_least_51 : decode cX5_least 51 = .ok (.aload_n 0, 1) := by decide +kernel
theorem dX5_least_52 : decode cX5_least 52 = .ok (.getfield 50, 3) := by decide +kernel
theorem dX5_least_55 : decode cX5_least 55 = .ok (.iload_n 2, 1) := by decide +kernel
theorem dX5_least_56 : decode cX5_least 56 = .ok (.laload, 1) := by decide +kernel
theorem dX5_least_57 : decode cX5_least 57 = .ok (.putfield 140, 3) := by decide +kernel
theorem dX5_least_60 : decode cX5_least 60 = .ok (.aload_n 0, 1) := by decide +kernel
theorem dX5_least_61 : decode cX5_least 61 = .ok (.aload_n 0, 1) := by decide +kernel
theorem dX5_least_62 : decode cX5_least 62 = .ok (.getfield 53, 3) := by decide +kernel
theorem dX5_least_65 : decode cX5_least 65 = .ok (.iload_n 2, 1) := by decide +kernel
theorem dX5_least_66 : decode cX5_least 66 = .ok (.laload, 1) := by decide +kernel
theorem dX5_least_67 : decode cX5_least 67 = .ok (.putfield 143, 3) := by decide +kernel
theorem dX5_least_70 : decode cX5_least 70 = .ok (.aload_n 0, 1) := by decide +kernel
theorem dX5_least_71 : decode cX5_least 71 = .ok (.invokevirtual 179, 3) := by decide +kernel
theorem dX5_least_74 : decode cX5_least 74 = .ok (.ireturn, 1) := by decide +kernel
theorem dX5_compare_0 : decode cX5_compare 0 = .ok (.aload_n 0, 1) := by decide +kernel
theorem dX5_compare_1 : decode cX5_compare 1 = .ok (.iload_n 1, 1) := by decide +kernel
theorem dX5_compare_2 : decode cX5_compare 2 = .ok (.invokevirtual 114, 3) := by decide +kernel
theorem dX5_compare_5 : decode cX5_compare 5 = .ok (.ifCond .eq 11, 3) := by decide +kernel
theorem dX5_compare_8 : decode cX5_compare 8 = .ok (.aload_n 0, 1) := by decide +kernel
theorem dX5_compare_9 : decode cX5_compare 9 = .ok (.iload_n 3, 1) := by decide +kernel
theorem dX5_compare_10 : decode cX5_compare 10 = .ok (.invokevirtual 114, 3) := by decide +kernel
theorem dX5_compare_13 : decode cX5_compare 13 = .ok (.ifCond .ne 5, 3) := by decide +kernel
theorem dX5_compare_16 : decode cX5_compare 16 = .ok (.iconst (-1), 1) := by decide +kernel
theorem dX5_compare_17 : decode cX5_compare 17 = .ok (.ireturn, 1) := by decide +kernel
theorem dX5_compare_18 : decode cX5_compare 18 = .ok (.aload_n 0, 1) := by decide +kernel
theorem dX5_compare_19 : decode cX5_compare 19 = .ok (.iload_n 1, 1) := by decide +kernel
theorem dX5_compare_20 : decode cX5_compare 20 = .ok (.iload_n 2, 1) := by decide +kernel
theorem dX5_compare_21 : decode cX5_compare 21 = .ok (.invokevirtual 121, 3) := by decide +kernel
theorem dX5_compare_24 : decode cX5_compare 24 = .ok (.ifCond .eq 13, 3) := by decide +kernel
theorem dX5_compare_27 : decode cX5_compare 27 = .ok (.aload_n 0, 1) := by decide +kernel
theorem dX5_compare_28 : decode cX5_compare 28 = .ok (.iload_n 3, 1) := by decide +kernel
theorem dX5_compare_29 : decode cX5_compare 29 = .ok (.iload 4, 2) := by decide +kernel
theorem dX5_compare_31 : decode cX5_compare 31 = .ok (.invokevirtual 121, 3) := by decide +kernel
theorem dX5_compare_34 : decode cX5_compare 34 = .ok (.ifCond .ne 9, 3) := by decide +kernel
theorem dX5_compare_37 : decode cX5_compare 37 = .ok (.aload_n 0, 1) := by decide +kernel
theorem dX5_compare_38 : decode cX5_compare 38 = .ok (.iconst 2, 1) := by decide +kernel
theorem dX5_compare_39 : decode cX5_compare 39 = .ok (.invokevirtual 96, 3) := by decide +kernel
theorem dX5_compare_42 : decode cX5_compare 42 = .ok (.ireturn, 1) := by decide +kernel
theorem dX5_compare_43 : decode cX5_compare 43 = .ok (.aload_n 0, 1) := by decide +kernel
theorem dX5_compare_44 : decode cX5_compare 44 = .ok (.iload_n 1, 1) := by decide +kernel
theorem dX5_compare_45 : decode cX5_compare 45 = .ok (.iload_n 2, 1) := by decide +kernel
theorem dX5_compare_46 : decode cX5_compare 46 = .ok (.invokevirtual 175, 3) := by decide +kernel
theorem dX5_compare_49 : decode cX5_compare 49 = .ok (.aload_n 0, 1) := by decide +kernel
theorem dX5_compare_50 : decode cX5_compare 50 = .ok (.getfield 140, 3) := by decide +kernel
theorem dX5_compare_53 : decode cX5_compare 53 = .ok (.lstore 5, 2) := by decide +kernel
theorem dX5_compare_55 : decode cX5_compare 55 = .ok (.aload_n 0, 1) := by decide +kernel
theorem dX5_compare_56 : decode cX5_compare 56 = .ok (.getfield 143, 3) := by decide +kernel
theorem dX5_compare_59 : decode cX5_compare 59 = .ok (.lstore 7, 2) := by decide +kernel
theorem dX5_compare_61 : decode cX5_compare 61 = .ok (.aload_n 0, 1) := by decide +kernel
theorem dX5_compare_62 : decode cX5_compare 62 = .ok (.iload_n 3, 1) := by decide +kernel
theorem dX5_compare_63 : decode cX5_compare 63 = .ok (.iload 4, 2) := by decide +kernel
theorem dX5_compare_65 : decode cX5_compare 65 = .ok (.invokevirtual 175, 3) := by decide +kernel
theorem dX5_compare_68 : decode cX5_compare 68 = .ok (.lload 5, 2) := by decide +kernel
theorem dX5_compare_70 : decode cX5_compare 70 = .ok (.lload 7, 2) := by decide +kernel
theorem dX5_compare_72 : decode cX5_compare 72 = .ok (.aload_n 0, 1) := by decide +kernel
theorem dX5_compare_73 : decode cX5_compare 73 = .ok (.getfield 140, 3) := by decide +kernel
theorem dX5_compare_76 : decode cX5_compare 76 = .ok (.aload_n 0, 1) := by decide +kernel
theorem dX5_compare_77 : decode cX5_compare 77 = .ok (.getfield 143, 3) := by decide +kernel
theorem dX5_compare_80 : decode cX5_compare 80 = .ok (.invokestatic 168, 3) := by decide +kernel
theorem dX5_compare_83 : decode cX5_compare 83 = .ok (.istore 9, 2) := by decide +kernel
theorem dX5_compare_85 : decode cX5_compare 85 = .ok (.iload 9, 2) := by decide +kernel
theorem dX5_compare_87 : decode cX5_compare 87 = .ok (.ifCond .le 7, 3) := by decide +kernel
theorem dX5_compare_90 : decode cX5_compare 90 = .ok (.iconst 1, 1) := by decide +kernel
theorem dX5_compare_91 : decode cX5_compare 91 = .ok (.goto 13, 3) := by decide +kernel
theorem dX5_compare_94 : decode cX5_compare 94 = .ok (.iload 9, 2) := by decide +kernel
theorem dX5_compare_96 : decode cX5_compare 96 = .ok (.ifCond .ne 7, 3) := by decide +kernel
theorem dX5_compare_99 : decode cX5_compare 99 = .ok (.iconst 0, 1) := by decide +kernel
theorem dX5_compare_100 : decode cX5_compare 100 = .ok (.goto 4, 3) := by decide +kernel
theorem dX5_compare_103 : decode cX5_compare 103 = .ok (.iconst 2, 1) := by decide +kernel
theorem dX5_compare_104 : decode cX5_compare 104 = .ok (.ireturn, 1) := by decide +kernel
theorem dX5_seed_0 : decode cX5_seed 0 = .ok (.iload_n 1, 1) := by decide +kernel
theorem dX5_seed_1 : decode cX5_seed 1 = .ok (.ifCond .ge 5, 3) := by decide +kernel
theorem dX5_seed_4 : decode cX5_seed 4 = .ok (.iconst (-1), 1) := by decide +kernel
theorem dX5_seed_5 : decode cX5_seed 5 = .ok (.ireturn, 1) := by decide +kernel
theorem dX5_seed_6 : decode cX5_seed 6 = .ok (.aload_n 0, 1) := by decide +kernel
theorem dX5_seed_7 : decode cX5_seed 7 = .ok (.getfield 69, 3) := by decide +kernel
theorem dX5_seed_10 : decode cX5_seed 10 = .ok (.istore_n 2, 1) := by decide +kernel
theorem dX5_seed_11 : decode cX5_seed 11 = .ok (.aload_n 0, 1) := by decide +kernel
theorem dX5_seed_12 : decode cX5_seed 12 = .ok (.iload_n 1, 1) := by decide +kernel
theorem dX5_seed_13 : decode cX5_seed 13 = .ok (.putfield 69, 3) := by decide +kernel
theorem dX5_seed_16 : decode cX5_seed 16 = .ok (.iload_n 2, 1) := by decide +kernel
theorem dX5_seed_17 : decode cX5_seed 17 = .ok (.ireturn, 1) := by decide +kernel
theorem dX5_best_0 : decode cX5_best 0 = .ok (.bipush (-9), 2) := by decide +kernel
theorem dX5_best_2 : decode cX5_best 2 = .ok (.istore_n 1, 1) := by decide +kernel
theorem dX5_best_3 : decode cX5_best 3 = .ok (.lconst 0, 1) := by decide +kernel
theorem dX5_best_4 : decode cX5_best 4 = .ok (.lstore_n 2, 1) := by decide +kernel
theorem dX5_best_5 : decode cX5_best 5 = .ok (.lconst 1, 1) := by decide +kernel
theorem dX5_best_6 : decode cX5_best 6 = .ok (.lstore 4, 2) := by decide +kernel
theorem dX5_best_8 : decode cX5_best 8 = .ok (.iconst 0, 1) := by decide +kernel
theorem dX5_best_9 : decode cX5_best 9 = .ok (.istore 6, 2) := by decide +kernel
theorem dX5_best_11 : decode cX5_best 11 = .ok (.iload 6, 2) := by decide +kernel
theorem dX5_best_13 : decode cX5_best 13 = .ok (.aload_n 0, 1) := by decide +kernel
theorem dX5_best_14 : decode cX5_best 14 = .ok (.getfield 111, 3) := by decide +kernel
theorem dX5_best_17 : decode cX5_best 17 = .ok (.if_icmp .ge 59, 3) := by decide +kernel
theorem dX5_best_20 : decode cX5_best 20 = .ok (.aload_n 0, 1) := by decide +kernel
theorem dX5_best_21 : decode cX5_best 21 = .ok (.iload 6, 2) := by decide +kernel
theorem dX5_best_23 : decode cX5_best 23 = .ok (.aload_n 0, 1) := by decide +kernel
theorem dX5_best_24 : decode cX5_best 24 = .ok (.getfield 32, 3) := by decide +kernel
theorem dX5_best_27 : decode cX5_best 27 = .ok (.iload 6, 2) := by decide +kernel
theorem dX5_best_29 : decode cX5_best 29 = .ok (.iaload, 1) := by decide +kernel
theorem dX5_best_30 : decode cX5_best 30 = .ok (.invokevirtual 175, 3) := by decide +kernel
theorem dX5_best_33 : decode cX5_best 33 = .ok (.iload_n 1, 1) := by decide +kernel
theorem dX5_best_34 : decode cX5_best 34 = .ok (.bipush (-9), 2) := by decide +kernel
theorem dX5_best_36 : decode cX5_best 36 = .ok (.if_icmp .eq 20, 3) := by decide +kernel
theorem dX5_best_39 : decode cX5_best 39 = .ok (.aload_n 0, 1) := by decide +kernel
theorem dX5_best_40 : decode cX5_best 40 = .ok (.getfield 140, 3) := by decide +kernel
theorem dX5_best_43 : decode cX5_best 43 = .ok (.aload_n 0, 1) := by decide +kernel
theorem dX5_best_44 : decode cX5_best 44 = .ok (.getfield 143, 3) := by decide +kernel
theorem dX5_best_47 : decode cX5_best 47 = .ok (.lload_n 2, 1) := by decide +kernel
theorem dX5_best_48 : decode cX5_best 48 = .ok (.lload 4, 2) := by decide +kernel
theorem dX5_best_50 : decode cX5_best 50 = .ok (.invokestatic 168, 3) := by decide +kernel
theorem dX5_best_53 : decode cX5_best 53 = .ok (.ifCond .le 17, 3) := by decide +kernel
theorem dX5_best_56 : decode cX5_best 56 = .ok (.iload 6, 2) := by decide +kernel
theorem dX5_best_58 : decode cX5_best 58 = .ok (.istore_n 1, 1) := by decide +kernel
theorem dX5_best_59 : decode cX5_best 59 = .ok (.aload_n 0, 1) := by decide +kernel
theorem dX5_best_60 : decode cX5_best 60 = .ok (.getfield 140, 3) := by decide +kernel
theorem dX5_best_63 : decode cX5_best 63 = .ok (.lstore_n 2, 1) := by decide +kernel
theorem dX5_best_64 : decode cX5_best 64 = .ok (.aload_n 0, 1) := by decide +kernel
theorem dX5_best_65 : decode cX5_best 65 = .ok (.getfield 143, 3) := by decide +kernel
theorem dX5_best_68 : decode cX5_best 68 = .ok (.lstore 4, 2) := by decide +kernel
theorem dX5_best_70 : decode cX5_best 70 = .ok (.iinc 6 1, 3) := by decide +kernel
theorem dX5_best_73 : decode cX5_best 73 = .ok (.goto (-62), 3) := by decide +kernel
theorem dX5_best_76 : decode cX5_best 76 = .ok (.iload_n 1, 1) := by decide +kernel
theorem dX5_best_77 : decode cX5_best 77 = .ok (.ireturn, 1) := by decide +kernel
theorem dX5_works_0 : decode cX5_works 0 = .ok (.aload_n 0, 1) := by decide +kernel
theorem dX5_works_1 : decode cX5_works 1 = .ok (.getfield 32, 3) := by decide +kernel
theorem dX5_works_4 : decode cX5_works 4 = .ok (.iload_n 1, 1) := by decide +kernel
theorem dX5_works_5 : decode cX5_works 5 = .ok (.iaload, 1) := by decide +kernel
theorem dX5_works_6 : decode cX5_works 6 = .ok (.istore_n 2, 1) := by decide +kernel
theorem dX5_works_7 : decode cX5_works 7 = .ok (.aload_n 0, 1) := by decide +kernel
theorem dX5_works_8 : decode cX5_works 8 = .ok (.getfield 35, 3) := by decide +kernel
theorem dX5_works_11 : decode cX5_works 11 = .ok (.iconst 5, 1) := by decide +kernel
theorem dX5_works_12 : decode cX5_works 12 = .ok (.iload_n 1, 1) := by decide +kernel
theorem dX5_works_13 : decode cX5_works 13 = .ok (.imul, 1) := by decide +kernel
theorem dX5_works_14 : decode cX5_works 14 = .ok (.iload_n 2, 1) := by decide +kernel
theorem dX5_works_15 : decode cX5_works 15 = .ok (.iadd, 1) := by decide +kernel
theorem dX5_works_16 : decode cX5_works 16 = .ok (.iaload, 1) := by decide +kernel
theorem dX5_works_17 : decode cX5_works 17 = .ok (.istore_n 3, 1) := by decide +kernel
theorem dX5_works_18 : decode cX5_works 18 = .ok (.aload_n 0, 1) := by decide +kernel
theorem dX5_works_19 : decode cX5_works 19 = .ok (.dup, 1) := by decide +kernel
theorem dX5_works_20 : decode cX5_works 20 = .ok (.getfield 196, 3) := by decide +kernel
theorem dX5_works_23 : decode cX5_works 23 = .ok (.iload_n 3, 1) := by decide +kernel
theorem dX5_works_24 : decode cX5_works 24 = .ok (.i2l, 1) := by decide +kernel
theorem dX5_works_25 : decode cX5_works 25 = .ok (.ladd, 1) := by decide +kernel
theorem dX5_works_26 : decode cX5_works 26 = .ok (.putfield 196, 3) := by decide +kernel
theorem dX5_works_29 : decode cX5_works 29 = .ok (.aload_n 0, 1) := by decide +kernel
theorem dX5_works_30 : decode cX5_works 30 = .ok (.getfield 41, 3) := by decide +kernel
theorem dX5_works_33 : decode cX5_works 33 = .ok (.iload_n 1, 1) := by decide +kernel
theorem dX5_works_34 : decode cX5_works 34 = .ok (.dup2, 1) := by decide +kernel
theorem dX5_works_35 : decode cX5_works 35 = .ok (.iaload, 1) := by decide +kernel
theorem dX5_works_36 : decode cX5_works 36 = .ok (.iconst 1, 1) := by decide +kernel
theorem dX5_works_37 : decode cX5_works 37 = .ok (.iadd, 1) := by decide +kernel
theorem dX5_works_38 : decode cX5_works 38 = .ok (.iastore, 1) := by decide +kernel
theorem dX5_works_39 : decode cX5_works 39 = .ok (.aload_n 0, 1) := by decide +kernel
theorem dX5_works_40 : decode cX5_works 40 = .ok (.aload_n 0, 1) := by decide +kernel
theorem dX5_works_41 : decode cX5_works 41 = .ok (.getfield 69, 3) := by decide +kernel
theorem dX5_works_44 : decode cX5_works 44 = .ok (.i2l, 1) := by decide +kernel
theorem dX5_works_45 : decode cX5_works 45 = .ok (.ldc2_w 199, 3) := by decide +kernel
theorem dX5_works_48 : decode cX5_works 48 = .ok (.lmul, 1) := by decide +kernel
theorem dX5_works_49 : decode cX5_works 49 = .ok (.ldc2_w 201, 3) := by decide +kernel
theorem dX5_works_52 : decode cX5_works 52 = .ok (.ladd, 1) := by decide +kernel
theorem dX5_works_53 : decode cX5_works 53 = .ok (.ldc2_w 203, 3) := by decide +kernel
theorem dX5_works_56 : decode cX5_works 56 = .ok (.lrem, 1) := by decide +kernel
theorem dX5_works_57 : decode cX5_works 57 = .ok (.l2i, 1) := by decide +kernel
theorem dX5_works_58 : decode cX5_works 58 = .ok (.putfield 69, 3) := by decide +kernel
theorem dX5_works_61 : decode cX5_works 61 = .ok (.aload_n 0, 1) := by decide +kernel
theorem dX5_works_62 : decode cX5_works 62 = .ok (.getfield 69, 3) := by decide +kernel
theorem dX5_works_65 : decode cX5_works 65 = .ok (.ldc 205, 2) := by decide +kernel
theorem dX5_works_67 : decode cX5_works 67 = .ok (.idiv, 1) := by decide +kernel
theorem dX5_works_68 : decode cX5_works 68 = .ok (.aload_n 0, 1) := by decide +kernel
theorem dX5_works_69 : decode cX5_works 69 = .ok (.iload_n 1, 1) := by decide +kernel
theorem dX5_works_70 : decode cX5_works 70 = .ok (.iload_n 2, 1) := by decide +kernel
theorem dX5_works_71 : decode cX5_works 71 = .ok (.invokevirtual 133, 3) := by decide +kernel
theorem dX5_works_74 : decode cX5_works 74 = .ok (.irem, 1) := by decide +kernel
theorem dX5_works_75 : decode cX5_works 75 = .ok (.istore 4, 2) := by decide +kernel
theorem dX5_works_77 : decode cX5_works 77 = .ok (.iconst 0, 1) := by decide +kernel
theorem dX5_works_78 : decode cX5_works 78 = .ok (.istore 5, 2) := by decide +kernel
theorem dX5_works_80 : decode cX5_works 80 = .ok (.aload_n 0, 1) := by decide +kernel
theorem dX5_works_81 : decode cX5_works 81 = .ok (.getfield 38, 3) := by decide +kernel
theorem dX5_works_84 : decode cX5_works 84 = .ok (.bipush 25, 2) := by decide +kernel
theorem dX5_works_86 : decode cX5_works 86 = .ok (.iload_n 1, 1) := by decide +kernel
theorem dX5_works_87 : decode cX5_works 87 = .ok (.imul, 1) := by decide +kernel
theorem dX5_works_88 : decode cX5_works 88 = .ok (.iconst 5, 1) := by decide +kernel
theorem dX5_works_89 : decode cX5_works 89 = .ok (.iload_n 2, 1) := by decide +kernel
theorem dX5_works_90 : decode cX5_works 90 = .ok (.imul, 1) := by decide +kernel
theorem dX5_works_91 : decode cX5_works 91 = .ok (.iadd, 1) := by decide +kernel
theorem dX5_works_92 : decode cX5_works 92 = .ok (.iaload, 1) := by decide +kernel
theorem dX5_works_93 : decode cX5_works 93 = .ok (.istore 6, 2) := by decide +kernel
theorem dX5_works_95 : decode cX5_works 95 = .ok (.iload 6, 2) := by decide +kernel
theorem dX5_works_97 : decode cX5_works 97 = .ok (.iload 4, 2) := by decide +kernel
theorem dX5_works_99 : decode cX5_works 99 = .ok (.if_icmp .gt 30, 3) := by decide +kernel
theorem dX5_works_102 : decode cX5_works 102 = .ok (.iinc 5 1, 3) := by decide +kernel
theorem dX5_works_105 : decode cX5_works 105 = .ok (.iload 6, 2) := by decide +kernel
theorem dX5_works_107 : decode cX5_works 107 = .ok (.aload_n 0, 1) := by decide +kernel
theorem dX5_works_108 : decode cX5_works 108 = .ok (.getfield 38, 3) := by decide +kernel
theorem dX5_works_111 : decode cX5_works 111 = .ok (.bipush 25, 2) := by decide +kernel
theorem dX5_works_113 : decode cX5_works 113 = .ok (.iload_n 1, 1) := by decide +kernel
theorem dX5_works_114 : decode cX5_works 114 = .ok (.imul, 1) := by decide +kernel
theorem dX5_works_115 : decode cX5_works 115 = .ok (.iconst 5, 1) := by decide +kernel
theorem dX5_works_116 : decode cX5_works 116 = .ok (.iload_n 2, 1) := by decide +kernel
theorem dX5_works_117 : decode cX5_works 117 = .ok (.imul, 1) := by decide +kernel
theorem dX5_works_118 : decode cX5_works 118 = .ok (.iadd, 1) := by decide +kernel
theorem dX5_works_119 : decode cX5_works 119 = .ok (.iload 5, 2) := by decide +kernel
theorem dX5_works_121 : decode cX5_works 121 = .ok (.iadd, 1) := by decide +kernel
theorem dX5_works_122 : decode cX5_works 122 = .ok (.iaload, 1) := by decide +kernel
theorem dX5_works_123 : decode cX5_works 123 = .ok (.iadd, 1) := by decide +kernel
theorem dX5_works_124 : decode cX5_works 124 = .ok (.istore 6, 2) := by decide +kernel
theorem dX5_works_126 : decode cX5_works 126 = .ok (.goto (-31), 3) := by decide +kernel
theorem dX5_works_129 : decode cX5_works 129 = .ok (.aload_n 0, 1) := by decide +kernel
theorem dX5_works_130 : decode cX5_works 130 = .ok (.getfield 32, 3) := by decide +kernel
theorem dX5_works_133 : decode cX5_works 133 = .ok (.iload_n 1, 1) := by decide +kernel
theorem dX5_works_134 : decode cX5_works 134 = .ok (.iload 5, 2) := by decide +kernel
theorem dX5_works_136 : decode cX5_works 136 = .ok (.iastore, 1) := by decide +kernel
theorem dX5_works_137 : decode cX5_works 137 = .ok (.iload_n 3, 1) := by decide +kernel
theorem dX5_works_138 : decode cX5_works 138 = .ok (.ireturn, 1) := by decide +kernel
theorem dX5_work_0 : decode cX5_work 0 = .ok (.aload_n 0, 1) := by decide +kernel
theorem dX5_work_1 : decode cX5_work 1 = .ok (.iload_n 1, 1) := by decide +kernel
theorem dX5_work_2 : decode cX5_work 2 = .ok (.invokevirtual 114, 3) := by decide +kernel
theorem dX5_work_5 : decode cX5_work 5 = .ok (.ifCond .ne 5, 3) := by decide +kernel
theorem dX5_work_8 : decode cX5_work 8 = .ok (.iconst (-1), 1) := by decide +kernel
theorem dX5_work_9 : decode cX5_work 9 = .ok (.ireturn, 1) := by decide +kernel
theorem dX5_work_10 : decode cX5_work 10 = .ok (.aload_n 0, 1) := by decide +kernel
theorem dX5_work_11 : decode cX5_work 11 = .ok (.iload_n 1, 1) := by decide +kernel
theorem dX5_work_12 : decode cX5_work 12 = .ok (.invokevirtual 206, 3) := by decide +kernel
theorem dX5_work_15 : decode cX5_work 15 = .ok (.istore_n 2, 1) := by decide +kernel
theorem dX5_work_16 : decode cX5_work 16 = .ok (.aload_n 0, 1) := by decide +kernel
theorem dX5_work_17 : decode cX5_work 17 = .ok (.getfield 32, 3) := by decide +kernel
theorem dX5_work_20 : decode cX5_work 20 = .ok (.iload_n 1, 1) := by decide +kernel
theorem dX5_work_21 : decode cX5_work 21 = .ok (.iaload, 1) := by decide +kernel
theorem dX5_work_22 : decode cX5_work 22 = .ok (.ireturn, 1) := by decide +kernel
theorem dX5_run_0 : decode cX5_run 0 = .ok (.iload_n 1, 1) := by decide +kernel
theorem dX5_run_1 : decode cX5_run 1 = .ok (.i2l, 1) := by decide +kernel
theorem dX5_run_2 : decode cX5_run 2 = .ok (.lconst 0, 1) := by decide +kernel
theorem dX5_run_3 : decode cX5_run 3 = .ok (.ldc2_w 209, 3) := by decide +kernel
theorem dX5_run_6 : decode cX5_run 6 = .ok (.invokestatic 81, 3) := by decide +kernel
theorem dX5_run_9 : decode cX5_run 9 = .ok (.ifCond .ne 6, 3) := by decide +kernel
theorem dX5_run_12 : decode cX5_run 12 = .ok (.ldc 211, 2) := by decide +kernel
theorem dX5_run_14 : decode cX5_run 14 = .ok (.ireturn, 1) := by decide +kernel
theorem dX5_run_15 : decode cX5_run 15 = .ok (.aload_n 0, 1) := by decide +kernel
theorem dX5_run_16 : decode cX5_run 16 = .ok (.getfield 111, 3) := by decide +kernel
theorem dX5_run_19 : decode cX5_run 19 = .ok (.ifCond .ne 6, 3) := by decide +kernel
theorem dX5_run_22 : decode cX5_run 22 = .ok (.ldc 212, 2) := by decide +kernel
theorem dX5_run_24 : decode cX5_run 24 = .ok (.ireturn, 1) := by decide +kernel
theorem dX5_run_25 : decode cX5_run 25 = .ok (.iconst 0, 1) := by decide +kernel
theorem dX5_run_26 : decode cX5_run 26 = .ok (.istore_n 2, 1) := by decide +kernel
theorem dX5_run_27 : decode cX5_run 27 = .ok (.aload_n 0, 1) := by decide +kernel
theorem dX5_run_28 : decode cX5_run 28 = .ok (.iload_n 1, 1) := by decide +kernel
theorem dX5_run_29 : decode cX5_run 29 = .ok (.putfield 213, 3) := by decide +kernel
theorem dX5_run_32 : decode cX5_run 32 = .ok (.iconst 0, 1) := by decide +kernel
theorem dX5_run_33 : decode cX5_run 33 = .ok (.istore_n 3, 1) := by decide +kernel
theorem dX5_run_34 : decode cX5_run 34 = .ok (.iload_n 3, 1) := by decide +kernel
theorem dX5_run_35 : decode cX5_run 35 = .ok (.iload_n 1, 1) := by decide +kernel
theorem dX5_run_36 : decode cX5_run 36 = .ok (.if_icmp .ge 39, 3) := by decide +kernel
theorem dX5_run_39 : decode cX5_run 39 = .ok (.aload_n 0, 1) := by decide +kernel
theorem dX5_run_40 : decode cX5_run 40 = .ok (.invokevirtual 216, 3) := by decide +kernel
theorem dX5_run_43 : decode cX5_run 43 = .ok (.istore 4, 2) := by decide +kernel
theorem dX5_run_45 : decode cX5_run 45 = .ok (.iload_n 2, 1) := by decide +kernel
theorem dX5_run_46 : decode cX5_run 46 = .ok (.aload_n 0, 1) := by decide +kernel
theorem dX5_run_47 : decode cX5_run 47 = .ok (.iload 4, 2) := by decide +kernel
theorem dX5_run_49 : decode cX5_run 49 = .ok (.invokevirtual 206, 3) := by decide +kernel
theorem dX5_run_52 : decode cX5_run 52 = .ok (.iadd, 1) := by decide +kernel
theorem dX5_run_53 : decode cX5_run 53 = .ok (.istore_n 2, 1) := by decide +kernel
theorem dX5_run_54 : decode cX5_run 54 = .ok (.iload_n 3, 1) := by decide +kernel
theorem dX5_run_55 : decode cX5_run 55 = .ok (.sipush 200, 3) := by decide +kernel
theorem dX5_run_58 : decode cX5_run 58 = .ok (.if_icmp .ge 11, 3) := by decide +kernel
theorem dX5_run_61 : decode cX5_run 61 = .ok (.aload_n 0, 1) := by decide +kernel
theorem dX5_run_62 : decode cX5_run 62 = .ok (.getfield 59, 3) := by decide +kernel
theorem dX5_run_65 : decode cX5_run 65 = .ok (.iload_n 3, 1) := by decide +kernel
theorem dX5_run_66 : decode cX5_run 66 = .ok (.iload 4, 2) := by decide +kernel
theorem dX5_run_68 : decode cX5_run 68 = .ok (.iastore, 1) := by decide +kernel
theorem dX5_run_69 : decode cX5_run 69 = .ok (.iinc 3 1, 3) := by decide +kernel
theorem dX5_run_72 : decode cX5_run 72 = .ok (.goto (-38), 3) := by decide +kernel
theorem dX5_run_75 : decode cX5_run 75 = .ok (.iload_n 2, 1) := by decide +kernel
theorem dX5_run_76 : decode cX5_run 76 = .ok (.ireturn, 1) := by decide +kernel
theorem dX5_step_0 : decode cX5_step 0 = .ok (.iload_n 1, 1) := by decide +kernel
theorem dX5_step_1 : decode cX5_step 1 = .ok (.i2l, 1) := by decide +kernel
theorem dX5_step_2 : decode cX5_step 2 = .ok (.lconst 0, 1) := by decide +kernel
theorem dX5_step_3 : decode cX5_step 3 = .ok (.aload_n 0, 1) := by decide +kernel
theorem dX5_step_4 : decode cX5_step 4 = .ok (.getfield 213, 3) := by decide +kernel
theorem dX5_step_7 : decode cX5_step 7 = .ok (.sipush 200, 3) := by decide +kernel
theorem dX5_step_10 : decode cX5_step 10 = .ok (.if_icmp .ge 10, 3) := by decide +kernel
theorem dX5_step_13 : decode cX5_step 13 = .ok (.aload_n 0, 1) := by decide +kernel
theorem dX5_step_14 : decode cX5_step 14 = .ok (.getfield 213, 3) := by decide +kernel
theorem dX5_step_17 : decode cX5_step 17 = .ok (.goto 6, 3) := by decide +kernel
theorem dX5_step_20 : decode cX5_step 20 = .ok (.sipush 200, 3) := by decide +kernel
theorem dX5_step_23 : decode cX5_step 23 = .ok (.iconst 1, 1) := by decide +kernel
theorem dX5_step_24 : decode cX5_step 24 = .ok (.isub, 1) := by decide +kernel
theorem dX5_step_25 : decode cX5_step 25 = .ok (.i2l, 1) := by decide +kernel
theorem dX5_step_26 : decode cX5_step 26 = .ok (.invokestatic 81, 3) := by decide +kernel
theorem dX5_step_29 : decode cX5_step 29 = .ok (.ifCond .eq 12, 3) := by decide +kernel
theorem dX5_step_32 : decode cX5_step 32 = .ok (.aload_n 0, 1) := by decide +kernel
theorem dX5_step_33 : decode cX5_step 33 = .ok (.getfield 59, 3) := by decide +kernel
theorem dX5_step_36 : decode cX5_step 36 = .ok (.iload_n 1, 1) := by decide +kernel
theorem dX5_step_37 : decode cX5_step 37 = .ok (.iaload, 1) := by decide +kernel
theorem dX5_step_38 : decode cX5_step 38 = .ok (.goto 5, 3) := by decide +kernel
theorem dX5_step_41 : decode cX5_step 41 = .ok (.bipush (-9), 2) := by decide +kernel
theorem dX5_step_43 : decode cX5_step 43 = .ok (.ireturn, 1) := by decide +kernel
theorem dX5_worked_0 : decode cX5_worked 0 = .ok (.aload_n 0, 1) := by decide +kernel
theorem dX5_worked_1 : decode cX5_worked 1 = .ok (.iload_n 1, 1) := by decide +kernel
theorem dX5_worked_2 : decode cX5_worked 2 = .ok (.invokevirtual 114, 3) := by decide +kernel
theorem dX5_worked_5 : decode cX5_worked 5 = .ok (.ifCond .eq 12, 3) := by decide +kernel
theorem dX5_worked_8 : decode cX5_worked 8 = .ok (.aload_n 0, 1) := by decide +kernel
theorem dX5_worked_9 : decode cX5_worked 9 = .ok (.getfield 41, 3) := by decide +kernel
theorem dX5_worked_12 : decode cX5_worked 12 = .ok (.iload_n 1, 1) := by decide +kernel
theorem dX5_worked_13 : decode cX5_worked 13 = .ok (.iaload, 1) := by decide +kernel
theorem dX5_worked_14 : decode cX5_worked 14 = .ok (.goto 4, 3) := by decide +kernel
theorem dX5_worked_17 : decode cX5_worked 17 = .ok (.iconst (-1), 1) := by decide +kernel
theorem dX5_worked_18 : decode cX5_worked 18 = .ok (.ireturn, 1) := by decide +kernel
theorem dX5_paid_0 : decode cX5_paid 0 = .ok (.aload_n 0, 1) := by decide +kernel
theorem dX5_paid_1 : decode cX5_paid 1 = .ok (.getfield 196, 3) := by decide +kernel
theorem dX5_paid_4 : decode cX5_paid 4 = .ok (.lreturn, 1) := by decide +kernel
theorem dX5_fail_0 : decode cX5_fail 0 = .ok (.aload_n 0, 1) := by decide +kernel
theorem dX5_fail_1 : decode cX5_fail 1 = .ok (.iload_n 1, 1) := by decide +kernel
theorem dX5_fail_2 : decode cX5_fail 2 = .ok (.invokevirtual 114, 3) := by decide +kernel
theorem dX5_fail_5 : decode cX5_fail 5 = .ok (.ifCond .eq 15, 3) := by decide +kernel
theorem dX5_fail_8 : decode cX5_fail 8 = .ok (.iload_n 2, 1) := by decide +kernel
theorem dX5_fail_9 : decode cX5_fail 9 = .ok (.i2l, 1) := by decide +kernel
theorem dX5_fail_10 : decode cX5_fail 10 = .ok (.lconst 0, 1) := by decide +kernel
theorem dX5_fail_11 : decode cX5_fail 11 = .ok (.ldc2_w 87, 3) := by decide +kernel
theorem dX5_fail_14 : decode cX5_fail 14 = .ok (.invokestatic 81, 3) := by decide +kernel
theorem dX5_fail_17 : decode cX5_fail 17 = .ok (.ifCond .ne 7, 3) := by decide +kernel
theorem dX5_fail_20 : decode cX5_fail 20 = .ok (.iconst (-1), 1) := by decide +kernel
theorem dX5_fail_21 : decode cX5_fail 21 = .ok (.goto 26, 3) := by decide +kernel
theorem dX5_fail_24 : decode cX5_fail 24 = .ok (.iload_n 2, 1) := by decide +kernel
theorem dX5_fail_25 : decode cX5_fail 25 = .ok (.iconst 1, 1) := by decide +kernel
theorem dX5_fail_26 : decode cX5_fail 26 = .ok (.if_icmp .ne 7, 3) := by decide +kernel
theorem dX5_fail_29 : decode cX5_fail 29 = .ok (.iconst 2, 1) := by decide +kernel
theorem dX5_fail_30 : decode cX5_fail 30 = .ok (.goto 17, 3) := by decide +kernel
theorem dX5_fail_33 : decode cX5_fail 33 = .ok (.aload_n 0, 1) := by decide +kernel
theorem dX5_fail_34 : decode cX5_fail 34 = .ok (.iload_n 2, 1) := by decide +kernel
theorem dX5_fail_35 : decode cX5_fail 35 = .ok (.ifCond .ne 8, 3) := by decide +kernel
theorem dX5_fail_38 : decode cX5_fail 38 = .ok (.bipush 6, 2) := by decide +kernel
theorem dX5_fail_40 : decode cX5_fail 40 = .ok (.goto 4, 3) := by decide +kernel
theorem dX5_fail_43 : decode cX5_fail 43 = .ok (.iconst 2, 1) := by decide +kernel
theorem dX5_fail_44 : decode cX5_fail 44 = .ok (.invokevirtual 96, 3) := by decide +kernel
theorem dX5_fail_47 : decode cX5_fail 47 = .ok (.ireturn, 1) := by decide +kernel
theorem dX5_count_0 : decode cX5_count 0 = .ok (.iload_n 1, 1) := by decide +kernel
theorem dX5_count_1 : decode cX5_count 1 = .ok (.tableswitch 60 0 4 #[35, 40, 45, 50, 55], 35) := by decide +kernel
theorem dX5_count_36 : decode cX5_count 36 = .ok (.aload_n 0, 1) := by decide +kernel
theorem dX5_count_37 : decode cX5_count 37 = .ok (.getfield 111, 3) := by decide +kernel
theorem dX5_count_40 : decode cX5_count 40 = .ok (.ireturn, 1) := by decide +kernel
theorem dX5_count_41 : decode cX5_count 41 = .ok (.aload_n 0, 1) := by decide +kernel
theorem dX5_count_42 : decode cX5_count 42 = .ok (.getfield 91, 3) := by decide +kernel
theorem dX5_count_45 : decode cX5_count 45 = .ok (.ireturn, 1) := by decide +kernel
theorem dX5_count_46 : decode cX5_count 46 = .ok (.aload_n 0, 1) := by decide +kernel
theorem dX5_count_47 : decode cX5_count 47 = .ok (.getfield 62, 3) := by decide +kernel
theorem dX5_count_50 : decode cX5_count 50 = .ok (.ireturn, 1) := by decide +kernel
theorem dX5_count_51 : decode cX5_count 51 = .ok (.aload_n 0, 1) := by decide +kernel
theorem dX5_count_52 : decode cX5_count 52 = .ok (.getfield 66, 3) := by decide +kernel
theorem dX5_count_55 : decode cX5_count 55 = .ok (.ireturn, 1) := by decide +kernel
theorem dX5_count_56 : decode cX5_count 56 = .ok (.aload_n 0, 1) := by decide +kernel
theorem dX5_count_57 : decode cX5_count 57 = .ok (.getfield 69, 3) := by decide +kernel
theorem dX5_count_60 : decode cX5_count 60 = .ok (.ireturn, 1) := by decide +kernel
theorem dX5_count_61 : decode cX5_count 61 = .ok (.iconst (-1), 1) := by decide +kernel
theorem dX5_count_62 : decode cX5_count 62 = .ok (.ireturn, 1) := by decide +kernel
theorem dX5_digest_0 : decode cX5_digest 0 = .ok (.ldc2_w 183, 3) := by decide +kernel
theorem dX5_digest_3 : decode cX5_digest 3 = .ok (.ldc2_w 183, 3) := by decide +kernel
theorem dX5_digest_6 : decode cX5_digest 6 = .ok (.ldc2_w 219, 3) := by decide +kernel
theorem dX5_digest_9 : decode cX5_digest 9 = .ok (.aload_n 0, 1) := by decide +kernel
theorem dX5_digest_10 : decode cX5_digest 10 = .ok (.getfield 62, 3) := by decide +kernel
theorem dX5_digest_13 : decode cX5_digest 13 = .ok (.i2l, 1) := by decide +kernel
theorem dX5_digest_14 : decode cX5_digest 14 = .ok (.ladd, 1) := by decide +kernel
theorem dX5_digest_15 : decode cX5_digest 15 = .ok (.lmul, 1) := by decide +kernel
theorem dX5_digest_16 : decode cX5_digest 16 = .ok (.aload_n 0, 1) := by decide +kernel
theorem dX5_digest_17 : decode cX5_digest 17 = .ok (.getfield 66, 3) := by decide +kernel
theorem dX5_digest_20 : decode cX5_digest 20 = .ok (.i2l, 1) := by decide +kernel
theorem dX5_digest_21 : decode cX5_digest 21 = .ok (.ladd, 1) := by decide +kernel
theorem dX5_digest_22 : decode cX5_digest 22 = .ok (.lmul, 1) := by decide +kernel
theorem dX5_digest_23 : decode cX5_digest 23 = .ok (.aload_n 0, 1) := by decide +kernel
theorem dX5_digest_24 : decode cX5_digest 24 = .ok (.getfield 69, 3) := by decide +kernel
theorem dX5_digest_27 : decode cX5_digest 27 = .ok (.i2l, 1) := by decide +kernel
theorem dX5_digest_28 : decode cX5_digest 28 = .ok (.ladd, 1) := by decide +kernel
theorem dX5_digest_29 : decode cX5_digest 29 = .ok (.lstore_n 1, 1) := by decide +kernel
theorem dX5_digest_30 : decode cX5_digest 30 = .ok (.iconst 0, 1) := by decide +kernel
theorem dX5_digest_31 : decode cX5_digest 31 = .ok (.istore_n 3, 1) := by decide +kernel
theorem dX5_digest_32 : decode cX5_digest 32 = .ok (.iload_n 3, 1) := by decide +kernel
theorem dX5_digest_33 : decode cX5_digest 33 = .ok (.aload_n 0, 1) := by decide +kernel
theorem dX5_digest_34 : decode cX5_digest 34 = .ok (.getfield 111, 3) := by decide +kernel
theorem dX5_digest_37 : decode cX5_digest 37 = .ok (.if_icmp .ge 131, 3) := by decide +kernel
theorem dX5_digest_40 : decode cX5_digest 40 = .ok (.ldc2_w 183, 3) := by decide +kernel
theorem dX5_digest_43 : decode cX5_digest 43 = .ok (.ldc2_w 183, 3) := by decide +kernel
theorem dX5_digest_46 : decode cX5_digest 46 = .ok (.ldc2_w 183, 3) := by decide +kernel
theorem dX5_digest_49 : decode cX5_digest 49 = .ok (.lload_n 1, 1) := by decide +kernel
theorem dX5_digest_50 : decode cX5_digest 50 = .ok (.lmul, 1) := by decide +kernel
theorem dX5_digest_51 : decode cX5_digest 51 = .ok (.aload_n 0, 1) := by decide +kernel
theorem dX5_digest_52 : decode cX5_digest 52 = .ok (.getfield 26, 3) := by decide +kernel
theorem dX5_digest_55 : decode cX5_digest 55 = .ok (.iload_n 3, 1) := by decide +kernel
theorem dX5_digest_56 : decode cX5_digest 56 = .ok (.iaload, 1) := by decide +kernel
theorem dX5_digest_57 : decode cX5_digest 57 = .ok (.i2l, 1) := by decide +kernel
theorem dX5_digest_58 : decode cX5_digest 58 = .ok (.ladd, 1) := by decide +kernel
theorem dX5_digest_59 : decode cX5_digest 59 = .ok (.lmul, 1) := by decide +kernel
theorem dX5_digest_60 : decode cX5_digest 60 = .ok (.aload_n 0, 1) := by decide +kernel
theorem dX5_digest_61 : decode cX5_digest 61 = .ok (.getfield 29, 3) := by decide +kernel
theorem dX5_digest_64 : decode cX5_digest 64 = .ok (.iload_n 3, 1) := by decide +kernel
theorem dX5_digest_65 : decode cX5_digest 65 = .ok (.iaload, 1) := by decide +kernel
theorem dX5_digest_66 : decode cX5_digest 66 = .ok (.i2l, 1) := by decide +kernel
theorem dX5_digest_67 : decode cX5_digest 67 = .ok (.ladd, 1) := by decide +kernel
theorem dX5_digest_68 : decode cX5_digest 68 = .ok (.lmul, 1) := by decide +kernel
theorem dX5_digest_69 : decode cX5_digest 69 = .ok (.aload_n 0, 1) := by decide +kernel
theorem dX5_digest_70 : decode cX5_digest 70 = .ok (.getfield 32, 3) := by decide +kernel
theorem dX5_digest_73 : decode cX5_digest 73 = .ok (.iload_n 3, 1) := by decide +kernel
theorem dX5_digest_74 : decode cX5_digest 74 = .ok (.iaload, 1) := by decide +kernel
theorem dX5_digest_75 : decode cX5_digest 75 = .ok (.i2l, 1) := by decide +kernel
theorem dX5_digest_76 : decode cX5_digest 76 = .ok (.ladd, 1) := by decide +kernel
theorem dX5_digest_77 : decode cX5_digest 77 = .ok (.lstore_n 1, 1) := by decide +kernel
theorem dX5_digest_78 : decode cX5_digest 78 = .ok (.iconst 0, 1) := by decide +kernel
theorem dX5_digest_79 : decode cX5_digest 79 = .ok (.istore 4, 2) := by decide +kernel
theorem dX5_digest_81 : decode cX5_digest 81 = .ok (.iload 4, 2) := by decide +kernel
theorem dX5_digest_83 : decode cX5_digest 83 = .ok (.aload_n 0, 1) := by decide +kernel
theorem dX5_digest_84 : decode cX5_digest 84 = .ok (.getfield 29, 3) := by decide +kernel
theorem dX5_digest_87 : decode cX5_digest 87 = .ok (.iload_n 3, 1) := by decide +kernel
theorem dX5_digest_88 : decode cX5_digest 88 = .ok (.iaload, 1) := by decide +kernel
theorem dX5_digest_89 : decode cX5_digest 89 = .ok (.if_icmp .ge 73, 3) := by decide +kernel
theorem dX5_digest_92 : decode cX5_digest 92 = .ok (.ldc2_w 183, 3) := by decide +kernel
theorem dX5_digest_95 : decode cX5_digest 95 = .ok (.lload_n 1, 1) := by decide +kernel
theorem dX5_digest_96 : decode cX5_digest 96 = .ok (.lmul, 1) := by decide +kernel
theorem dX5_digest_97 : decode cX5_digest 97 = .ok (.aload_n 0, 1) := by decide +kernel
theorem dX5_digest_98 : decode cX5_digest 98 = .ok (.getfield 35, 3) := by decide +kernel
theorem dX5_digest_101 : decode cX5_digest 101 = .ok (.iconst 5, 1) := by decide +kernel
theorem dX5_digest_102 : decode cX5_digest 102 = .ok (.iload_n 3, 1) := by decide +kernel
theorem dX5_digest_103 : decode cX5_digest 103 = .ok (.imul, 1) := by decide +kernel
theorem dX5_digest_104 : decode cX5_digest 104 = .ok (.iload 4, 2) := by decide +kernel
theorem dX5_digest_106 : decode cX5_digest 106 = .ok (.iadd, 1) := by decide +kernel
theorem dX5_digest_107 : decode cX5_digest 107 = .ok (.iaload, 1) := by decide +kernel
theorem dX5_digest_108 : decode cX5_digest 108 = .ok (.i2l, 1) := by decide +kernel
theorem dX5_digest_109 : decode cX5_digest 109 = .ok (.ladd, 1) := by decide +kernel
theorem dX5_digest_110 : decode cX5_digest 110 = .ok (.lstore_n 1, 1) := by decide +kernel
theorem dX5_digest_111 : decode cX5_digest 111 = .ok (.iconst 0, 1) := by decide +kernel
theorem dX5_digest_112 : decode cX5_digest 112 = .ok (.istore 5, 2) := by decide +kernel
theorem dX5_digest_114 : decode cX5_digest 114 = .ok (.iload 5, 2) := by decide +kernel
theorem dX5_digest_116 : decode cX5_digest 116 = .ok (.aload_n 0, 1) := by decide +kernel
theorem dX5_digest_117 : decode cX5_digest 117 = .ok (.getfield 29, 3) := by decide +kernel
theorem dX5_digest_120 : decode cX5_digest 120 = .ok (.iload_n 3, 1) := by decide +kernel
theorem dX5_digest_121 : decode cX5_digest 121 = .ok (.iaload, 1) := by decide +kernel
theorem dX5_digest_122 : decode cX5_digest 122 = .ok (.if_icmp .ge 34, 3) := by decide +kernel
theorem dX5_digest_125 : decode cX5_digest 125 = .ok (.ldc2_w 183, 3) := by decide +kernel
theorem dX5_digest_128 : decode cX5_digest 128 = .ok (.lload_n 1, 1) := by decide +kernel
theorem dX5_digest_129 : decode cX5_digest 129 = .ok (.lmul, 1) := by decide +kernel
theorem dX5_digest_130 : decode cX5_digest 130 = .ok (.aload_n 0, 1) := by decide +kernel
theorem dX5_digest_131 : decode cX5_digest 131 = .ok (.getfield 38, 3) := by decide +kernel
theorem dX5_digest_134 : decode cX5_digest 134 = .ok (.bipush 25, 2) := by decide +kernel
theorem dX5_digest_136 : decode cX5_digest 136 = .ok (.iload_n 3, 1) := by decide +kernel
theorem dX5_digest_137 : decode cX5_digest 137 = .ok (.imul, 1) := by decide +kernel
theorem dX5_digest_138 : decode cX5_digest 138 = .ok (.iconst 5, 1) := by decide +kernel
theorem dX5_digest_139 : decode cX5_digest 139 = .ok (.iload 4, 2) := by decide +kernel
theorem dX5_digest_141 : decode cX5_digest 141 = .ok (.imul, 1) := by decide +kernel
theorem dX5_digest_142 : decode cX5_digest 142 = .ok (.iadd, 1) := by decide +kernel
theorem dX5_digest_143 : decode cX5_digest 143 = .ok (.iload 5, 2) := by decide +kernel
theorem dX5_digest_145 : decode cX5_digest 145 = .ok (.iadd, 1) := by decide +kernel
theorem dX5_digest_146 : decode cX5_digest 146 = .ok (.iaload, 1) := by decide +kernel
theorem dX5_digest_147 : decode cX5_digest 147 = .ok (.i2l, 1) := by decide +kernel
theorem dX5_digest_148 : decode cX5_digest 148 = .ok (.ladd, 1) := by decide +kernel
theorem dX5_digest_149 : decode cX5_digest 149 = .ok (.lstore_n 1, 1) := by decide +kernel
theorem dX5_digest_150 : decode cX5_digest 150 = .ok (.iinc 5 1, 3) := by decide +kernel
theorem dX5_digest_153 : decode cX5_digest 153 = .ok (.goto (-39), 3) := by decide +kernel
theorem dX5_digest_156 : decode cX5_digest 156 = .ok (.iinc 4 1, 3) := by decide +kernel
theorem dX5_digest_159 : decode cX5_digest 159 = .ok (.goto (-78), 3) := by decide +kernel
theorem dX5_digest_162 : decode cX5_digest 162 = .ok (.iinc 3 1, 3) := by decide +kernel
theorem dX5_digest_165 : decode cX5_digest 165 = .ok (.goto (-133), 3) := by decide +kernel
theorem dX5_digest_168 : decode cX5_digest 168 = .ok (.iconst 0, 1) := by decide +kernel
theorem dX5_digest_169 : decode cX5_digest 169 = .ok (.istore_n 3, 1) := by decide +kernel
theorem dX5_digest_170 : decode cX5_digest 170 = .ok (.iload_n 3, 1) := by decide +kernel
theorem dX5_digest_171 : decode cX5_digest 171 = .ok (.aload_n 0, 1) := by decide +kernel
theorem dX5_digest_172 : decode cX5_digest 172 = .ok (.getfield 91, 3) := by decide +kernel
theorem dX5_digest_175 : decode cX5_digest 175 = .ok (.if_icmp .ge 75, 3) := by decide +kernel
theorem dX5_digest_178 : decode cX5_digest 178 = .ok (.ldc2_w 183, 3) := by decide +kernel
theorem dX5_digest_181 : decode cX5_digest 181 = .ok (.lload_n 1, 1) := by decide +kernel
theorem dX5_digest_182 : decode cX5_digest 182 = .ok (.lmul, 1) := by decide +kernel
theorem dX5_digest_183 : decode cX5_digest 183 = .ok (.aload_n 0, 1) := by decide +kernel
theorem dX5_digest_184 : decode cX5_digest 184 = .ok (.getfield 16, 3) := by decide +kernel
theorem dX5_digest_187 : decode cX5_digest 187 = .ok (.iload_n 3, 1) := by decide +kernel
theorem dX5_digest_188 : decode cX5_digest 188 = .ok (.iaload, 1) := by decide +kernel
theorem dX5_digest_189 : decode cX5_digest 189 = .ok (.ifCond .ge 7, 3) := by decide +kernel
theorem dX5_digest_192 : decode cX5_digest 192 = .ok (.iconst (-1), 1) := by decide +kernel
theorem dX5_digest_193 : decode cX5_digest 193 = .ok (.goto 9, 3) := by decide +kernel
theorem dX5_digest_196 : decode cX5_digest 196 = .ok (.aload_n 0, 1) := by decide +kernel
theorem dX5_digest_197 : decode cX5_digest 197 = .ok (.getfield 16, 3) := by decide +kernel
theorem dX5_digest_200 : decode cX5_digest 200 = .ok (.iload_n 3, 1) := by decide +kernel
theorem dX5_digest_201 : decode cX5_digest 201 = .ok (.iaload, 1) := by decide +kernel
theorem dX5_digest_202 : decode cX5_digest 202 = .ok (.i2l, 1) := by decide +kernel
theorem dX5_digest_203 : decode cX5_digest 203 = .ok (.ladd, 1) := by decide +kernel
theorem dX5_digest_204 : decode cX5_digest 204 = .ok (.lstore_n 1, 1) := by decide +kernel
theorem dX5_digest_205 : decode cX5_digest 205 = .ok (.iconst 0, 1) := by decide +kernel
theorem dX5_digest_206 : decode cX5_digest 206 = .ok (.istore 4, 2) := by decide +kernel
theorem dX5_digest_208 : decode cX5_digest 208 = .ok (.iload 4, 2) := by decide +kernel
theorem dX5_digest_210 : decode cX5_digest 210 = .ok (.aload_n 0, 1) := by decide +kernel
theorem dX5_digest_211 : decode cX5_digest 211 = .ok (.getfield 16, 3) := by decide +kernel
theorem dX5_digest_214 : decode cX5_digest 214 = .ok (.iload_n 3, 1) := by decide +kernel
theorem dX5_digest_215 : decode cX5_digest 215 = .ok (.iaload, 1) := by decide +kernel
theorem dX5_digest_216 : decode cX5_digest 216 = .ok (.if_icmp .ge 28, 3) := by decide +kernel
theorem dX5_digest_219 : decode cX5_digest 219 = .ok (.ldc2_w 183, 3) := by decide +kernel
theorem dX5_digest_222 : decode cX5_digest 222 = .ok (.lload_n 1, 1) := by decide +kernel
theorem dX5_digest_223 : decode cX5_digest 223 = .ok (.lmul, 1) := by decide +kernel
theorem dX5_digest_224 : decode cX5_digest 224 = .ok (.aload_n 0, 1) := by decide +kernel
theorem dX5_digest_225 : decode cX5_digest 225 = .ok (.getfield 19, 3) := by decide +kernel
theorem dX5_digest_228 : decode cX5_digest 228 = .ok (.bipush 24, 2) := by decide +kernel
theorem dX5_digest_230 : decode cX5_digest 230 = .ok (.iload_n 3, 1) := by decide +kernel
theorem dX5_digest_231 : decode cX5_digest 231 = .ok (.imul, 1) := by decide +kernel
theorem dX5_digest_232 : decode cX5_digest 232 = .ok (.iload 4, 2) := by decide +kernel
theorem dX5_digest_234 : decode cX5_digest 234 = .ok (.iadd, 1) := by decide +kernel
theorem dX5_digest_235 : decode cX5_digest 235 = .ok (.laload, 1) := by decide +kernel
theorem dX5_digest_236 : decode cX5_digest 236 = .ok (.ladd, 1) := by decide +kernel
theorem dX5_digest_237 : decode cX5_digest 237 = .ok (.lstore_n 1, 1) := by decide +kernel
theorem dX5_digest_238 : decode cX5_digest 238 = .ok (.iinc 4 1, 3) := by decide +kernel
theorem dX5_digest_241 : decode cX5_digest 241 = .ok (.goto (-33), 3) := by decide +kernel
theorem dX5_digest_244 : decode cX5_digest 244 = .ok (.iinc 3 1, 3) := by decide +kernel
theorem dX5_digest_247 : decode cX5_digest 247 = .ok (.goto (-77), 3) := by decide +kernel
theorem dX5_digest_250 : decode cX5_digest 250 = .ok (.lload_n 1, 1) := by decide +kernel
theorem dX5_digest_251 : decode cX5_digest 251 = .ok (.lreturn, 1) := by decide +kernel
end
section
theorem dL_law_0 : decode cL_law 0 = .ok (.new 7, 3) := by decide +kernel
theorem dL_law_3 : decode cL_law 3 = .ok (.dup, 1) := by decide +kernel
theorem dL_law_4 : decode cL_law 4 = .ok (.invokespecial 9, 3) := by decide +kernel
theorem dL_law_7 : decode cL_law 7 = .ok (.astore_n 1, 1) := by decide +kernel
theorem dL_law_8 : decode cL_law 8 = .ok (.new 10, 3) := by decide +kernel
theorem dL_law_11 : decode cL_law 11 = .ok (.dup, 1) := by decide +kernel
theorem dL_law_12 : decode cL_law 12 = .ok (.invokespecial 12, 3) := by decide +kernel
theorem dL_law_15 : decode cL_law 15 = .ok (.astore_n 2, 1) := by decide +kernel
theorem dL_law_16 : decode cL_law 16 = .ok (.iconst 0, 1) := by decide +kernel
theorem dL_law_17 : decode cL_law 17 = .ok (.istore_n 3, 1) := by decide +kernel
theorem dL_law_18 : decode cL_law 18 = .ok (.iload_n 3, 1) := by decide +kernel
theorem dL_law_19 : decode cL_law 19 = .ok (.aload_n 0, 1) := by decide +kernel
theorem dL_law_20 : decode cL_law 20 = .ok (.arraylength, 1) := by decide +kernel
theorem dL_law_21 : decode cL_law 21 = .ok (.bipush 6, 2) := by decide +kernel
theorem dL_law_23 : decode cL_law 23 = .ok (.isub, 1) := by decide +kernel
theorem dL_law_24 : decode cL_law 24 = .ok (.if_icmp .gt 1418, 3) := by decide +kernel
theorem dL_law_27 : decode cL_law 27 = .ok (.aload_n 0, 1) := by decide +kernel
theorem dL_law_28 : decode cL_law 28 = .ok (.iload_n 3, 1) := by decide +kernel
theorem dL_law_29 : decode cL_law 29 = .ok (.iaload, 1) := by decide +kernel
theorem dL_law_30 : decode cL_law 30 = .ok (.bipush 63, 2) := by decide +kernel
theorem dL_law_32 : decode cL_law 32 = .ok (.iand, 1) := by decide +kernel
theorem dL_law_33 : decode cL_law 33 = .ok (.tableswitch 1403 0 38 #[171, 204, 237, 260, 333, 366, 429, 462, 495, 528, 571, 624, 667, 710, 743, 776, 819, 833, 847, 880, 913, 966, 999, 1032, 1065, 1088, 1141, 1164, 1177, 1200, 1223, 1246, 1269, 1283, 1316, 1330, 1353, 1366, 1389], 171) := by decide +kernel
theorem dL_law_204 : decode cL_law 204 = .ok (.aload_n 1, 1) := by decide +kernel
theorem dL_law_205 : decode cL_law 205 = .ok (.aload_n 0, 1) := by decide +kernel
theorem dL_law_206 : decode cL_law 206 = .ok (.iload_n 3, 1) := by decide +kernel
theorem dL_law_207 : decode cL_law 207 = .ok (.iconst 1, 1) := by decide +kernel
theorem dL_law_208 : decode cL_law 208 = .ok (.iadd, 1) := by decide +kernel
theorem dL_law_209 : decode cL_law 209 = .ok (.iaload, 1) := by decide +kernel
theorem dL_law_210 : decode cL_law 210 = .ok (.aload_n 0, 1) := by decide +kernel
theorem dL_law_211 : decode cL_law 211 = .ok (.iload_n 3, 1) := by decide +kernel
theorem dL_law_212 : decode cL_law 212 = .ok (.iconst 2, 1) := by decide +kernel
theorem dL_law_213 : decode cL_law 213 = .ok (.iadd, 1) := by decide +kernel
theorem dL_law_214 : decode cL_law 214 = .ok (.iaload, 1) := by decide +kernel
theorem dL_law_215 : decode cL_law 215 = .ok (.invokevirtual 13, 3) := by decide +kernel
theorem dL_law_218 : decode cL_law 218 = .ok (.aload_n 2, 1) := by decide +kernel
theorem dL_law_219 : decode cL_law 219 = .ok (.aload_n 0, 1) := by decide +kernel
theorem dL_law_220 : decode cL_law 220 = .ok (.iload_n 3, 1) := by decide +kernel
theorem dL_law_221 : decode cL_law 221 = .ok (.iconst 1, 1) := by decide +kernel
theorem dL_law_222 : decode cL_law 222 = .ok (.iadd, 1) := by decide +kernel
theorem dL_law_223 : decode cL_law 223 = .ok (.iaload, 1) := by decide +kernel
theorem dL_law_224 : decode cL_law 224 = .ok (.aload_n 0, 1) := by decide +kernel
theorem dL_law_225 : decode cL_law 225 = .ok (.iload_n 3, 1) := by decide +kernel
theorem dL_law_226 : decode cL_law 226 = .ok (.iconst 2, 1) := by decide +kernel
theorem dL_law_227 : decode cL_law 227 = .ok (.iadd, 1) := by decide +kernel
theorem dL_law_228 : decode cL_law 228 = .ok (.iaload, 1) := by decide +kernel
theorem dL_law_229 : decode cL_law 229 = .ok (.invokevirtual 17, 3) := by decide +kernel
theorem dL_law_232 : decode cL_law 232 = .ok (.if_icmp .eq 1204, 3) := by decide +kernel
theorem dL_law_235 : decode cL_law 235 = .ok (.iconst 0, 1) := by decide +kernel
theorem dL_law_236 : decode cL_law 236 = .ok (.ireturn, 1) := by decide +kernel
theorem dL_law_237 : decode cL_law 237 = .ok (.aload_n 1, 1) := by decide +kernel
theorem dL_law_238 : decode cL_law 238 = .ok (.aload_n 0, 1) := by decide +kernel
theorem dL_law_239 : decode cL_law 239 = .ok (.iload_n 3, 1) := by decide +kernel
theorem dL_law_240 : decode cL_law 240 = .ok (.iconst 1, 1) := by decide +kernel
theorem dL_law_241 : decode cL_law 241 = .ok (.iadd, 1) := by decide +kernel
theorem dL_law_242 : decode cL_law 242 = .ok (.iaload, 1) := by decide +kernel
theorem dL_law_243 : decode cL_law 243 = .ok (.aload_n 0, 1) := by decide +kernel
theorem dL_law_244 : decode cL_law 244 = .ok (.iload_n 3, 1) := by decide +kernel
theorem dL_law_245 : decode cL_law 245 = .ok (.iconst 2, 1) := by decide +kernel
theorem dL_law_246 : decode cL_law 246 = .ok (.iadd, 1) := by decide +kernel
theorem dL_law_247 : decode cL_law 247 = .ok (.iaload, 1) := by decide +kernel
theorem dL_law_248 : decode cL_law 248 = .ok (.invokevirtual 18, 3) := by decide +kernel
theorem dL_law_251 : decode cL_law 251 = .ok (.aload_n 2, 1) := by decide +kernel
theorem dL_law_252 : decode cL_law 252 = .ok (.aload_n 0, 1) := by decide +kernel
theorem dL_law_253 : decode cL_law 253 = .ok (.iload_n 3, 1) := by decide +kernel
theorem dL_law_254 : decode cL_law 254 = .ok (.iconst 1, 1) := by decide +kernel
theorem dL_law_255 : decode cL_law 255 = .ok (.iadd, 1) := by decide +kernel
theorem dL_law_256 : decode cL_law 256 = .ok (.iaload, 1) := by decide +kernel
theorem dL_law_257 : decode cL_law 257 = .ok (.aload_n 0, 1) := by decide +kernel
theorem dL_law_258 : decode cL_law 258 = .ok (.iload_n 3, 1) := by decide +kernel
theorem dL_law_259 : decode cL_law 259 = .ok (.iconst 2, 1) := by decide +kernel
theorem dL_law_260 : decode cL_law 260 = .ok (.iadd, 1) := by decide +kernel
theorem dL_law_261 : decode cL_law 261 = .ok (.iaload, 1) := by decide +kernel
theorem dL_law_262 : decode cL_law 262 = .ok (.invokevirtual 21, 3) := by decide +kernel
theorem dL_law_265 : decode cL_law 265 = .ok (.if_icmp .eq 1171, 3) := by decide +kernel
theorem dL_law_268 : decode cL_law 268 = .ok (.iconst 0, 1) := by decide +kernel
theorem dL_law_269 : decode cL_law 269 = .ok (.ireturn, 1) := by decide +kernel
theorem dL_law_270 : decode cL_law 270 = .ok (.aload_n 1, 1) := by decide +kernel
theorem dL_law_271 : decode cL_law 271 = .ok (.aload_n 0, 1) := by decide +kernel
theorem dL_law_272 : decode cL_law 272 = .ok (.iload_n 3, 1) := by decide +kernel
theorem dL_law_273 : decode cL_law 273 = .ok (.iconst 1, 1) := by decide +kernel
theorem dL_law_274 : decode cL_law 274 = .ok (.iadd, 1) := by decide +kernel
theorem dL_law_275 : decode cL_law 275 = .ok (.iaload, 1) := by decide +kernel
theorem dL_law_276 : decode cL_law 276 = .ok (.invokevirtual 22, 3) := by decide +kernel
theorem dL_law_279 : decode cL_law 279 = .ok (.aload_n 2, 1) := by decide +kernel
theorem dL_law_280 : decode cL_law 280 = .ok (.aload_n 0, 1) := by decide +kernel
theorem dL_law_281 : decode cL_law 281 = .ok (.iload_n 3, 1) := by decide +kernel
theorem dL_law_282 : decode cL_law 282 = .ok (.iconst 1, 1) := by decide +kernel
theorem dL_law_283 : decode cL_law 283 = .ok (.iadd, 1) := by decide +kernel
theorem dL_law_284 : decode cL_law 284 = .ok (.iaload, 1) := by decide +kernel
theorem dL_law_285 : decode cL_law 285 = .ok (.invokevirtual 26, 3) := by decide +kernel
theorem dL_law_288 : decode cL_law 288 = .ok (.if_icmp .eq 1148, 3) := by decide +kernel
theorem dL_law_291 : decode cL_law 291 = .ok (.iconst 0, 1) := by decide +kernel
theorem dL_law_292 : decode cL_law 292 = .ok (.ireturn, 1) := by decide +kernel
theorem dL_law_293 : decode cL_law 293 = .ok (.aload_n 1, 1) := by decide +kernel
theorem dL_law_294 : decode cL_law 294 = .ok (.aload_n 0, 1) := by decide +kernel
theorem dL_law_295 : decode cL_law 295 = .ok (.iload_n 3, 1) := by decide +kernel
theorem dL_law_296 : decode cL_law 296 = .ok (.iconst 1, 1) := by decide +kernel
theorem dL_law_297 : decode cL_law 297 = .ok (.iadd, 1) := by decide +kernel
theorem dL_law_298 : decode cL_law 298 = .ok (.iaload, 1) := by decide +kernel
theorem dL_law_299 : decode cL_law 299 = .ok (.aload_n 0, 1) := by decide +kernel
theorem dL_law_300 : decode cL_law 300 = .ok (.iload_n 3, 1) := by decide +kernel
theorem dL_law_301 : decode cL_law 301 = .ok (.iconst 2, 1) := by decide +kernel
theorem dL_law_302 : decode cL_law 302 = .ok (.iadd, 1) := by decide +kernel
theorem dL_law_303 : decode cL_law 303 = .ok (.iaload, 1) := by decide +kernel
theorem dL_law_304 : decode cL_law 304 = .ok (.aload_n 0, 1) := by decide +kernel
theorem dL_law_305 : decode cL_law 305 = .ok (.iload_n 3, 1) := by decide +kernel
theorem dL_law_306 : decode cL_law 306 = .ok (.iconst 3, 1) := by decide +kernel
theorem dL_law_307 : decode cL_law 307 = .ok (.iadd, 1) := by decide +kernel
theorem dL_law_308 : decode cL_law 308 = .ok (.iaload, 1) := by decide +kernel
theorem dL_law_309 : decode cL_law 309 = .ok (.i2l, 1) := by decide +kernel
theorem dL_law_310 : decode cL_law 310 = .ok (.bipush 32, 2) := by decide +kernel
theorem dL_law_312 : decode cL_law 312 = .ok (.lshl, 1) := by decide +kernel
theorem dL_law_313 : decode cL_law 313 = .ok (.aload_n 0, 1) := by decide +kernel
theorem dL_law_314 : decode cL_law 314 = .ok (.iload_n 3, 1) := by decide +kernel
theorem dL_law_315 : decode cL_law 315 = .ok (.iconst 4, 1) := by decide +kernel
theorem dL_law_316 : decode cL_law 316 = .ok (.iadd, 1) := by decide +kernel
theorem dL_law_317 : decode cL_law 317 = .ok (.iaload, 1) := by decide +kernel
theorem dL_law_318 : decode cL_law 318 = .ok (.i2l, 1) := by decide +kernel
theorem dL_law_319 : decode cL_law 319 = .ok (.ldc2_w 27, 3) := by decide +kernel
theorem dL_law_322 : decode cL_law 322 = .ok (.land, 1) := by decide +kernel
theorem dL_law_323 : decode cL_law 323 = .ok (.lor, 1) := by decide +kernel
theorem dL_law_324 : decode cL_law 324 = .ok (.invokevirtual 29, 3) := by decide +kernel
theorem dL_law_327 : decode cL_law 327 = .ok (.aload_n 2, 1) := by decide +kernel
theorem dL_law_328 : decode cL_law 328 = .ok (.aload_n 0, 1) := by decide +kernel
theorem dL_law_329 : decode cL_law 329 = .ok (.iload_n 3, 1) := by decide +kernel
theorem dL_law_330 : decode cL_law 330 = .ok (.iconst 1, 1) := by decide +kernel
theorem dL_law_331 : decode cL_law 331 = .ok (.iadd, 1) := by decide +kernel
theorem dL_law_332 : decode cL_law 332 = .ok (.iaload, 1) := by decide +kernel
theorem dL_law_333 : decode cL_law 333 = .ok (.aload_n 0, 1) := by decide +kernel
theorem dL_law_334 : decode cL_law 334 = .ok (.iload_n 3, 1) := by decide +kernel
theorem dL_law_335 : decode cL_law 335 = .ok (.iconst 2, 1) := by decide +kernel
theorem dL_law_336 : decode cL_law 336 = .ok (.iadd, 1) := by decide +kernel
theorem dL_law_337 : decode cL_law 337 = .ok (.iaload, 1) := by decide +kernel
theorem dL_law_338 : decode cL_law 338 = .ok (.aload_n 0, 1) := by decide +kernel
theorem dL_law_339 : decode cL_law 339 = .ok (.iload_n 3, 1) := by decide +kernel
theorem dL_law_340 : decode cL_law 340 = .ok (.iconst 3, 1) := by decide +kernel
theorem dL_law_341 : decode cL_law 341 = .ok (.iadd, 1) := by decide +kernel
theorem dL_law_342 : decode cL_law 342 = .ok (.iaload, 1) := by decide +kernel
theorem dL_law_343 : decode cL_law 343 = .ok (.i2l, 1) := by decide +kernel
theorem dL_law_344 : decode cL_law 344 = .ok (.bipush 32, 2) := by decide +kernel
theorem dL_law_346 : decode cL_law 346 = .ok (.lshl, 1) := by decide +kernel
theorem dL_law_347 : decode cL_law 347 = .ok (.aload_n 0, 1) := by decide +kernel
theorem dL_law_348 : decode cL_law 348 = .ok (.iload_n 3, 1) := by decide +kernel
theorem dL_law_349 : decode cL_law 349 = .ok (.iconst 4, 1) := by decide +kernel
theorem dL_law_350 : decode cL_law 350 = .ok (.iadd, 1) := by decide +kernel
theorem dL_law_351 : decode cL_law 351 = .ok (.iaload, 1) := by decide +kernel
theorem dL_law_352 : decode cL_law 352 = .ok (.i2l, 1) := by decide +kernel
theorem dL_law_353 : decode cL_law 353 = .ok (.ldc2_w 27, 3) := by decide +kernel
theorem dL_law_356 : decode cL_law 356 = .ok (.land, 1) := by decide +kernel
theorem dL_law_357 : decode cL_law 357 = .ok (.lor, 1) := by decide +kernel
theorem dL_law_358 : decode cL_law 358 = .ok (.invokevirtual 33, 3) := by decide +kernel
theorem dL_law_361 : decode cL_law 361 = .ok (.if_icmp .eq 1075, 3) := by decide +kernel
theorem dL_law_364 : decode cL_law 364 = .ok (.iconst 0, 1) := by decide +kernel
theorem dL_law_365 : decode cL_law 365 = .ok (.ireturn, 1) := by decide +kernel
theorem dL_law_366 : decode cL_law 366 = .ok (.aload_n 1, 1) := by decide +kernel
theorem dL_law_367 : decode cL_law 367 = .ok (.aload_n 0, 1) := by decide +kernel
theorem dL_law_368 : decode cL_law 368 = .ok (.iload_n 3, 1) := by decide +kernel
theorem dL_law_369 : decode cL_law 369 = .ok (.iconst 1, 1) := by decide +kernel
theorem dL_law_370 : decode cL_law 370 = .ok (.iadd, 1) := by decide +kernel
theorem dL_law_371 : decode cL_law 371 = .ok (.iaload, 1) := by decide +kernel
theorem dL_law_372 : decode cL_law 372 = .ok (.aload_n 0, 1) := by decide +kernel
theorem dL_law_373 : decode cL_law 373 = .ok (.iload_n 3, 1) := by decide +kernel
theorem dL_law_374 : decode cL_law 374 = .ok (.iconst 2, 1) := by decide +kernel
theorem dL_law_375 : decode cL_law 375 = .ok (.iadd, 1) := by decide +kernel
theorem dL_law_376 : decode cL_law 376 = .ok (.iaload, 1) := by decide +kernel
theorem dL_law_377 : decode cL_law 377 = .ok (.invokevirtual 34, 3) := by decide +kernel
theorem dL_law_380 : decode cL_law 380 = .ok (.aload_n 2, 1) := by decide +kernel
theorem dL_law_381 : decode cL_law 381 = .ok (.aload_n 0, 1) := by decide +kernel
theorem dL_law_382 : decode cL_law 382 = .ok (.iload_n 3, 1) := by decide +kernel
theorem dL_law_383 : decode cL_law 383 = .ok (.iconst 1, 1) := by decide +kernel
theorem dL_law_384 : decode cL_law 384 = .ok (.iadd, 1) := by decide +kernel
theorem dL_law_385 : decode cL_law 385 = .ok (.iaload, 1) := by decide +kernel
theorem dL_law_386 : decode cL_law 386 = .ok (.aload_n 0, 1) := by decide +kernel
theorem dL_law_387 : decode cL_law 387 = .ok (.iload_n 3, 1) := by decide +kernel
theorem dL_law_388 : decode cL_law 388 = .ok (.iconst 2, 1) := by decide +kernel
theorem dL_law_389 : decode cL_law 389 = .ok (.iadd, 1) := by decide +kernel
theorem dL_law_390 : decode cL_law 390 = .ok (.iaload, 1) := by decide +kernel
theorem dL_law_391 : decode cL_law 391 = .ok (.invokevirtual 37, 3) := by decide +kernel
theorem dL_law_394 : decode cL_law 394 = .ok (.if_icmp .eq 1042, 3) := by decide +kernel
theorem dL_law_397 : decode cL_law 397 = .ok (.iconst 0, 1) := by decide +kernel
theorem dL_law_398 : decode cL_law 398 = .ok (.ireturn, 1) := by decide +kernel
theorem dL_law_399 : decode cL_law 399 = .ok (.aload_n 1, 1) := by decide +kernel
theorem dL_law_400 : decode cL_law 400 = .ok (.aload_n 0, 1) := by decide +kernel
theorem dL_law_401 : decode cL_law 401 = .ok (.iload_n 3, 1) := by decide +kernel
theorem dL_law_402 : decode cL_law 402 = .ok (.iconst 1, 1) := by decide +kernel
theorem dL_law_403 : decode cL_law 403 = .ok (.iadd, 1) := by decide +kernel
theorem dL_law_404 : decode cL_law 404 = .ok (.iaload, 1) := by decide +kernel
theorem dL_law_405 : decode cL_law 405 = .ok (.aload_n 0, 1) := by decide +kernel
theorem dL_law_406 : decode cL_law 406 = .ok (.iload_n 3, 1) := by decide +kernel
theorem dL_law_407 : decode cL_law 407 = .ok (.iconst 2, 1) := by decide +kernel
theorem dL_law_408 : decode cL_law 408 = .ok (.iadd, 1) := by decide +kernel
theorem dL_law_409 : decode cL_law 409 = .ok (.iaload, 1) := by decide +kernel
theorem dL_law_410 : decode cL_law 410 = .ok (.aload_n 0, 1) := by decide +kernel
theorem dL_law_411 : decode cL_law 411 = .ok (.iload_n 3, 1) := by decide +kernel
theorem dL_law_412 : decode cL_law 412 = .ok (.iconst 3, 1) := by decide +kernel
theorem dL_law_413 : decode cL_law 413 = .ok (.iadd, 1) := by decide +kernel
theorem dL_law_414 : decode cL_law 414 = .ok (.iaload, 1) := by decide +kernel
theorem dL_law_415 : decode cL_law 415 = .ok (.aload_n 0, 1) := by decide +kernel
theorem dL_law_416 : decode cL_law 416 = .ok (.iload_n 3, 1) := by decide +kernel
theorem dL_law_417 : decode cL_law 417 = .ok (.iconst 4, 1) := by decide +kernel
theorem dL_law_418 : decode cL_law 418 = .ok (.iadd, 1) := by decide +kernel
theorem dL_law_419 : decode cL_law 419 = .ok (.iaload, 1) := by decide +kernel
theorem dL_law_420 : decode cL_law 420 = .ok (.aload_n 0, 1) := by decide +kernel
theorem dL_law_421 : decode cL_law 421 = .ok (.iload_n 3, 1) := by decide +kernel
theorem dL_law_422 : decode cL_law 422 = .ok (.iconst 5, 1) := by decide +kernel
theorem dL_law_423 : decode cL_law 423 = .ok (.iadd, 1) := by decide +kernel
theorem dL_law_424 : decode cL_law 424 = .ok (.iaload, 1) := by decide +kernel
theorem dL_law_425 : decode cL_law 425 = .ok (.invokevirtual 38, 3) := by decide +kernel
theorem dL_law_428 : decode cL_law 428 = .ok (.aload_n 2, 1) := by decide +kernel
theorem dL_law_429 : decode cL_law 429 = .ok (.aload_n 0, 1) := by decide +kernel
theorem dL_law_430 : decode cL_law 430 = .ok (.iload_n 3, 1) := by decide +kernel
theorem dL_law_431 : decode cL_law 431 = .ok (.iconst 1, 1) := by decide +kernel
theorem dL_law_432 : decode cL_law 432 = .ok (.iadd, 1) := by decide +kernel
theorem dL_law_433 : decode cL_law 433 = .ok (.iaload, 1) := by decide +kernel
theorem dL_law_434 : decode cL_law 434 = .ok (.aload_n 0, 1) := by decide +kernel
theorem dL_law_435 : decode cL_law 435 = .ok (.iload_n 3, 1) := by decide +kernel
theorem dL_law_436 : decode cL_law 436 = .ok (.iconst 2, 1) := by decide +kernel
theorem dL_law_437 : decode cL_law 437 = .ok (.iadd, 1) := by decide +kernel
theorem dL_law_438 : decode cL_law 438 = .ok (.iaload, 1) := by decide +kernel
theorem dL_law_439 : decode cL_law 439 = .ok (.aload_n 0, 1) := by decide +kernel
theorem dL_law_440 : decode cL_law 440 = .ok (.iload_n 3, 1) := by decide +kernel
theorem dL_law_441 : decode cL_law 441 = .ok (.iconst 3, 1) := by decide +kernel
theorem dL_law_442 : decode cL_law 442 = .ok (.iadd, 1) := by decide +kernel
theorem dL_law_443 : decode cL_law 443 = .ok (.iaload, 1) := by decide +kernel
theorem dL_law_444 : decode cL_law 444 = .ok (.aload_n 0, 1) := by decide +kernel
theorem dL_law_445 : decode cL_law 445 = .ok (.iload_n 3, 1) := by decide +kernel
theorem dL_law_446 : decode cL_law 446 = .ok (.iconst 4, 1) := by decide +kernel
theorem dL_law_447 : decode cL_law 447 = .ok (.iadd, 1) := by decide +kernel
theorem dL_law_448 : decode cL_law 448 = .ok (.iaload, 1) := by decide +kernel
theorem dL_law_449 : decode cL_law 449 = .ok (.aload_n 0, 1) := by decide +kernel
theorem dL_law_450 : decode cL_law 450 = .ok (.iload_n 3, 1) := by decide +kernel
theorem dL_law_451 : decode cL_law 451 = .ok (.iconst 5, 1) := by decide +kernel
theorem dL_law_452 : decode cL_law 452 = .ok (.iadd, 1) := by decide +kernel
theorem dL_law_453 : decode cL_law 453 = .ok (.iaload, 1) := by decide +kernel
theorem dL_law_454 : decode cL_law 454 = .ok (.invokevirtual 42, 3) := by decide +kernel
theorem dL_law_457 : decode cL_law 457 = .ok (.if_icmp .eq 979, 3) := by decide +kernel
theorem dL_law_460 : decode cL_law 460 = .ok (.iconst 0, 1) := by decide +kernel
theorem dL_law_461 : decode cL_law 461 = .ok (.ireturn, 1) := by decide +kernel
theorem dL_law_462 : decode cL_law 462 = .ok (.aload_n 1, 1) := by decide +kernel
theorem dL_law_463 : decode cL_law 463 = .ok (.aload_n 0, 1) := by decide +kernel
theorem dL_law_464 : decode cL_law 464 = .ok (.iload_n 3, 1) := by decide +kernel
theorem dL_law_465 : decode cL_law 465 = .ok (.iconst 1, 1) := by decide +kernel
theorem dL_law_466 : decode cL_law 466 = .ok (.iadd, 1) := by decide +kernel
theorem dL_law_467 : decode cL_law 467 = .ok (.iaload, 1) := by decide +kernel
theorem dL_law_468 : decode cL_law 468 = .ok (.aload_n 0, 1) := by decide +kernel
theorem dL_law_469 : decode cL_law 469 = .ok (.iload_n 3, 1) := by decide +kernel
theorem dL_law_470 : decode cL_law 470 = .ok (.iconst 2, 1) := by decide +kernel
theorem dL_law_471 : decode cL_law 471 = .ok (.iadd, 1) := by decide +kernel
theorem dL_law_472 : decode cL_law 472 = .ok (.iaload, 1) := by decide +kernel
theorem dL_law_473 : decode cL_law 473 = .ok (.invokevirtual 43, 3) := by decide +kernel
theorem dL_law_476 : decode cL_law 476 = .ok (.aload_n 2, 1) := by decide +kernel
theorem dL_law_477 : decode cL_law 477 = .ok (.aload_n 0, 1) := by decide +kernel
theorem dL_law_478 : decode cL_law 478 = .ok (.iload_n 3, 1) := by decide +kernel
theorem dL_law_479 : decode cL_law 479 = .ok (.iconst 1, 1) := by decide +kernel
theorem dL_law_480 : decode cL_law 480 = .ok (.iadd, 1) := by decide +kernel
theorem dL_law_481 : decode cL_law 481 = .ok (.iaload, 1) := by decide +kernel
theorem dL_law_482 : decode cL_law 482 = .ok (.aload_n 0, 1) := by decide +kernel
theorem dL_law_483 : decode cL_law 483 = .ok (.iload_n 3, 1) := by decide +kernel
theorem dL_law_484 : decode cL_law 484 = .ok (.iconst 2, 1) := by decide +kernel
theorem dL_law_485 : decode cL_law 485 = .ok (.iadd, 1) := by decide +kernel
theorem dL_law_486 : decode cL_law 486 = .ok (.iaload, 1) := by decide +kernel
theorem dL_law_487 : decode cL_law 487 = .ok (.invokevirtual 46, 3) := by decide +kernel
theorem dL_law_490 : decode cL_law 490 = .ok (.if_icmp .eq 946, 3) := by decide +kernel
theorem dL_law_493 : decode cL_law 493 = .ok (.iconst 0, 1) := by decide +kernel
theorem dL_law_494 : decode cL_law 494 = .ok (.ireturn, 1) := by decide +kernel
theorem dL_law_495 : decode cL_law 495 = .ok (.aload_n 1, 1) := by decide +kernel
theorem dL_law_496 : decode cL_law 496 = .ok (.aload_n 0, 1) := by decide +kernel
theorem dL_law_497 : decode cL_law 497 = .ok (.iload_n 3, 1) := by decide +kernel
theorem dL_law_498 : decode cL_law 498 = .ok (.iconst 1, 1) := by decide +kernel
theorem dL_law_499 : decode cL_law 499 = .ok (.iadd, 1) := by decide +kernel
theorem dL_law_500 : decode cL_law 500 = .ok (.iaload, 1) := by decide +kernel
theorem dL_law_501 : decode cL_law 501 = .ok (.aload_n 0, 1) := by decide +kernel
theorem dL_law_502 : decode cL_law 502 = .ok (.iload_n 3, 1) := by decide +kernel
theorem dL_law_503 : decode cL_law 503 = .ok (.iconst 2, 1) := by decide +kernel
theorem dL_law_504 : decode cL_law 504 = .ok (.iadd, 1) := by decide +kernel
theorem dL_law_505 : decode cL_law 505 = .ok (.iaload, 1) := by decide +kernel
theorem dL_law_506 : decode cL_law 506 = .ok (.invokevirtual 47, 3) := by decide +kernel
theorem dL_law_509 : decode cL_law 509 = .ok (.aload_n 2, 1) := by decide +kernel
theorem dL_law_510 : decode cL_law 510 = .ok (.aload_n 0, 1) := by decide +kernel
theorem dL_law_511 : decode cL_law 511 = .ok (.iload_n 3, 1) := by decide +kernel
theorem dL_law_512 : decode cL_law 512 = .ok (.iconst 1, 1) := by decide +kernel
theorem dL_law_513 : decode cL_law 513 = .ok (.iadd, 1) := by decide +kernel
theorem dL_law_514 : decode cL_law 514 = .ok (.iaload, 1) := by decide +kernel
theorem dL_law_515 : decode cL_law 515 = .ok (.aload_n 0, 1) := by decide +kernel
theorem dL_law_516 : decode cL_law 516 = .ok (.iload_n 3, 1) := by decide +kernel
theorem dL_law_517 : decode cL_law 517 = .ok (.iconst 2, 1) := by decide +kernel
theorem dL_law_518 : decode cL_law 518 = .ok (.iadd, 1) := by decide +kernel
theorem dL_law_519 : decode cL_law 519 = .ok (.iaload, 1) := by decide +kernel
theorem dL_law_520 : decode cL_law 520 = .ok (.invokevirtual 50, 3) := by decide +kernel
theorem dL_law_523 : decode cL_law 523 = .ok (.if_icmp .eq 913, 3) := by decide +kernel
theorem dL_law_526 : decode cL_law 526 = .ok (.iconst 0, 1) := by decide +kernel
theorem dL_law_527 : decode cL_law 527 = .ok (.ireturn, 1) := by decide +kernel
theorem dL_law_528 : decode cL_law 528 = .ok (.aload_n 1, 1) := by decide +kernel
theorem dL_law_529 : decode cL_law 529 = .ok (.aload_n 0, 1) := by decide +kernel
theorem dL_law_530 : decode cL_law 530 = .ok (.iload_n 3, 1) := by decide +kernel
theorem dL_law_531 : decode cL_law 531 = .ok (.iconst 1, 1) := by decide +kernel
theorem dL_law_532 : decode cL_law 532 = .ok (.iadd, 1) := by decide +kernel
theorem dL_law_533 : decode cL_law 533 = .ok (.iaload, 1) := by decide +kernel
theorem dL_law_534 : decode cL_law 534 = .ok (.aload_n 0, 1) := by decide +kernel
theorem dL_law_535 : decode cL_law 535 = .ok (.iload_n 3, 1) := by decide +kernel
theorem dL_law_536 : decode cL_law 536 = .ok (.iconst 2, 1) := by decide +kernel
theorem dL_law_537 : decode cL_law 537 = .ok (.iadd, 1) := by decide +kernel
theorem dL_law_538 : decode cL_law 538 = .ok (.iaload, 1) := by decide +kernel
theorem dL_law_539 : decode cL_law 539 = .ok (.invokevirtual 51, 3) := by decide +kernel
theorem dL_law_542 : decode cL_law 542 = .ok (.aload_n 2, 1) := by decide +kernel
theorem dL_law_543 : decode cL_law 543 = .ok (.aload_n 0, 1) := by decide +kernel
theorem dL_law_544 : decode cL_law 544 = .ok (.iload_n 3, 1) := by decide +kernel
theorem dL_law_545 : decode cL_law 545 = .ok (.iconst 1, 1) := by decide +kernel
theorem dL_law_546 : decode cL_law 546 = .ok (.iadd, 1) := by decide +kernel
theorem dL_law_547 : decode cL_law 547 = .ok (.iaload, 1) := by decide +kernel
theorem dL_law_548 : decode cL_law 548 = .ok (.aload_n 0, 1) := by decide +kernel
theorem dL_law_549 : decode cL_law 549 = .ok (.iload_n 3, 1) := by decide +kernel
theorem dL_law_550 : decode cL_law 550 = .ok (.iconst 2, 1) := by decide +kernel
theorem dL_law_551 : decode cL_law 551 = .ok (.iadd, 1) := by decide +kernel
theorem dL_law_552 : decode cL_law 552 = .ok (.iaload, 1) := by decide +kernel
theorem dL_law_553 : decode cL_law 553 = .ok (.invokevirtual 54, 3) := by decide +kernel
theorem dL_law_556 : decode cL_law 556 = .ok (.if_icmp .eq 880, 3) := by decide +kernel
theorem dL_law_559 : decode cL_law 559 = .ok (.iconst 0, 1) := by decide +kernel
theorem dL_law_560 : decode cL_law 560 = .ok (.ireturn, 1) := by decide +kernel
theorem dL_law_561 : decode cL_law 561 = .ok (.aload_n 1, 1) := by decide +kernel
theorem dL_law_562 : decode cL_law 562 = .ok (.aload_n 0, 1) := by decide +kernel
theorem dL_law_563 : decode cL_law 563 = .ok (.iload_n 3, 1) := by decide +kernel
theorem dL_law_564 : decode cL_law 564 = .ok (.iconst 1, 1) := by decide +kernel
theorem dL_law_565 : decode cL_law 565 = .ok (.iadd, 1) := by decide +kernel
theorem dL_law_566 : decode cL_law 566 = .ok (.iaload, 1) := by decide +kernel
theorem dL_law_567 : decode cL_law 567 = .ok (.aload_n 0, 1) := by decide +kernel
theorem dL_law_568 : decode cL_law 568 = .ok (.iload_n 3, 1) := by decide +kernel
theorem dL_law_569 : decode cL_law 569 = .ok (.iconst 2, 1) := by decide +kernel
theorem dL_law_570 : decode cL_law 570 = .ok (.iadd, 1) := by decide +kernel
theorem dL_law_571 : decode cL_law 571 = .ok (.iaload, 1) := by decide +kernel
theorem dL_law_572 : decode cL_law 572 = .ok (.aload_n 0, 1) := by decide +kernel
theorem dL_law_573 : decode cL_law 573 = .ok (.iload_n 3, 1) := by decide +kernel
theorem dL_law_574 : decode cL_law 574 = .ok (.iconst 3, 1) := by decide +kernel
theorem dL_law_575 : decode cL_law 575 = .ok (.iadd, 1) := by decide +kernel
theorem dL_law_576 : decode cL_law 576 = .ok (.iaload, 1) := by decide +kernel
theorem dL_law_577 : decode cL_law 577 = .ok (.invokevirtual 55, 3) := by decide +kernel
theorem dL_law_580 : decode cL_law 580 = .ok (.aload_n 2, 1) := by decide +kernel
theorem dL_law_581 : decode cL_law 581 = .ok (.aload_n 0, 1) := by decide +kernel
theorem dL_law_582 : decode cL_law 582 = .ok (.iload_n 3, 1) := by decide +kernel
theorem dL_law_583 : decode cL_law 583 = .ok (.iconst 1, 1) := by decide +kernel
theorem dL_law_584 : decode cL_law 584 = .ok (.iadd, 1) := by decide +kernel
theorem dL_law_585 : decode cL_law 585 = .ok (.iaload, 1) := by decide +kernel
theorem dL_law_586 : decode cL_law 586 = .ok (.aload_n 0, 1) := by decide +kernel
theorem dL_law_587 : decode cL_law 587 = .ok (.iload_n 3, 1) := by decide +kernel
theorem dL_law_588 : decode cL_law 588 = .ok (.iconst 2, 1) := by decide +kernel
theorem dL_law_589 : decode cL_law 589 = .ok (.iadd, 1) := by decide +kernel
theorem dL_law_590 : decode cL_law 590 = .ok (.iaload, 1) := by decide +kernel
theorem dL_law_591 : decode cL_law 591 = .ok (.aload_n 0, 1) := by decide +kernel
theorem dL_law_592 : decode cL_law 592 = .ok (.iload_n 3, 1) := by decide +kernel
theorem dL_law_593 : decode cL_law 593 = .ok (.iconst 3, 1) := by decide +kernel
theorem dL_law_594 : decode cL_law 594 = .ok (.iadd, 1) := by decide +kernel
theorem dL_law_595 : decode cL_law 595 = .ok (.iaload, 1) := by decide +kernel
theorem dL_law_596 : decode cL_law 596 = .ok (.invokevirtual 59, 3) := by decide +kernel
theorem dL_law_599 : decode cL_law 599 = .ok (.if_icmp .eq 837, 3) := by decide +kernel
theorem dL_law_602 : decode cL_law 602 = .ok (.iconst 0, 1) := by decide +kernel
theorem dL_law_603 : decode cL_law 603 = .ok (.ireturn, 1) := by decide +kernel
theorem dL_law_604 : decode cL_law 604 = .ok (.aload_n 1, 1) := by decide +kernel
theorem dL_law_605 : decode cL_law 605 = .ok (.aload_n 0, 1) := by decide +kernel
theorem dL_law_606 : decode cL_law 606 = .ok (.iload_n 3, 1) := by decide +kernel
theorem dL_law_607 : decode cL_law 607 = .ok (.iconst 1, 1) := by decide +kernel
theorem dL_law_608 : decode cL_law 608 = .ok (.iadd, 1) := by decide +kernel
theorem dL_law_609 : decode cL_law 609 = .ok (.iaload, 1) := by decide +kernel
theorem dL_law_610 : decode cL_law 610 = .ok (.aload_n 0, 1) := by decide +kernel
theorem dL_law_611 : decode cL_law 611 = .ok (.iload_n 3, 1) := by decide +kernel
theorem dL_law_612 : decode cL_law 612 = .ok (.iconst 2, 1) := by decide +kernel
theorem dL_law_613 : decode cL_law 613 = .ok (.iadd, 1) := by decide +kernel
theorem dL_law_614 : decode cL_law 614 = .ok (.iaload, 1) := by decide +kernel
theorem dL_law_615 : decode cL_law 615 = .ok (.aload_n 0, 1) := by decide +kernel
theorem dL_law_616 : decode cL_law 616 = .ok (.iload_n 3, 1) := by decide +kernel
theorem dL_law_617 : decode cL_law 617 = .ok (.iconst 3, 1) := by decide +kernel
theorem dL_law_618 : decode cL_law 618 = .ok (.iadd, 1) := by decide +kernel
theorem dL_law_619 : decode cL_law 619 = .ok (.iaload, 1) := by decide +kernel
theorem dL_law_620 : decode cL_law 620 = .ok (.aload_n 0, 1) := by decide +kernel
theorem dL_law_621 : decode cL_law 621 = .ok (.iload_n 3, 1) := by decide +kernel
theorem dL_law_622 : decode cL_law 622 = .ok (.iconst 4, 1) := by decide +kernel
theorem dL_law_623 : decode cL_law 623 = .ok (.iadd, 1) := by decide +kernel
theorem dL_law_624 : decode cL_law 624 = .ok (.iaload, 1) := by decide +kernel
theorem dL_law_625 : decode cL_law 625 = .ok (.invokevirtual 60, 3) := by decide +kernel
theorem dL_law_628 : decode cL_law 628 = .ok (.aload_n 2, 1) := by decide +kernel
theorem dL_law_629 : decode cL_law 629 = .ok (.aload_n 0, 1) := by decide +kernel
theorem dL_law_630 : decode cL_law 630 = .ok (.iload_n 3, 1) := by decide +kernel
theorem dL_law_631 : decode cL_law 631 = .ok (.iconst 1, 1) := by decide +kernel
theorem dL_law_632 : decode cL_law 632 = .ok (.iadd, 1) := by decide +kernel
theorem dL_law_633 : decode cL_law 633 = .ok (.iaload, 1) := by decide +kernel
theorem dL_law_634 : decode cL_law 634 = .ok (.aload_n 0, 1) := by decide +kernel
theorem dL_law_635 : decode cL_law 635 = .ok (.iload_n 3, 1) := by decide +kernel
theorem dL_law_636 : decode cL_law 636 = .ok (.iconst 2, 1) := by decide +kernel
theorem dL_law_637 : decode cL_law 637 = .ok (.iadd, 1) := by decide +kernel
theorem dL_law_638 : decode cL_law 638 = .ok (.iaload, 1) := by decide +kernel
theorem dL_law_639 : decode cL_law 639 = .ok (.aload_n 0, 1) := by decide +kernel
theorem dL_law_640 : decode cL_law 640 = .ok (.iload_n 3, 1) := by decide +kernel
theorem dL_law_641 : decode cL_law 641 = .ok (.iconst 3, 1) := by decide +kernel
theorem dL_law_642 : decode cL_law 642 = .ok (.iadd, 1) := by decide +kernel
theorem dL_law_643 : decode cL_law 643 = .ok (.iaload, 1) := by decide +kernel
theorem dL_law_644 : decode cL_law 644 = .ok (.aload_n 0, 1) := by decide +kernel
theorem dL_law_645 : decode cL_law 645 = .ok (.iload_n 3, 1) := by decide +kernel
theorem dL_law_646 : decode cL_law 646 = .ok (.iconst 4, 1) := by decide +kernel
theorem dL_law_647 : decode cL_law 647 = .ok (.iadd, 1) := by decide +kernel
theorem dL_law_648 : decode cL_law 648 = .ok (.iaload, 1) := by decide +kernel
theorem dL_law_649 : decode cL_law 649 = .ok (.invokevirtual 64, 3) := by decide +kernel
theorem dL_law_652 : decode cL_law 652 = .ok (.if_icmp .eq 784, 3) := by decide +kernel
theorem dL_law_655 : decode cL_law 655 = .ok (.iconst 0, 1) := by decide +kernel
theorem dL_law_656 : decode cL_law 656 = .ok (.ireturn, 1) := by decide +kernel
theorem dL_law_657 : decode cL_law 657 = .ok (.aload_n 1, 1) := by decide +kernel
theorem dL_law_658 : decode cL_law 658 = .ok (.aload_n 0, 1) := by decide +kernel
theorem dL_law_659 : decode cL_law 659 = .ok (.iload_n 3, 1) := by decide +kernel
theorem dL_law_660 : decode cL_law 660 = .ok (.iconst 1, 1) := by decide +kernel
theorem dL_law_661 : decode cL_law 661 = .ok (.iadd, 1) := by decide +kernel
theorem dL_law_662 : decode cL_law 662 = .ok (.iaload, 1) := by decide +kernel
theorem dL_law_663 : decode cL_law 663 = .ok (.aload_n 0, 1) := by decide +kernel
theorem dL_law_664 : decode cL_law 664 = .ok (.iload_n 3, 1) := by decide +kernel
theorem dL_law_665 : decode cL_law 665 = .ok (.iconst 2, 1) := by decide +kernel
theorem dL_law_666 : decode cL_law 666 = .ok (.iadd, 1) := by decide +kernel
theorem dL_law_667 : decode cL_law 667 = .ok (.iaload, 1) := by decide +kernel
theorem dL_law_668 : decode cL_law 668 = .ok (.aload_n 0, 1) := by decide +kernel
theorem dL_law_669 : decode cL_law 669 = .ok (.iload_n 3, 1) := by decide +kernel
theorem dL_law_670 : decode cL_law 670 = .ok (.iconst 3, 1) := by decide +kernel
theorem dL_law_671 : decode cL_law 671 = .ok (.iadd, 1) := by decide +kernel
theorem dL_law_672 : decode cL_law 672 = .ok (.iaload, 1) := by decide +kernel
theorem dL_law_673 : decode cL_law 673 = .ok (.invokevirtual 65, 3) := by decide +kernel
theorem dL_law_676 : decode cL_law 676 = .ok (.aload_n 2, 1) := by decide +kernel
theorem dL_law_677 : decode cL_law 677 = .ok (.aload_n 0, 1) := by decide +kernel
theorem dL_law_678 : decode cL_law 678 = .ok (.iload_n 3, 1) := by decide +kernel
theorem dL_law_679 : decode cL_law 679 = .ok (.iconst 1, 1) := by decide +kernel
theorem dL_law_680 : decode cL_law 680 = .ok (.iadd, 1) := by decide +kernel
theorem dL_law_681 : decode cL_law 681 = .ok (.iaload, 1) := by decide +kernel
theorem dL_law_682 : decode cL_law 682 = .ok (.aload_n 0, 1) := by decide +kernel
theorem dL_law_683 : decode cL_law 683 = .ok (.iload_n 3, 1) := by decide +kernel
theorem dL_law_684 : decode cL_law 684 = .ok (.iconst 2, 1) := by decide +kernel
theorem dL_law_685 : decode cL_law 685 = .ok (.iadd, 1) := by decide +kernel
theorem dL_law_686 : decode cL_law 686 = .ok (.iaload, 1) := by decide +kernel
theorem dL_law_687 : decode cL_law 687 = .ok (.aload_n 0, 1) := by decide +kernel
theorem dL_law_688 : decode cL_law 688 = .ok (.iload_n 3, 1) := by decide +kernel
theorem dL_law_689 : decode cL_law 689 = .ok (.iconst 3, 1) := by decide +kernel
theorem dL_law_690 : decode cL_law 690 = .ok (.iadd, 1) := by decide +kernel
theorem dL_law_691 : decode cL_law 691 = .ok (.iaload, 1) := by decide +kernel
theorem dL_law_692 : decode cL_law 692 = .ok (.invokevirtual 68, 3) := by decide +kernel
theorem dL_law_695 : decode cL_law 695 = .ok (.if_icmp .eq 741, 3) := by decide +kernel
theorem dL_law_698 : decode cL_law 698 = .ok (.iconst 0, 1) := by decide +kernel
theorem dL_law_699 : decode cL_law 699 = .ok (.ireturn, 1) := by decide +kernel
theorem dL_law_700 : decode cL_law 700 = .ok (.aload_n 1, 1) := by decide +kernel
theorem dL_law_701 : decode cL_law 701 = .ok (.aload_n 0, 1) := by decide +kernel
theorem dL_law_702 : decode cL_law 702 = .ok (.iload_n 3, 1) := by decide +kernel
theorem dL_law_703 : decode cL_law 703 = .ok (.iconst 1, 1) := by decide +kernel
theorem dL_law_704 : decode cL_law 704 = .ok (.iadd, 1) := by decide +kernel
theorem dL_law_705 : decode cL_law 705 = .ok (.iaload, 1) := by decide +kernel
theorem dL_law_706 : decode cL_law 706 = .ok (.aload_n 0, 1) := by decide +kernel
theorem dL_law_707 : decode cL_law 707 = .ok (.iload_n 3, 1) := by decide +kernel
theorem dL_law_708 : decode cL_law 708 = .ok (.iconst 2, 1) := by decide +kernel
theorem dL_law_709 : decode cL_law 709 = .ok (.iadd, 1) := by decide +kernel
theorem dL_law_710 : decode cL_law 710 = .ok (.iaload, 1) := by decide +kernel
theorem dL_law_711 : decode cL_law 711 = .ok (.aload_n 0, 1) := by decide +kernel
theorem dL_law_712 : decode cL_law 712 = .ok (.iload_n 3, 1) := by decide +kernel
theorem dL_law_713 : decode cL_law 713 = .ok (.iconst 3, 1) := by decide +kernel
theorem dL_law_714 : decode cL_law 714 = .ok (.iadd, 1) := by decide +kernel
theorem dL_law_715 : decode cL_law 715 = .ok (.iaload, 1) := by decide +kernel
theorem dL_law_716 : decode cL_law 716 = .ok (.invokevirtual 69, 3) := by decide +kernel
theorem dL_law_719 : decode cL_law 719 = .ok (.aload_n 2, 1) := by decide +kernel
theorem dL_law_720 : decode cL_law 720 = .ok (.aload_n 0, 1) := by decide +kernel
theorem dL_law_721 : decode cL_law 721 = .ok (.iload_n 3, 1) := by decide +kernel
theorem dL_law_722 : decode cL_law 722 = .ok (.iconst 1, 1) := by decide +kernel
theorem dL_law_723 : decode cL_law 723 = .ok (.iadd, 1) := by decide +kernel
theorem dL_law_724 : decode cL_law 724 = .ok (.iaload, 1) := by decide +kernel
theorem dL_law_725 : decode cL_law 725 = .ok (.aload_n 0, 1) := by decide +kernel
theorem dL_law_726 : decode cL_law 726 = .ok (.iload_n 3, 1) := by decide +kernel
theorem dL_law_727 : decode cL_law 727 = .ok (.iconst 2, 1) := by decide +kernel
theorem dL_law_728 : decode cL_law 728 = .ok (.iadd, 1) := by decide +kernel
theorem dL_law_729 : decode cL_law 729 = .ok (.iaload, 1) := by decide +kernel
theorem dL_law_730 : decode cL_law 730 = .ok (.aload_n 0, 1) := by decide +kernel
theorem dL_law_731 : decode cL_law 731 = .ok (.iload_n 3, 1) := by decide +kernel
theorem dL_law_732 : decode cL_law 732 = .ok (.iconst 3, 1) := by decide +kernel
theorem dL_law_733 : decode cL_law 733 = .ok (.iadd, 1) := by decide +kernel
theorem dL_law_734 : decode cL_law 734 = .ok (.iaload, 1) := by decide +kernel
theorem dL_law_735 : decode cL_law 735 = .ok (.invokevirtual 72, 3) := by decide +kernel
theorem dL_law_738 : decode cL_law 738 = .ok (.if_icmp .eq 698, 3) := by decide +kernel
theorem dL_law_741 : decode cL_law 741 = .ok (.iconst 0, 1) := by decide +kernel
theorem dL_law_742 : decode cL_law 742 = .ok (.ireturn, 1) := by decide +kernel
theorem dL_law_743 : decode cL_law 743 = .ok (.aload_n 1, 1) := by decide +kernel
theorem dL_law_744 : decode cL_law 744 = .ok (.aload_n 0, 1) := by decide +kernel
theorem dL_law_745 : decode cL_law 745 = .ok (.iload_n 3, 1) := by decide +kernel
theorem dL_law_746 : decode cL_law 746 = .ok (.iconst 1, 1) := by decide +kernel
theorem dL_law_747 : decode cL_law 747 = .ok (.iadd, 1) := by decide +kernel
theorem dL_law_748 : decode cL_law 748 = .ok (.iaload, 1) := by decide +kernel
theorem dL_law_749 : decode cL_law 749 = .ok (.aload_n 0, 1) := by decide +kernel
theorem dL_law_750 : decode cL_law 750 = .ok (.iload_n 3, 1) := by decide +kernel
theorem dL_law_751 : decode cL_law 751 = .ok (.iconst 2, 1) := by decide +kernel
theorem dL_law_752 : decode cL_law 752 = .ok (.iadd, 1) := by decide +kernel
theorem dL_law_753 : decode cL_law 753 = .ok (.iaload, 1) := by decide +kernel
theorem dL_law_754 : decode cL_law 754 = .ok (.invokevirtual 73, 3) := by decide +kernel
theorem dL_law_757 : decode cL_law 757 = .ok (.aload_n 2, 1) := by decide +kernel
theorem dL_law_758 : decode cL_law 758 = .ok (.aload_n 0, 1) := by decide +kernel
theorem dL_law_759 : decode cL_law 759 = .ok (.iload_n 3, 1) := by decide +kernel
theorem dL_law_760 : decode cL_law 760 = .ok (.iconst 1, 1) := by decide +kernel
theorem dL_law_761 : decode cL_law 761 = .ok (.iadd, 1) := by decide +kernel
theorem dL_law_762 : decode cL_law 762 = .ok (.iaload, 1) := by decide +kernel
theorem dL_law_763 : decode cL_law 763 = .ok (.aload_n 0, 1) := by decide +kernel
theorem dL_law_764 : decode cL_law 764 = .ok (.iload_n 3, 1) := by decide +kernel
theorem dL_law_765 : decode cL_law 765 = .ok (.iconst 2, 1) := by decide +kernel
theorem dL_law_766 : decode cL_law 766 = .ok (.iadd, 1) := by decide +kernel
theorem dL_law_767 : decode cL_law 767 = .ok (.iaload, 1) := by decide +kernel
theorem dL_law_768 : decode cL_law 768 = .ok (.invokevirtual 76, 3) := by decide +kernel
theorem dL_law_771 : decode cL_law 771 = .ok (.if_icmp .eq 665, 3) := by decide +kernel
theorem dL_law_774 : decode cL_law 774 = .ok (.iconst 0, 1) := by decide +kernel
theorem dL_law_775 : decode cL_law 775 = .ok (.ireturn, 1) := by decide +kernel
theorem dL_law_776 : decode cL_law 776 = .ok (.aload_n 1, 1) := by decide +kernel
theorem dL_law_777 : decode cL_law 777 = .ok (.aload_n 0, 1) := by decide +kernel
theorem dL_law_778 : decode cL_law 778 = .ok (.iload_n 3, 1) := by decide +kernel
theorem dL_law_779 : decode cL_law 779 = .ok (.iconst 1, 1) := by decide +kernel
theorem dL_law_780 : decode cL_law 780 = .ok (.iadd, 1) := by decide +kernel
theorem dL_law_781 : decode cL_law 781 = .ok (.iaload, 1) := by decide +kernel
theorem dL_law_782 : decode cL_law 782 = .ok (.aload_n 0, 1) := by decide +kernel
theorem dL_law_783 : decode cL_law 783 = .ok (.iload_n 3, 1) := by decide +kernel
theorem dL_law_784 : decode cL_law 784 = .ok (.iconst 2, 1) := by decide +kernel
theorem dL_law_785 : decode cL_law 785 = .ok (.iadd, 1) := by decide +kernel
theorem dL_law_786 : decode cL_law 786 = .ok (.iaload, 1) := by decide +kernel
theorem dL_law_787 : decode cL_law 787 = .ok (.invokevirtual 77, 3) := by decide +kernel
theorem dL_law_790 : decode cL_law 790 = .ok (.aload_n 2, 1) := by decide +kernel
theorem dL_law_791 : decode cL_law 791 = .ok (.aload_n 0, 1) := by decide +kernel
theorem dL_law_792 : decode cL_law 792 = .ok (.iload_n 3, 1) := by decide +kernel
theorem dL_law_793 : decode cL_law 793 = .ok (.iconst 1, 1) := by decide +kernel
theorem dL_law_794 : decode cL_law 794 = .ok (.iadd, 1) := by decide +kernel
theorem dL_law_795 : decode cL_law 795 = .ok (.iaload, 1) := by decide +kernel
theorem dL_law_796 : decode cL_law 796 = .ok (.aload_n 0, 1) := by decide +kernel
theorem dL_law_797 : decode cL_law 797 = .ok (.iload_n 3, 1) := by decide +kernel
theorem dL_law_798 : decode cL_law 798 = .ok (.iconst 2, 1) := by decide +kernel
theorem dL_law_799 : decode cL_law 799 = .ok (.iadd, 1) := by decide +kernel
theorem dL_law_800 : decode cL_law 800 = .ok (.iaload, 1) := by decide +kernel
theorem dL_law_801 : decode cL_law 801 = .ok (.invokevirtual 80, 3) := by decide +kernel
theorem dL_law_804 : decode cL_law 804 = .ok (.if_icmp .eq 632, 3) := by decide +kernel
theorem dL_law_807 : decode cL_law 807 = .ok (.iconst 0, 1) := by decide +kernel
theorem dL_law_808 : decode cL_law 808 = .ok (.ireturn, 1) := by decide +kernel
theorem dL_law_809 : decode cL_law 809 = .ok (.aload_n 1, 1) := by decide +kernel
theorem dL_law_810 : decode cL_law 810 = .ok (.aload_n 0, 1) := by decide +kernel
theorem dL_law_811 : decode cL_law 811 = .ok (.iload_n 3, 1) := by decide +kernel
theorem dL_law_812 : decode cL_law 812 = .ok (.iconst 1, 1) := by decide +kernel
theorem dL_law_813 : decode cL_law 813 = .ok (.iadd, 1) := by decide +kernel
theorem dL_law_814 : decode cL_law 814 = .ok (.iaload, 1) := by decide +kernel
theorem dL_law_815 : decode cL_law 815 = .ok (.aload_n 0, 1) := by decide +kernel
theorem dL_law_816 : decode cL_law 816 = .ok (.iload_n 3, 1) := by decide +kernel
theorem dL_law_817 : decode cL_law 817 = .ok (.iconst 2, 1) := by decide +kernel
theorem dL_law_818 : decode cL_law 818 = .ok (.iadd, 1) := by decide +kernel
theorem dL_law_819 : decode cL_law 819 = .ok (.iaload, 1) := by decide +kernel
theorem dL_law_820 : decode cL_law 820 = .ok (.aload_n 0, 1) := by decide +kernel
theorem dL_law_821 : decode cL_law 821 = .ok (.iload_n 3, 1) := by decide +kernel
theorem dL_law_822 : decode cL_law 822 = .ok (.iconst 3, 1) := by decide +kernel
theorem dL_law_823 : decode cL_law 823 = .ok (.iadd, 1) := by decide +kernel
theorem dL_law_824 : decode cL_law 824 = .ok (.iaload, 1) := by decide +kernel
theorem dL_law_825 : decode cL_law 825 = .ok (.invokevirtual 81, 3) := by decide +kernel
theorem dL_law_828 : decode cL_law 828 = .ok (.aload_n 2, 1) := by decide +kernel
theorem dL_law_829 : decode cL_law 829 = .ok (.aload_n 0, 1) := by decide +kernel
theorem dL_law_830 : decode cL_law 830 = .ok (.iload_n 3, 1) := by decide +kernel
theorem dL_law_831 : decode cL_law 831 = .ok (.iconst 1, 1) := by decide +kernel
theorem dL_law_832 : decode cL_law 832 = .ok (.iadd, 1) := by decide +kernel
theorem dL_law_833 : decode cL_law 833 = .ok (.iaload, 1) := by decide +kernel
theorem dL_law_834 : decode cL_law 834 = .ok (.aload_n 0, 1) := by decide +kernel
theorem dL_law_835 : decode cL_law 835 = .ok (.iload_n 3, 1) := by decide +kernel
theorem dL_law_836 : decode cL_law 836 = .ok (.iconst 2, 1) := by decide +kernel
theorem dL_law_837 : decode cL_law 837 = .ok (.iadd, 1) := by decide +kernel
theorem dL_law_838 : decode cL_law 838 = .ok (.iaload, 1) := by decide +kernel
theorem dL_law_839 : decode cL_law 839 = .ok (.aload_n 0, 1) := by decide +kernel
theorem dL_law_840 : decode cL_law 840 = .ok (.iload_n 3, 1) := by decide +kernel
theorem dL_law_841 : decode cL_law 841 = .ok (.iconst 3, 1) := by decide +kernel
theorem dL_law_842 : decode cL_law 842 = .ok (.iadd, 1) := by decide +kernel
theorem dL_law_843 : decode cL_law 843 = .ok (.iaload, 1) := by decide +kernel
theorem dL_law_844 : decode cL_law 844 = .ok (.invokevirtual 84, 3) := by decide +kernel
theorem dL_law_847 : decode cL_law 847 = .ok (.if_icmp .eq 589, 3) := by decide +kernel
theorem dL_law_850 : decode cL_law 850 = .ok (.iconst 0, 1) := by decide +kernel
theorem dL_law_851 : decode cL_law 851 = .ok (.ireturn, 1) := by decide +kernel
theorem dL_law_852 : decode cL_law 852 = .ok (.aload_n 1, 1) := by decide +kernel
theorem dL_law_853 : decode cL_law 853 = .ok (.invokevirtual 85, 3) := by decide +kernel
theorem dL_law_856 : decode cL_law 856 = .ok (.aload_n 2, 1) := by decide +kernel
theorem dL_law_857 : decode cL_law 857 = .ok (.invokevirtual 89, 3) := by decide +kernel
theorem dL_law_860 : decode cL_law 860 = .ok (.lcmp, 1) := by decide +kernel
theorem dL_law_861 : decode cL_law 861 = .ok (.ifCond .eq 575, 3) := by decide +kernel
theorem dL_law_864 : decode cL_law 864 = .ok (.iconst 0, 1) := by decide +kernel
theorem dL_law_865 : decode cL_law 865 = .ok (.ireturn, 1) := by decide +kernel
theorem dL_law_866 : decode cL_law 866 = .ok (.aload_n 1, 1) := by decide +kernel
theorem dL_law_867 : decode cL_law 867 = .ok (.invokevirtual 90, 3) := by decide +kernel
theorem dL_law_870 : decode cL_law 870 = .ok (.aload_n 2, 1) := by decide +kernel
theorem dL_law_871 : decode cL_law 871 = .ok (.invokevirtual 93, 3) := by decide +kernel
theorem dL_law_874 : decode cL_law 874 = .ok (.lcmp, 1) := by decide +kernel
theorem dL_law_875 : decode cL_law 875 = .ok (.ifCond .eq 561, 3) := by decide +kernel
theorem dL_law_878 : decode cL_law 878 = .ok (.iconst 0, 1) := by decide +kernel
theorem dL_law_879 : decode cL_law 879 = .ok (.ireturn, 1) := by decide +kernel
theorem dL_law_880 : decode cL_law 880 = .ok (.aload_n 1, 1) := by decide +kernel
theorem dL_law_881 : decode cL_law 881 = .ok (.aload_n 0, 1) := by decide +kernel
theorem dL_law_882 : decode cL_law 882 = .ok (.iload_n 3, 1) := by decide +kernel
theorem dL_law_883 : decode cL_law 883 = .ok (.iconst 1, 1) := by decide +kernel
theorem dL_law_884 : decode cL_law 884 = .ok (.iadd, 1) := by decide +kernel
theorem dL_law_885 : decode cL_law 885 = .ok (.iaload, 1) := by decide +kernel
theorem dL_law_886 : decode cL_law 886 = .ok (.aload_n 0, 1) := by decide +kernel
theorem dL_law_887 : decode cL_law 887 = .ok (.iload_n 3, 1) := by decide +kernel
theorem dL_law_888 : decode cL_law 888 = .ok (.iconst 2, 1) := by decide +kernel
theorem dL_law_889 : decode cL_law 889 = .ok (.iadd, 1) := by decide +kernel
theorem dL_law_890 : decode cL_law 890 = .ok (.iaload, 1) := by decide +kernel
theorem dL_law_891 : decode cL_law 891 = .ok (.invokevirtual 94, 3) := by decide +kernel
theorem dL_law_894 : decode cL_law 894 = .ok (.aload_n 2, 1) := by decide +kernel
theorem dL_law_895 : decode cL_law 895 = .ok (.aload_n 0, 1) := by decide +kernel
theorem dL_law_896 : decode cL_law 896 = .ok (.iload_n 3, 1) := by decide +kernel
theorem dL_law_897 : decode cL_law 897 = .ok (.iconst 1, 1) := by decide +kernel
theorem dL_law_898 : decode cL_law 898 = .ok (.iadd, 1) := by decide +kernel
theorem dL_law_899 : decode cL_law 899 = .ok (.iaload, 1) := by decide +kernel
theorem dL_law_900 : decode cL_law 900 = .ok (.aload_n 0, 1) := by decide +kernel
theorem dL_law_901 : decode cL_law 901 = .ok (.iload_n 3, 1) := by decide +kernel
theorem dL_law_902 : decode cL_law 902 = .ok (.iconst 2, 1) := by decide +kernel
theorem dL_law_903 : decode cL_law 903 = .ok (.iadd, 1) := by decide +kernel
theorem dL_law_904 : decode cL_law 904 = .ok (.iaload, 1) := by decide +kernel
theorem dL_law_905 : decode cL_law 905 = .ok (.invokevirtual 97, 3) := by decide +kernel
theorem dL_law_908 : decode cL_law 908 = .ok (.if_icmp .eq 528, 3) := by decide +kernel
theorem dL_law_911 : decode cL_law 911 = .ok (.iconst 0, 1) := by decide +kernel
theorem dL_law_912 : decode cL_law 912 = .ok (.ireturn, 1) := by decide +kernel
theorem dL_law_913 : decode cL_law 913 = .ok (.aload_n 1, 1) := by decide +kernel
theorem dL_law_914 : decode cL_law 914 = .ok (.aload_n 0, 1) := by decide +kernel
theorem dL_law_915 : decode cL_law 915 = .ok (.iload_n 3, 1) := by decide +kernel
theorem dL_law_916 : decode cL_law 916 = .ok (.iconst 1, 1) := by decide +kernel
theorem dL_law_917 : decode cL_law 917 = .ok (.iadd, 1) := by decide +kernel
theorem dL_law_918 : decode cL_law 918 = .ok (.iaload, 1) := by decide +kernel
theorem dL_law_919 : decode cL_law 919 = .ok (.aload_n 0, 1) := by decide +kernel
theorem dL_law_920 : decode cL_law 920 = .ok (.iload_n 3, 1) := by decide +kernel
theorem dL_law_921 : decode cL_law 921 = .ok (.iconst 2, 1) := by decide +kernel
theorem dL_law_922 : decode cL_law 922 = .ok (.iadd, 1) := by decide +kernel
theorem dL_law_923 : decode cL_law 923 = .ok (.iaload, 1) := by decide +kernel
theorem dL_law_924 : decode cL_law 924 = .ok (.invokevirtual 98, 3) := by decide +kernel
theorem dL_law_927 : decode cL_law 927 = .ok (.aload_n 2, 1) := by decide +kernel
theorem dL_law_928 : decode cL_law 928 = .ok (.aload_n 0, 1) := by decide +kernel
theorem dL_law_929 : decode cL_law 929 = .ok (.iload_n 3, 1) := by decide +kernel
theorem dL_law_930 : decode cL_law 930 = .ok (.iconst 1, 1) := by decide +kernel
theorem dL_law_931 : decode cL_law 931 = .ok (.iadd, 1) := by decide +kernel
theorem dL_law_932 : decode cL_law 932 = .ok (.iaload, 1) := by decide +kernel
theorem dL_law_933 : decode cL_law 933 = .ok (.aload_n 0, 1) := by decide +kernel
theorem dL_law_934 : decode cL_law 934 = .ok (.iload_n 3, 1) := by decide +kernel
theorem dL_law_935 : decode cL_law 935 = .ok (.iconst 2, 1) := by decide +kernel
theorem dL_law_936 : decode cL_law 936 = .ok (.iadd, 1) := by decide +kernel
theorem dL_law_937 : decode cL_law 937 = .ok (.iaload, 1) := by decide +kernel
theorem dL_law_938 : decode cL_law 938 = .ok (.invokevirtual 101, 3) := by decide +kernel
theorem dL_law_941 : decode cL_law 941 = .ok (.if_icmp .eq 495, 3) := by decide +kernel
theorem dL_law_944 : decode cL_law 944 = .ok (.iconst 0, 1) := by decide +kernel
theorem dL_law_945 : decode cL_law 945 = .ok (.ireturn, 1) := by decide +kernel
theorem dL_law_946 : decode cL_law 946 = .ok (.aload_n 1, 1) := by decide +kernel
theorem dL_law_947 : decode cL_law 947 = .ok (.aload_n 0, 1) := by decide +kernel
theorem dL_law_948 : decode cL_law 948 = .ok (.iload_n 3, 1) := by decide +kernel
theorem dL_law_949 : decode cL_law 949 = .ok (.iconst 1, 1) := by decide +kernel
theorem dL_law_950 : decode cL_law 950 = .ok (.iadd, 1) := by decide +kernel
theorem dL_law_951 : decode cL_law 951 = .ok (.iaload, 1) := by decide +kernel
theorem dL_law_952 : decode cL_law 952 = .ok (.aload_n 0, 1) := by decide +kernel
theorem dL_law_953 : decode cL_law 953 = .ok (.iload_n 3, 1) := by decide +kernel
theorem dL_law_954 : decode cL_law 954 = .ok (.iconst 2, 1) := by decide +kernel
theorem dL_law_955 : decode cL_law 955 = .ok (.iadd, 1) := by decide +kernel
theorem dL_law_956 : decode cL_law 956 = .ok (.iaload, 1) := by decide +kernel
theorem dL_law_957 : decode cL_law 957 = .ok (.aload_n 0, 1) := by decide +kernel
theorem dL_law_958 : decode cL_law 958 = .ok (.iload_n 3, 1) := by decide +kernel
theorem dL_law_959 : decode cL_law 959 = .ok (.iconst 3, 1) := by decide +kernel
theorem dL_law_960 : decode cL_law 960 = .ok (.iadd, 1) := by decide +kernel
theorem dL_law_961 : decode cL_law 961 = .ok (.iaload, 1) := by decide +kernel
theorem dL_law_962 : decode cL_law 962 = .ok (.aload_n 0, 1) := by decide +kernel
theorem dL_law_963 : decode cL_law 963 = .ok (.iload_n 3, 1) := by decide +kernel
theorem dL_law_964 : decode cL_law 964 = .ok (.iconst 4, 1) := by decide +kernel
theorem dL_law_965 : decode cL_law 965 = .ok (.iadd, 1) := by decide +kernel
theorem dL_law_966 : decode cL_law 966 = .ok (.iaload, 1) := by decide +kernel
theorem dL_law_967 : decode cL_law 967 = .ok (.invokevirtual 102, 3) := by decide +kernel
theorem dL_law_970 : decode cL_law 970 = .ok (.aload_n 2, 1) := by decide +kernel
theorem dL_law_971 : decode cL_law 971 = .ok (.aload_n 0, 1) := by decide +kernel
theorem dL_law_972 : decode cL_law 972 = .ok (.iload_n 3, 1) := by decide +kernel
theorem dL_law_973 : decode cL_law 973 = .ok (.iconst 1, 1) := by decide +kernel
theorem dL_law_974 : decode cL_law 974 = .ok (.iadd, 1) := by decide +kernel
theorem dL_law_975 : decode cL_law 975 = .ok (.iaload, 1) := by decide +kernel
theorem dL_law_976 : decode cL_law 976 = .ok (.aload_n 0, 1) := by decide +kernel
theorem dL_law_977 : decode cL_law 977 = .ok (.iload_n 3, 1) := by decide +kernel
theorem dL_law_978 : decode cL_law 978 = .ok (.iconst 2, 1) := by decide +kernel
theorem dL_law_979 : decode cL_law 979 = .ok (.iadd, 1) := by decide +kernel
theorem dL_law_980 : decode cL_law 980 = .ok (.iaload, 1) := by decide +kernel
theorem dL_law_981 : decode cL_law 981 = .ok (.aload_n 0, 1) := by decide +kernel
theorem dL_law_982 : decode cL_law 982 = .ok (.iload_n 3, 1) := by decide +kernel
theorem dL_law_983 : decode cL_law 983 = .ok (.iconst 3, 1) := by decide +kernel
theorem dL_law_984 : decode cL_law 984 = .ok (.iadd, 1) := by decide +kernel
theorem dL_law_985 : decode cL_law 985 = .ok (.iaload, 1) := by decide +kernel
theorem dL_law_986 : decode cL_law 986 = .ok (.aload_n 0, 1) := by decide +kernel
theorem dL_law_987 : decode cL_law 987 = .ok (.iload_n 3, 1) := by decide +kernel
theorem dL_law_988 : decode cL_law 988 = .ok (.iconst 4, 1) := by decide +kernel
theorem dL_law_989 : decode cL_law 989 = .ok (.iadd, 1) := by decide +kernel
theorem dL_law_990 : decode cL_law 990 = .ok (.iaload, 1) := by decide +kernel
theorem dL_law_991 : decode cL_law 991 = .ok (.invokevirtual 105, 3) := by decide +kernel
theorem dL_law_994 : decode cL_law 994 = .ok (.if_icmp .eq 442, 3) := by decide +kernel
theorem dL_law_997 : decode cL_law 997 = .ok (.iconst 0, 1) := by decide +kernel
theorem dL_law_998 : decode cL_law 998 = .ok (.ireturn, 1) := by decide +kernel
theorem dL_law_999 : decode cL_law 999 = .ok (.aload_n 1, 1) := by decide +kernel
theorem dL_law_1000 : decode cL_law 1000 = .ok (.aload_n 0, 1) := by decide +kernel
theorem dL_law_1001 : decode cL_law 1001 = .ok (.iload_n 3, 1) := by decide +kernel
theorem dL_law_1002 : decode cL_law 1002 = .ok (.iconst 1, 1) := by decide +kernel
theorem dL_law_1003 : decode cL_law 1003 = .ok (.iadd, 1) := by decide +kernel
theorem dL_law_1004 : decode cL_law 1004 = .ok (.iaload, 1) := by decide +kernel
theorem dL_law_1005 : decode cL_law 1005 = .ok (.aload_n 0, 1) := by decide +kernel
theorem dL_law_1006 : decode cL_law 1006 = .ok (.iload_n 3, 1) := by decide +kernel
theorem dL_law_1007 : decode cL_law 1007 = .ok (.iconst 2, 1) := by decide +kernel
theorem dL_law_1008 : decode cL_law 1008 = .ok (.iadd, 1) := by decide +kernel
theorem dL_law_1009 : decode cL_law 1009 = .ok (.iaload, 1) := by decide +kernel
theorem dL_law_1010 : decode cL_law 1010 = .ok (.invokevirtual 106, 3) := by decide +kernel
theorem dL_law_1013 : decode cL_law 1013 = .ok (.aload_n 2, 1) := by decide +kernel
theorem dL_law_1014 : decode cL_law 1014 = .ok (.aload_n 0, 1) := by decide +kernel
theorem dL_law_1015 : decode cL_law 1015 = .ok (.iload_n 3, 1) := by decide +kernel
theorem dL_law_1016 : decode cL_law 1016 = .ok (.iconst 1, 1) := by decide +kernel
theorem dL_law_1017 : decode cL_law 1017 = .ok (.iadd, 1) := by decide +kernel
theorem dL_law_1018 : decode cL_law 1018 = .ok (.iaload, 1) := by decide +kernel
theorem dL_law_1019 : decode cL_law 1019 = .ok (.aload_n 0, 1) := by decide +kernel
theorem dL_law_1020 : decode cL_law 1020 = .ok (.iload_n 3, 1) := by decide +kernel
theorem dL_law_1021 : decode cL_law 1021 = .ok (.iconst 2, 1) := by decide +kernel
theorem dL_law_1022 : decode cL_law 1022 = .ok (.iadd, 1) := by decide +kernel
theorem dL_law_1023 : decode cL_law 1023 = .ok (.iaload, 1) := by decide +kernel
theorem dL_law_1024 : decode cL_law 1024 = .ok (.invokevirtual 109, 3) := by decide +kernel
theorem dL_law_1027 : decode cL_law 1027 = .ok (.if_icmp .eq 409, 3) := by decide +kernel
theorem dL_law_1030 : decode cL_law 1030 = .ok (.iconst 0, 1) := by decide +kernel
theorem dL_law_1031 : decode cL_law 1031 = .ok (.ireturn, 1) := by decide +kernel
theorem dL_law_1032 : decode cL_law 1032 = .ok (.aload_n 1, 1) := by decide +kernel
theorem dL_law_1033 : decode cL_law 1033 = .ok (.aload_n 0, 1) := by decide +kernel
theorem dL_law_1034 : decode cL_law 1034 = .ok (.iload_n 3, 1) := by decide +kernel
theorem dL_law_1035 : decode cL_law 1035 = .ok (.iconst 1, 1) := by decide +kernel
theorem dL_law_1036 : decode cL_law 1036 = .ok (.iadd, 1) := by decide +kernel
theorem dL_law_1037 : decode cL_law 1037 = .ok (.iaload, 1) := by decide +kernel
theorem dL_law_1038 : decode cL_law 1038 = .ok (.aload_n 0, 1) := by decide +kernel
theorem dL_law_1039 : decode cL_law 1039 = .ok (.iload_n 3, 1) := by decide +kernel
theorem dL_law_1040 : decode cL_law 1040 = .ok (.iconst 2, 1) := by decide +kernel
theorem dL_law_1041 : decode cL_law 1041 = .ok (.iadd, 1) := by decide +kernel
theorem dL_law_1042 : decode cL_law 1042 = .ok (.iaload, 1) := by decide +kernel
theorem dL_law_1043 : decode cL_law 1043 = .ok (.invokevirtual 110, 3) := by decide +kernel
theorem dL_law_1046 : decode cL_law 1046 = .ok (.aload_n 2, 1) := by decide +kernel
theorem dL_law_1047 : decode cL_law 1047 = .ok (.aload_n 0, 1) := by decide +kernel
theorem dL_law_1048 : decode cL_law 1048 = .ok (.iload_n 3, 1) := by decide +kernel
theorem dL_law_1049 : decode cL_law 1049 = .ok (.iconst 1, 1) := by decide +kernel
theorem dL_law_1050 : decode cL_law 1050 = .ok (.iadd, 1) := by decide +kernel
theorem dL_law_1051 : decode cL_law 1051 = .ok (.iaload, 1) := by decide +kernel
theorem dL_law_1052 : decode cL_law 1052 = .ok (.aload_n 0, 1) := by decide +kernel
theorem dL_law_1053 : decode cL_law 1053 = .ok (.iload_n 3, 1) := by decide +kernel
theorem dL_law_1054 : decode cL_law 1054 = .ok (.iconst 2, 1) := by decide +kernel
theorem dL_law_1055 : decode cL_law 1055 = .ok (.iadd, 1) := by decide +kernel
theorem dL_law_1056 : decode cL_law 1056 = .ok (.iaload, 1) := by decide +kernel
theorem dL_law_1057 : decode cL_law 1057 = .ok (.invokevirtual 113, 3) := by decide +kernel
theorem dL_law_1060 : decode cL_law 1060 = .ok (.if_icmp .eq 376, 3) := by decide +kernel
theorem dL_law_1063 : decode cL_law 1063 = .ok (.iconst 0, 1) := by decide +kernel
theorem dL_law_1064 : decode cL_law 1064 = .ok (.ireturn, 1) := by decide +kernel
theorem dL_law_1065 : decode cL_law 1065 = .ok (.aload_n 1, 1) := by decide +kernel
theorem dL_law_1066 : decode cL_law 1066 = .ok (.aload_n 0, 1) := by decide +kernel
theorem dL_law_1067 : decode cL_law 1067 = .ok (.iload_n 3, 1) := by decide +kernel
theorem dL_law_1068 : decode cL_law 1068 = .ok (.iconst 1, 1) := by decide +kernel
theorem dL_law_1069 : decode cL_law 1069 = .ok (.iadd, 1) := by decide +kernel
theorem dL_law_1070 : decode cL_law 1070 = .ok (.iaload, 1) := by decide +kernel
theorem dL_law_1071 : decode cL_law 1071 = .ok (.aload_n 0, 1) := by decide +kernel
theorem dL_law_1072 : decode cL_law 1072 = .ok (.iload_n 3, 1) := by decide +kernel
theorem dL_law_1073 : decode cL_law 1073 = .ok (.iconst 2, 1) := by decide +kernel
theorem dL_law_1074 : decode cL_law 1074 = .ok (.iadd, 1) := by decide +kernel
theorem dL_law_1075 : decode cL_law 1075 = .ok (.iaload, 1) := by decide +kernel
theorem dL_law_1076 : decode cL_law 1076 = .ok (.invokevirtual 114, 3) := by decide +kernel
theorem dL_law_1079 : decode cL_law 1079 = .ok (.aload_n 2, 1) := by decide +kernel
theorem dL_law_1080 : decode cL_law 1080 = .ok (.aload_n 0, 1) := by decide +kernel
theorem dL_law_1081 : decode cL_law 1081 = .ok (.iload_n 3, 1) := by decide +kernel
theorem dL_law_1082 : decode cL_law 1082 = .ok (.iconst 1, 1) := by decide +kernel
theorem dL_law_1083 : decode cL_law 1083 = .ok (.iadd, 1) := by decide +kernel
theorem dL_law_1084 : decode cL_law 1084 = .ok (.iaload, 1) := by decide +kernel
theorem dL_law_1085 : decode cL_law 1085 = .ok (.aload_n 0, 1) := by decide +kernel
theorem dL_law_1086 : decode cL_law 1086 = .ok (.iload_n 3, 1) := by decide +kernel
theorem dL_law_1087 : decode cL_law 1087 = .ok (.iconst 2, 1) := by decide +kernel
theorem dL_law_1088 : decode cL_law 1088 = .ok (.iadd, 1) := by decide +kernel
theorem dL_law_1089 : decode cL_law 1089 = .ok (.iaload, 1) := by decide +kernel
theorem dL_law_1090 : decode cL_law 1090 = .ok (.invokevirtual 117, 3) := by decide +kernel
theorem dL_law_1093 : decode cL_law 1093 = .ok (.if_icmp .eq 343, 3) := by decide +kernel
theorem dL_law_1096 : decode cL_law 1096 = .ok (.iconst 0, 1) := by decide +kernel
theorem dL_law_1097 : decode cL_law 1097 = .ok (.ireturn, 1) := by decide +kernel
theorem dL_law_1098 : decode cL_law 1098 = .ok (.aload_n 1, 1) := by decide +kernel
theorem dL_law_1099 : decode cL_law 1099 = .ok (.aload_n 0, 1) := by decide +kernel
theorem dL_law_1100 : decode cL_law 1100 = .ok (.iload_n 3, 1) := by decide +kernel
theorem dL_law_1101 : decode cL_law 1101 = .ok (.iconst 1, 1) := by decide +kernel
theorem dL_law_1102 : decode cL_law 1102 = .ok (.iadd, 1) := by decide +kernel
theorem dL_law_1103 : decode cL_law 1103 = .ok (.iaload, 1) := by decide +kernel
theorem dL_law_1104 : decode cL_law 1104 = .ok (.invokevirtual 118, 3) := by decide +kernel
theorem dL_law_1107 : decode cL_law 1107 = .ok (.aload_n 2, 1) := by decide +kernel
theorem dL_law_1108 : decode cL_law 1108 = .ok (.aload_n 0, 1) := by decide +kernel
theorem dL_law_1109 : decode cL_law 1109 = .ok (.iload_n 3, 1) := by decide +kernel
theorem dL_law_1110 : decode cL_law 1110 = .ok (.iconst 1, 1) := by decide +kernel
theorem dL_law_1111 : decode cL_law 1111 = .ok (.iadd, 1) := by decide +kernel
theorem dL_law_1112 : decode cL_law 1112 = .ok (.iaload, 1) := by decide +kernel
theorem dL_law_1113 : decode cL_law 1113 = .ok (.invokevirtual 121, 3) := by decide +kernel
theorem dL_law_1116 : decode cL_law 1116 = .ok (.if_icmp .eq 320, 3) := by decide +kernel
theorem dL_law_1119 : decode cL_law 1119 = .ok (.iconst 0, 1) := by decide +kernel
theorem dL_law_1120 : decode cL_law 1120 = .ok (.ireturn, 1) := by decide +kernel
theorem dL_law_1121 : decode cL_law 1121 = .ok (.aload_n 1, 1) := by decide +kernel
theorem dL_law_1122 : decode cL_law 1122 = .ok (.aload_n 0, 1) := by decide +kernel
theorem dL_law_1123 : decode cL_law 1123 = .ok (.iload_n 3, 1) := by decide +kernel
theorem dL_law_1124 : decode cL_law 1124 = .ok (.iconst 1, 1) := by decide +kernel
theorem dL_law_1125 : decode cL_law 1125 = .ok (.iadd, 1) := by decide +kernel
theorem dL_law_1126 : decode cL_law 1126 = .ok (.iaload, 1) := by decide +kernel
theorem dL_law_1127 : decode cL_law 1127 = .ok (.aload_n 0, 1) := by decide +kernel
theorem dL_law_1128 : decode cL_law 1128 = .ok (.iload_n 3, 1) := by decide +kernel
theorem dL_law_1129 : decode cL_law 1129 = .ok (.iconst 2, 1) := by decide +kernel
theorem dL_law_1130 : decode cL_law 1130 = .ok (.iadd, 1) := by decide +kernel
theorem dL_law_1131 : decode cL_law 1131 = .ok (.iaload, 1) := by decide +kernel
theorem dL_law_1132 : decode cL_law 1132 = .ok (.aload_n 0, 1) := by decide +kernel
theorem dL_law_1133 : decode cL_law 1133 = .ok (.iload_n 3, 1) := by decide +kernel
theorem dL_law_1134 : decode cL_law 1134 = .ok (.iconst 3, 1) := by decide +kernel
theorem dL_law_1135 : decode cL_law 1135 = .ok (.iadd, 1) := by decide +kernel
theorem dL_law_1136 : decode cL_law 1136 = .ok (.iaload, 1) := by decide +kernel
theorem dL_law_1137 : decode cL_law 1137 = .ok (.aload_n 0, 1) := by decide +kernel
theorem dL_law_1138 : decode cL_law 1138 = .ok (.iload_n 3, 1) := by decide +kernel
theorem dL_law_1139 : decode cL_law 1139 = .ok (.iconst 4, 1) := by decide +kernel
theorem dL_law_1140 : decode cL_law 1140 = .ok (.iadd, 1) := by decide +kernel
theorem dL_law_1141 : decode cL_law 1141 = .ok (.iaload, 1) := by decide +kernel
theorem dL_law_1142 : decode cL_law 1142 = .ok (.invokevirtual 122, 3) := by decide +kernel
theorem dL_law_1145 : decode cL_law 1145 = .ok (.aload_n 2, 1) := by decide +kernel
theorem dL_law_1146 : decode cL_law 1146 = .ok (.aload_n 0, 1) := by decide +kernel
theorem dL_law_1147 : decode cL_law 1147 = .ok (.iload_n 3, 1) := by decide +kernel
theorem dL_law_1148 : decode cL_law 1148 = .ok (.iconst 1, 1) := by decide +kernel
theorem dL_law_1149 : decode cL_law 1149 = .ok (.iadd, 1) := by decide +kernel
theorem dL_law_1150 : decode cL_law 1150 = .ok (.iaload, 1) := by decide +kernel
theorem dL_law_1151 : decode cL_law 1151 = .ok (.aload_n 0, 1) := by decide +kernel
theorem dL_law_1152 : decode cL_law 1152 = .ok (.iload_n 3, 1) := by decide +kernel
theorem dL_law_1153 : decode cL_law 1153 = .ok (.iconst 2, 1) := by decide +kernel
theorem dL_law_1154 : decode cL_law 1154 = .ok (.iadd, 1) := by decide +kernel
theorem dL_law_1155 : decode cL_law 1155 = .ok (.iaload, 1) := by decide +kernel
theorem dL_law_1156 : decode cL_law 1156 = .ok (.aload_n 0, 1) := by decide +kernel
theorem dL_law_1157 : decode cL_law 1157 = .ok (.iload_n 3, 1) := by decide +kernel
theorem dL_law_1158 : decode cL_law 1158 = .ok (.iconst 3, 1) := by decide +kernel
theorem dL_law_1159 : decode cL_law 1159 = .ok (.iadd, 1) := by decide +kernel
theorem dL_law_1160 : decode cL_law 1160 = .ok (.iaload, 1) := by decide +kernel
theorem dL_law_1161 : decode cL_law 1161 = .ok (.aload_n 0, 1) := by decide +kernel
theorem dL_law_1162 : decode cL_law 1162 = .ok (.iload_n 3, 1) := by decide +kernel
theorem dL_law_1163 : decode cL_law 1163 = .ok (.iconst 4, 1) := by decide +kernel
theorem dL_law_1164 : decode cL_law 1164 = .ok (.iadd, 1) := by decide +kernel
theorem dL_law_1165 : decode cL_law 1165 = .ok (.iaload, 1) := by decide +kernel
theorem dL_law_1166 : decode cL_law 1166 = .ok (.invokevirtual 125, 3) := by decide +kernel
theorem dL_law_1169 : decode cL_law 1169 = .ok (.if_icmp .eq 267, 3) := by decide +kernel
theorem dL_law_1172 : decode cL_law 1172 = .ok (.iconst 0, 1) := by decide +kernel
theorem dL_law_1173 : decode cL_law 1173 = .ok (.ireturn, 1) := by decide +kernel
theorem dL_law_1174 : decode cL_law 1174 = .ok (.aload_n 1, 1) := by decide +kernel
theorem dL_law_1175 : decode cL_law 1175 = .ok (.aload_n 0, 1) := by decide +kernel
theorem dL_law_1176 : decode cL_law 1176 = .ok (.iload_n 3, 1) := by decide +kernel
theorem dL_law_1177 : decode cL_law 1177 = .ok (.iconst 1, 1) := by decide +kernel
theorem dL_law_1178 : decode cL_law 1178 = .ok (.iadd, 1) := by decide +kernel
theorem dL_law_1179 : decode cL_law 1179 = .ok (.iaload, 1) := by decide +kernel
theorem dL_law_1180 : decode cL_law 1180 = .ok (.invokevirtual 126, 3) := by decide +kernel
theorem dL_law_1183 : decode cL_law 1183 = .ok (.aload_n 2, 1) := by decide +kernel
theorem dL_law_1184 : decode cL_law 1184 = .ok (.aload_n 0, 1) := by decide +kernel
theorem dL_law_1185 : decode cL_law 1185 = .ok (.iload_n 3, 1) := by decide +kernel
theorem dL_law_1186 : decode cL_law 1186 = .ok (.iconst 1, 1) := by decide +kernel
theorem dL_law_1187 : decode cL_law 1187 = .ok (.iadd, 1) := by decide +kernel
theorem dL_law_1188 : decode cL_law 1188 = .ok (.iaload, 1) := by decide +kernel
theorem dL_law_1189 : decode cL_law 1189 = .ok (.invokevirtual 129, 3) := by decide +kernel
theorem dL_law_1192 : decode cL_law 1192 = .ok (.if_icmp .eq 244, 3) := by decide +kernel
theorem dL_law_1195 : decode cL_law 1195 = .ok (.iconst 0, 1) := by decide +kernel
theorem dL_law_1196 : decode cL_law 1196 = .ok (.ireturn, 1) := by decide +kernel
theorem dL_law_1197 : decode cL_law 1197 = .ok (.aload_n 1, 1) := by decide +kernel
theorem dL_law_1198 : decode cL_law 1198 = .ok (.invokevirtual 130, 3) := by decide +kernel
theorem dL_law_1201 : decode cL_law 1201 = .ok (.aload_n 2, 1) := by decide +kernel
theorem dL_law_1202 : decode cL_law 1202 = .ok (.invokevirtual 134, 3) := by decide +kernel
theorem dL_law_1205 : decode cL_law 1205 = .ok (.if_icmp .eq 231, 3) := by decide +kernel
theorem dL_law_1208 : decode cL_law 1208 = .ok (.iconst 0, 1) := by decide +kernel
theorem dL_law_1209 : decode cL_law 1209 = .ok (.ireturn, 1) := by decide +kernel
theorem dL_law_1210 : decode cL_law 1210 = .ok (.aload_n 1, 1) := by decide +kernel
theorem dL_law_1211 : decode cL_law 1211 = .ok (.aload_n 0, 1) := by decide +kernel
theorem dL_law_1212 : decode cL_law 1212 = .ok (.iload_n 3, 1) := by decide +kernel
theorem dL_law_1213 : decode cL_law 1213 = .ok (.iconst 1, 1) := by decide +kernel
theorem dL_law_1214 : decode cL_law 1214 = .ok (.iadd, 1) := by decide +kernel
theorem dL_law_1215 : decode cL_law 1215 = .ok (.iaload, 1) := by decide +kernel
theorem dL_law_1216 : decode cL_law 1216 = .ok (.invokevirtual 135, 3) := by decide +kernel
theorem dL_law_1219 : decode cL_law 1219 = .ok (.aload_n 2, 1) := by decide +kernel
theorem dL_law_1220 : decode cL_law 1220 = .ok (.aload_n 0, 1) := by decide +kernel
theorem dL_law_1221 : decode cL_law 1221 = .ok (.iload_n 3, 1) := by decide +kernel
theorem dL_law_1222 : decode cL_law 1222 = .ok (.iconst 1, 1) := by decide +kernel
theorem dL_law_1223 : decode cL_law 1223 = .ok (.iadd, 1) := by decide +kernel
theorem dL_law_1224 : decode cL_law 1224 = .ok (.iaload, 1) := by decide +kernel
theorem dL_law_1225 : decode cL_law 1225 = .ok (.invokevirtual 138, 3) := by decide +kernel
theorem dL_law_1228 : decode cL_law 1228 = .ok (.if_icmp .eq 208, 3) := by decide +kernel
theorem dL_law_1231 : decode cL_law 1231 = .ok (.iconst 0, 1) := by decide +kernel
theorem dL_law_1232 : decode cL_law 1232 = .ok (.ireturn, 1) := by decide +kernel
theorem dL_law_1233 : decode cL_law 1233 = .ok (.aload_n 1, 1) := by decide +kernel
theorem dL_law_1234 : decode cL_law 1234 = .ok (.aload_n 0, 1) := by decide +kernel
theorem dL_law_1235 : decode cL_law 1235 = .ok (.iload_n 3, 1) := by decide +kernel
theorem dL_law_1236 : decode cL_law 1236 = .ok (.iconst 1, 1) := by decide +kernel
theorem dL_law_1237 : decode cL_law 1237 = .ok (.iadd, 1) := by decide +kernel
theorem dL_law_1238 : decode cL_law 1238 = .ok (.iaload, 1) := by decide +kernel
theorem dL_law_1239 : decode cL_law 1239 = .ok (.invokevirtual 139, 3) := by decide +kernel
theorem dL_law_1242 : decode cL_law 1242 = .ok (.aload_n 2, 1) := by decide +kernel
theorem dL_law_1243 : decode cL_law 1243 = .ok (.aload_n 0, 1) := by decide +kernel
theorem dL_law_1244 : decode cL_law 1244 = .ok (.iload_n 3, 1) := by decide +kernel
theorem dL_law_1245 : decode cL_law 1245 = .ok (.iconst 1, 1) := by decide +kernel
theorem dL_law_1246 : decode cL_law 1246 = .ok (.iadd, 1) := by decide +kernel
theorem dL_law_1247 : decode cL_law 1247 = .ok (.iaload, 1) := by decide +kernel
theorem dL_law_1248 : decode cL_law 1248 = .ok (.invokevirtual 142, 3) := by decide +kernel
theorem dL_law_1251 : decode cL_law 1251 = .ok (.if_icmp .eq 185, 3) := by decide +kernel
theorem dL_law_1254 : decode cL_law 1254 = .ok (.iconst 0, 1) := by decide +kernel
theorem dL_law_1255 : decode cL_law 1255 = .ok (.ireturn, 1) := by decide +kernel
theorem dL_law_1256 : decode cL_law 1256 = .ok (.aload_n 1, 1) := by decide +kernel
theorem dL_law_1257 : decode cL_law 1257 = .ok (.aload_n 0, 1) := by decide +kernel
theorem dL_law_1258 : decode cL_law 1258 = .ok (.iload_n 3, 1) := by decide +kernel
theorem dL_law_1259 : decode cL_law 1259 = .ok (.iconst 1, 1) := by decide +kernel
theorem dL_law_1260 : decode cL_law 1260 = .ok (.iadd, 1) := by decide +kernel
theorem dL_law_1261 : decode cL_law 1261 = .ok (.iaload, 1) := by decide +kernel
theorem dL_law_1262 : decode cL_law 1262 = .ok (.invokevirtual 143, 3) := by decide +kernel
theorem dL_law_1265 : decode cL_law 1265 = .ok (.aload_n 2, 1) := by decide +kernel
theorem dL_law_1266 : decode cL_law 1266 = .ok (.aload_n 0, 1) := by decide +kernel
theorem dL_law_1267 : decode cL_law 1267 = .ok (.iload_n 3, 1) := by decide +kernel
theorem dL_law_1268 : decode cL_law 1268 = .ok (.iconst 1, 1) := by decide +kernel
theorem dL_law_1269 : decode cL_law 1269 = .ok (.iadd, 1) := by decide +kernel
theorem dL_law_1270 : decode cL_law 1270 = .ok (.iaload, 1) := by decide +kernel
theorem dL_law_1271 : decode cL_law 1271 = .ok (.invokevirtual 146, 3) := by decide +kernel
theorem dL_law_1274 : decode cL_law 1274 = .ok (.if_icmp .eq 162, 3) := by decide +kernel
theorem dL_law_1277 : decode cL_law 1277 = .ok (.iconst 0, 1) := by decide +kernel
theorem dL_law_1278 : decode cL_law 1278 = .ok (.ireturn, 1) := by decide +kernel
theorem dL_law_1279 : decode cL_law 1279 = .ok (.aload_n 1, 1) := by decide +kernel
theorem dL_law_1280 : decode cL_law 1280 = .ok (.aload_n 0, 1) := by decide +kernel
theorem dL_law_1281 : decode cL_law 1281 = .ok (.iload_n 3, 1) := by decide +kernel
theorem dL_law_1282 : decode cL_law 1282 = .ok (.iconst 1, 1) := by decide +kernel
theorem dL_law_1283 : decode cL_law 1283 = .ok (.iadd, 1) := by decide +kernel
theorem dL_law_1284 : decode cL_law 1284 = .ok (.iaload, 1) := by decide +kernel
theorem dL_law_1285 : decode cL_law 1285 = .ok (.invokevirtual 147, 3) := by decide +kernel
theorem dL_law_1288 : decode cL_law 1288 = .ok (.aload_n 2, 1) := by decide +kernel
theorem dL_law_1289 : decode cL_law 1289 = .ok (.aload_n 0, 1) := by decide +kernel
theorem dL_law_1290 : decode cL_law 1290 = .ok (.iload_n 3, 1) := by decide +kernel
theorem dL_law_1291 : decode cL_law 1291 = .ok (.iconst 1, 1) := by decide +kernel
theorem dL_law_1292 : decode cL_law 1292 = .ok (.iadd, 1) := by decide +kernel
theorem dL_law_1293 : decode cL_law 1293 = .ok (.iaload, 1) := by decide +kernel
theorem dL_law_1294 : decode cL_law 1294 = .ok (.invokevirtual 150, 3) := by decide +kernel
theorem dL_law_1297 : decode cL_law 1297 = .ok (.if_icmp .eq 139, 3) := by decide +kernel
theorem dL_law_1300 : decode cL_law 1300 = .ok (.iconst 0, 1) := by decide +kernel
theorem dL_law_1301 : decode cL_law 1301 = .ok (.ireturn, 1) := by decide +kernel
theorem dL_law_1302 : decode cL_law 1302 = .ok (.aload_n 1, 1) := by decide +kernel
theorem dL_law_1303 : decode cL_law 1303 = .ok (.invokevirtual 151, 3) := by decide +kernel
theorem dL_law_1306 : decode cL_law 1306 = .ok (.aload_n 2, 1) := by decide +kernel
theorem dL_law_1307 : decode cL_law 1307 = .ok (.invokevirtual 154, 3) := by decide +kernel
theorem dL_law_1310 : decode cL_law 1310 = .ok (.lcmp, 1) := by decide +kernel
theorem dL_law_1311 : decode cL_law 1311 = .ok (.ifCond .eq 125, 3) := by decide +kernel
theorem dL_law_1314 : decode cL_law 1314 = .ok (.iconst 0, 1) := by decide +kernel
theorem dL_law_1315 : decode cL_law 1315 = .ok (.ireturn, 1) := by decide +kernel
theorem dL_law_1316 : decode cL_law 1316 = .ok (.aload_n 1, 1) := by decide +kernel
theorem dL_law_1317 : decode cL_law 1317 = .ok (.aload_n 0, 1) := by decide +kernel
theorem dL_law_1318 : decode cL_law 1318 = .ok (.iload_n 3, 1) := by decide +kernel
theorem dL_law_1319 : decode cL_law 1319 = .ok (.iconst 1, 1) := by decide +kernel
theorem dL_law_1320 : decode cL_law 1320 = .ok (.iadd, 1) := by decide +kernel
theorem dL_law_1321 : decode cL_law 1321 = .ok (.iaload, 1) := by decide +kernel
theorem dL_law_1322 : decode cL_law 1322 = .ok (.aload_n 0, 1) := by decide +kernel
theorem dL_law_1323 : decode cL_law 1323 = .ok (.iload_n 3, 1) := by decide +kernel
theorem dL_law_1324 : decode cL_law 1324 = .ok (.iconst 2, 1) := by decide +kernel
theorem dL_law_1325 : decode cL_law 1325 = .ok (.iadd, 1) := by decide +kernel
theorem dL_law_1326 : decode cL_law 1326 = .ok (.iaload, 1) := by decide +kernel
theorem dL_law_1327 : decode cL_law 1327 = .ok (.invokevirtual 155, 3) := by decide +kernel
theorem dL_law_1330 : decode cL_law 1330 = .ok (.aload_n 2, 1) := by decide +kernel
theorem dL_law_1331 : decode cL_law 1331 = .ok (.aload_n 0, 1) := by decide +kernel
theorem dL_law_1332 : decode cL_law 1332 = .ok (.iload_n 3, 1) := by decide +kernel
theorem dL_law_1333 : decode cL_law 1333 = .ok (.iconst 1, 1) := by decide +kernel
theorem dL_law_1334 : decode cL_law 1334 = .ok (.iadd, 1) := by decide +kernel
theorem dL_law_1335 : decode cL_law 1335 = .ok (.iaload, 1) := by decide +kernel
theorem dL_law_1336 : decode cL_law 1336 = .ok (.aload_n 0, 1) := by decide +kernel
theorem dL_law_1337 : decode cL_law 1337 = .ok (.iload_n 3, 1) := by decide +kernel
theorem dL_law_1338 : decode cL_law 1338 = .ok (.iconst 2, 1) := by decide +kernel
theorem dL_law_1339 : decode cL_law 1339 = .ok (.iadd, 1) := by decide +kernel
theorem dL_law_1340 : decode cL_law 1340 = .ok (.iaload, 1) := by decide +kernel
theorem dL_law_1341 : decode cL_law 1341 = .ok (.invokevirtual 158, 3) := by decide +kernel
theorem dL_law_1344 : decode cL_law 1344 = .ok (.if_icmp .eq 92, 3) := by decide +kernel
theorem dL_law_1347 : decode cL_law 1347 = .ok (.iconst 0, 1) := by decide +kernel
theorem dL_law_1348 : decode cL_law 1348 = .ok (.ireturn, 1) := by decide +kernel
theorem dL_law_1349 : decode cL_law 1349 = .ok (.aload_n 1, 1) := by decide +kernel
theorem dL_law_1350 : decode cL_law 1350 = .ok (.invokevirtual 159, 3) := by decide +kernel
theorem dL_law_1353 : decode cL_law 1353 = .ok (.aload_n 2, 1) := by decide +kernel
theorem dL_law_1354 : decode cL_law 1354 = .ok (.invokevirtual 162, 3) := by decide +kernel
theorem dL_law_1357 : decode cL_law 1357 = .ok (.lcmp, 1) := by decide +kernel
theorem dL_law_1358 : decode cL_law 1358 = .ok (.ifCond .eq 78, 3) := by decide +kernel
theorem dL_law_1361 : decode cL_law 1361 = .ok (.iconst 0, 1) := by decide +kernel
theorem dL_law_1362 : decode cL_law 1362 = .ok (.ireturn, 1) := by decide +kernel
theorem dL_law_1363 : decode cL_law 1363 = .ok (.aload_n 1, 1) := by decide +kernel
theorem dL_law_1364 : decode cL_law 1364 = .ok (.aload_n 0, 1) := by decide +kernel
theorem dL_law_1365 : decode cL_law 1365 = .ok (.iload_n 3, 1) := by decide +kernel
theorem dL_law_1366 : decode cL_law 1366 = .ok (.iconst 1, 1) := by decide +kernel
theorem dL_law_1367 : decode cL_law 1367 = .ok (.iadd, 1) := by decide +kernel
theorem dL_law_1368 : decode cL_law 1368 = .ok (.iaload, 1) := by decide +kernel
theorem dL_law_1369 : decode cL_law 1369 = .ok (.invokevirtual 163, 3) := by decide +kernel
theorem dL_law_1372 : decode cL_law 1372 = .ok (.aload_n 2, 1) := by decide +kernel
theorem dL_law_1373 : decode cL_law 1373 = .ok (.aload_n 0, 1) := by decide +kernel
theorem dL_law_1374 : decode cL_law 1374 = .ok (.iload_n 3, 1) := by decide +kernel
theorem dL_law_1375 : decode cL_law 1375 = .ok (.iconst 1, 1) := by decide +kernel
theorem dL_law_1376 : decode cL_law 1376 = .ok (.iadd, 1) := by decide +kernel
theorem dL_law_1377 : decode cL_law 1377 = .ok (.iaload, 1) := by decide +kernel
theorem dL_law_1378 : decode cL_law 1378 = .ok (.invokevirtual 166, 3) := by decide +kernel
theorem dL_law_1381 : decode cL_law 1381 = .ok (.if_icmp .eq 55, 3) := by decide +kernel
theorem dL_law_1384 : decode cL_law 1384 = .ok (.iconst 0, 1) := by decide +kernel
theorem dL_law_1385 : decode cL_law 1385 = .ok (.ireturn, 1) := by decide +kernel
theorem dL_law_1386 : decode cL_law 1386 = .ok (.aload_n 1, 1) := by decide +kernel
theorem dL_law_1387 : decode cL_law 1387 = .ok (.invokevirtual 167, 3) := by decide +kernel
theorem dL_law_1390 : decode cL_law 1390 = .ok (.aload_n 2, 1) := by decide +kernel
theorem dL_law_1391 : decode cL_law 1391 = .ok (.invokevirtual 170, 3) := by decide +kernel
theorem dL_law_1394 : decode cL_law 1394 = .ok (.if_icmp .eq 42, 3) := by decide +kernel
theorem dL_law_1397 : decode cL_law 1397 = .ok (.iconst 0, 1) := by decide +kernel
theorem dL_law_1398 : decode cL_law 1398 = .ok (.ireturn, 1) := by decide +kernel
theorem dL_law_1399 : decode cL_law 1399 = .ok (.aload_n 1, 1) := by decide +kernel
theorem dL_law_1400 : decode cL_law 1400 = .ok (.aload_n 0, 1) := by decide +kernel
theorem dL_law_1401 : decode cL_law 1401 = .ok (.iload_n 3, 1) := by decide +kernel
theorem dL_law_1402 : decode cL_law 1402 = .ok (.iconst 1, 1) := by decide +kernel
theorem dL_law_1403 : decode cL_law 1403 = .ok (.iadd, 1) := by decide +kernel
theorem dL_law_1404 : decode cL_law 1404 = .ok (.iaload, 1) := by decide +kernel
theorem dL_law_1405 : decode cL_law 1405 = .ok (.invokevirtual 171, 3) := by decide +kernel
theorem dL_law_1408 : decode cL_law 1408 = .ok (.aload_n 2, 1) := by decide +kernel
theorem dL_law_1409 : decode cL_law 1409 = .ok (.aload_n 0, 1) := by decide +kernel
theorem dL_law_1410 : decode cL_law 1410 = .ok (.iload_n 3, 1) := by decide +kernel
theorem dL_law_1411 : decode cL_law 1411 = .ok (.iconst 1, 1) := by decide +kernel
theorem dL_law_1412 : decode cL_law 1412 = .ok (.iadd, 1) := by decide +kernel
theorem dL_law_1413 : decode cL_law 1413 = .ok (.iaload, 1) := by decide +kernel
theorem dL_law_1414 : decode cL_law 1414 = .ok (.invokevirtual 174, 3) := by decide +kernel
theorem dL_law_1417 : decode cL_law 1417 = .ok (.if_icmp .eq 19, 3) := by decide +kernel
theorem dL_law_1420 : decode cL_law 1420 = .ok (.iconst 0, 1) := by decide +kernel
theorem dL_law_1421 : decode cL_law 1421 = .ok (.ireturn, 1) := by decide +kernel
theorem dL_law_1422 : decode cL_law 1422 = .ok (.aload_n 1, 1) := by decide +kernel
theorem dL_law_1423 : decode cL_law 1423 = .ok (.invokevirtual 175, 3) := by decide +kernel
theorem dL_law_1426 : decode cL_law 1426 = .ok (.aload_n 2, 1) := by decide +kernel
theorem dL_law_1427 : decode cL_law 1427 = .ok (.invokevirtual 178, 3) := by decide +kernel
theorem dL_law_1430 : decode cL_law 1430 = .ok (.lcmp, 1) := by decide +kernel
theorem dL_law_1431 : decode cL_law 1431 = .ok (.ifCond .eq 5, 3) := by decide +kernel
theorem dL_law_1434 : decode cL_law 1434 = .ok (.iconst 0, 1) := by decide +kernel
theorem dL_law_1435 : decode cL_law 1435 = .ok (.ireturn, 1) := by decide +kernel
theorem dL_law_1436 : decode cL_law 1436 = .ok (.iinc 3 6, 3) := by decide +kernel
theorem dL_law_1439 : decode cL_law 1439 = .ok (.goto (-1421), 3) := by decide +kernel
theorem dL_law_1442 : decode cL_law 1442 = .ok (.iconst 1, 1) := by decide +kernel
theorem dL_law_1443 : decode cL_law 1443 = .ok (.ireturn, 1) := by decide +kernel
end
section
def wAll : List Cond := lw_tbl.filter goodWord
theorem mem_w {w : Cond} {i : Nat} (h : lw_tbl[i]? = some w) (g : goodWord w = true) : w ∈ wAll := List.mem_filter.mpr ⟨List.mem_of_getElem? h, g⟩
theorem wAll_good {w : Cond} (h : w ∈ wAll) : (w.onTables && w.keeps) = true ∨ ∃ ty, w = .arrayClass ty := good_of_word (List.mem_filter.mp h).2
/-- name, code, locals, answer, class number, rank, the locals' room of what it calls, arguments (with this) -/
abbrev MI : Type := MethodName × ByteArray × Nat × Option FieldType × Nat × Nat × Nat × Nat
abbrev mY (M : MI) : MethodName := M.1
abbrev mC (M : MI) : ByteArray := M.2.1
abbrev mL (M : MI) : Nat := M.2.2.1
abbrev mT (M : MI) : Option FieldType := M.2.2.2.1
abbrev mK (M : MI) : Nat := M.2.2.2.2.1
abbrev mR (M : MI) : Nat := M.2.2.2.2.2.1
abbrev mW (M : MI) : Nat := M.2.2.2.2.2.2.1
abbrev mN (M : MI) : Nat := M.2.2.2.2.2.2.2
def clsN : Nat → String := fun k => match k with
  | 0 => RX0
  | 1 => RX1
  | 2 => RX2
  | 3 => RX3
  | 4 => RX4
  | 5 => RX5
  | _ => RJ9
def clsT : Nat → u_T := fun k => match k with
  | 0 => TX0
  | 1 => TX1
  | 2 => TX2
  | 3 => TX3
  | 4 => TX4
  | _ => TX5
def clsY : Nat → Nat → FieldType := fun k => match k with
  | 0 => tyX0
  | 1 => tyX1
  | 2 => tyX2
  | 3 => tyX3
  | 4 => tyX4
  | _ => tyX5
def clsF : Nat → Nat := fun k => match k with
  | 0 => 2
  | 1 => 8
  | 2 => 4
  | 3 => 3
  | 4 => 15
  | _ => 30
abbrev vwA : List vw_C := [(RX0, TX0, 2), (RX1, TX1, 8), (RX2, TX2, 4), (RX3, TX3, 3), (RX4, TX4, 15), (RX5, TX5, 30)]
theorem vwA_at : ∀ k, k < 6 → vwA[k]? = some (clsN k, clsT k, clsF k) := fun k h => match k, h with
  | 0, _ => rfl
  | 1, _ => rfl
  | 2, _ => rfl
  | 3, _ => rfl
  | 4, _ => rfl
  | 5, _ => rfl
theorem clsY_ok : ∀ c, c < 6 → ∀ k, k < clsF c → parseFieldDescriptor (clsT c k).2.2.1 = some (clsY c k) := fun c h => match c, h with
  | 0, _ => tyX0_ok
  | 1, _ => tyX1_ok
  | 2, _ => tyX2_ok
  | 3, _ => tyX3_ok
  | 4, _ => tyX4_ok
  | 5, _ => tyX5_ok
theorem clsT_nm : ∀ c, c < 6 → ∀ a, a < clsF c → ∀ b, b < clsF c → a ≠ b → (clsT c a).2.1 ≠ (clsT c b).2.1 := fun c h => match c, h with
  | 0, _ => nmX0
  | 1, _ => nmX1
  | 2, _ => nmX2
  | 3, _ => nmX3
  | 4, _ => nmX4
  | 5, _ => nmX5
theorem uw_X0 : ∀ w ∈ u_ws RX0 TX0 2, w ∈ wAll := by
  have h : (u_ws RX0 TX0 2) = [69, 71].filterMap (fun i => lw_tbl[i]?) := by decide +kernel
  have g : (u_ws RX0 TX0 2).all goodWord = true := by decide +kernel
  intro w hw
  have g1 := List.all_eq_true.mp g w hw
  rw [h] at hw
  obtain ⟨i, -, hi⟩ := List.mem_filterMap.mp hw
  exact mem_w hi g1
theorem uw_X1 : ∀ w ∈ u_ws RX1 TX1 8, w ∈ wAll := by
  have h : (u_ws RX1 TX1 8) = [248, 250, 252, 254, 256, 258, 260, 262].filterMap (fun i => lw_tbl[i]?) := by decide +kernel
  have g : (u_ws RX1 TX1 8).all goodWord = true := by decide +kernel
  intro w hw
  have g1 := List.all_eq_true.mp g w hw
  rw [h] at hw
  obtain ⟨i, -, hi⟩ := List.mem_filterMap.mp hw
  exact mem_w hi g1
theorem uw_X2 : ∀ w ∈ u_ws RX2 TX2 4, w ∈ wAll := by
  have h : (u_ws RX2 TX2 4) = [80, 82, 84, 86].filterMap (fun i => lw_tbl[i]?) := by decide +kernel
  have g : (u_ws RX2 TX2 4).all goodWord = true := by decide +kernel
  intro w hw
  have g1 := List.all_eq_true.mp g w hw
  rw [h] at hw
  obtain ⟨i, -, hi⟩ := List.mem_filterMap.mp hw
  exact mem_w hi g1
theorem uw_X3 : ∀ w ∈ u_ws RX3 TX3 3, w ∈ wAll := by
  have h : (u_ws RX3 TX3 3) = [170, 172, 174].filterMap (fun i => lw_tbl[i]?) := by decide +kernel
  have g : (u_ws RX3 TX3 3).all goodWord = true := by decide +kernel
  intro w hw
  have g1 := List.all_eq_true.mp g w hw
  rw [h] at hw
  obtain ⟨i, -, hi⟩ := List.mem_filterMap.mp hw
  exact mem_w hi g1
theorem uw_X4 : ∀ w ∈ u_ws RX4 TX4 15, w ∈ wAll := by
  have h : (u_ws RX4 TX4 15) = [106, 108, 110, 112, 114, 116, 118, 120, 122, 124, 126, 128, 130, 132, 134].filterMap (fun i => lw_tbl[i]?) := by decide +kernel
  have g : (u_ws RX4 TX4 15).all goodWord = true := by decide +kernel
  intro w hw
  have g1 := List.all_eq_true.mp g w hw
  rw [h] at hw
  obtain ⟨i, -, hi⟩ := List.mem_filterMap.mp hw
  exact mem_w hi g1
theorem uw_X5 : ∀ w ∈ u_ws RX5 TX5 30, w ∈ wAll := by
  have h : (u_ws RX5 TX5 30) = [583, 585, 587, 589, 591, 593, 595, 597, 599, 601, 603, 605, 607, 609, 611, 613, 615, 617, 619, 621, 623, 625, 627, 629, 631, 633, 635, 637, 639, 641].filterMap (fun i => lw_tbl[i]?) := by decide +kernel
  have g : (u_ws RX5 TX5 30).all goodWord = true := by decide +kernel
  intro w hw
  have g1 := List.all_eq_true.mp g w hw
  rw [h] at hw
  obtain ⟨i, -, hi⟩ := List.mem_filterMap.mp hw
  exact mem_w hi g1
theorem clsW_ok : ∀ c, c < 6 → ∀ w ∈ u_ws (clsN c) (clsT c) (clsF c), w ∈ wAll := fun c h => match c, h with
  | 0, _ => uw_X0
  | 1, _ => uw_X1
  | 2, _ => uw_X2
  | 3, _ => uw_X3
  | 4, _ => uw_X4
  | 5, _ => uw_X5
def mX0_init : MI := (yX0_init, cX0_init, 1, none, 0, 1, 20, 1)
def mX0_take : MI := (yX0_take, cX0_take, 2, none, 0, 0, 0, 2)
def mX0_become : MI := (yX0_become, cX0_become, 7, none, 0, 1, 30, 3)
def mX0_against : MI := (yX0_against, cX0_against, 2, (some .int), 0, 2, 70, 2)
def mX0_common : MI := (yX0_common, cX0_common, 11, (some .long), 0, 0, 0, 2)
def mX0_weigh : MI := (yX0_weigh, cX0_weigh, 26, (some .int), 0, 1, 25, 4)
def mX1_init : MI := (yX1_init, cX1_init, 6, none, 1, 2, 40, 3)
def mX1_has : MI := (yX1_has, cX1_has, 2, (some .boolean), 1, 0, 0, 2)
def mX1_isUnder : MI := (yX1_isUnder, cX1_isUnder, 2, (some .boolean), 1, 0, 0, 2)
def mX1_mayPay : MI := (yX1_mayPay, cX1_mayPay, 2, (some .boolean), 1, 0, 0, 2)
def mX1_payAt : MI := (yX1_payAt, cX1_payAt, 2, (some .int), 1, 0, 0, 2)
def mX1_setPay : MI := (yX1_setPay, cX1_setPay, 3, none, 1, 0, 0, 3)
def mX1_weightAt : MI := (yX1_weightAt, cX1_weightAt, 3, (some .int), 1, 0, 0, 3)
def mX1_setWeight : MI := (yX1_setWeight, cX1_setWeight, 4, none, 1, 1, 21, 4)
def mX1_sumOf : MI := (yX1_sumOf, cX1_sumOf, 5, (some .int), 1, 0, 0, 2)
def mX1_goal : MI := (yX1_goal, cX1_goal, 4, (some .int), 1, 1, 22, 2)
def mX1_worthAt : MI := (yX1_worthAt, cX1_worthAt, 2, (some (.object "TinkerTrials$Fraction")), 1, 0, 0, 2)
def mX2_init : MI := (yX2_init, cX2_init, 1, none, 2, 2, 40, 1)
def mX2_valueOf : MI := (yX2_valueOf, cX2_valueOf, 8, (some (.object "TinkerTrials$Fraction")), 2, 2, 57, 6)
def mX2_reckonWorths : MI := (yX2_reckonWorths, cX2_reckonWorths, 9, none, 2, 3, 91, 4)
def mX2_longestRow : MI := (yX2_longestRow, cX2_longestRow, 9, (some .int), 2, 3, 91, 5)
def mX2_listStates : MI := (yX2_listStates, cX2_listStates, 6, (some .int), 2, 0, 0, 4)
def mX2_layRow : MI := (yX2_layRow, cX2_layRow, 12, none, 2, 1, 25, 6)
def mX2_eliminate : MI := (yX2_eliminate, cX2_eliminate, 13, none, 2, 1, 25, 2)
def mX2_cellAt : MI := (yX2_cellAt, cX2_cellAt, 4, (some .long), 2, 0, 0, 3)
def mX2_setCell : MI := (yX2_setCell, cX2_setCell, 6, none, 2, 0, 0, 4)
def mX3_init : MI := (yX3_init, cX3_init, 3, none, 3, 1, 21, 3)
def mX3_hasPlaces : MI := (yX3_hasPlaces, cX3_hasPlaces, 3, (some .boolean), 3, 0, 0, 3)
def mX3_placeAt : MI := (yX3_placeAt, cX3_placeAt, 2, (some .long), 3, 0, 0, 2)
def mX3_put : MI := (yX3_put, cX3_put, 4, none, 3, 1, 22, 3)
def mX3_cut : MI := (yX3_cut, cX3_cut, 3, (some .long), 3, 0, 0, 2)
def mX4_init : MI := (yX4_init, cX4_init, 1, none, 4, 3, 60, 1)
def mX4_share : MI := (yX4_share, cX4_share, 5, (some .int), 4, 1, 21, 3)
def mX4_sheet : MI := (yX4_sheet, cX4_sheet, 3, (some .int), 4, 2, 43, 3)
def mX4_tear : MI := (yX4_tear, cX4_tear, 3, (some .int), 4, 1, 21, 2)
def mX4_lay : MI := (yX4_lay, cX4_lay, 6, (some .int), 4, 2, 45, 4)
def mX4_get : MI := (yX4_get, cX4_get, 4, (some .int), 4, 1, 22, 3)
def mX4_copy : MI := (yX4_copy, cX4_copy, 8, (some .int), 4, 1, 30, 6)
def mX4_machine : MI := (yX4_machine, cX4_machine, 3, (some .int), 4, 3, 65, 3)
def mX4_is : MI := (yX4_is, cX4_is, 4, (some .int), 4, 1, 21, 3)
def mX4_told : MI := (yX4_told, cX4_told, 4, (some .int), 4, 1, 21, 3)
def mX4_pay : MI := (yX4_pay, cX4_pay, 6, (some .int), 4, 1, 22, 4)
def mX4_chance : MI := (yX4_chance, cX4_chance, 8, (some .int), 4, 2, 44, 5)
def mX4_fill : MI := (yX4_fill, cX4_fill, 9, (some .int), 4, 1, 22, 4)
def mX4_ask : MI := (yX4_ask, cX4_ask, 5, (some .int), 4, 1, 22, 4)
def mX4_stand : MI := (yX4_stand, cX4_stand, 5, (some .int), 4, 1, 21, 3)
def mX4_worth : MI := (yX4_worth, cX4_worth, 4, (some .int), 4, 5, 141, 3)
def mX4_way : MI := (yX4_way, cX4_way, 5, (some .int), 4, 3, 84, 4)
def mX4_upper : MI := (yX4_upper, cX4_upper, 1, (some .long), 4, 0, 0, 1)
def mX4_lower : MI := (yX4_lower, cX4_lower, 1, (some .long), 4, 0, 0, 1)
def mX4_order : MI := (yX4_order, cX4_order, 5, (some .int), 4, 6, 166, 3)
def mX4_goes : MI := (yX4_goes, cX4_goes, 6, (some .int), 4, 5, 141, 3)
def mX4_even : MI := (yX4_even, cX4_even, 7, (some .int), 4, 5, 141, 5)
def mX4_better : MI := (yX4_better, cX4_better, 5, (some .int), 4, 5, 141, 3)
def mX4_mean : MI := (yX4_mean, cX4_mean, 7, (some .int), 4, 2, 56, 3)
def mX4_row : MI := (yX4_row, cX4_row, 4, (some .int), 4, 4, 119, 3)
def mX4_least : MI := (yX4_least, cX4_least, 5, (some .int), 4, 5, 141, 2)
def mX4_compare : MI := (yX4_compare, cX4_compare, 7, (some .int), 4, 5, 141, 5)
def mX4_seed : MI := (yX4_seed, cX4_seed, 3, (some .int), 4, 0, 0, 2)
def mX4_best : MI := (yX4_best, cX4_best, 1, (some .int), 4, 6, 166, 1)
def mX4_work : MI := (yX4_work, cX4_work, 3, (some .int), 4, 3, 67, 2)
def mX4_run : MI := (yX4_run, cX4_run, 5, (some .int), 4, 6, 166, 2)
def mX4_step : MI := (yX4_step, cX4_step, 2, (some .int), 4, 0, 0, 2)
def mX4_worked : MI := (yX4_worked, cX4_worked, 3, (some .int), 4, 1, 21, 2)
def mX4_paid : MI := (yX4_paid, cX4_paid, 1, (some .long), 4, 0, 0, 1)
def mX4_fail : MI := (yX4_fail, cX4_fail, 3, (some .int), 4, 1, 21, 3)
def mX4_asked : MI := (yX4_asked, cX4_asked, 1, (some .long), 4, 0, 0, 1)
def mX4_count : MI := (yX4_count, cX4_count, 2, (some .int), 4, 0, 0, 2)
def mX4_finding : MI := (yX4_finding, cX4_finding, 1, (some .int), 4, 0, 0, 1)
def mX4_findings : MI := (yX4_findings, cX4_findings, 2, (some .int), 4, 0, 0, 2)
def mX4_digest : MI := (yX4_digest, cX4_digest, 4, (some .long), 4, 2, 49, 1)
def mX4_machineAt : MI := (yX4_machineAt, cX4_machineAt, 2, (some (.object "TinkerTrials$Machine")), 4, 0, 0, 2)
def mX4_sheetAt : MI := (yX4_sheetAt, cX4_sheetAt, 2, (some (.object "TinkerTrials$Sheet")), 4, 0, 0, 2)
def mX4_found : MI := (yX4_found, cX4_found, 2, (some .int), 4, 0, 0, 2)
def mX4_isPay : MI := (yX4_isPay, cX4_isPay, 2, (some .boolean), 4, 0, 0, 1)
def mX4_fits : MI := (yX4_fits, cX4_fits, 2, (some .boolean), 4, 0, 0, 2)
def mX4_asAnswer : MI := (yX4_asAnswer, cX4_asAnswer, 1, (some .int), 4, 0, 0, 1)
def mX4_worthOf : MI := (yX4_worthOf, cX4_worthOf, 3, (some (.object "TinkerTrials$Fraction")), 4, 4, 119, 3)
def mX4_rankOf : MI := (yX4_rankOf, cX4_rankOf, 6, (some .int), 4, 5, 141, 3)
def mX4_bestMachine : MI := (yX4_bestMachine, cX4_bestMachine, 6, (some .int), 4, 5, 141, 1)
def mX4_workOnce : MI := (yX4_workOnce, cX4_workOnce, 3, (some .int), 4, 2, 45, 2)
def mX4_draw : MI := (yX4_draw, cX4_draw, 2, (some .int), 4, 0, 0, 2)
def mX4_mix : MI := (yX4_mix, cX4_mix, 4, (some .long), 4, 0, 0, 2)
def mX4_mixMachine : MI := (yX4_mixMachine, cX4_mixMachine, 7, (some .long), 4, 1, 23, 2)
def mX4_mixSheet : MI := (yX4_mixSheet, cX4_mixSheet, 6, (some .long), 4, 1, 23, 2)
def mX5_init : MI := (yX5_init, cX5_init, 1, none, 5, 1, 20, 1)
def mX5_in : MI := (yX5_in, cX5_in, 6, (some .boolean), 5, 0, 0, 3)
def mX5_meets : MI := (yX5_meets, cX5_meets, 2, (some .int), 5, 0, 0, 2)
def mX5_finding : MI := (yX5_finding, cX5_finding, 1, (some .int), 5, 0, 0, 1)
def mX5_findings : MI := (yX5_findings, cX5_findings, 2, (some .int), 5, 1, 25, 2)
def mX5_share : MI := (yX5_share, cX5_share, 3, (some .int), 5, 1, 25, 3)
def mX5_isSheet : MI := (yX5_isSheet, cX5_isSheet, 2, (some .boolean), 5, 1, 25, 2)
def mX5_sheet : MI := (yX5_sheet, cX5_sheet, 4, (some .int), 5, 1, 25, 3)
def mX5_tear : MI := (yX5_tear, cX5_tear, 2, (some .int), 5, 2, 46, 2)
def mX5_lacks : MI := (yX5_lacks, cX5_lacks, 3, (some .int), 5, 1, 25, 3)
def mX5_lay : MI := (yX5_lay, cX5_lay, 7, (some .int), 5, 2, 47, 4)
def mX5_get : MI := (yX5_get, cX5_get, 4, (some .int), 5, 2, 47, 3)
def mX5_copy : MI := (yX5_copy, cX5_copy, 7, (some .int), 5, 2, 46, 6)
def mX5_isMachine : MI := (yX5_isMachine, cX5_isMachine, 2, (some .boolean), 5, 1, 25, 2)
def mX5_isAgeing : MI := (yX5_isAgeing, cX5_isAgeing, 2, (some .boolean), 5, 0, 0, 2)
def mX5_isState : MI := (yX5_isState, cX5_isState, 3, (some .boolean), 5, 1, 25, 3)
def mX5_machine : MI := (yX5_machine, cX5_machine, 7, (some .int), 5, 1, 25, 3)
def mX5_is : MI := (yX5_is, cX5_is, 4, (some .int), 5, 2, 46, 3)
def mX5_told : MI := (yX5_told, cX5_told, 3, (some .int), 5, 2, 46, 3)
def mX5_mayPay : MI := (yX5_mayPay, cX5_mayPay, 3, (some .boolean), 5, 0, 0, 3)
def mX5_pay : MI := (yX5_pay, cX5_pay, 5, (some .int), 5, 2, 47, 4)
def mX5_sum : MI := (yX5_sum, cX5_sum, 5, (some .int), 5, 0, 0, 3)
def mX5_chance : MI := (yX5_chance, cX5_chance, 7, (some .int), 5, 2, 47, 5)
def mX5_fill : MI := (yX5_fill, cX5_fill, 8, (some .int), 5, 2, 46, 4)
def mX5_ask : MI := (yX5_ask, cX5_ask, 4, (some .int), 5, 2, 47, 4)
def mX5_asked : MI := (yX5_asked, cX5_asked, 1, (some .long), 5, 0, 0, 1)
def mX5_stand : MI := (yX5_stand, cX5_stand, 4, (some .int), 5, 2, 47, 3)
def mX5_gcd : MI := (yX5_gcd, cX5_gcd, 10, (some .long), 5, 0, 0, 2)
def mX5_fraction : MI := (yX5_fraction, cX5_fraction, 7, none, 5, 1, 29, 3)
def mX5_tells : MI := (yX5_tells, cX5_tells, 1, (some .int), 5, 0, 0, 1)
def mX5_upper : MI := (yX5_upper, cX5_upper, 1, (some .long), 5, 0, 0, 1)
def mX5_lower : MI := (yX5_lower, cX5_lower, 1, (some .long), 5, 0, 0, 1)
def mX5_cutDown : MI := (yX5_cutDown, cX5_cutDown, 6, (some .long), 5, 0, 0, 2)
def mX5_compared : MI := (yX5_compared, cX5_compared, 25, (some .int), 5, 1, 25, 4)
def mX5_determinant : MI := (yX5_determinant, cX5_determinant, 8, (some .long), 5, 0, 0, 2)
def mX5_layTable : MI := (yX5_layTable, cX5_layTable, 12, none, 5, 1, 24, 5)
def mX5_value : MI := (yX5_value, cX5_value, 8, none, 5, 2, 55, 4)
def mX5_worthOf : MI := (yX5_worthOf, cX5_worthOf, 8, none, 5, 3, 82, 3)
def mX5_need : MI := (yX5_need, cX5_need, 3, (some .int), 5, 2, 47, 3)
def mX5_worth : MI := (yX5_worth, cX5_worth, 4, (some .int), 5, 4, 109, 3)
def mX5_way : MI := (yX5_way, cX5_way, 5, (some .int), 5, 3, 82, 4)
def mX5_layWorths : MI := (yX5_layWorths, cX5_layWorths, 3, none, 5, 4, 109, 2)
def mX5_between : MI := (yX5_between, cX5_between, 3, (some .int), 5, 2, 69, 3)
def mX5_order : MI := (yX5_order, cX5_order, 5, (some .int), 5, 5, 131, 3)
def mX5_goes : MI := (yX5_goes, cX5_goes, 6, (some .int), 5, 5, 131, 3)
def mX5_even : MI := (yX5_even, cX5_even, 6, (some .int), 5, 4, 109, 5)
def mX5_better : MI := (yX5_better, cX5_better, 4, (some .int), 5, 4, 109, 3)
def mX5_mean : MI := (yX5_mean, cX5_mean, 7, (some .int), 5, 3, 69, 3)
def mX5_row : MI := (yX5_row, cX5_row, 10, (some .int), 5, 3, 82, 3)
def mX5_least : MI := (yX5_least, cX5_least, 4, (some .int), 5, 5, 131, 2)
def mX5_compare : MI := (yX5_compare, cX5_compare, 10, (some .int), 5, 4, 109, 5)
def mX5_seed : MI := (yX5_seed, cX5_seed, 3, (some .int), 5, 0, 0, 2)
def mX5_best : MI := (yX5_best, cX5_best, 7, (some .int), 5, 4, 109, 1)
def mX5_works : MI := (yX5_works, cX5_works, 7, (some .int), 5, 1, 24, 2)
def mX5_work : MI := (yX5_work, cX5_work, 3, (some .int), 5, 2, 50, 2)
def mX5_run : MI := (yX5_run, cX5_run, 5, (some .int), 5, 5, 135, 2)
def mX5_step : MI := (yX5_step, cX5_step, 2, (some .int), 5, 1, 25, 2)
def mX5_worked : MI := (yX5_worked, cX5_worked, 2, (some .int), 5, 2, 46, 2)
def mX5_paid : MI := (yX5_paid, cX5_paid, 1, (some .long), 5, 0, 0, 1)
def mX5_fail : MI := (yX5_fail, cX5_fail, 3, (some .int), 5, 2, 46, 3)
def mX5_count : MI := (yX5_count, cX5_count, 2, (some .int), 5, 0, 0, 2)
def mX5_digest : MI := (yX5_digest, cX5_digest, 6, (some .long), 5, 0, 0, 1)
def mJ9_floorDiv_f86c9 : MI := (yJ9_floorDiv_f86c9, cJ9_floorDiv_f86c9, 6, (some .long), 6, 0, 0, 2)
def mJ9_abs_067f4 : MI := (yJ9_abs_067f4, cJ9_abs_067f4, 2, (some .long), 6, 0, 0, 1)
def mJ9_max_7cf53 : MI := (yJ9_max_7cf53, cJ9_max_7cf53, 2, (some .int), 6, 0, 0, 2)
def mJ9_min_7cf53 : MI := (yJ9_min_7cf53, cJ9_min_7cf53, 2, (some .int), 6, 0, 0, 2)
def okM (M : MI) : Prop := Cond.code (mY M) (mC M) (mL M) (mT M) ∈ wAll ∧ Cond.initialized (mY M).cls ∈ wAll ∧ plainFor (mY M) = true ∧ (mY M).cls = clsN (mK M) ∧ ((mY M).cls ≠ "java/lang/invoke/MethodHandle" ∧ (mY M).cls ≠ "java/lang/invoke/VarHandle")
theorem ok_mX0_init : okM mX0_init := ⟨mem_w (i := 63) (by decide +kernel) rfl, mem_w (i := 35) (by decide +kernel) rfl, by decide +kernel, rfl, by decide +kernel, by decide +kernel⟩
theorem ok_mX0_take : okM mX0_take := ⟨mem_w (i := 393) (by decide +kernel) rfl, mem_w (i := 35) (by decide +kernel) rfl, by decide +kernel, rfl, by decide +kernel, by decide +kernel⟩
theorem ok_mX0_become : okM mX0_become := ⟨mem_w (i := 373) (by decide +kernel) rfl, mem_w (i := 35) (by decide +kernel) rfl, by decide +kernel, rfl, by decide +kernel, by decide +kernel⟩
theorem ok_mX0_against : okM mX0_against := ⟨mem_w (i := 383) (by decide +kernel) rfl, mem_w (i := 35) (by decide +kernel) rfl, by decide +kernel, rfl, by decide +kernel, by decide +kernel⟩
theorem ok_mX0_common : okM mX0_common := ⟨mem_w (i := 379) (by decide +kernel) rfl, mem_w (i := 35) (by decide +kernel) rfl, by decide +kernel, rfl, by decide +kernel, by decide +kernel⟩
theorem ok_mX0_weigh : okM mX0_weigh := ⟨mem_w (i := 386) (by decide +kernel) rfl, mem_w (i := 35) (by decide +kernel) rfl, by decide +kernel, rfl, by decide +kernel, by decide +kernel⟩
theorem ok_mX1_init : okM mX1_init := ⟨mem_w (i := 226) (by decide +kernel) rfl, mem_w (i := 40) (by decide +kernel) rfl, by decide +kernel, rfl, by decide +kernel, by decide +kernel⟩
theorem ok_mX1_has : okM mX1_has := ⟨mem_w (i := 289) (by decide +kernel) rfl, mem_w (i := 40) (by decide +kernel) rfl, by decide +kernel, rfl, by decide +kernel, by decide +kernel⟩
theorem ok_mX1_isUnder : okM mX1_isUnder := ⟨mem_w (i := 272) (by decide +kernel) rfl, mem_w (i := 40) (by decide +kernel) rfl, by decide +kernel, rfl, by decide +kernel, by decide +kernel⟩
theorem ok_mX1_mayPay : okM mX1_mayPay := ⟨mem_w (i := 293) (by decide +kernel) rfl, mem_w (i := 40) (by decide +kernel) rfl, by decide +kernel, rfl, by decide +kernel, by decide +kernel⟩
theorem ok_mX1_payAt : okM mX1_payAt := ⟨mem_w (i := 297) (by decide +kernel) rfl, mem_w (i := 40) (by decide +kernel) rfl, by decide +kernel, rfl, by decide +kernel, by decide +kernel⟩
theorem ok_mX1_setPay : okM mX1_setPay := ⟨mem_w (i := 301) (by decide +kernel) rfl, mem_w (i := 40) (by decide +kernel) rfl, by decide +kernel, rfl, by decide +kernel, by decide +kernel⟩
theorem ok_mX1_weightAt : okM mX1_weightAt := ⟨mem_w (i := 309) (by decide +kernel) rfl, mem_w (i := 40) (by decide +kernel) rfl, by decide +kernel, rfl, by decide +kernel, by decide +kernel⟩
theorem ok_mX1_setWeight : okM mX1_setWeight := ⟨mem_w (i := 317) (by decide +kernel) rfl, mem_w (i := 40) (by decide +kernel) rfl, by decide +kernel, rfl, by decide +kernel, by decide +kernel⟩
theorem ok_mX1_sumOf : okM mX1_sumOf := ⟨mem_w (i := 313) (by decide +kernel) rfl, mem_w (i := 40) (by decide +kernel) rfl, by decide +kernel, rfl, by decide +kernel, by decide +kernel⟩
theorem ok_mX1_goal : okM mX1_goal := ⟨mem_w (i := 492) (by decide +kernel) rfl, mem_w (i := 40) (by decide +kernel) rfl, by decide +kernel, rfl, by decide +kernel, by decide +kernel⟩
theorem ok_mX1_worthAt : okM mX1_worthAt := ⟨mem_w (i := 397) (by decide +kernel) rfl, mem_w (i := 40) (by decide +kernel) rfl, by decide +kernel, rfl, by decide +kernel, by decide +kernel⟩
theorem ok_mX2_init : okM mX2_init := ⟨mem_w (i := 57) (by decide +kernel) rfl, mem_w (i := 34) (by decide +kernel) rfl, by decide +kernel, rfl, by decide +kernel, by decide +kernel⟩
theorem ok_mX2_valueOf : okM mX2_valueOf := ⟨mem_w (i := 346) (by decide +kernel) rfl, mem_w (i := 34) (by decide +kernel) rfl, by decide +kernel, rfl, by decide +kernel, by decide +kernel⟩
theorem ok_mX2_reckonWorths : okM mX2_reckonWorths := ⟨mem_w (i := 342) (by decide +kernel) rfl, mem_w (i := 34) (by decide +kernel) rfl, by decide +kernel, rfl, by decide +kernel, by decide +kernel⟩
theorem ok_mX2_longestRow : okM mX2_longestRow := ⟨mem_w (i := 452) (by decide +kernel) rfl, mem_w (i := 34) (by decide +kernel) rfl, by decide +kernel, rfl, by decide +kernel, by decide +kernel⟩
theorem ok_mX2_listStates : okM mX2_listStates := ⟨mem_w (i := 350) (by decide +kernel) rfl, mem_w (i := 34) (by decide +kernel) rfl, by decide +kernel, rfl, by decide +kernel, by decide +kernel⟩
theorem ok_mX2_layRow : okM mX2_layRow := ⟨mem_w (i := 354) (by decide +kernel) rfl, mem_w (i := 34) (by decide +kernel) rfl, by decide +kernel, rfl, by decide +kernel, by decide +kernel⟩
theorem ok_mX2_eliminate : okM mX2_eliminate := ⟨mem_w (i := 365) (by decide +kernel) rfl, mem_w (i := 34) (by decide +kernel) rfl, by decide +kernel, rfl, by decide +kernel, by decide +kernel⟩
theorem ok_mX2_cellAt : okM mX2_cellAt := ⟨mem_w (i := 369) (by decide +kernel) rfl, mem_w (i := 34) (by decide +kernel) rfl, by decide +kernel, rfl, by decide +kernel, by decide +kernel⟩
theorem ok_mX2_setCell : okM mX2_setCell := ⟨mem_w (i := 360) (by decide +kernel) rfl, mem_w (i := 34) (by decide +kernel) rfl, by decide +kernel, rfl, by decide +kernel, by decide +kernel⟩
theorem ok_mX3_init : okM mX3_init := ⟨mem_w (i := 156) (by decide +kernel) rfl, mem_w (i := 37) (by decide +kernel) rfl, by decide +kernel, rfl, by decide +kernel, by decide +kernel⟩
theorem ok_mX3_hasPlaces : okM mX3_hasPlaces := ⟨mem_w (i := 192) (by decide +kernel) rfl, mem_w (i := 37) (by decide +kernel) rfl, by decide +kernel, rfl, by decide +kernel, by decide +kernel⟩
theorem ok_mX3_placeAt : okM mX3_placeAt := ⟨mem_w (i := 208) (by decide +kernel) rfl, mem_w (i := 37) (by decide +kernel) rfl, by decide +kernel, rfl, by decide +kernel, by decide +kernel⟩
theorem ok_mX3_put : okM mX3_put := ⟨mem_w (i := 196) (by decide +kernel) rfl, mem_w (i := 37) (by decide +kernel) rfl, by decide +kernel, rfl, by decide +kernel, by decide +kernel⟩
theorem ok_mX3_cut : okM mX3_cut := ⟨mem_w (i := 200) (by decide +kernel) rfl, mem_w (i := 37) (by decide +kernel) rfl, by decide +kernel, rfl, by decide +kernel, by decide +kernel⟩
theorem ok_mX4_init : okM mX4_init := ⟨mem_w (i := 45) (by decide +kernel) rfl, mem_w (i := 33) (by decide +kernel) rfl, by decide +kernel, rfl, by decide +kernel, by decide +kernel⟩
theorem ok_mX4_share : okM mX4_share := ⟨mem_w (i := 140) (by decide +kernel) rfl, mem_w (i := 33) (by decide +kernel) rfl, by decide +kernel, rfl, by decide +kernel, by decide +kernel⟩
theorem ok_mX4_sheet : okM mX4_sheet := ⟨mem_w (i := 148) (by decide +kernel) rfl, mem_w (i := 33) (by decide +kernel) rfl, by decide +kernel, rfl, by decide +kernel, by decide +kernel⟩
theorem ok_mX4_tear : okM mX4_tear := ⟨mem_w (i := 180) (by decide +kernel) rfl, mem_w (i := 33) (by decide +kernel) rfl, by decide +kernel, rfl, by decide +kernel, by decide +kernel⟩
theorem ok_mX4_lay : okM mX4_lay := ⟨mem_w (i := 188) (by decide +kernel) rfl, mem_w (i := 33) (by decide +kernel) rfl, by decide +kernel, rfl, by decide +kernel, by decide +kernel⟩
theorem ok_mX4_get : okM mX4_get := ⟨mem_w (i := 204) (by decide +kernel) rfl, mem_w (i := 33) (by decide +kernel) rfl, by decide +kernel, rfl, by decide +kernel, by decide +kernel⟩
theorem ok_mX4_copy : okM mX4_copy := ⟨mem_w (i := 212) (by decide +kernel) rfl, mem_w (i := 33) (by decide +kernel) rfl, by decide +kernel, rfl, by decide +kernel, by decide +kernel⟩
theorem ok_mX4_machine : okM mX4_machine := ⟨mem_w (i := 219) (by decide +kernel) rfl, mem_w (i := 33) (by decide +kernel) rfl, by decide +kernel, rfl, by decide +kernel, by decide +kernel⟩
theorem ok_mX4_is : okM mX4_is := ⟨mem_w (i := 268) (by decide +kernel) rfl, mem_w (i := 33) (by decide +kernel) rfl, by decide +kernel, rfl, by decide +kernel, by decide +kernel⟩
theorem ok_mX4_told : okM mX4_told := ⟨mem_w (i := 276) (by decide +kernel) rfl, mem_w (i := 33) (by decide +kernel) rfl, by decide +kernel, rfl, by decide +kernel, by decide +kernel⟩
theorem ok_mX4_pay : okM mX4_pay := ⟨mem_w (i := 280) (by decide +kernel) rfl, mem_w (i := 33) (by decide +kernel) rfl, by decide +kernel, rfl, by decide +kernel, by decide +kernel⟩
theorem ok_mX4_chance : okM mX4_chance := ⟨mem_w (i := 305) (by decide +kernel) rfl, mem_w (i := 33) (by decide +kernel) rfl, by decide +kernel, rfl, by decide +kernel, by decide +kernel⟩
theorem ok_mX4_fill : okM mX4_fill := ⟨mem_w (i := 322) (by decide +kernel) rfl, mem_w (i := 33) (by decide +kernel) rfl, by decide +kernel, rfl, by decide +kernel, by decide +kernel⟩
theorem ok_mX4_ask : okM mX4_ask := ⟨mem_w (i := 326) (by decide +kernel) rfl, mem_w (i := 33) (by decide +kernel) rfl, by decide +kernel, rfl, by decide +kernel, by decide +kernel⟩
theorem ok_mX4_stand : okM mX4_stand := ⟨mem_w (i := 330) (by decide +kernel) rfl, mem_w (i := 33) (by decide +kernel) rfl, by decide +kernel, rfl, by decide +kernel, by decide +kernel⟩
theorem ok_mX4_worth : okM mX4_worth := ⟨mem_w (i := 334) (by decide +kernel) rfl, mem_w (i := 33) (by decide +kernel) rfl, by decide +kernel, rfl, by decide +kernel, by decide +kernel⟩
theorem ok_mX4_way : okM mX4_way := ⟨mem_w (i := 403) (by decide +kernel) rfl, mem_w (i := 33) (by decide +kernel) rfl, by decide +kernel, rfl, by decide +kernel, by decide +kernel⟩
theorem ok_mX4_upper : okM mX4_upper := ⟨mem_w (i := 408) (by decide +kernel) rfl, mem_w (i := 33) (by decide +kernel) rfl, by decide +kernel, rfl, by decide +kernel, by decide +kernel⟩
theorem ok_mX4_lower : okM mX4_lower := ⟨mem_w (i := 412) (by decide +kernel) rfl, mem_w (i := 33) (by decide +kernel) rfl, by decide +kernel, rfl, by decide +kernel, by decide +kernel⟩
theorem ok_mX4_order : okM mX4_order := ⟨mem_w (i := 416) (by decide +kernel) rfl, mem_w (i := 33) (by decide +kernel) rfl, by decide +kernel, rfl, by decide +kernel, by decide +kernel⟩
theorem ok_mX4_goes : okM mX4_goes := ⟨mem_w (i := 425) (by decide +kernel) rfl, mem_w (i := 33) (by decide +kernel) rfl, by decide +kernel, rfl, by decide +kernel, by decide +kernel⟩
theorem ok_mX4_even : okM mX4_even := ⟨mem_w (i := 429) (by decide +kernel) rfl, mem_w (i := 33) (by decide +kernel) rfl, by decide +kernel, rfl, by decide +kernel, by decide +kernel⟩
theorem ok_mX4_better : okM mX4_better := ⟨mem_w (i := 439) (by decide +kernel) rfl, mem_w (i := 33) (by decide +kernel) rfl, by decide +kernel, rfl, by decide +kernel, by decide +kernel⟩
theorem ok_mX4_mean : okM mX4_mean := ⟨mem_w (i := 444) (by decide +kernel) rfl, mem_w (i := 33) (by decide +kernel) rfl, by decide +kernel, rfl, by decide +kernel, by decide +kernel⟩
theorem ok_mX4_row : okM mX4_row := ⟨mem_w (i := 448) (by decide +kernel) rfl, mem_w (i := 33) (by decide +kernel) rfl, by decide +kernel, rfl, by decide +kernel, by decide +kernel⟩
theorem ok_mX4_least : okM mX4_least := ⟨mem_w (i := 456) (by decide +kernel) rfl, mem_w (i := 33) (by decide +kernel) rfl, by decide +kernel, rfl, by decide +kernel, by decide +kernel⟩
theorem ok_mX4_compare : okM mX4_compare := ⟨mem_w (i := 460) (by decide +kernel) rfl, mem_w (i := 33) (by decide +kernel) rfl, by decide +kernel, rfl, by decide +kernel, by decide +kernel⟩
theorem ok_mX4_seed : okM mX4_seed := ⟨mem_w (i := 464) (by decide +kernel) rfl, mem_w (i := 33) (by decide +kernel) rfl, by decide +kernel, rfl, by decide +kernel, by decide +kernel⟩
theorem ok_mX4_best : okM mX4_best := ⟨mem_w (i := 468) (by decide +kernel) rfl, mem_w (i := 33) (by decide +kernel) rfl, by decide +kernel, rfl, by decide +kernel, by decide +kernel⟩
theorem ok_mX4_work : okM mX4_work := ⟨mem_w (i := 476) (by decide +kernel) rfl, mem_w (i := 33) (by decide +kernel) rfl, by decide +kernel, rfl, by decide +kernel, by decide +kernel⟩
theorem ok_mX4_run : okM mX4_run := ⟨mem_w (i := 497) (by decide +kernel) rfl, mem_w (i := 33) (by decide +kernel) rfl, by decide +kernel, rfl, by decide +kernel, by decide +kernel⟩
theorem ok_mX4_step : okM mX4_step := ⟨mem_w (i := 502) (by decide +kernel) rfl, mem_w (i := 33) (by decide +kernel) rfl, by decide +kernel, rfl, by decide +kernel, by decide +kernel⟩
theorem ok_mX4_worked : okM mX4_worked := ⟨mem_w (i := 506) (by decide +kernel) rfl, mem_w (i := 33) (by decide +kernel) rfl, by decide +kernel, rfl, by decide +kernel, by decide +kernel⟩
theorem ok_mX4_paid : okM mX4_paid := ⟨mem_w (i := 510) (by decide +kernel) rfl, mem_w (i := 33) (by decide +kernel) rfl, by decide +kernel, rfl, by decide +kernel, by decide +kernel⟩
theorem ok_mX4_fail : okM mX4_fail := ⟨mem_w (i := 514) (by decide +kernel) rfl, mem_w (i := 33) (by decide +kernel) rfl, by decide +kernel, rfl, by decide +kernel, by decide +kernel⟩
theorem ok_mX4_asked : okM mX4_asked := ⟨mem_w (i := 518) (by decide +kernel) rfl, mem_w (i := 33) (by decide +kernel) rfl, by decide +kernel, rfl, by decide +kernel, by decide +kernel⟩
theorem ok_mX4_count : okM mX4_count := ⟨mem_w (i := 522) (by decide +kernel) rfl, mem_w (i := 33) (by decide +kernel) rfl, by decide +kernel, rfl, by decide +kernel, by decide +kernel⟩
theorem ok_mX4_finding : okM mX4_finding := ⟨mem_w (i := 526) (by decide +kernel) rfl, mem_w (i := 33) (by decide +kernel) rfl, by decide +kernel, rfl, by decide +kernel, by decide +kernel⟩
theorem ok_mX4_findings : okM mX4_findings := ⟨mem_w (i := 530) (by decide +kernel) rfl, mem_w (i := 33) (by decide +kernel) rfl, by decide +kernel, rfl, by decide +kernel, by decide +kernel⟩
theorem ok_mX4_digest : okM mX4_digest := ⟨mem_w (i := 534) (by decide +kernel) rfl, mem_w (i := 33) (by decide +kernel) rfl, by decide +kernel, rfl, by decide +kernel, by decide +kernel⟩
theorem ok_mX4_machineAt : okM mX4_machineAt := ⟨mem_w (i := 144) (by decide +kernel) rfl, mem_w (i := 33) (by decide +kernel) rfl, by decide +kernel, rfl, by decide +kernel, by decide +kernel⟩
theorem ok_mX4_sheetAt : okM mX4_sheetAt := ⟨mem_w (i := 184) (by decide +kernel) rfl, mem_w (i := 33) (by decide +kernel) rfl, by decide +kernel, rfl, by decide +kernel, by decide +kernel⟩
theorem ok_mX4_found : okM mX4_found := ⟨mem_w (i := 152) (by decide +kernel) rfl, mem_w (i := 33) (by decide +kernel) rfl, by decide +kernel, rfl, by decide +kernel, by decide +kernel⟩
theorem ok_mX4_isPay : okM mX4_isPay := ⟨mem_w (i := 283) (by decide +kernel) rfl, mem_w (i := 33) (by decide +kernel) rfl, by decide +kernel, rfl, by decide +kernel, by decide +kernel⟩
theorem ok_mX4_fits : okM mX4_fits := ⟨mem_w (i := 222) (by decide +kernel) rfl, mem_w (i := 33) (by decide +kernel) rfl, by decide +kernel, rfl, by decide +kernel, by decide +kernel⟩
theorem ok_mX4_asAnswer : okM mX4_asAnswer := ⟨mem_w (i := 435) (by decide +kernel) rfl, mem_w (i := 33) (by decide +kernel) rfl, by decide +kernel, rfl, by decide +kernel, by decide +kernel⟩
theorem ok_mX4_worthOf : okM mX4_worthOf := ⟨mem_w (i := 338) (by decide +kernel) rfl, mem_w (i := 33) (by decide +kernel) rfl, by decide +kernel, rfl, by decide +kernel, by decide +kernel⟩
theorem ok_mX4_rankOf : okM mX4_rankOf := ⟨mem_w (i := 420) (by decide +kernel) rfl, mem_w (i := 33) (by decide +kernel) rfl, by decide +kernel, rfl, by decide +kernel, by decide +kernel⟩
theorem ok_mX4_bestMachine : okM mX4_bestMachine := ⟨mem_w (i := 472) (by decide +kernel) rfl, mem_w (i := 33) (by decide +kernel) rfl, by decide +kernel, rfl, by decide +kernel, by decide +kernel⟩
theorem ok_mX4_workOnce : okM mX4_workOnce := ⟨mem_w (i := 480) (by decide +kernel) rfl, mem_w (i := 33) (by decide +kernel) rfl, by decide +kernel, rfl, by decide +kernel, by decide +kernel⟩
theorem ok_mX4_draw : okM mX4_draw := ⟨mem_w (i := 484) (by decide +kernel) rfl, mem_w (i := 33) (by decide +kernel) rfl, by decide +kernel, rfl, by decide +kernel, by decide +kernel⟩
theorem ok_mX4_mix : okM mX4_mix := ⟨mem_w (i := 538) (by decide +kernel) rfl, mem_w (i := 33) (by decide +kernel) rfl, by decide +kernel, rfl, by decide +kernel, by decide +kernel⟩
theorem ok_mX4_mixMachine : okM mX4_mixMachine := ⟨mem_w (i := 542) (by decide +kernel) rfl, mem_w (i := 33) (by decide +kernel) rfl, by decide +kernel, rfl, by decide +kernel, by decide +kernel⟩
theorem ok_mX4_mixSheet : okM mX4_mixSheet := ⟨mem_w (i := 545) (by decide +kernel) rfl, mem_w (i := 33) (by decide +kernel) rfl, by decide +kernel, rfl, by decide +kernel, by decide +kernel⟩
theorem ok_mX5_init : okM mX5_init := ⟨mem_w (i := 551) (by decide +kernel) rfl, mem_w (i := 36) (by decide +kernel) rfl, by decide +kernel, rfl, by decide +kernel, by decide +kernel⟩
theorem ok_mX5_in : okM mX5_in := ⟨mem_w (i := 655) (by decide +kernel) rfl, mem_w (i := 36) (by decide +kernel) rfl, by decide +kernel, rfl, by decide +kernel, by decide +kernel⟩
theorem ok_mX5_meets : okM mX5_meets := ⟨mem_w (i := 671) (by decide +kernel) rfl, mem_w (i := 36) (by decide +kernel) rfl, by decide +kernel, rfl, by decide +kernel, by decide +kernel⟩
theorem ok_mX5_finding : okM mX5_finding := ⟨mem_w (i := 647) (by decide +kernel) rfl, mem_w (i := 36) (by decide +kernel) rfl, by decide +kernel, rfl, by decide +kernel, by decide +kernel⟩
theorem ok_mX5_findings : okM mX5_findings := ⟨mem_w (i := 651) (by decide +kernel) rfl, mem_w (i := 36) (by decide +kernel) rfl, by decide +kernel, rfl, by decide +kernel, by decide +kernel⟩
theorem ok_mX5_share : okM mX5_share := ⟨mem_w (i := 659) (by decide +kernel) rfl, mem_w (i := 36) (by decide +kernel) rfl, by decide +kernel, rfl, by decide +kernel, by decide +kernel⟩
theorem ok_mX5_isSheet : okM mX5_isSheet := ⟨mem_w (i := 679) (by decide +kernel) rfl, mem_w (i := 36) (by decide +kernel) rfl, by decide +kernel, rfl, by decide +kernel, by decide +kernel⟩
theorem ok_mX5_sheet : okM mX5_sheet := ⟨mem_w (i := 666) (by decide +kernel) rfl, mem_w (i := 36) (by decide +kernel) rfl, by decide +kernel, rfl, by decide +kernel, by decide +kernel⟩
theorem ok_mX5_tear : okM mX5_tear := ⟨mem_w (i := 675) (by decide +kernel) rfl, mem_w (i := 36) (by decide +kernel) rfl, by decide +kernel, rfl, by decide +kernel, by decide +kernel⟩
theorem ok_mX5_lacks : okM mX5_lacks := ⟨mem_w (i := 687) (by decide +kernel) rfl, mem_w (i := 36) (by decide +kernel) rfl, by decide +kernel, rfl, by decide +kernel, by decide +kernel⟩
theorem ok_mX5_lay : okM mX5_lay := ⟨mem_w (i := 683) (by decide +kernel) rfl, mem_w (i := 36) (by decide +kernel) rfl, by decide +kernel, rfl, by decide +kernel, by decide +kernel⟩
theorem ok_mX5_get : okM mX5_get := ⟨mem_w (i := 691) (by decide +kernel) rfl, mem_w (i := 36) (by decide +kernel) rfl, by decide +kernel, rfl, by decide +kernel, by decide +kernel⟩
theorem ok_mX5_copy : okM mX5_copy := ⟨mem_w (i := 695) (by decide +kernel) rfl, mem_w (i := 36) (by decide +kernel) rfl, by decide +kernel, rfl, by decide +kernel, by decide +kernel⟩
theorem ok_mX5_isMachine : okM mX5_isMachine := ⟨mem_w (i := 707) (by decide +kernel) rfl, mem_w (i := 36) (by decide +kernel) rfl, by decide +kernel, rfl, by decide +kernel, by decide +kernel⟩
theorem ok_mX5_isAgeing : okM mX5_isAgeing := ⟨mem_w (i := 734) (by decide +kernel) rfl, mem_w (i := 36) (by decide +kernel) rfl, by decide +kernel, rfl, by decide +kernel, by decide +kernel⟩
theorem ok_mX5_isState : okM mX5_isState := ⟨mem_w (i := 721) (by decide +kernel) rfl, mem_w (i := 36) (by decide +kernel) rfl, by decide +kernel, rfl, by decide +kernel, by decide +kernel⟩
theorem ok_mX5_machine : okM mX5_machine := ⟨mem_w (i := 699) (by decide +kernel) rfl, mem_w (i := 36) (by decide +kernel) rfl, by decide +kernel, rfl, by decide +kernel, by decide +kernel⟩
theorem ok_mX5_is : okM mX5_is := ⟨mem_w (i := 703) (by decide +kernel) rfl, mem_w (i := 36) (by decide +kernel) rfl, by decide +kernel, rfl, by decide +kernel, by decide +kernel⟩
theorem ok_mX5_told : okM mX5_told := ⟨mem_w (i := 711) (by decide +kernel) rfl, mem_w (i := 36) (by decide +kernel) rfl, by decide +kernel, rfl, by decide +kernel, by decide +kernel⟩
theorem ok_mX5_mayPay : okM mX5_mayPay := ⟨mem_w (i := 725) (by decide +kernel) rfl, mem_w (i := 36) (by decide +kernel) rfl, by decide +kernel, rfl, by decide +kernel, by decide +kernel⟩
theorem ok_mX5_pay : okM mX5_pay := ⟨mem_w (i := 715) (by decide +kernel) rfl, mem_w (i := 36) (by decide +kernel) rfl, by decide +kernel, rfl, by decide +kernel, by decide +kernel⟩
theorem ok_mX5_sum : okM mX5_sum := ⟨mem_w (i := 738) (by decide +kernel) rfl, mem_w (i := 36) (by decide +kernel) rfl, by decide +kernel, rfl, by decide +kernel, by decide +kernel⟩
theorem ok_mX5_chance : okM mX5_chance := ⟨mem_w (i := 729) (by decide +kernel) rfl, mem_w (i := 36) (by decide +kernel) rfl, by decide +kernel, rfl, by decide +kernel, by decide +kernel⟩
theorem ok_mX5_fill : okM mX5_fill := ⟨mem_w (i := 742) (by decide +kernel) rfl, mem_w (i := 36) (by decide +kernel) rfl, by decide +kernel, rfl, by decide +kernel, by decide +kernel⟩
theorem ok_mX5_ask : okM mX5_ask := ⟨mem_w (i := 746) (by decide +kernel) rfl, mem_w (i := 36) (by decide +kernel) rfl, by decide +kernel, rfl, by decide +kernel, by decide +kernel⟩
theorem ok_mX5_asked : okM mX5_asked := ⟨mem_w (i := 750) (by decide +kernel) rfl, mem_w (i := 36) (by decide +kernel) rfl, by decide +kernel, rfl, by decide +kernel, by decide +kernel⟩
theorem ok_mX5_stand : okM mX5_stand := ⟨mem_w (i := 754) (by decide +kernel) rfl, mem_w (i := 36) (by decide +kernel) rfl, by decide +kernel, rfl, by decide +kernel, by decide +kernel⟩
theorem ok_mX5_gcd : okM mX5_gcd := ⟨mem_w (i := 793) (by decide +kernel) rfl, mem_w (i := 36) (by decide +kernel) rfl, by decide +kernel, rfl, by decide +kernel, by decide +kernel⟩
theorem ok_mX5_fraction : okM mX5_fraction := ⟨mem_w (i := 790) (by decide +kernel) rfl, mem_w (i := 36) (by decide +kernel) rfl, by decide +kernel, rfl, by decide +kernel, by decide +kernel⟩
theorem ok_mX5_tells : okM mX5_tells := ⟨mem_w (i := 803) (by decide +kernel) rfl, mem_w (i := 36) (by decide +kernel) rfl, by decide +kernel, rfl, by decide +kernel, by decide +kernel⟩
theorem ok_mX5_upper : okM mX5_upper := ⟨mem_w (i := 758) (by decide +kernel) rfl, mem_w (i := 36) (by decide +kernel) rfl, by decide +kernel, rfl, by decide +kernel, by decide +kernel⟩
theorem ok_mX5_lower : okM mX5_lower := ⟨mem_w (i := 762) (by decide +kernel) rfl, mem_w (i := 36) (by decide +kernel) rfl, by decide +kernel, rfl, by decide +kernel, by decide +kernel⟩
theorem ok_mX5_cutDown : okM mX5_cutDown := ⟨mem_w (i := 799) (by decide +kernel) rfl, mem_w (i := 36) (by decide +kernel) rfl, by decide +kernel, rfl, by decide +kernel, by decide +kernel⟩
theorem ok_mX5_compared : okM mX5_compared := ⟨mem_w (i := 796) (by decide +kernel) rfl, mem_w (i := 36) (by decide +kernel) rfl, by decide +kernel, rfl, by decide +kernel, by decide +kernel⟩
theorem ok_mX5_determinant : okM mX5_determinant := ⟨mem_w (i := 786) (by decide +kernel) rfl, mem_w (i := 36) (by decide +kernel) rfl, by decide +kernel, rfl, by decide +kernel, by decide +kernel⟩
theorem ok_mX5_layTable : okM mX5_layTable := ⟨mem_w (i := 782) (by decide +kernel) rfl, mem_w (i := 36) (by decide +kernel) rfl, by decide +kernel, rfl, by decide +kernel, by decide +kernel⟩
theorem ok_mX5_value : okM mX5_value := ⟨mem_w (i := 778) (by decide +kernel) rfl, mem_w (i := 36) (by decide +kernel) rfl, by decide +kernel, rfl, by decide +kernel, by decide +kernel⟩
theorem ok_mX5_worthOf : okM mX5_worthOf := ⟨mem_w (i := 774) (by decide +kernel) rfl, mem_w (i := 36) (by decide +kernel) rfl, by decide +kernel, rfl, by decide +kernel, by decide +kernel⟩
theorem ok_mX5_need : okM mX5_need := ⟨mem_w (i := 770) (by decide +kernel) rfl, mem_w (i := 36) (by decide +kernel) rfl, by decide +kernel, rfl, by decide +kernel, by decide +kernel⟩
theorem ok_mX5_worth : okM mX5_worth := ⟨mem_w (i := 766) (by decide +kernel) rfl, mem_w (i := 36) (by decide +kernel) rfl, by decide +kernel, rfl, by decide +kernel, by decide +kernel⟩
theorem ok_mX5_way : okM mX5_way := ⟨mem_w (i := 807) (by decide +kernel) rfl, mem_w (i := 36) (by decide +kernel) rfl, by decide +kernel, rfl, by decide +kernel, by decide +kernel⟩
theorem ok_mX5_layWorths : okM mX5_layWorths := ⟨mem_w (i := 816) (by decide +kernel) rfl, mem_w (i := 36) (by decide +kernel) rfl, by decide +kernel, rfl, by decide +kernel, by decide +kernel⟩
theorem ok_mX5_between : okM mX5_between := ⟨mem_w (i := 820) (by decide +kernel) rfl, mem_w (i := 36) (by decide +kernel) rfl, by decide +kernel, rfl, by decide +kernel, by decide +kernel⟩
theorem ok_mX5_order : okM mX5_order := ⟨mem_w (i := 812) (by decide +kernel) rfl, mem_w (i := 36) (by decide +kernel) rfl, by decide +kernel, rfl, by decide +kernel, by decide +kernel⟩
theorem ok_mX5_goes : okM mX5_goes := ⟨mem_w (i := 824) (by decide +kernel) rfl, mem_w (i := 36) (by decide +kernel) rfl, by decide +kernel, rfl, by decide +kernel, by decide +kernel⟩
theorem ok_mX5_even : okM mX5_even := ⟨mem_w (i := 828) (by decide +kernel) rfl, mem_w (i := 36) (by decide +kernel) rfl, by decide +kernel, rfl, by decide +kernel, by decide +kernel⟩
theorem ok_mX5_better : okM mX5_better := ⟨mem_w (i := 834) (by decide +kernel) rfl, mem_w (i := 36) (by decide +kernel) rfl, by decide +kernel, rfl, by decide +kernel, by decide +kernel⟩
theorem ok_mX5_mean : okM mX5_mean := ⟨mem_w (i := 838) (by decide +kernel) rfl, mem_w (i := 36) (by decide +kernel) rfl, by decide +kernel, rfl, by decide +kernel, by decide +kernel⟩
theorem ok_mX5_row : okM mX5_row := ⟨mem_w (i := 842) (by decide +kernel) rfl, mem_w (i := 36) (by decide +kernel) rfl, by decide +kernel, rfl, by decide +kernel, by decide +kernel⟩
theorem ok_mX5_least : okM mX5_least := ⟨mem_w (i := 846) (by decide +kernel) rfl, mem_w (i := 36) (by decide +kernel) rfl, by decide +kernel, rfl, by decide +kernel, by decide +kernel⟩
theorem ok_mX5_compare : okM mX5_compare := ⟨mem_w (i := 850) (by decide +kernel) rfl, mem_w (i := 36) (by decide +kernel) rfl, by decide +kernel, rfl, by decide +kernel, by decide +kernel⟩
theorem ok_mX5_seed : okM mX5_seed := ⟨mem_w (i := 854) (by decide +kernel) rfl, mem_w (i := 36) (by decide +kernel) rfl, by decide +kernel, rfl, by decide +kernel, by decide +kernel⟩
theorem ok_mX5_best : okM mX5_best := ⟨mem_w (i := 858) (by decide +kernel) rfl, mem_w (i := 36) (by decide +kernel) rfl, by decide +kernel, rfl, by decide +kernel, by decide +kernel⟩
theorem ok_mX5_works : okM mX5_works := ⟨mem_w (i := 866) (by decide +kernel) rfl, mem_w (i := 36) (by decide +kernel) rfl, by decide +kernel, rfl, by decide +kernel, by decide +kernel⟩
theorem ok_mX5_work : okM mX5_work := ⟨mem_w (i := 862) (by decide +kernel) rfl, mem_w (i := 36) (by decide +kernel) rfl, by decide +kernel, rfl, by decide +kernel, by decide +kernel⟩
theorem ok_mX5_run : okM mX5_run := ⟨mem_w (i := 874) (by decide +kernel) rfl, mem_w (i := 36) (by decide +kernel) rfl, by decide +kernel, rfl, by decide +kernel, by decide +kernel⟩
theorem ok_mX5_step : okM mX5_step := ⟨mem_w (i := 882) (by decide +kernel) rfl, mem_w (i := 36) (by decide +kernel) rfl, by decide +kernel, rfl, by decide +kernel, by decide +kernel⟩
theorem ok_mX5_worked : okM mX5_worked := ⟨mem_w (i := 886) (by decide +kernel) rfl, mem_w (i := 36) (by decide +kernel) rfl, by decide +kernel, rfl, by decide +kernel, by decide +kernel⟩
theorem ok_mX5_paid : okM mX5_paid := ⟨mem_w (i := 890) (by decide +kernel) rfl, mem_w (i := 36) (by decide +kernel) rfl, by decide +kernel, rfl, by decide +kernel, by decide +kernel⟩
theorem ok_mX5_fail : okM mX5_fail := ⟨mem_w (i := 894) (by decide +kernel) rfl, mem_w (i := 36) (by decide +kernel) rfl, by decide +kernel, rfl, by decide +kernel, by decide +kernel⟩
theorem ok_mX5_count : okM mX5_count := ⟨mem_w (i := 898) (by decide +kernel) rfl, mem_w (i := 36) (by decide +kernel) rfl, by decide +kernel, rfl, by decide +kernel, by decide +kernel⟩
theorem ok_mX5_digest : okM mX5_digest := ⟨mem_w (i := 902) (by decide +kernel) rfl, mem_w (i := 36) (by decide +kernel) rfl, by decide +kernel, rfl, by decide +kernel, by decide +kernel⟩
theorem ok_mJ9_floorDiv_f86c9 : okM mJ9_floorDiv_f86c9 := ⟨mem_w (i := 389) (by decide +kernel) rfl, mem_w (i := 38) (by decide +kernel) rfl, by decide +kernel, rfl, by decide +kernel, by decide +kernel⟩
theorem ok_mJ9_abs_067f4 : okM mJ9_abs_067f4 := ⟨mem_w (i := 376) (by decide +kernel) rfl, mem_w (i := 38) (by decide +kernel) rfl, by decide +kernel, rfl, by decide +kernel, by decide +kernel⟩
theorem ok_mJ9_max_7cf53 : okM mJ9_max_7cf53 := ⟨mem_w (i := 163) (by decide +kernel) rfl, mem_w (i := 38) (by decide +kernel) rfl, by decide +kernel, rfl, by decide +kernel, by decide +kernel⟩
theorem ok_mJ9_min_7cf53 : okM mJ9_min_7cf53 := ⟨mem_w (i := 160) (by decide +kernel) rfl, mem_w (i := 38) (by decide +kernel) rfl, by decide +kernel, rfl, by decide +kernel, by decide +kernel⟩
def nwM : List Cond := [.methodLinkNest RX4 23 yX2_init "TinkerTrials", .methodLinkNest RX2 21 yX0_init "TinkerTrials", .methodLinkNest RX4 30 yX0_init "TinkerTrials", .methodLinkNest RX1 50 yX0_init "TinkerTrials"]
def nwF : List Cond := [.fieldLinkNest RX4 172 "TinkerTrials$Fraction" "top" "J" "TinkerTrials", .fieldLinkNest RX4 175 "TinkerTrials$Fraction" "bottom" "J" "TinkerTrials", .fieldLinkNest RX4 105 "TinkerTrials$Sheet" "kind" "I" "TinkerTrials", .fieldLinkNest RX4 108 "TinkerTrials$Sheet" "places" "[J" "TinkerTrials", .fieldLinkNest RX4 90 "TinkerTrials$Sheet" "missing" "Z" "TinkerTrials", .fieldLinkNest RX4 126 "TinkerTrials$Machine" "kind" "I" "TinkerTrials", .fieldLinkNest RX2 49 "TinkerTrials$Machine" "size" "I" "TinkerTrials", .fieldLinkNest RX4 127 "TinkerTrials$Machine" "size" "I" "TinkerTrials", .fieldLinkNest RX4 75 "TinkerTrials$Machine" "weighed" "Z" "TinkerTrials", .fieldLinkNest RX2 71 "TinkerTrials$Machine" "weighed" "Z" "TinkerTrials", .fieldLinkNest RX4 130 "TinkerTrials$Machine" "stands" "I" "TinkerTrials", .fieldLinkNest RX4 212 "TinkerTrials$Machine" "steps" "I" "TinkerTrials"]
theorem nwM_in : nwM = [55, 61, 90, 232].filterMap (fun i => lw_tbl[i]?) := by decide +kernel
theorem nwF_in : nwF = [66, 68, 165, 167, 169, 234, 236, 237, 242, 243, 245, 247].filterMap (fun i => lw_tbl[i]?) := by decide +kernel

/-- how a class's constant links a method: 0 virtual, 1 static, 2 special, 3 special of a nest mate -/
def okC (c idx : Nat) (k : Nat) (M : MI) : Prop := match k with
  | 0 => Cond.methodLink (clsN c) idx (mY M) ∈ wAll ∧ Cond.instanceMethod (mY M) ∈ wAll ∧ Cond.selects (mY M).cls (mY M) (mY M) ∈ wAll ∧ (parseMethodDescriptor (mY M).desc).map (fun d => d.parameters.length + 1) = some (mN M)
  | 1 => Cond.methodLink (clsN c) idx (mY M) ∈ wAll ∧ Cond.static (mY M) ∈ wAll ∧ (parseMethodDescriptor (mY M).desc).map (fun d => d.parameters.length) = some (mN M)
  | 2 => Cond.methodLink (clsN c) idx (mY M) ∈ wAll ∧ Cond.instanceMethod (mY M) ∈ wAll ∧ (mY M).name = "<init>" ∧ mT M = none ∧ (parseMethodDescriptor (mY M).desc).map (fun d => d.parameters.length + 1) = some (mN M)
  | _ => (∃ host, Cond.methodLinkNest (clsN c) idx (mY M) host ∈ nwM) ∧ Cond.instanceMethod (mY M) ∈ wAll ∧ (mY M).name = "<init>" ∧ mT M = none ∧ (parseMethodDescriptor (mY M).desc).map (fun d => d.parameters.length + 1) = some (mN M)
def lk {α : Type} : List (Nat × Nat × α) → Nat → Nat → Option α
  | [], _, _ => none
  | q :: t, c, d => bif Nat.beq q.1 c && Nat.beq q.2.1 d then some q.2.2 else lk t c d
theorem lk_mem {α : Type} {x : α} : ∀ {l : List (Nat × Nat × α)} {c d : Nat}, lk l c d = some x → (c, d, x) ∈ l
  | [], _, _, h => by cases h
  | q :: t, c, d, h => by
    unfold lk at h
    cases hb : (Nat.beq q.1 c && Nat.beq q.2.1 d) with
    | true =>
      rw [hb] at h
      simp only [Bool.and_eq_true] at hb
      have h1 := Nat.eq_of_beq_eq_true hb.1
      have h2 := Nat.eq_of_beq_eq_true hb.2
      cases h
      subst h1; subst h2
      exact List.mem_cons_self
    | false =>
      rw [hb] at h
      exact List.mem_cons_of_mem _ (lk_mem h)
def cLst : List (Nat × Nat × (Nat × MI)) := [(4, 23, (3, mX2_init)),
  (2, 21, (3, mX0_init)),
  (4, 30, (3, mX0_init)),
  (4, 71, (0, mX4_machineAt)),
  (4, 79, (0, mX4_found)),
  (4, 83, (2, mX3_init)),
  (3, 19, (1, mJ9_min_7cf53)),
  (3, 25, (1, mJ9_max_7cf53)),
  (4, 86, (0, mX4_sheetAt)),
  (4, 93, (0, mX3_hasPlaces)),
  (4, 97, (0, mX3_put)),
  (3, 32, (0, mX3_cut)),
  (4, 101, (0, mX3_placeAt)),
  (4, 118, (1, mX4_fits)),
  (4, 121, (2, mX1_init)),
  (1, 25, (1, mJ9_min_7cf53)),
  (1, 31, (1, mJ9_max_7cf53)),
  (1, 50, (3, mX0_init)),
  (4, 122, (0, mX1_isUnder)),
  (4, 133, (1, mX4_isPay)),
  (4, 137, (0, mX1_has)),
  (4, 140, (0, mX1_mayPay)),
  (4, 143, (0, mX1_payAt)),
  (4, 146, (0, mX1_setPay)),
  (4, 149, (0, mX1_weightAt)),
  (4, 153, (0, mX1_sumOf)),
  (4, 156, (0, mX1_setWeight)),
  (1, 51, (0, mX1_has)),
  (4, 160, (0, mX4_worthOf)),
  (4, 233, (0, mX2_reckonWorths)),
  (2, 55, (0, mX2_valueOf)),
  (2, 29, (0, mX2_listStates)),
  (2, 33, (0, mX2_layRow)),
  (2, 75, (0, mX1_sumOf)),
  (2, 79, (0, mX1_weightAt)),
  (2, 83, (0, mX2_setCell)),
  (2, 87, (0, mX1_payAt)),
  (2, 37, (0, mX2_eliminate)),
  (2, 41, (0, mX2_cellAt)),
  (2, 45, (0, mX0_become)),
  (0, 16, (1, mJ9_abs_067f4)),
  (0, 22, (1, mX0_common)),
  (2, 59, (0, mX0_against)),
  (0, 26, (1, mX0_weigh)),
  (0, 30, (1, mJ9_floorDiv_f86c9)),
  (2, 63, (0, mX0_take)),
  (2, 67, (0, mX1_worthAt)),
  (4, 237, (0, mX1_worthAt)),
  (4, 164, (0, mX0_take)),
  (4, 168, (0, mX2_valueOf)),
  (4, 178, (0, mX4_rankOf)),
  (4, 182, (0, mX0_against)),
  (4, 188, (1, mX0_weigh)),
  (4, 192, (1, mX4_asAnswer)),
  (4, 195, (0, mX0_become)),
  (4, 199, (0, mX2_longestRow)),
  (4, 203, (0, mX4_bestMachine)),
  (4, 207, (0, mX4_workOnce)),
  (4, 241, (0, mX4_draw)),
  (4, 244, (0, mX1_goal)),
  (1, 55, (0, mX1_weightAt)),
  (4, 217, (1, mX4_mix)),
  (4, 221, (1, mX4_mixMachine)),
  (4, 225, (1, mX4_mixSheet)),
  (5, 81, (1, mX5_in)),
  (5, 96, (0, mX5_meets)),
  (5, 100, (0, mX5_isSheet)),
  (5, 104, (0, mX5_lacks)),
  (5, 114, (0, mX5_isMachine)),
  (5, 121, (0, mX5_isState)),
  (5, 125, (0, mX5_mayPay)),
  (5, 130, (0, mX5_isAgeing)),
  (5, 133, (0, mX5_sum)),
  (5, 172, (0, mX5_need)),
  (5, 175, (0, mX5_worthOf)),
  (5, 164, (0, mX5_value)),
  (5, 152, (0, mX5_layTable)),
  (5, 156, (0, mX5_determinant)),
  (5, 160, (0, mX5_fraction)),
  (5, 136, (1, mX5_gcd)),
  (5, 168, (1, mX5_compared)),
  (5, 149, (1, mX5_cutDown)),
  (5, 179, (0, mX5_tells)),
  (5, 185, (0, mX5_layWorths)),
  (5, 189, (0, mX5_between)),
  (5, 206, (0, mX5_works)),
  (5, 216, (0, mX5_best))]
theorem okC_4_23 : okC 4 23 3 mX2_init ∧ okM mX2_init := ⟨⟨⟨"TinkerTrials", List.mem_of_getElem? (i := 0) rfl⟩, mem_w (i := 56) (by decide +kernel) rfl, rfl, rfl, by decide +kernel⟩, ok_mX2_init⟩
theorem okC_2_21 : okC 2 21 3 mX0_init ∧ okM mX0_init := ⟨⟨⟨"TinkerTrials", List.mem_of_getElem? (i := 1) rfl⟩, mem_w (i := 62) (by decide +kernel) rfl, rfl, rfl, by decide +kernel⟩, ok_mX0_init⟩
theorem okC_4_30 : okC 4 30 3 mX0_init ∧ okM mX0_init := ⟨⟨⟨"TinkerTrials", List.mem_of_getElem? (i := 2) rfl⟩, mem_w (i := 62) (by decide +kernel) rfl, rfl, rfl, by decide +kernel⟩, ok_mX0_init⟩
theorem okC_4_71 : okC 4 71 0 mX4_machineAt ∧ okM mX4_machineAt := ⟨⟨mem_w (i := 141) (by decide +kernel) rfl, mem_w (i := 143) (by decide +kernel) rfl, mem_w (i := 0) (by decide +kernel) rfl, by decide +kernel⟩, ok_mX4_machineAt⟩
theorem okC_4_79 : okC 4 79 0 mX4_found ∧ okM mX4_found := ⟨⟨mem_w (i := 149) (by decide +kernel) rfl, mem_w (i := 151) (by decide +kernel) rfl, mem_w (i := 1) (by decide +kernel) rfl, by decide +kernel⟩, ok_mX4_found⟩
theorem okC_4_83 : okC 4 83 2 mX3_init ∧ okM mX3_init := ⟨⟨mem_w (i := 154) (by decide +kernel) rfl, mem_w (i := 155) (by decide +kernel) rfl, rfl, rfl, by decide +kernel⟩, ok_mX3_init⟩
theorem okC_3_19 : okC 3 19 1 mJ9_min_7cf53 ∧ okM mJ9_min_7cf53 := ⟨⟨mem_w (i := 158) (by decide +kernel) rfl, mem_w (i := 159) (by decide +kernel) rfl, by decide +kernel⟩, ok_mJ9_min_7cf53⟩
theorem okC_3_25 : okC 3 25 1 mJ9_max_7cf53 ∧ okM mJ9_max_7cf53 := ⟨⟨mem_w (i := 161) (by decide +kernel) rfl, mem_w (i := 162) (by decide +kernel) rfl, by decide +kernel⟩, ok_mJ9_max_7cf53⟩
theorem okC_4_86 : okC 4 86 0 mX4_sheetAt ∧ okM mX4_sheetAt := ⟨⟨mem_w (i := 181) (by decide +kernel) rfl, mem_w (i := 183) (by decide +kernel) rfl, mem_w (i := 2) (by decide +kernel) rfl, by decide +kernel⟩, ok_mX4_sheetAt⟩
theorem okC_4_93 : okC 4 93 0 mX3_hasPlaces ∧ okM mX3_hasPlaces := ⟨⟨mem_w (i := 189) (by decide +kernel) rfl, mem_w (i := 190) (by decide +kernel) rfl, mem_w (i := 191) (by decide +kernel) rfl, by decide +kernel⟩, ok_mX3_hasPlaces⟩
theorem okC_4_97 : okC 4 97 0 mX3_put ∧ okM mX3_put := ⟨⟨mem_w (i := 193) (by decide +kernel) rfl, mem_w (i := 194) (by decide +kernel) rfl, mem_w (i := 195) (by decide +kernel) rfl, by decide +kernel⟩, ok_mX3_put⟩
theorem okC_3_32 : okC 3 32 0 mX3_cut ∧ okM mX3_cut := ⟨⟨mem_w (i := 197) (by decide +kernel) rfl, mem_w (i := 199) (by decide +kernel) rfl, mem_w (i := 3) (by decide +kernel) rfl, by decide +kernel⟩, ok_mX3_cut⟩
theorem okC_4_101 : okC 4 101 0 mX3_placeAt ∧ okM mX3_placeAt := ⟨⟨mem_w (i := 205) (by decide +kernel) rfl, mem_w (i := 206) (by decide +kernel) rfl, mem_w (i := 207) (by decide +kernel) rfl, by decide +kernel⟩, ok_mX3_placeAt⟩
theorem okC_4_118 : okC 4 118 1 mX4_fits ∧ okM mX4_fits := ⟨⟨mem_w (i := 220) (by decide +kernel) rfl, mem_w (i := 221) (by decide +kernel) rfl, by decide +kernel⟩, ok_mX4_fits⟩
theorem okC_4_121 : okC 4 121 2 mX1_init ∧ okM mX1_init := ⟨⟨mem_w (i := 224) (by decide +kernel) rfl, mem_w (i := 225) (by decide +kernel) rfl, rfl, rfl, by decide +kernel⟩, ok_mX1_init⟩
theorem okC_1_25 : okC 1 25 1 mJ9_min_7cf53 ∧ okM mJ9_min_7cf53 := ⟨⟨mem_w (i := 228) (by decide +kernel) rfl, mem_w (i := 159) (by decide +kernel) rfl, by decide +kernel⟩, ok_mJ9_min_7cf53⟩
theorem okC_1_31 : okC 1 31 1 mJ9_max_7cf53 ∧ okM mJ9_max_7cf53 := ⟨⟨mem_w (i := 229) (by decide +kernel) rfl, mem_w (i := 162) (by decide +kernel) rfl, by decide +kernel⟩, ok_mJ9_max_7cf53⟩
theorem okC_1_50 : okC 1 50 3 mX0_init ∧ okM mX0_init := ⟨⟨⟨"TinkerTrials", List.mem_of_getElem? (i := 3) rfl⟩, mem_w (i := 62) (by decide +kernel) rfl, rfl, rfl, by decide +kernel⟩, ok_mX0_init⟩
theorem okC_4_122 : okC 4 122 0 mX1_isUnder ∧ okM mX1_isUnder := ⟨⟨mem_w (i := 269) (by decide +kernel) rfl, mem_w (i := 270) (by decide +kernel) rfl, mem_w (i := 271) (by decide +kernel) rfl, by decide +kernel⟩, ok_mX1_isUnder⟩
theorem okC_4_133 : okC 4 133 1 mX4_isPay ∧ okM mX4_isPay := ⟨⟨mem_w (i := 281) (by decide +kernel) rfl, mem_w (i := 282) (by decide +kernel) rfl, by decide +kernel⟩, ok_mX4_isPay⟩
theorem okC_4_137 : okC 4 137 0 mX1_has ∧ okM mX1_has := ⟨⟨mem_w (i := 286) (by decide +kernel) rfl, mem_w (i := 287) (by decide +kernel) rfl, mem_w (i := 288) (by decide +kernel) rfl, by decide +kernel⟩, ok_mX1_has⟩
theorem okC_4_140 : okC 4 140 0 mX1_mayPay ∧ okM mX1_mayPay := ⟨⟨mem_w (i := 290) (by decide +kernel) rfl, mem_w (i := 291) (by decide +kernel) rfl, mem_w (i := 292) (by decide +kernel) rfl, by decide +kernel⟩, ok_mX1_mayPay⟩
theorem okC_4_143 : okC 4 143 0 mX1_payAt ∧ okM mX1_payAt := ⟨⟨mem_w (i := 294) (by decide +kernel) rfl, mem_w (i := 295) (by decide +kernel) rfl, mem_w (i := 296) (by decide +kernel) rfl, by decide +kernel⟩, ok_mX1_payAt⟩
theorem okC_4_146 : okC 4 146 0 mX1_setPay ∧ okM mX1_setPay := ⟨⟨mem_w (i := 298) (by decide +kernel) rfl, mem_w (i := 299) (by decide +kernel) rfl, mem_w (i := 300) (by decide +kernel) rfl, by decide +kernel⟩, ok_mX1_setPay⟩
theorem okC_4_149 : okC 4 149 0 mX1_weightAt ∧ okM mX1_weightAt := ⟨⟨mem_w (i := 306) (by decide +kernel) rfl, mem_w (i := 307) (by decide +kernel) rfl, mem_w (i := 308) (by decide +kernel) rfl, by decide +kernel⟩, ok_mX1_weightAt⟩
theorem okC_4_153 : okC 4 153 0 mX1_sumOf ∧ okM mX1_sumOf := ⟨⟨mem_w (i := 310) (by decide +kernel) rfl, mem_w (i := 311) (by decide +kernel) rfl, mem_w (i := 312) (by decide +kernel) rfl, by decide +kernel⟩, ok_mX1_sumOf⟩
theorem okC_4_156 : okC 4 156 0 mX1_setWeight ∧ okM mX1_setWeight := ⟨⟨mem_w (i := 314) (by decide +kernel) rfl, mem_w (i := 315) (by decide +kernel) rfl, mem_w (i := 316) (by decide +kernel) rfl, by decide +kernel⟩, ok_mX1_setWeight⟩
theorem okC_1_51 : okC 1 51 0 mX1_has ∧ okM mX1_has := ⟨⟨mem_w (i := 318) (by decide +kernel) rfl, mem_w (i := 287) (by decide +kernel) rfl, mem_w (i := 288) (by decide +kernel) rfl, by decide +kernel⟩, ok_mX1_has⟩
theorem okC_4_160 : okC 4 160 0 mX4_worthOf ∧ okM mX4_worthOf := ⟨⟨mem_w (i := 335) (by decide +kernel) rfl, mem_w (i := 337) (by decide +kernel) rfl, mem_w (i := 4) (by decide +kernel) rfl, by decide +kernel⟩, ok_mX4_worthOf⟩
theorem okC_4_233 : okC 4 233 0 mX2_reckonWorths ∧ okM mX2_reckonWorths := ⟨⟨mem_w (i := 339) (by decide +kernel) rfl, mem_w (i := 340) (by decide +kernel) rfl, mem_w (i := 341) (by decide +kernel) rfl, by decide +kernel⟩, ok_mX2_reckonWorths⟩
theorem okC_2_55 : okC 2 55 0 mX2_valueOf ∧ okM mX2_valueOf := ⟨⟨mem_w (i := 343) (by decide +kernel) rfl, mem_w (i := 344) (by decide +kernel) rfl, mem_w (i := 345) (by decide +kernel) rfl, by decide +kernel⟩, ok_mX2_valueOf⟩
theorem okC_2_29 : okC 2 29 0 mX2_listStates ∧ okM mX2_listStates := ⟨⟨mem_w (i := 347) (by decide +kernel) rfl, mem_w (i := 349) (by decide +kernel) rfl, mem_w (i := 5) (by decide +kernel) rfl, by decide +kernel⟩, ok_mX2_listStates⟩
theorem okC_2_33 : okC 2 33 0 mX2_layRow ∧ okM mX2_layRow := ⟨⟨mem_w (i := 351) (by decide +kernel) rfl, mem_w (i := 353) (by decide +kernel) rfl, mem_w (i := 6) (by decide +kernel) rfl, by decide +kernel⟩, ok_mX2_layRow⟩
theorem okC_2_75 : okC 2 75 0 mX1_sumOf ∧ okM mX1_sumOf := ⟨⟨mem_w (i := 355) (by decide +kernel) rfl, mem_w (i := 311) (by decide +kernel) rfl, mem_w (i := 312) (by decide +kernel) rfl, by decide +kernel⟩, ok_mX1_sumOf⟩
theorem okC_2_79 : okC 2 79 0 mX1_weightAt ∧ okM mX1_weightAt := ⟨⟨mem_w (i := 356) (by decide +kernel) rfl, mem_w (i := 307) (by decide +kernel) rfl, mem_w (i := 308) (by decide +kernel) rfl, by decide +kernel⟩, ok_mX1_weightAt⟩
theorem okC_2_83 : okC 2 83 0 mX2_setCell ∧ okM mX2_setCell := ⟨⟨mem_w (i := 357) (by decide +kernel) rfl, mem_w (i := 359) (by decide +kernel) rfl, mem_w (i := 7) (by decide +kernel) rfl, by decide +kernel⟩, ok_mX2_setCell⟩
theorem okC_2_87 : okC 2 87 0 mX1_payAt ∧ okM mX1_payAt := ⟨⟨mem_w (i := 361) (by decide +kernel) rfl, mem_w (i := 295) (by decide +kernel) rfl, mem_w (i := 296) (by decide +kernel) rfl, by decide +kernel⟩, ok_mX1_payAt⟩
theorem okC_2_37 : okC 2 37 0 mX2_eliminate ∧ okM mX2_eliminate := ⟨⟨mem_w (i := 362) (by decide +kernel) rfl, mem_w (i := 364) (by decide +kernel) rfl, mem_w (i := 8) (by decide +kernel) rfl, by decide +kernel⟩, ok_mX2_eliminate⟩
theorem okC_2_41 : okC 2 41 0 mX2_cellAt ∧ okM mX2_cellAt := ⟨⟨mem_w (i := 366) (by decide +kernel) rfl, mem_w (i := 368) (by decide +kernel) rfl, mem_w (i := 9) (by decide +kernel) rfl, by decide +kernel⟩, ok_mX2_cellAt⟩
theorem okC_2_45 : okC 2 45 0 mX0_become ∧ okM mX0_become := ⟨⟨mem_w (i := 370) (by decide +kernel) rfl, mem_w (i := 371) (by decide +kernel) rfl, mem_w (i := 372) (by decide +kernel) rfl, by decide +kernel⟩, ok_mX0_become⟩
theorem okC_0_16 : okC 0 16 1 mJ9_abs_067f4 ∧ okM mJ9_abs_067f4 := ⟨⟨mem_w (i := 374) (by decide +kernel) rfl, mem_w (i := 375) (by decide +kernel) rfl, by decide +kernel⟩, ok_mJ9_abs_067f4⟩
theorem okC_0_22 : okC 0 22 1 mX0_common ∧ okM mX0_common := ⟨⟨mem_w (i := 377) (by decide +kernel) rfl, mem_w (i := 378) (by decide +kernel) rfl, by decide +kernel⟩, ok_mX0_common⟩
theorem okC_2_59 : okC 2 59 0 mX0_against ∧ okM mX0_against := ⟨⟨mem_w (i := 380) (by decide +kernel) rfl, mem_w (i := 381) (by decide +kernel) rfl, mem_w (i := 382) (by decide +kernel) rfl, by decide +kernel⟩, ok_mX0_against⟩
theorem okC_0_26 : okC 0 26 1 mX0_weigh ∧ okM mX0_weigh := ⟨⟨mem_w (i := 384) (by decide +kernel) rfl, mem_w (i := 385) (by decide +kernel) rfl, by decide +kernel⟩, ok_mX0_weigh⟩
theorem okC_0_30 : okC 0 30 1 mJ9_floorDiv_f86c9 ∧ okM mJ9_floorDiv_f86c9 := ⟨⟨mem_w (i := 387) (by decide +kernel) rfl, mem_w (i := 388) (by decide +kernel) rfl, by decide +kernel⟩, ok_mJ9_floorDiv_f86c9⟩
theorem okC_2_63 : okC 2 63 0 mX0_take ∧ okM mX0_take := ⟨⟨mem_w (i := 390) (by decide +kernel) rfl, mem_w (i := 391) (by decide +kernel) rfl, mem_w (i := 392) (by decide +kernel) rfl, by decide +kernel⟩, ok_mX0_take⟩
theorem okC_2_67 : okC 2 67 0 mX1_worthAt ∧ okM mX1_worthAt := ⟨⟨mem_w (i := 394) (by decide +kernel) rfl, mem_w (i := 395) (by decide +kernel) rfl, mem_w (i := 396) (by decide +kernel) rfl, by decide +kernel⟩, ok_mX1_worthAt⟩
theorem okC_4_237 : okC 4 237 0 mX1_worthAt ∧ okM mX1_worthAt := ⟨⟨mem_w (i := 398) (by decide +kernel) rfl, mem_w (i := 395) (by decide +kernel) rfl, mem_w (i := 396) (by decide +kernel) rfl, by decide +kernel⟩, ok_mX1_worthAt⟩
theorem okC_4_164 : okC 4 164 0 mX0_take ∧ okM mX0_take := ⟨⟨mem_w (i := 399) (by decide +kernel) rfl, mem_w (i := 391) (by decide +kernel) rfl, mem_w (i := 392) (by decide +kernel) rfl, by decide +kernel⟩, ok_mX0_take⟩
theorem okC_4_168 : okC 4 168 0 mX2_valueOf ∧ okM mX2_valueOf := ⟨⟨mem_w (i := 404) (by decide +kernel) rfl, mem_w (i := 344) (by decide +kernel) rfl, mem_w (i := 345) (by decide +kernel) rfl, by decide +kernel⟩, ok_mX2_valueOf⟩
theorem okC_4_178 : okC 4 178 0 mX4_rankOf ∧ okM mX4_rankOf := ⟨⟨mem_w (i := 417) (by decide +kernel) rfl, mem_w (i := 419) (by decide +kernel) rfl, mem_w (i := 10) (by decide +kernel) rfl, by decide +kernel⟩, ok_mX4_rankOf⟩
theorem okC_4_182 : okC 4 182 0 mX0_against ∧ okM mX0_against := ⟨⟨mem_w (i := 421) (by decide +kernel) rfl, mem_w (i := 381) (by decide +kernel) rfl, mem_w (i := 382) (by decide +kernel) rfl, by decide +kernel⟩, ok_mX0_against⟩
theorem okC_4_188 : okC 4 188 1 mX0_weigh ∧ okM mX0_weigh := ⟨⟨mem_w (i := 432) (by decide +kernel) rfl, mem_w (i := 385) (by decide +kernel) rfl, by decide +kernel⟩, ok_mX0_weigh⟩
theorem okC_4_192 : okC 4 192 1 mX4_asAnswer ∧ okM mX4_asAnswer := ⟨⟨mem_w (i := 433) (by decide +kernel) rfl, mem_w (i := 434) (by decide +kernel) rfl, by decide +kernel⟩, ok_mX4_asAnswer⟩
theorem okC_4_195 : okC 4 195 0 mX0_become ∧ okM mX0_become := ⟨⟨mem_w (i := 440) (by decide +kernel) rfl, mem_w (i := 371) (by decide +kernel) rfl, mem_w (i := 372) (by decide +kernel) rfl, by decide +kernel⟩, ok_mX0_become⟩
theorem okC_4_199 : okC 4 199 0 mX2_longestRow ∧ okM mX2_longestRow := ⟨⟨mem_w (i := 449) (by decide +kernel) rfl, mem_w (i := 450) (by decide +kernel) rfl, mem_w (i := 451) (by decide +kernel) rfl, by decide +kernel⟩, ok_mX2_longestRow⟩
theorem okC_4_203 : okC 4 203 0 mX4_bestMachine ∧ okM mX4_bestMachine := ⟨⟨mem_w (i := 469) (by decide +kernel) rfl, mem_w (i := 471) (by decide +kernel) rfl, mem_w (i := 11) (by decide +kernel) rfl, by decide +kernel⟩, ok_mX4_bestMachine⟩
theorem okC_4_207 : okC 4 207 0 mX4_workOnce ∧ okM mX4_workOnce := ⟨⟨mem_w (i := 477) (by decide +kernel) rfl, mem_w (i := 479) (by decide +kernel) rfl, mem_w (i := 12) (by decide +kernel) rfl, by decide +kernel⟩, ok_mX4_workOnce⟩
theorem okC_4_241 : okC 4 241 0 mX4_draw ∧ okM mX4_draw := ⟨⟨mem_w (i := 481) (by decide +kernel) rfl, mem_w (i := 483) (by decide +kernel) rfl, mem_w (i := 13) (by decide +kernel) rfl, by decide +kernel⟩, ok_mX4_draw⟩
theorem okC_4_244 : okC 4 244 0 mX1_goal ∧ okM mX1_goal := ⟨⟨mem_w (i := 489) (by decide +kernel) rfl, mem_w (i := 490) (by decide +kernel) rfl, mem_w (i := 491) (by decide +kernel) rfl, by decide +kernel⟩, ok_mX1_goal⟩
theorem okC_1_55 : okC 1 55 0 mX1_weightAt ∧ okM mX1_weightAt := ⟨⟨mem_w (i := 493) (by decide +kernel) rfl, mem_w (i := 307) (by decide +kernel) rfl, mem_w (i := 308) (by decide +kernel) rfl, by decide +kernel⟩, ok_mX1_weightAt⟩
theorem okC_4_217 : okC 4 217 1 mX4_mix ∧ okM mX4_mix := ⟨⟨mem_w (i := 536) (by decide +kernel) rfl, mem_w (i := 537) (by decide +kernel) rfl, by decide +kernel⟩, ok_mX4_mix⟩
theorem okC_4_221 : okC 4 221 1 mX4_mixMachine ∧ okM mX4_mixMachine := ⟨⟨mem_w (i := 540) (by decide +kernel) rfl, mem_w (i := 541) (by decide +kernel) rfl, by decide +kernel⟩, ok_mX4_mixMachine⟩
theorem okC_4_225 : okC 4 225 1 mX4_mixSheet ∧ okM mX4_mixSheet := ⟨⟨mem_w (i := 543) (by decide +kernel) rfl, mem_w (i := 544) (by decide +kernel) rfl, by decide +kernel⟩, ok_mX4_mixSheet⟩
theorem okC_5_81 : okC 5 81 1 mX5_in ∧ okM mX5_in := ⟨⟨mem_w (i := 653) (by decide +kernel) rfl, mem_w (i := 654) (by decide +kernel) rfl, by decide +kernel⟩, ok_mX5_in⟩
theorem okC_5_96 : okC 5 96 0 mX5_meets ∧ okM mX5_meets := ⟨⟨mem_w (i := 668) (by decide +kernel) rfl, mem_w (i := 670) (by decide +kernel) rfl, mem_w (i := 14) (by decide +kernel) rfl, by decide +kernel⟩, ok_mX5_meets⟩
theorem okC_5_100 : okC 5 100 0 mX5_isSheet ∧ okM mX5_isSheet := ⟨⟨mem_w (i := 676) (by decide +kernel) rfl, mem_w (i := 678) (by decide +kernel) rfl, mem_w (i := 15) (by decide +kernel) rfl, by decide +kernel⟩, ok_mX5_isSheet⟩
theorem okC_5_104 : okC 5 104 0 mX5_lacks ∧ okM mX5_lacks := ⟨⟨mem_w (i := 684) (by decide +kernel) rfl, mem_w (i := 686) (by decide +kernel) rfl, mem_w (i := 16) (by decide +kernel) rfl, by decide +kernel⟩, ok_mX5_lacks⟩
theorem okC_5_114 : okC 5 114 0 mX5_isMachine ∧ okM mX5_isMachine := ⟨⟨mem_w (i := 704) (by decide +kernel) rfl, mem_w (i := 706) (by decide +kernel) rfl, mem_w (i := 17) (by decide +kernel) rfl, by decide +kernel⟩, ok_mX5_isMachine⟩
theorem okC_5_121 : okC 5 121 0 mX5_isState ∧ okM mX5_isState := ⟨⟨mem_w (i := 718) (by decide +kernel) rfl, mem_w (i := 720) (by decide +kernel) rfl, mem_w (i := 18) (by decide +kernel) rfl, by decide +kernel⟩, ok_mX5_isState⟩
theorem okC_5_125 : okC 5 125 0 mX5_mayPay ∧ okM mX5_mayPay := ⟨⟨mem_w (i := 722) (by decide +kernel) rfl, mem_w (i := 724) (by decide +kernel) rfl, mem_w (i := 19) (by decide +kernel) rfl, by decide +kernel⟩, ok_mX5_mayPay⟩
theorem okC_5_130 : okC 5 130 0 mX5_isAgeing ∧ okM mX5_isAgeing := ⟨⟨mem_w (i := 731) (by decide +kernel) rfl, mem_w (i := 733) (by decide +kernel) rfl, mem_w (i := 20) (by decide +kernel) rfl, by decide +kernel⟩, ok_mX5_isAgeing⟩
theorem okC_5_133 : okC 5 133 0 mX5_sum ∧ okM mX5_sum := ⟨⟨mem_w (i := 735) (by decide +kernel) rfl, mem_w (i := 737) (by decide +kernel) rfl, mem_w (i := 21) (by decide +kernel) rfl, by decide +kernel⟩, ok_mX5_sum⟩
theorem okC_5_172 : okC 5 172 0 mX5_need ∧ okM mX5_need := ⟨⟨mem_w (i := 767) (by decide +kernel) rfl, mem_w (i := 769) (by decide +kernel) rfl, mem_w (i := 22) (by decide +kernel) rfl, by decide +kernel⟩, ok_mX5_need⟩
theorem okC_5_175 : okC 5 175 0 mX5_worthOf ∧ okM mX5_worthOf := ⟨⟨mem_w (i := 771) (by decide +kernel) rfl, mem_w (i := 773) (by decide +kernel) rfl, mem_w (i := 23) (by decide +kernel) rfl, by decide +kernel⟩, ok_mX5_worthOf⟩
theorem okC_5_164 : okC 5 164 0 mX5_value ∧ okM mX5_value := ⟨⟨mem_w (i := 775) (by decide +kernel) rfl, mem_w (i := 777) (by decide +kernel) rfl, mem_w (i := 24) (by decide +kernel) rfl, by decide +kernel⟩, ok_mX5_value⟩
theorem okC_5_152 : okC 5 152 0 mX5_layTable ∧ okM mX5_layTable := ⟨⟨mem_w (i := 779) (by decide +kernel) rfl, mem_w (i := 781) (by decide +kernel) rfl, mem_w (i := 25) (by decide +kernel) rfl, by decide +kernel⟩, ok_mX5_layTable⟩
theorem okC_5_156 : okC 5 156 0 mX5_determinant ∧ okM mX5_determinant := ⟨⟨mem_w (i := 783) (by decide +kernel) rfl, mem_w (i := 785) (by decide +kernel) rfl, mem_w (i := 26) (by decide +kernel) rfl, by decide +kernel⟩, ok_mX5_determinant⟩
theorem okC_5_160 : okC 5 160 0 mX5_fraction ∧ okM mX5_fraction := ⟨⟨mem_w (i := 787) (by decide +kernel) rfl, mem_w (i := 789) (by decide +kernel) rfl, mem_w (i := 27) (by decide +kernel) rfl, by decide +kernel⟩, ok_mX5_fraction⟩
theorem okC_5_136 : okC 5 136 1 mX5_gcd ∧ okM mX5_gcd := ⟨⟨mem_w (i := 791) (by decide +kernel) rfl, mem_w (i := 792) (by decide +kernel) rfl, by decide +kernel⟩, ok_mX5_gcd⟩
theorem okC_5_168 : okC 5 168 1 mX5_compared ∧ okM mX5_compared := ⟨⟨mem_w (i := 794) (by decide +kernel) rfl, mem_w (i := 795) (by decide +kernel) rfl, by decide +kernel⟩, ok_mX5_compared⟩
theorem okC_5_149 : okC 5 149 1 mX5_cutDown ∧ okM mX5_cutDown := ⟨⟨mem_w (i := 797) (by decide +kernel) rfl, mem_w (i := 798) (by decide +kernel) rfl, by decide +kernel⟩, ok_mX5_cutDown⟩
theorem okC_5_179 : okC 5 179 0 mX5_tells ∧ okM mX5_tells := ⟨⟨mem_w (i := 800) (by decide +kernel) rfl, mem_w (i := 802) (by decide +kernel) rfl, mem_w (i := 28) (by decide +kernel) rfl, by decide +kernel⟩, ok_mX5_tells⟩
theorem okC_5_185 : okC 5 185 0 mX5_layWorths ∧ okM mX5_layWorths := ⟨⟨mem_w (i := 813) (by decide +kernel) rfl, mem_w (i := 815) (by decide +kernel) rfl, mem_w (i := 29) (by decide +kernel) rfl, by decide +kernel⟩, ok_mX5_layWorths⟩
theorem okC_5_189 : okC 5 189 0 mX5_between ∧ okM mX5_between := ⟨⟨mem_w (i := 817) (by decide +kernel) rfl, mem_w (i := 819) (by decide +kernel) rfl, mem_w (i := 30) (by decide +kernel) rfl, by decide +kernel⟩, ok_mX5_between⟩
theorem okC_5_206 : okC 5 206 0 mX5_works ∧ okM mX5_works := ⟨⟨mem_w (i := 863) (by decide +kernel) rfl, mem_w (i := 865) (by decide +kernel) rfl, mem_w (i := 31) (by decide +kernel) rfl, by decide +kernel⟩, ok_mX5_works⟩
theorem okC_5_216 : okC 5 216 0 mX5_best ∧ okM mX5_best := ⟨⟨mem_w (i := 878) (by decide +kernel) rfl, mem_w (i := 856) (by decide +kernel) rfl, mem_w (i := 857) (by decide +kernel) rfl, by decide +kernel⟩, ok_mX5_best⟩
theorem cLst_ok : ∀ q ∈ cLst, okC q.1 q.2.1 q.2.2.1 q.2.2.2 ∧ okM q.2.2.2 := by
  intro q hq
  simp only [cLst, List.mem_cons, List.not_mem_nil, or_false] at hq
  rcases hq with rfl | rfl | rfl | rfl | rfl | rfl | rfl | rfl | rfl | rfl | rfl | rfl | rfl | rfl | rfl | rfl | rfl | rfl | rfl | rfl | rfl | rfl | rfl | rfl | rfl | rfl | rfl | rfl | rfl | rfl | rfl | rfl | rfl | rfl | rfl | rfl | rfl | rfl | rfl | rfl | rfl | rfl | rfl | rfl | rfl | rfl | rfl | rfl | rfl | rfl | rfl | rfl | rfl | rfl | rfl | rfl | rfl | rfl | rfl | rfl | rfl | rfl | rfl | rfl | rfl | rfl | rfl | rfl | rfl | rfl | rfl | rfl | rfl | rfl | rfl | rfl | rfl | rfl | rfl | rfl | rfl | rfl | rfl | rfl | rfl | rfl | rfl
  · exact okC_4_23
  · exact okC_2_21
  · exact okC_4_30
  · exact okC_4_71
  · exact okC_4_79
  · exact okC_4_83
  · exact okC_3_19
  · exact okC_3_25
  · exact okC_4_86
  · exact okC_4_93
  · exact okC_4_97
  · exact okC_3_32
  · exact okC_4_101
  · exact okC_4_118
  · exact okC_4_121
  · exact okC_1_25
  · exact okC_1_31
  · exact okC_1_50
  · exact okC_4_122
  · exact okC_4_133
  · exact okC_4_137
  · exact okC_4_140
  · exact okC_4_143
  · exact okC_4_146
  · exact okC_4_149
  · exact okC_4_153
  · exact okC_4_156
  · exact okC_1_51
  · exact okC_4_160
  · exact okC_4_233
  · exact okC_2_55
  · exact okC_2_29
  · exact okC_2_33
  · exact okC_2_75
  · exact okC_2_79
  · exact okC_2_83
  · exact okC_2_87
  · exact okC_2_37
  · exact okC_2_41
  · exact okC_2_45
  · exact okC_0_16
  · exact okC_0_22
  · exact okC_2_59
  · exact okC_0_26
  · exact okC_0_30
  · exact okC_2_63
  · exact okC_2_67
  · exact okC_4_237
  · exact okC_4_164
  · exact okC_4_168
  · exact okC_4_178
  · exact okC_4_182
  · exact okC_4_188
  · exact okC_4_192
  · exact okC_4_195
  · exact okC_4_199
  · exact okC_4_203
  · exact okC_4_207
  · exact okC_4_241
  · exact okC_4_244
  · exact okC_1_55
  · exact okC_4_217
  · exact okC_4_221
  · exact okC_4_225
  · exact okC_5_81
  · exact okC_5_96
  · exact okC_5_100
  · exact okC_5_104
  · exact okC_5_114
  · exact okC_5_121
  · exact okC_5_125
  · exact okC_5_130
  · exact okC_5_133
  · exact okC_5_172
  · exact okC_5_175
  · exact okC_5_164
  · exact okC_5_152
  · exact okC_5_156
  · exact okC_5_160
  · exact okC_5_136
  · exact okC_5_168
  · exact okC_5_149
  · exact okC_5_179
  · exact okC_5_185
  · exact okC_5_189
  · exact okC_5_206
  · exact okC_5_216
def cT (c idx : Nat) : Option (Nat × MI) := lk cLst c idx
theorem cT_4_23 : cT 4 23 = some (3, mX2_init) := rfl
theorem cT_2_21 : cT 2 21 = some (3, mX0_init) := rfl
theorem cT_4_30 : cT 4 30 = some (3, mX0_init) := rfl
theorem cT_4_71 : cT 4 71 = some (0, mX4_machineAt) := rfl
theorem cT_4_79 : cT 4 79 = some (0, mX4_found) := rfl
theorem cT_4_83 : cT 4 83 = some (2, mX3_init) := rfl
theorem cT_3_19 : cT 3 19 = some (1, mJ9_min_7cf53) := rfl
theorem cT_3_25 : cT 3 25 = some (1, mJ9_max_7cf53) := rfl
theorem cT_4_86 : cT 4 86 = some (0, mX4_sheetAt) := rfl
theorem cT_4_93 : cT 4 93 = some (0, mX3_hasPlaces) := rfl
theorem cT_4_97 : cT 4 97 = some (0, mX3_put) := rfl
theorem cT_3_32 : cT 3 32 = some (0, mX3_cut) := rfl
theorem cT_4_101 : cT 4 101 = some (0, mX3_placeAt) := rfl
theorem cT_4_118 : cT 4 118 = some (1, mX4_fits) := rfl
theorem cT_4_121 : cT 4 121 = some (2, mX1_init) := rfl
theorem cT_1_25 : cT 1 25 = some (1, mJ9_min_7cf53) := rfl
theorem cT_1_31 : cT 1 31 = some (1, mJ9_max_7cf53) := rfl
theorem cT_1_50 : cT 1 50 = some (3, mX0_init) := rfl
theorem cT_4_122 : cT 4 122 = some (0, mX1_isUnder) := rfl
theorem cT_4_133 : cT 4 133 = some (1, mX4_isPay) := rfl
theorem cT_4_137 : cT 4 137 = some (0, mX1_has) := rfl
theorem cT_4_140 : cT 4 140 = some (0, mX1_mayPay) := rfl
theorem cT_4_143 : cT 4 143 = some (0, mX1_payAt) := rfl
theorem cT_4_146 : cT 4 146 = some (0, mX1_setPay) := rfl
theorem cT_4_149 : cT 4 149 = some (0, mX1_weightAt) := rfl
theorem cT_4_153 : cT 4 153 = some (0, mX1_sumOf) := rfl
theorem cT_4_156 : cT 4 156 = some (0, mX1_setWeight) := rfl
theorem cT_1_51 : cT 1 51 = some (0, mX1_has) := rfl
theorem cT_4_160 : cT 4 160 = some (0, mX4_worthOf) := rfl
theorem cT_4_233 : cT 4 233 = some (0, mX2_reckonWorths) := rfl
theorem cT_2_55 : cT 2 55 = some (0, mX2_valueOf) := rfl
theorem cT_2_29 : cT 2 29 = some (0, mX2_listStates) := rfl
theorem cT_2_33 : cT 2 33 = some (0, mX2_layRow) := rfl
theorem cT_2_75 : cT 2 75 = some (0, mX1_sumOf) := rfl
theorem cT_2_79 : cT 2 79 = some (0, mX1_weightAt) := rfl
theorem cT_2_83 : cT 2 83 = some (0, mX2_setCell) := rfl
theorem cT_2_87 : cT 2 87 = some (0, mX1_payAt) := rfl
theorem cT_2_37 : cT 2 37 = some (0, mX2_eliminate) := rfl
theorem cT_2_41 : cT 2 41 = some (0, mX2_cellAt) := rfl
theorem cT_2_45 : cT 2 45 = some (0, mX0_become) := rfl
theorem cT_0_16 : cT 0 16 = some (1, mJ9_abs_067f4) := rfl
theorem cT_0_22 : cT 0 22 = some (1, mX0_common) := rfl
theorem cT_2_59 : cT 2 59 = some (0, mX0_against) := rfl
theorem cT_0_26 : cT 0 26 = some (1, mX0_weigh) := rfl
theorem cT_0_30 : cT 0 30 = some (1, mJ9_floorDiv_f86c9) := rfl
theorem cT_2_63 : cT 2 63 = some (0, mX0_take) := rfl
theorem cT_2_67 : cT 2 67 = some (0, mX1_worthAt) := rfl
theorem cT_4_237 : cT 4 237 = some (0, mX1_worthAt) := rfl
theorem cT_4_164 : cT 4 164 = some (0, mX0_take) := rfl
theorem cT_4_168 : cT 4 168 = some (0, mX2_valueOf) := rfl
theorem cT_4_178 : cT 4 178 = some (0, mX4_rankOf) := rfl
theorem cT_4_182 : cT 4 182 = some (0, mX0_against) := rfl
theorem cT_4_188 : cT 4 188 = some (1, mX0_weigh) := rfl
theorem cT_4_192 : cT 4 192 = some (1, mX4_asAnswer) := rfl
theorem cT_4_195 : cT 4 195 = some (0, mX0_become) := rfl
theorem cT_4_199 : cT 4 199 = some (0, mX2_longestRow) := rfl
theorem cT_4_203 : cT 4 203 = some (0, mX4_bestMachine) := rfl
theorem cT_4_207 : cT 4 207 = some (0, mX4_workOnce) := rfl
theorem cT_4_241 : cT 4 241 = some (0, mX4_draw) := rfl
theorem cT_4_244 : cT 4 244 = some (0, mX1_goal) := rfl
theorem cT_1_55 : cT 1 55 = some (0, mX1_weightAt) := rfl
theorem cT_4_217 : cT 4 217 = some (1, mX4_mix) := rfl
theorem cT_4_221 : cT 4 221 = some (1, mX4_mixMachine) := rfl
theorem cT_4_225 : cT 4 225 = some (1, mX4_mixSheet) := rfl
theorem cT_5_81 : cT 5 81 = some (1, mX5_in) := rfl
theorem cT_5_96 : cT 5 96 = some (0, mX5_meets) := rfl
theorem cT_5_100 : cT 5 100 = some (0, mX5_isSheet) := rfl
theorem cT_5_104 : cT 5 104 = some (0, mX5_lacks) := rfl
theorem cT_5_114 : cT 5 114 = some (0, mX5_isMachine) := rfl
theorem cT_5_121 : cT 5 121 = some (0, mX5_isState) := rfl
theorem cT_5_125 : cT 5 125 = some (0, mX5_mayPay) := rfl
theorem cT_5_130 : cT 5 130 = some (0, mX5_isAgeing) := rfl
theorem cT_5_133 : cT 5 133 = some (0, mX5_sum) := rfl
theorem cT_5_172 : cT 5 172 = some (0, mX5_need) := rfl
theorem cT_5_175 : cT 5 175 = some (0, mX5_worthOf) := rfl
theorem cT_5_164 : cT 5 164 = some (0, mX5_value) := rfl
theorem cT_5_152 : cT 5 152 = some (0, mX5_layTable) := rfl
theorem cT_5_156 : cT 5 156 = some (0, mX5_determinant) := rfl
theorem cT_5_160 : cT 5 160 = some (0, mX5_fraction) := rfl
theorem cT_5_136 : cT 5 136 = some (1, mX5_gcd) := rfl
theorem cT_5_168 : cT 5 168 = some (1, mX5_compared) := rfl
theorem cT_5_149 : cT 5 149 = some (1, mX5_cutDown) := rfl
theorem cT_5_179 : cT 5 179 = some (0, mX5_tells) := rfl
theorem cT_5_185 : cT 5 185 = some (0, mX5_layWorths) := rfl
theorem cT_5_189 : cT 5 189 = some (0, mX5_between) := rfl
theorem cT_5_206 : cT 5 206 = some (0, mX5_works) := rfl
theorem cT_5_216 : cT 5 216 = some (0, mX5_best) := rfl
def fLst : List (Nat × Nat × (Nat × Nat × Nat × Bool)) := [(0, 7, (0, 0, 2, false)), (4, 172, (0, 0, 2, false)), (0, 13, (0, 1, 2, false)), (4, 175, (0, 1, 2, false)), (2, 11, (2, 0, 3, true)), (2, 15, (2, 1, 3, true)), (2, 22, (2, 2, 3, true)), (2, 26, (2, 3, 3, true)), (4, 11, (4, 0, 3, true)), (4, 17, (4, 1, 3, true)), (4, 24, (4, 2, 3, true)), (4, 31, (4, 3, 3, true)), (4, 35, (4, 4, 3, true)), (4, 39, (4, 5, 3, true)), (4, 42, (4, 6, 0, false)), (4, 46, (4, 7, 0, false)), (4, 49, (4, 8, 0, false)), (4, 52, (4, 9, 0, false)), (4, 55, (4, 10, 0, false)), (4, 58, (4, 11, 0, false)), (4, 61, (4, 12, 0, false)), (4, 64, (4, 13, 2, false)), (4, 68, (4, 14, 2, false)), (3, 15, (3, 0, 0, true)), (4, 105, (3, 0, 0, true)), (3, 28, (3, 1, 3, true)), (4, 108, (3, 1, 3, true)), (3, 9, (3, 2, 1, false)), (4, 90, (3, 2, 1, false)), (1, 22, (1, 0, 0, true)), (4, 126, (1, 0, 0, true)), (1, 34, (1, 1, 0, true)), (2, 49, (1, 1, 0, true)), (4, 127, (1, 1, 0, true)), (1, 37, (1, 2, 3, true)), (1, 41, (1, 3, 3, true)), (1, 46, (1, 4, 3, true)), (1, 9, (1, 5, 1, false)), (4, 75, (1, 5, 1, false)), (2, 71, (1, 5, 1, false)), (1, 15, (1, 6, 0, false)), (4, 130, (1, 6, 0, false)), (1, 19, (1, 7, 0, false)), (4, 212, (1, 7, 0, false)), (5, 76, (5, 0, 0, false)), (5, 7, (5, 1, 3, true)), (5, 62, (5, 2, 0, false)), (5, 66, (5, 3, 0, false)), (5, 91, (5, 4, 0, false)), (5, 13, (5, 5, 3, true)), (5, 16, (5, 6, 3, true)), (5, 19, (5, 7, 3, true)), (5, 108, (5, 8, 2, false)), (5, 23, (5, 9, 3, true)), (5, 111, (5, 10, 0, false)), (5, 26, (5, 11, 3, true)), (5, 29, (5, 12, 3, true)), (5, 32, (5, 13, 3, true)), (5, 35, (5, 14, 3, true)), (5, 38, (5, 15, 3, true)), (5, 41, (5, 16, 3, true)), (5, 140, (5, 17, 2, false)), (5, 143, (5, 18, 2, false)), (5, 146, (5, 19, 2, false)), (5, 72, (5, 20, 2, false)), (5, 44, (5, 21, 3, true)), (5, 47, (5, 22, 3, true)), (5, 50, (5, 23, 3, true)), (5, 53, (5, 24, 3, true)), (5, 56, (5, 25, 3, true)), (5, 69, (5, 26, 0, false)), (5, 196, (5, 27, 2, false)), (5, 213, (5, 28, 0, false)), (5, 59, (5, 29, 3, true))]
/-- how a class's constant links a field -/
def okF (c idx : Nat) (C k kd : Nat) (fin : Bool) : Prop := C < 6 ∧ k < clsF C ∧ (clsT C k).1 = clsN C ∧ (clsT C k).2.2.2 = fin ∧ ((kd = 0 ∧ clsY C k = .int) ∨ (kd = 1 ∧ clsY C k = .boolean) ∨ (kd = 2 ∧ clsY C k = .long) ∨ (kd = 3 ∧ ((∃ n, clsY C k = .object n) ∨ ∃ t, clsY C k = .array t))) ∧ (Cond.fieldLink (clsN c) idx (clsT C k).1 (clsT C k).2.1 (clsT C k).2.2.1 ∈ wAll ∨ c ≠ C ∧ ∃ host, Cond.fieldLinkNest (clsN c) idx (clsT C k).1 (clsT C k).2.1 (clsT C k).2.2.1 host ∈ nwF)
theorem okF_0_7 : okF 0 7 0 0 2 false := ⟨by decide, by decide, rfl, rfl, Or.inr (Or.inr (Or.inl ⟨rfl, rfl⟩)), Or.inl (mem_w (i := 65) (by decide +kernel) rfl)⟩
theorem okF_4_172 : okF 4 172 0 0 2 false := ⟨by decide, by decide, rfl, rfl, Or.inr (Or.inr (Or.inl ⟨rfl, rfl⟩)), Or.inr ⟨by decide, "TinkerTrials", List.mem_of_getElem? (i := 0) rfl⟩⟩
theorem okF_0_13 : okF 0 13 0 1 2 false := ⟨by decide, by decide, rfl, rfl, Or.inr (Or.inr (Or.inl ⟨rfl, rfl⟩)), Or.inl (mem_w (i := 67) (by decide +kernel) rfl)⟩
theorem okF_4_175 : okF 4 175 0 1 2 false := ⟨by decide, by decide, rfl, rfl, Or.inr (Or.inr (Or.inl ⟨rfl, rfl⟩)), Or.inr ⟨by decide, "TinkerTrials", List.mem_of_getElem? (i := 1) rfl⟩⟩
theorem okF_2_11 : okF 2 11 2 0 3 true := ⟨by decide, by decide, rfl, rfl, Or.inr (Or.inr (Or.inr ⟨rfl, Or.inr ⟨_, rfl⟩⟩)), Or.inl (mem_w (i := 76) (by decide +kernel) rfl)⟩
theorem okF_2_15 : okF 2 15 2 1 3 true := ⟨by decide, by decide, rfl, rfl, Or.inr (Or.inr (Or.inr ⟨rfl, Or.inr ⟨_, rfl⟩⟩)), Or.inl (mem_w (i := 77) (by decide +kernel) rfl)⟩
theorem okF_2_22 : okF 2 22 2 2 3 true := ⟨by decide, by decide, rfl, rfl, Or.inr (Or.inr (Or.inr ⟨rfl, Or.inl ⟨_, rfl⟩⟩)), Or.inl (mem_w (i := 78) (by decide +kernel) rfl)⟩
theorem okF_2_26 : okF 2 26 2 3 3 true := ⟨by decide, by decide, rfl, rfl, Or.inr (Or.inr (Or.inr ⟨rfl, Or.inl ⟨_, rfl⟩⟩)), Or.inl (mem_w (i := 79) (by decide +kernel) rfl)⟩
theorem okF_4_11 : okF 4 11 4 0 3 true := ⟨by decide, by decide, rfl, rfl, Or.inr (Or.inr (Or.inr ⟨rfl, Or.inr ⟨_, rfl⟩⟩)), Or.inl (mem_w (i := 91) (by decide +kernel) rfl)⟩
theorem okF_4_17 : okF 4 17 4 1 3 true := ⟨by decide, by decide, rfl, rfl, Or.inr (Or.inr (Or.inr ⟨rfl, Or.inr ⟨_, rfl⟩⟩)), Or.inl (mem_w (i := 92) (by decide +kernel) rfl)⟩
theorem okF_4_24 : okF 4 24 4 2 3 true := ⟨by decide, by decide, rfl, rfl, Or.inr (Or.inr (Or.inr ⟨rfl, Or.inl ⟨_, rfl⟩⟩)), Or.inl (mem_w (i := 93) (by decide +kernel) rfl)⟩
theorem okF_4_31 : okF 4 31 4 3 3 true := ⟨by decide, by decide, rfl, rfl, Or.inr (Or.inr (Or.inr ⟨rfl, Or.inl ⟨_, rfl⟩⟩)), Or.inl (mem_w (i := 94) (by decide +kernel) rfl)⟩
theorem okF_4_35 : okF 4 35 4 4 3 true := ⟨by decide, by decide, rfl, rfl, Or.inr (Or.inr (Or.inr ⟨rfl, Or.inr ⟨_, rfl⟩⟩)), Or.inl (mem_w (i := 95) (by decide +kernel) rfl)⟩
theorem okF_4_39 : okF 4 39 4 5 3 true := ⟨by decide, by decide, rfl, rfl, Or.inr (Or.inr (Or.inr ⟨rfl, Or.inr ⟨_, rfl⟩⟩)), Or.inl (mem_w (i := 96) (by decide +kernel) rfl)⟩
theorem okF_4_42 : okF 4 42 4 6 0 false := ⟨by decide, by decide, rfl, rfl, Or.inl ⟨rfl, rfl⟩, Or.inl (mem_w (i := 97) (by decide +kernel) rfl)⟩
theorem okF_4_46 : okF 4 46 4 7 0 false := ⟨by decide, by decide, rfl, rfl, Or.inl ⟨rfl, rfl⟩, Or.inl (mem_w (i := 98) (by decide +kernel) rfl)⟩
theorem okF_4_49 : okF 4 49 4 8 0 false := ⟨by decide, by decide, rfl, rfl, Or.inl ⟨rfl, rfl⟩, Or.inl (mem_w (i := 99) (by decide +kernel) rfl)⟩
theorem okF_4_52 : okF 4 52 4 9 0 false := ⟨by decide, by decide, rfl, rfl, Or.inl ⟨rfl, rfl⟩, Or.inl (mem_w (i := 100) (by decide +kernel) rfl)⟩
theorem okF_4_55 : okF 4 55 4 10 0 false := ⟨by decide, by decide, rfl, rfl, Or.inl ⟨rfl, rfl⟩, Or.inl (mem_w (i := 101) (by decide +kernel) rfl)⟩
theorem okF_4_58 : okF 4 58 4 11 0 false := ⟨by decide, by decide, rfl, rfl, Or.inl ⟨rfl, rfl⟩, Or.inl (mem_w (i := 102) (by decide +kernel) rfl)⟩
theorem okF_4_61 : okF 4 61 4 12 0 false := ⟨by decide, by decide, rfl, rfl, Or.inl ⟨rfl, rfl⟩, Or.inl (mem_w (i := 103) (by decide +kernel) rfl)⟩
theorem okF_4_64 : okF 4 64 4 13 2 false := ⟨by decide, by decide, rfl, rfl, Or.inr (Or.inr (Or.inl ⟨rfl, rfl⟩)), Or.inl (mem_w (i := 104) (by decide +kernel) rfl)⟩
theorem okF_4_68 : okF 4 68 4 14 2 false := ⟨by decide, by decide, rfl, rfl, Or.inr (Or.inr (Or.inl ⟨rfl, rfl⟩)), Or.inl (mem_w (i := 105) (by decide +kernel) rfl)⟩
theorem okF_3_15 : okF 3 15 3 0 0 true := ⟨by decide, by decide, rfl, rfl, Or.inl ⟨rfl, rfl⟩, Or.inl (mem_w (i := 164) (by decide +kernel) rfl)⟩
theorem okF_4_105 : okF 4 105 3 0 0 true := ⟨by decide, by decide, rfl, rfl, Or.inl ⟨rfl, rfl⟩, Or.inr ⟨by decide, "TinkerTrials", List.mem_of_getElem? (i := 2) rfl⟩⟩
theorem okF_3_28 : okF 3 28 3 1 3 true := ⟨by decide, by decide, rfl, rfl, Or.inr (Or.inr (Or.inr ⟨rfl, Or.inr ⟨_, rfl⟩⟩)), Or.inl (mem_w (i := 166) (by decide +kernel) rfl)⟩
theorem okF_4_108 : okF 4 108 3 1 3 true := ⟨by decide, by decide, rfl, rfl, Or.inr (Or.inr (Or.inr ⟨rfl, Or.inr ⟨_, rfl⟩⟩)), Or.inr ⟨by decide, "TinkerTrials", List.mem_of_getElem? (i := 3) rfl⟩⟩
theorem okF_3_9 : okF 3 9 3 2 1 false := ⟨by decide, by decide, rfl, rfl, Or.inr (Or.inl ⟨rfl, rfl⟩), Or.inl (mem_w (i := 168) (by decide +kernel) rfl)⟩
theorem okF_4_90 : okF 4 90 3 2 1 false := ⟨by decide, by decide, rfl, rfl, Or.inr (Or.inl ⟨rfl, rfl⟩), Or.inr ⟨by decide, "TinkerTrials", List.mem_of_getElem? (i := 4) rfl⟩⟩
theorem okF_1_22 : okF 1 22 1 0 0 true := ⟨by decide, by decide, rfl, rfl, Or.inl ⟨rfl, rfl⟩, Or.inl (mem_w (i := 233) (by decide +kernel) rfl)⟩
theorem okF_4_126 : okF 4 126 1 0 0 true := ⟨by decide, by decide, rfl, rfl, Or.inl ⟨rfl, rfl⟩, Or.inr ⟨by decide, "TinkerTrials", List.mem_of_getElem? (i := 5) rfl⟩⟩
theorem okF_1_34 : okF 1 34 1 1 0 true := ⟨by decide, by decide, rfl, rfl, Or.inl ⟨rfl, rfl⟩, Or.inl (mem_w (i := 235) (by decide +kernel) rfl)⟩
theorem okF_2_49 : okF 2 49 1 1 0 true := ⟨by decide, by decide, rfl, rfl, Or.inl ⟨rfl, rfl⟩, Or.inr ⟨by decide, "TinkerTrials", List.mem_of_getElem? (i := 6) rfl⟩⟩
theorem okF_4_127 : okF 4 127 1 1 0 true := ⟨by decide, by decide, rfl, rfl, Or.inl ⟨rfl, rfl⟩, Or.inr ⟨by decide, "TinkerTrials", List.mem_of_getElem? (i := 7) rfl⟩⟩
theorem okF_1_37 : okF 1 37 1 2 3 true := ⟨by decide, by decide, rfl, rfl, Or.inr (Or.inr (Or.inr ⟨rfl, Or.inr ⟨_, rfl⟩⟩)), Or.inl (mem_w (i := 238) (by decide +kernel) rfl)⟩
theorem okF_1_41 : okF 1 41 1 3 3 true := ⟨by decide, by decide, rfl, rfl, Or.inr (Or.inr (Or.inr ⟨rfl, Or.inr ⟨_, rfl⟩⟩)), Or.inl (mem_w (i := 239) (by decide +kernel) rfl)⟩
theorem okF_1_46 : okF 1 46 1 4 3 true := ⟨by decide, by decide, rfl, rfl, Or.inr (Or.inr (Or.inr ⟨rfl, Or.inr ⟨_, rfl⟩⟩)), Or.inl (mem_w (i := 240) (by decide +kernel) rfl)⟩
theorem okF_1_9 : okF 1 9 1 5 1 false := ⟨by decide, by decide, rfl, rfl, Or.inr (Or.inl ⟨rfl, rfl⟩), Or.inl (mem_w (i := 241) (by decide +kernel) rfl)⟩
theorem okF_4_75 : okF 4 75 1 5 1 false := ⟨by decide, by decide, rfl, rfl, Or.inr (Or.inl ⟨rfl, rfl⟩), Or.inr ⟨by decide, "TinkerTrials", List.mem_of_getElem? (i := 8) rfl⟩⟩
theorem okF_2_71 : okF 2 71 1 5 1 false := ⟨by decide, by decide, rfl, rfl, Or.inr (Or.inl ⟨rfl, rfl⟩), Or.inr ⟨by decide, "TinkerTrials", List.mem_of_getElem? (i := 9) rfl⟩⟩
theorem okF_1_15 : okF 1 15 1 6 0 false := ⟨by decide, by decide, rfl, rfl, Or.inl ⟨rfl, rfl⟩, Or.inl (mem_w (i := 244) (by decide +kernel) rfl)⟩
theorem okF_4_130 : okF 4 130 1 6 0 false := ⟨by decide, by decide, rfl, rfl, Or.inl ⟨rfl, rfl⟩, Or.inr ⟨by decide, "TinkerTrials", List.mem_of_getElem? (i := 10) rfl⟩⟩
theorem okF_1_19 : okF 1 19 1 7 0 false := ⟨by decide, by decide, rfl, rfl, Or.inl ⟨rfl, rfl⟩, Or.inl (mem_w (i := 246) (by decide +kernel) rfl)⟩
theorem okF_4_212 : okF 4 212 1 7 0 false := ⟨by decide, by decide, rfl, rfl, Or.inl ⟨rfl, rfl⟩, Or.inr ⟨by decide, "TinkerTrials", List.mem_of_getElem? (i := 11) rfl⟩⟩
theorem okF_5_76 : okF 5 76 5 0 0 false := ⟨by decide, by decide, rfl, rfl, Or.inl ⟨rfl, rfl⟩, Or.inl (mem_w (i := 553) (by decide +kernel) rfl)⟩
theorem okF_5_7 : okF 5 7 5 1 3 true := ⟨by decide, by decide, rfl, rfl, Or.inr (Or.inr (Or.inr ⟨rfl, Or.inr ⟨_, rfl⟩⟩)), Or.inl (mem_w (i := 554) (by decide +kernel) rfl)⟩
theorem okF_5_62 : okF 5 62 5 2 0 false := ⟨by decide, by decide, rfl, rfl, Or.inl ⟨rfl, rfl⟩, Or.inl (mem_w (i := 555) (by decide +kernel) rfl)⟩
theorem okF_5_66 : okF 5 66 5 3 0 false := ⟨by decide, by decide, rfl, rfl, Or.inl ⟨rfl, rfl⟩, Or.inl (mem_w (i := 556) (by decide +kernel) rfl)⟩
theorem okF_5_91 : okF 5 91 5 4 0 false := ⟨by decide, by decide, rfl, rfl, Or.inl ⟨rfl, rfl⟩, Or.inl (mem_w (i := 557) (by decide +kernel) rfl)⟩
theorem okF_5_13 : okF 5 13 5 5 3 true := ⟨by decide, by decide, rfl, rfl, Or.inr (Or.inr (Or.inr ⟨rfl, Or.inr ⟨_, rfl⟩⟩)), Or.inl (mem_w (i := 558) (by decide +kernel) rfl)⟩
theorem okF_5_16 : okF 5 16 5 6 3 true := ⟨by decide, by decide, rfl, rfl, Or.inr (Or.inr (Or.inr ⟨rfl, Or.inr ⟨_, rfl⟩⟩)), Or.inl (mem_w (i := 559) (by decide +kernel) rfl)⟩
theorem okF_5_19 : okF 5 19 5 7 3 true := ⟨by decide, by decide, rfl, rfl, Or.inr (Or.inr (Or.inr ⟨rfl, Or.inr ⟨_, rfl⟩⟩)), Or.inl (mem_w (i := 560) (by decide +kernel) rfl)⟩
theorem okF_5_108 : okF 5 108 5 8 2 false := ⟨by decide, by decide, rfl, rfl, Or.inr (Or.inr (Or.inl ⟨rfl, rfl⟩)), Or.inl (mem_w (i := 561) (by decide +kernel) rfl)⟩
theorem okF_5_23 : okF 5 23 5 9 3 true := ⟨by decide, by decide, rfl, rfl, Or.inr (Or.inr (Or.inr ⟨rfl, Or.inr ⟨_, rfl⟩⟩)), Or.inl (mem_w (i := 562) (by decide +kernel) rfl)⟩
theorem okF_5_111 : okF 5 111 5 10 0 false := ⟨by decide, by decide, rfl, rfl, Or.inl ⟨rfl, rfl⟩, Or.inl (mem_w (i := 563) (by decide +kernel) rfl)⟩
theorem okF_5_26 : okF 5 26 5 11 3 true := ⟨by decide, by decide, rfl, rfl, Or.inr (Or.inr (Or.inr ⟨rfl, Or.inr ⟨_, rfl⟩⟩)), Or.inl (mem_w (i := 564) (by decide +kernel) rfl)⟩
theorem okF_5_29 : okF 5 29 5 12 3 true := ⟨by decide, by decide, rfl, rfl, Or.inr (Or.inr (Or.inr ⟨rfl, Or.inr ⟨_, rfl⟩⟩)), Or.inl (mem_w (i := 565) (by decide +kernel) rfl)⟩
theorem okF_5_32 : okF 5 32 5 13 3 true := ⟨by decide, by decide, rfl, rfl, Or.inr (Or.inr (Or.inr ⟨rfl, Or.inr ⟨_, rfl⟩⟩)), Or.inl (mem_w (i := 566) (by decide +kernel) rfl)⟩
theorem okF_5_35 : okF 5 35 5 14 3 true := ⟨by decide, by decide, rfl, rfl, Or.inr (Or.inr (Or.inr ⟨rfl, Or.inr ⟨_, rfl⟩⟩)), Or.inl (mem_w (i := 567) (by decide +kernel) rfl)⟩
theorem okF_5_38 : okF 5 38 5 15 3 true := ⟨by decide, by decide, rfl, rfl, Or.inr (Or.inr (Or.inr ⟨rfl, Or.inr ⟨_, rfl⟩⟩)), Or.inl (mem_w (i := 568) (by decide +kernel) rfl)⟩
theorem okF_5_41 : okF 5 41 5 16 3 true := ⟨by decide, by decide, rfl, rfl, Or.inr (Or.inr (Or.inr ⟨rfl, Or.inr ⟨_, rfl⟩⟩)), Or.inl (mem_w (i := 569) (by decide +kernel) rfl)⟩
theorem okF_5_140 : okF 5 140 5 17 2 false := ⟨by decide, by decide, rfl, rfl, Or.inr (Or.inr (Or.inl ⟨rfl, rfl⟩)), Or.inl (mem_w (i := 570) (by decide +kernel) rfl)⟩
theorem okF_5_143 : okF 5 143 5 18 2 false := ⟨by decide, by decide, rfl, rfl, Or.inr (Or.inr (Or.inl ⟨rfl, rfl⟩)), Or.inl (mem_w (i := 571) (by decide +kernel) rfl)⟩
theorem okF_5_146 : okF 5 146 5 19 2 false := ⟨by decide, by decide, rfl, rfl, Or.inr (Or.inr (Or.inl ⟨rfl, rfl⟩)), Or.inl (mem_w (i := 572) (by decide +kernel) rfl)⟩
theorem okF_5_72 : okF 5 72 5 20 2 false := ⟨by decide, by decide, rfl, rfl, Or.inr (Or.inr (Or.inl ⟨rfl, rfl⟩)), Or.inl (mem_w (i := 573) (by decide +kernel) rfl)⟩
theorem okF_5_44 : okF 5 44 5 21 3 true := ⟨by decide, by decide, rfl, rfl, Or.inr (Or.inr (Or.inr ⟨rfl, Or.inr ⟨_, rfl⟩⟩)), Or.inl (mem_w (i := 574) (by decide +kernel) rfl)⟩
theorem okF_5_47 : okF 5 47 5 22 3 true := ⟨by decide, by decide, rfl, rfl, Or.inr (Or.inr (Or.inr ⟨rfl, Or.inr ⟨_, rfl⟩⟩)), Or.inl (mem_w (i := 575) (by decide +kernel) rfl)⟩
theorem okF_5_50 : okF 5 50 5 23 3 true := ⟨by decide, by decide, rfl, rfl, Or.inr (Or.inr (Or.inr ⟨rfl, Or.inr ⟨_, rfl⟩⟩)), Or.inl (mem_w (i := 576) (by decide +kernel) rfl)⟩
theorem okF_5_53 : okF 5 53 5 24 3 true := ⟨by decide, by decide, rfl, rfl, Or.inr (Or.inr (Or.inr ⟨rfl, Or.inr ⟨_, rfl⟩⟩)), Or.inl (mem_w (i := 577) (by decide +kernel) rfl)⟩
theorem okF_5_56 : okF 5 56 5 25 3 true := ⟨by decide, by decide, rfl, rfl, Or.inr (Or.inr (Or.inr ⟨rfl, Or.inr ⟨_, rfl⟩⟩)), Or.inl (mem_w (i := 578) (by decide +kernel) rfl)⟩
theorem okF_5_69 : okF 5 69 5 26 0 false := ⟨by decide, by decide, rfl, rfl, Or.inl ⟨rfl, rfl⟩, Or.inl (mem_w (i := 579) (by decide +kernel) rfl)⟩
theorem okF_5_196 : okF 5 196 5 27 2 false := ⟨by decide, by decide, rfl, rfl, Or.inr (Or.inr (Or.inl ⟨rfl, rfl⟩)), Or.inl (mem_w (i := 580) (by decide +kernel) rfl)⟩
theorem okF_5_213 : okF 5 213 5 28 0 false := ⟨by decide, by decide, rfl, rfl, Or.inl ⟨rfl, rfl⟩, Or.inl (mem_w (i := 581) (by decide +kernel) rfl)⟩
theorem okF_5_59 : okF 5 59 5 29 3 true := ⟨by decide, by decide, rfl, rfl, Or.inr (Or.inr (Or.inr ⟨rfl, Or.inr ⟨_, rfl⟩⟩)), Or.inl (mem_w (i := 582) (by decide +kernel) rfl)⟩
theorem fLst_ok : ∀ q ∈ fLst, okF q.1 q.2.1 q.2.2.1 q.2.2.2.1 q.2.2.2.2.1 q.2.2.2.2.2 := by
  intro q hq
  simp only [fLst, List.mem_cons, List.not_mem_nil, or_false] at hq
  rcases hq with rfl | rfl | rfl | rfl | rfl | rfl | rfl | rfl | rfl | rfl | rfl | rfl | rfl | rfl | rfl | rfl | rfl | rfl | rfl | rfl | rfl | rfl | rfl | rfl | rfl | rfl | rfl | rfl | rfl | rfl | rfl | rfl | rfl | rfl | rfl | rfl | rfl | rfl | rfl | rfl | rfl | rfl | rfl | rfl | rfl | rfl | rfl | rfl | rfl | rfl | rfl | rfl | rfl | rfl | rfl | rfl | rfl | rfl | rfl | rfl | rfl | rfl | rfl | rfl | rfl | rfl | rfl | rfl | rfl | rfl | rfl | rfl | rfl | rfl
  · exact okF_0_7
  · exact okF_4_172
  · exact okF_0_13
  · exact okF_4_175
  · exact okF_2_11
  · exact okF_2_15
  · exact okF_2_22
  · exact okF_2_26
  · exact okF_4_11
  · exact okF_4_17
  · exact okF_4_24
  · exact okF_4_31
  · exact okF_4_35
  · exact okF_4_39
  · exact okF_4_42
  · exact okF_4_46
  · exact okF_4_49
  · exact okF_4_52
  · exact okF_4_55
  · exact okF_4_58
  · exact okF_4_61
  · exact okF_4_64
  · exact okF_4_68
  · exact okF_3_15
  · exact okF_4_105
  · exact okF_3_28
  · exact okF_4_108
  · exact okF_3_9
  · exact okF_4_90
  · exact okF_1_22
  · exact okF_4_126
  · exact okF_1_34
  · exact okF_2_49
  · exact okF_4_127
  · exact okF_1_37
  · exact okF_1_41
  · exact okF_1_46
  · exact okF_1_9
  · exact okF_4_75
  · exact okF_2_71
  · exact okF_1_15
  · exact okF_4_130
  · exact okF_1_19
  · exact okF_4_212
  · exact okF_5_76
  · exact okF_5_7
  · exact okF_5_62
  · exact okF_5_66
  · exact okF_5_91
  · exact okF_5_13
  · exact okF_5_16
  · exact okF_5_19
  · exact okF_5_108
  · exact okF_5_23
  · exact okF_5_111
  · exact okF_5_26
  · exact okF_5_29
  · exact okF_5_32
  · exact okF_5_35
  · exact okF_5_38
  · exact okF_5_41
  · exact okF_5_140
  · exact okF_5_143
  · exact okF_5_146
  · exact okF_5_72
  · exact okF_5_44
  · exact okF_5_47
  · exact okF_5_50
  · exact okF_5_53
  · exact okF_5_56
  · exact okF_5_69
  · exact okF_5_196
  · exact okF_5_213
  · exact okF_5_59
def fT (c idx : Nat) : Option (Nat × Nat × Nat × Bool) := lk fLst c idx
theorem fT_0_7 : fT 0 7 = some (0, 0, 2, false) := rfl
theorem fT_4_172 : fT 4 172 = some (0, 0, 2, false) := rfl
theorem fT_0_13 : fT 0 13 = some (0, 1, 2, false) := rfl
theorem fT_4_175 : fT 4 175 = some (0, 1, 2, false) := rfl
theorem fT_2_11 : fT 2 11 = some (2, 0, 3, true) := rfl
theorem fT_2_15 : fT 2 15 = some (2, 1, 3, true) := rfl
theorem fT_2_22 : fT 2 22 = some (2, 2, 3, true) := rfl
theorem fT_2_26 : fT 2 26 = some (2, 3, 3, true) := rfl
theorem fT_4_11 : fT 4 11 = some (4, 0, 3, true) := rfl
theorem fT_4_17 : fT 4 17 = some (4, 1, 3, true) := rfl
theorem fT_4_24 : fT 4 24 = some (4, 2, 3, true) := rfl
theorem fT_4_31 : fT 4 31 = some (4, 3, 3, true) := rfl
theorem fT_4_35 : fT 4 35 = some (4, 4, 3, true) := rfl
theorem fT_4_39 : fT 4 39 = some (4, 5, 3, true) := rfl
theorem fT_4_42 : fT 4 42 = some (4, 6, 0, false) := rfl
theorem fT_4_46 : fT 4 46 = some (4, 7, 0, false) := rfl
theorem fT_4_49 : fT 4 49 = some (4, 8, 0, false) := rfl
theorem fT_4_52 : fT 4 52 = some (4, 9, 0, false) := rfl
theorem fT_4_55 : fT 4 55 = some (4, 10, 0, false) := rfl
theorem fT_4_58 : fT 4 58 = some (4, 11, 0, false) := rfl
theorem fT_4_61 : fT 4 61 = some (4, 12, 0, false) := rfl
theorem fT_4_64 : fT 4 64 = some (4, 13, 2, false) := rfl
theorem fT_4_68 : fT 4 68 = some (4, 14, 2, false) := rfl
theorem fT_3_15 : fT 3 15 = some (3, 0, 0, true) := rfl
theorem fT_4_105 : fT 4 105 = some (3, 0, 0, true) := rfl
theorem fT_3_28 : fT 3 28 = some (3, 1, 3, true) := rfl
theorem fT_4_108 : fT 4 108 = some (3, 1, 3, true) := rfl
theorem fT_3_9 : fT 3 9 = some (3, 2, 1, false) := rfl
theorem fT_4_90 : fT 4 90 = some (3, 2, 1, false) := rfl
theorem fT_1_22 : fT 1 22 = some (1, 0, 0, true) := rfl
theorem fT_4_126 : fT 4 126 = some (1, 0, 0, true) := rfl
theorem fT_1_34 : fT 1 34 = some (1, 1, 0, true) := rfl
theorem fT_2_49 : fT 2 49 = some (1, 1, 0, true) := rfl
theorem fT_4_127 : fT 4 127 = some (1, 1, 0, true) := rfl
theorem fT_1_37 : fT 1 37 = some (1, 2, 3, true) := rfl
theorem fT_1_41 : fT 1 41 = some (1, 3, 3, true) := rfl
theorem fT_1_46 : fT 1 46 = some (1, 4, 3, true) := rfl
theorem fT_1_9 : fT 1 9 = some (1, 5, 1, false) := rfl
theorem fT_4_75 : fT 4 75 = some (1, 5, 1, false) := rfl
theorem fT_2_71 : fT 2 71 = some (1, 5, 1, false) := rfl
theorem fT_1_15 : fT 1 15 = some (1, 6, 0, false) := rfl
theorem fT_4_130 : fT 4 130 = some (1, 6, 0, false) := rfl
theorem fT_1_19 : fT 1 19 = some (1, 7, 0, false) := rfl
theorem fT_4_212 : fT 4 212 = some (1, 7, 0, false) := rfl
theorem fT_5_76 : fT 5 76 = some (5, 0, 0, false) := rfl
theorem fT_5_7 : fT 5 7 = some (5, 1, 3, true) := rfl
theorem fT_5_62 : fT 5 62 = some (5, 2, 0, false) := rfl
theorem fT_5_66 : fT 5 66 = some (5, 3, 0, false) := rfl
theorem fT_5_91 : fT 5 91 = some (5, 4, 0, false) := rfl
theorem fT_5_13 : fT 5 13 = some (5, 5, 3, true) := rfl
theorem fT_5_16 : fT 5 16 = some (5, 6, 3, true) := rfl
theorem fT_5_19 : fT 5 19 = some (5, 7, 3, true) := rfl
theorem fT_5_108 : fT 5 108 = some (5, 8, 2, false) := rfl
theorem fT_5_23 : fT 5 23 = some (5, 9, 3, true) := rfl
theorem fT_5_111 : fT 5 111 = some (5, 10, 0, false) := rfl
theorem fT_5_26 : fT 5 26 = some (5, 11, 3, true) := rfl
theorem fT_5_29 : fT 5 29 = some (5, 12, 3, true) := rfl
theorem fT_5_32 : fT 5 32 = some (5, 13, 3, true) := rfl
theorem fT_5_35 : fT 5 35 = some (5, 14, 3, true) := rfl
theorem fT_5_38 : fT 5 38 = some (5, 15, 3, true) := rfl
theorem fT_5_41 : fT 5 41 = some (5, 16, 3, true) := rfl
theorem fT_5_140 : fT 5 140 = some (5, 17, 2, false) := rfl
theorem fT_5_143 : fT 5 143 = some (5, 18, 2, false) := rfl
theorem fT_5_146 : fT 5 146 = some (5, 19, 2, false) := rfl
theorem fT_5_72 : fT 5 72 = some (5, 20, 2, false) := rfl
theorem fT_5_44 : fT 5 44 = some (5, 21, 3, true) := rfl
theorem fT_5_47 : fT 5 47 = some (5, 22, 3, true) := rfl
theorem fT_5_50 : fT 5 50 = some (5, 23, 3, true) := rfl
theorem fT_5_53 : fT 5 53 = some (5, 24, 3, true) := rfl
theorem fT_5_56 : fT 5 56 = some (5, 25, 3, true) := rfl
theorem fT_5_69 : fT 5 69 = some (5, 26, 0, false) := rfl
theorem fT_5_196 : fT 5 196 = some (5, 27, 2, false) := rfl
theorem fT_5_213 : fT 5 213 = some (5, 28, 0, false) := rfl
theorem fT_5_59 : fT 5 59 = some (5, 29, 3, true) := rfl
def kILst : List (Nat × Nat × Int) := [(4, 186, -1000000), (4, 187, 1000000), (4, 253, 65536), (4, 211, -1000004), (5, 205, 65536), (5, 211, -1000000), (5, 212, -1000004)]
theorem kILst_ok : ∀ q ∈ kILst, Cond.constant (clsN q.1) q.2.1 (Int32.ofInt q.2.2) ∈ wAll ∧ (Int32.ofInt q.2.2).toInt = q.2.2 := by
  intro q hq
  simp only [kILst, List.mem_cons, List.not_mem_nil, or_false] at hq
  rcases hq with rfl | rfl | rfl | rfl | rfl | rfl | rfl
  · exact ⟨mem_w (i := 430) (by decide +kernel) rfl, by decide +kernel⟩
  · exact ⟨mem_w (i := 431) (by decide +kernel) rfl, by decide +kernel⟩
  · exact ⟨mem_w (i := 488) (by decide +kernel) rfl, by decide +kernel⟩
  · exact ⟨mem_w (i := 498) (by decide +kernel) rfl, by decide +kernel⟩
  · exact ⟨mem_w (i := 870) (by decide +kernel) rfl, by decide +kernel⟩
  · exact ⟨mem_w (i := 876) (by decide +kernel) rfl, by decide +kernel⟩
  · exact ⟨mem_w (i := 877) (by decide +kernel) rfl, by decide +kernel⟩
theorem kI_4_186 : lk kILst 4 186 = some (-1000000) := rfl
theorem kI_4_187 : lk kILst 4 187 = some (1000000) := rfl
theorem kI_4_253 : lk kILst 4 253 = some (65536) := rfl
theorem kI_4_211 : lk kILst 4 211 = some (-1000004) := rfl
theorem kI_5_205 : lk kILst 5 205 = some (65536) := rfl
theorem kI_5_211 : lk kILst 5 211 = some (-1000000) := rfl
theorem kI_5_212 : lk kILst 5 212 = some (-1000004) := rfl
def kJLst : List (Nat × Nat × Int) := [(4, 229, -50), (4, 231, 50), (4, 247, 1103515245), (4, 249, 12345), (4, 251, 2147483647), (4, 215, 17), (4, 254, 31), (4, 256, -1), (5, 79, 6), (5, 85, 7), (5, 87, 2), (5, 89, 8), (5, 94, 3), (5, 117, -50), (5, 119, 50), (5, 128, 10), (5, 183, 31), (5, 192, -1000000), (5, 194, 1000000), (5, 199, 1103515245), (5, 201, 12345), (5, 203, 2147483648), (5, 209, 500), (5, 219, 527)]
theorem kJLst_ok : ∀ q ∈ kJLst, Cond.constantLong (clsN q.1) q.2.1 (Int64.ofInt q.2.2) ∈ wAll ∧ (Int64.ofInt q.2.2).toInt = q.2.2 := by
  intro q hq
  simp only [kJLst, List.mem_cons, List.not_mem_nil, or_false] at hq
  rcases hq with rfl | rfl | rfl | rfl | rfl | rfl | rfl | rfl | rfl | rfl | rfl | rfl | rfl | rfl | rfl | rfl | rfl | rfl | rfl | rfl | rfl | rfl | rfl | rfl
  · exact ⟨mem_w (i := 284) (by decide +kernel) rfl, by decide +kernel⟩
  · exact ⟨mem_w (i := 285) (by decide +kernel) rfl, by decide +kernel⟩
  · exact ⟨mem_w (i := 485) (by decide +kernel) rfl, by decide +kernel⟩
  · exact ⟨mem_w (i := 486) (by decide +kernel) rfl, by decide +kernel⟩
  · exact ⟨mem_w (i := 487) (by decide +kernel) rfl, by decide +kernel⟩
  · exact ⟨mem_w (i := 535) (by decide +kernel) rfl, by decide +kernel⟩
  · exact ⟨mem_w (i := 539) (by decide +kernel) rfl, by decide +kernel⟩
  · exact ⟨mem_w (i := 546) (by decide +kernel) rfl, by decide +kernel⟩
  · exact ⟨mem_w (i := 652) (by decide +kernel) rfl, by decide +kernel⟩
  · exact ⟨mem_w (i := 660) (by decide +kernel) rfl, by decide +kernel⟩
  · exact ⟨mem_w (i := 661) (by decide +kernel) rfl, by decide +kernel⟩
  · exact ⟨mem_w (i := 662) (by decide +kernel) rfl, by decide +kernel⟩
  · exact ⟨mem_w (i := 667) (by decide +kernel) rfl, by decide +kernel⟩
  · exact ⟨mem_w (i := 716) (by decide +kernel) rfl, by decide +kernel⟩
  · exact ⟨mem_w (i := 717) (by decide +kernel) rfl, by decide +kernel⟩
  · exact ⟨mem_w (i := 730) (by decide +kernel) rfl, by decide +kernel⟩
  · exact ⟨mem_w (i := 808) (by decide +kernel) rfl, by decide +kernel⟩
  · exact ⟨mem_w (i := 829) (by decide +kernel) rfl, by decide +kernel⟩
  · exact ⟨mem_w (i := 830) (by decide +kernel) rfl, by decide +kernel⟩
  · exact ⟨mem_w (i := 867) (by decide +kernel) rfl, by decide +kernel⟩
  · exact ⟨mem_w (i := 868) (by decide +kernel) rfl, by decide +kernel⟩
  · exact ⟨mem_w (i := 869) (by decide +kernel) rfl, by decide +kernel⟩
  · exact ⟨mem_w (i := 875) (by decide +kernel) rfl, by decide +kernel⟩
  · exact ⟨mem_w (i := 903) (by decide +kernel) rfl, by decide +kernel⟩
theorem kJ_4_229 : lk kJLst 4 229 = some (-50) := rfl
theorem kJ_4_231 : lk kJLst 4 231 = some (50) := rfl
theorem kJ_4_247 : lk kJLst 4 247 = some (1103515245) := rfl
theorem kJ_4_249 : lk kJLst 4 249 = some (12345) := rfl
theorem kJ_4_251 : lk kJLst 4 251 = some (2147483647) := rfl
theorem kJ_4_215 : lk kJLst 4 215 = some (17) := rfl
theorem kJ_4_254 : lk kJLst 4 254 = some (31) := rfl
theorem kJ_4_256 : lk kJLst 4 256 = some (-1) := rfl
theorem kJ_5_79 : lk kJLst 5 79 = some (6) := rfl
theorem kJ_5_85 : lk kJLst 5 85 = some (7) := rfl
theorem kJ_5_87 : lk kJLst 5 87 = some (2) := rfl
theorem kJ_5_89 : lk kJLst 5 89 = some (8) := rfl
theorem kJ_5_94 : lk kJLst 5 94 = some (3) := rfl
theorem kJ_5_117 : lk kJLst 5 117 = some (-50) := rfl
theorem kJ_5_119 : lk kJLst 5 119 = some (50) := rfl
theorem kJ_5_128 : lk kJLst 5 128 = some (10) := rfl
theorem kJ_5_183 : lk kJLst 5 183 = some (31) := rfl
theorem kJ_5_192 : lk kJLst 5 192 = some (-1000000) := rfl
theorem kJ_5_194 : lk kJLst 5 194 = some (1000000) := rfl
theorem kJ_5_199 : lk kJLst 5 199 = some (1103515245) := rfl
theorem kJ_5_201 : lk kJLst 5 201 = some (12345) := rfl
theorem kJ_5_203 : lk kJLst 5 203 = some (2147483648) := rfl
theorem kJ_5_209 : lk kJLst 5 209 = some (500) := rfl
theorem kJ_5_219 : lk kJLst 5 219 = some (527) := rfl
def nLst : List (Nat × Nat × Nat) := [(4, 9, 1), (4, 15, 3), (4, 21, 2), (4, 28, 0), (1, 44, 0), (2, 19, 0)]
theorem nLst_ok : ∀ q ∈ nLst, q.2.2 < 6 ∧ Cond.classLink (clsN q.1) q.2.1 (clsN q.2.2) ∈ wAll ∧ Cond.instantiable (clsN q.2.2) (clsF q.2.2) ∈ wAll ∧ Cond.initialized (clsN q.2.2) ∈ wAll := by
  intro q hq
  simp only [nLst, List.mem_cons, List.not_mem_nil, or_false] at hq
  rcases hq with rfl | rfl | rfl | rfl | rfl | rfl
  · exact ⟨by decide, mem_w (i := 49) (by decide +kernel) rfl, mem_w (i := 223) (by decide +kernel) rfl, mem_w (i := 40) (by decide +kernel) rfl⟩
  · exact ⟨by decide, mem_w (i := 51) (by decide +kernel) rfl, mem_w (i := 153) (by decide +kernel) rfl, mem_w (i := 37) (by decide +kernel) rfl⟩
  · exact ⟨by decide, mem_w (i := 53) (by decide +kernel) rfl, mem_w (i := 54) (by decide +kernel) rfl, mem_w (i := 34) (by decide +kernel) rfl⟩
  · exact ⟨by decide, mem_w (i := 89) (by decide +kernel) rfl, mem_w (i := 60) (by decide +kernel) rfl, mem_w (i := 35) (by decide +kernel) rfl⟩
  · exact ⟨by decide, mem_w (i := 230) (by decide +kernel) rfl, mem_w (i := 60) (by decide +kernel) rfl, mem_w (i := 35) (by decide +kernel) rfl⟩
  · exact ⟨by decide, mem_w (i := 59) (by decide +kernel) rfl, mem_w (i := 60) (by decide +kernel) rfl, mem_w (i := 35) (by decide +kernel) rfl⟩
theorem nT_4_9 : lk nLst 4 9 = some 1 := rfl
theorem nT_4_15 : lk nLst 4 15 = some 3 := rfl
theorem nT_4_21 : lk nLst 4 21 = some 2 := rfl
theorem nT_4_28 : lk nLst 4 28 = some 0 := rfl
theorem nT_1_44 : lk nLst 1 44 = some 0 := rfl
theorem nT_2_19 : lk nLst 2 19 = some 0 := rfl
def arrN : Nat → String := fun t => match t with
  | 12 => RX1
  | 13 => RX3
  | _ => RX0
def aLst : List (Nat × Nat × Nat) := [(4, 9, 12), (4, 15, 13), (1, 44, 14)]
theorem aLst_ok : ∀ q ∈ aLst, 12 ≤ q.2.2 ∧ q.2.2 ≤ 14 ∧ Cond.classLink (clsN q.1) q.2.1 (arrN q.2.2) ∈ wAll := by
  intro q hq
  simp only [aLst, List.mem_cons, List.not_mem_nil, or_false] at hq
  rcases hq with rfl | rfl | rfl
  · exact ⟨by decide, by decide, mem_w (i := 49) (by decide +kernel) rfl⟩
  · exact ⟨by decide, by decide, mem_w (i := 51) (by decide +kernel) rfl⟩
  · exact ⟨by decide, by decide, mem_w (i := 230) (by decide +kernel) rfl⟩
theorem aT_4_9 : lk aLst 4 9 = some 12 := rfl
theorem aT_4_15 : lk aLst 4 15 = some 13 := rfl
theorem aT_1_44 : lk aLst 1 44 = some 14 := rfl
def oLst : List (Nat × Nat × Unit) := [(4, 1, ()), (2, 3, ()), (0, 1, ()), (3, 3, ()), (1, 3, ()), (5, 1, ())]
theorem oLst_ok : ∀ q ∈ oLst, Cond.methodLink (clsN q.1) q.2.1 Lib.objectInit ∈ wAll := by
  intro q hq
  simp only [oLst, List.mem_cons, List.not_mem_nil, or_false] at hq
  rcases hq with rfl | rfl | rfl | rfl | rfl | rfl
  · exact mem_w (i := 46) (by decide +kernel) rfl
  · exact mem_w (i := 58) (by decide +kernel) rfl
  · exact mem_w (i := 64) (by decide +kernel) rfl
  · exact mem_w (i := 157) (by decide +kernel) rfl
  · exact mem_w (i := 227) (by decide +kernel) rfl
  · exact mem_w (i := 552) (by decide +kernel) rfl
theorem objI_w : Cond.instanceMethod Lib.objectInit ∈ wAll := mem_w (i := 47) (by decide +kernel) rfl
theorem objC_w : Cond.code Lib.objectInit ⟨#[0xb1]⟩ 1 none ∈ wAll := mem_w (i := 48) (by decide +kernel) rfl
theorem oT_4_1 : lk oLst 4 1 = some () := rfl
theorem oT_2_3 : lk oLst 2 3 = some () := rfl
theorem oT_0_1 : lk oLst 0 1 = some () := rfl
theorem oT_3_3 : lk oLst 3 3 = some () := rfl
theorem oT_1_3 : lk oLst 1 3 = some () := rfl
theorem oT_5_1 : lk oLst 5 1 = some () := rfl
-- arraycopy: [(4, 112, 213)]
theorem acp_w : Cond.methodLink (clsN 4) 112 arraycopyName ∈ wAll ∧ Cond.native arraycopyName ∈ wAll ∧ Cond.static arraycopyName ∈ wAll ∧ Cond.initialized "java/lang/System" ∈ wAll := ⟨mem_w (i := 213) (by decide +kernel) rfl, mem_w (i := 215) (by decide +kernel) rfl, mem_w (i := 214) (by decide +kernel) rfl, mem_w (i := 39) (by decide +kernel) rfl⟩
theorem arI_w : Cond.arrayClass .int ∈ wAll := mem_w (i := 75) (by decide +kernel) rfl
theorem arJ_w : Cond.arrayClass .long ∈ wAll := mem_w (i := 74) (by decide +kernel) rfl
theorem arO_in : ([.arrayOver (.object RX1), .arrayOver (.object RX3), .arrayOver (.object RX0)] : List Cond) = [50, 52, 231].filterMap (fun i => lw_tbl[i]?) := by decide +kernel
end
section
/-! ===== a machine of numbers: the methods' own bytecode over cells that are lists; what it answers is what the machine answers (08) ===== -/
abbrev AV : Type := Int ⊕ (Int ⊕ (Option Nat ⊕ Unit))
abbrev aI (z : Int) : AV := Sum.inl z
abbrev aJ (z : Int) : AV := Sum.inr (Sum.inl z)
abbrev aR (r : Option Nat) : AV := Sum.inr (Sum.inr (Sum.inl r))
abbrev aU : AV := Sum.inr (Sum.inr (Sum.inr ()))
abbrev AC : Type := Nat × List AV
abbrev AH : Type := List AC
abbrev RV : Type := Option AV × AH
abbrev Cf : Type := MI × Nat × List AV × List AV × AH
/-- go on; a call, and what goes on behind it; an end -/
abbrev SR : Type := (Nat × List AV × List AV × AH) ⊕ ((MI × List AV × AH × Nat × List AV × List AV) ⊕ RV)
def w32 (z : Int) : Int := (z + 2147483648) % 4294967296 - 2147483648
def w64 (z : Int) : Int := (z + 9223372036854775808) % 18446744073709551616 - 9223372036854775808
def w8 (z : Int) : Int := (z + 128) % 256 - 128
def w16 (z : Int) : Int := (z + 32768) % 65536 - 32768
def gS (pc : Nat) (al st : List AV) (h : AH) : Option SR := some (Sum.inl (pc, al, st, h))
def clr (v : AV) : AV := match v with
  | Sum.inr (Sum.inl _) => aU
  | v => v
def sto1 : List AV → Nat → AV → List AV
  | [], _, _ => []
  | _ :: t, 0, v => v :: t
  | a :: t, 1, v => clr a :: t.set 0 v
  | a :: t, k + 2, v => a :: sto1 t (k + 1) v
def sto2 (al : List AV) (k : Nat) (v : AV) : List AV := (sto1 al k v).set (k + 1) aU
def wds : List AV → Nat
  | [] => 0
  | Sum.inl _ :: t => 1 + wds t
  | Sum.inr (Sum.inl _) :: t => 2 + wds t
  | Sum.inr (Sum.inr (Sum.inl _)) :: t => 1 + wds t
  | Sum.inr (Sum.inr (Sum.inr _)) :: t => 2 + wds t
def esl : List AV → List AV
  | [] => []
  | Sum.inr (Sum.inl z) :: t => aJ z :: aU :: esl t
  | v :: t => v :: esl t
def ent (M : MI) (as : List AV) : List AV := esl as ++ List.replicate (mL M - (esl as).length) aU
-- memory
def rd (h : AH) (t a k : Nat) : Option AV := match h[a]? with
  | some c => bif Nat.beq c.1 t then c.2[k]? else none
  | none => none
def wr (h : AH) (t a k : Nat) (v : AV) : AH := match h[a]? with
  | some c => bif Nat.beq c.1 t then h.set a (t, c.2.set k v) else h
  | none => h
def isO (h : AH) (t a : Nat) : Bool := match h[a]? with
  | some c => Nat.beq c.1 t
  | none => false
def ln (h : AH) (a : Nat) : Option Nat := match h[a]? with
  | some c => bif Nat.ble 10 c.1 then some c.2.length else none
  | none => none
def okV (kd : Nat) (v : AV) : Bool := match v with
  | Sum.inl z => (Nat.beq kd 0) || (Nat.beq kd 1 && (z == 0 || z == 1))
  | Sum.inr (Sum.inl _) => Nat.beq kd 2
  | Sum.inr (Sum.inr (Sum.inl _)) => Nat.beq kd 3
  | _ => false
-- operations
def cnd (c : Jvm.ClassFile.Cond) (a b : Int) : Bool := match c with
  | .eq => decide (a = b)
  | .ne => decide (¬ a = b)
  | .lt => decide (a < b)
  | .ge => decide (b ≤ a)
  | .gt => decide (b < a)
  | .le => decide (a ≤ b)
def tg (pc : Nat) (off : Int) : Option Nat := if 0 ≤ (pc : Int) + off then some ((pc : Int) + off).toNat else none
def fShl (a b : Int) : Int := (Int32.ofInt a <<< (Int32.ofInt b &&& 31)).toInt
def fShr (a b : Int) : Int := (Int32.ofInt a >>> (Int32.ofInt b &&& 31)).toInt
def fAnd (a b : Int) : Int := (Int32.ofInt a &&& Int32.ofInt b).toInt
def fOr (a b : Int) : Int := (Int32.ofInt a ||| Int32.ofInt b).toInt
def fAndJ (a b : Int) : Int := (Int64.ofInt a &&& Int64.ofInt b).toInt
def fXorJ (a b : Int) : Int := (Int64.ofInt a ^^^ Int64.ofInt b).toInt
def fCmp (a b : Int) : Int := if b < a then 1 else if a = b then 0 else -1
def hB32 (f : Int → Int → Int) (pc : Nat) (al st : List AV) (h : AH) : Option SR := match st with
  | Sum.inl b :: Sum.inl a :: st' => gS (pc + 1) al (aI (f a b) :: st') h
  | _ => none
def hB64 (f : Int → Int → Int) (pc : Nat) (al st : List AV) (h : AH) : Option SR := match st with
  | Sum.inr (Sum.inl b) :: Sum.inr (Sum.inl a) :: st' => gS (pc + 1) al (aJ (f a b) :: st') h
  | _ => none
def hD32 (f : Int → Int → Int) (pc : Nat) (al st : List AV) (h : AH) : Option SR := match st with
  | Sum.inl b :: Sum.inl a :: st' => if b = 0 then none else gS (pc + 1) al (aI (f a b) :: st') h
  | _ => none
def hD64 (f : Int → Int → Int) (pc : Nat) (al st : List AV) (h : AH) : Option SR := match st with
  | Sum.inr (Sum.inl b) :: Sum.inr (Sum.inl a) :: st' => if b = 0 then none else gS (pc + 1) al (aJ (f a b) :: st') h
  | _ => none
def hU32 (f : Int → AV) (pc : Nat) (al st : List AV) (h : AH) : Option SR := match st with
  | Sum.inl a :: st' => gS (pc + 1) al (f a :: st') h
  | _ => none
def hU64 (f : Int → AV) (pc : Nat) (al st : List AV) (h : AH) : Option SR := match st with
  | Sum.inr (Sum.inl a) :: st' => gS (pc + 1) al (f a :: st') h
  | _ => none
def hLI (k n pc : Nat) (al st : List AV) (h : AH) : Option SR := match al[k]? with
  | some (Sum.inl z) => gS (pc + n) al (aI z :: st) h
  | _ => none
def hLJ (k n pc : Nat) (al st : List AV) (h : AH) : Option SR := match al[k]? with
  | some (Sum.inr (Sum.inl z)) => gS (pc + n) al (aJ z :: st) h
  | _ => none
def hLR (k n pc : Nat) (al st : List AV) (h : AH) : Option SR := match al[k]? with
  | some (Sum.inr (Sum.inr (Sum.inl r))) => gS (pc + n) al (aR r :: st) h
  | _ => none
def hSI (k n pc : Nat) (al st : List AV) (h : AH) : Option SR := match st with
  | Sum.inl z :: st' => bif Nat.blt k al.length then gS (pc + n) (sto1 al k (aI z)) st' h else none
  | _ => none
def hSJ (k n pc : Nat) (al st : List AV) (h : AH) : Option SR := match st with
  | Sum.inr (Sum.inl z) :: st' => bif Nat.blt (k + 1) al.length then gS (pc + n) (sto2 al k (aJ z)) st' h else none
  | _ => none
def hSR (k n pc : Nat) (al st : List AV) (h : AH) : Option SR := match st with
  | Sum.inr (Sum.inr (Sum.inl r)) :: st' => bif Nat.blt k al.length then gS (pc + n) (sto1 al k (aR r)) st' h else none
  | _ => none
def hInc (k : Nat) (c : Int) (pc : Nat) (al st : List AV) (h : AH) : Option SR := match al[k]? with
  | some (Sum.inl z) => gS (pc + 3) (sto1 al k (aI (w32 (z + c)))) st h
  | _ => none
def hIf (c : Jvm.ClassFile.Cond) (off : Int) (pc : Nat) (al st : List AV) (h : AH) : Option SR := match st with
  | Sum.inl a :: st' => (match tg pc off with
    | some t => bif cnd c a 0 then gS t al st' h else gS (pc + 3) al st' h
    | none => none)
  | _ => none
def hCmp (c : Jvm.ClassFile.Cond) (off : Int) (pc : Nat) (al st : List AV) (h : AH) : Option SR := match st with
  | Sum.inl b :: Sum.inl a :: st' => (match tg pc off with
    | some t => bif cnd c a b then gS t al st' h else gS (pc + 3) al st' h
    | none => none)
  | _ => none
def hNull (neg : Bool) (off : Int) (pc : Nat) (al st : List AV) (h : AH) : Option SR := match st with
  | Sum.inr (Sum.inr (Sum.inl none)) :: st' => bif neg then gS (pc + 3) al st' h else (match tg pc off with
    | some t => gS t al st' h
    | none => none)
  | Sum.inr (Sum.inr (Sum.inl (some _))) :: st' => bif neg then (match tg pc off with
    | some t => gS t al st' h
    | none => none) else gS (pc + 3) al st' h
  | _ => none
def hTab (d lo hi : Int) (offs : Array Int) (pc : Nat) (al st : List AV) (h : AH) : Option SR := match st with
  | Sum.inl x :: st' => if x < lo ∨ hi < x then (match tg pc d with
    | some t => gS t al st' h
    | none => none) else (match offs[(x - lo).toNat]? with
    | some o => (match tg pc o with
      | some t => gS t al st' h
      | none => none)
    | none => none)
  | _ => none
def hGet (M : MI) (idx pc : Nat) (al st : List AV) (h : AH) : Option SR := match fT (mK M) idx with
  | some q => (match st with
    | Sum.inr (Sum.inr (Sum.inl (some a))) :: st' => (match rd h q.1 a q.2.1 with
      | some v => gS (pc + 3) al (v :: st') h
      | none => none)
    | _ => none)
  | none => none
def hPut (M : MI) (idx pc : Nat) (al st : List AV) (h : AH) : Option SR := match fT (mK M) idx with
  | some q => (match st with
    | v :: Sum.inr (Sum.inr (Sum.inl (some a))) :: st' => (match rd h q.1 a q.2.1 with
      | some _ => bif okV q.2.2.1 v && (!q.2.2.2 || (decide ((mY M).name = "<init>") && Nat.beq (mK M) q.1)) then gS (pc + 3) al st' (wr h q.1 a q.2.1 v) else none
      | none => none)
    | _ => none)
  | none => none
def hAld (t pc : Nat) (al st : List AV) (h : AH) : Option SR := match st with
  | Sum.inl i :: Sum.inr (Sum.inr (Sum.inl (some a))) :: st' => if 0 ≤ i then (match rd h t a i.toNat with
    | some v => gS (pc + 1) al (v :: st') h
    | none => none) else none
  | _ => none
def tagR (h : AH) (a : Nat) : Nat := match h[a]? with
  | some c => c.1
  | none => 0
def hAldR (pc : Nat) (al st : List AV) (h : AH) : Option SR := match st with
  | Sum.inl i :: Sum.inr (Sum.inr (Sum.inl (some a))) :: st' => if 0 ≤ i ∧ 12 ≤ tagR h a then (match rd h (tagR h a) a i.toNat with
    | some v => gS (pc + 1) al (v :: st') h
    | none => none) else none
  | _ => none
def hAstI (pc : Nat) (al st : List AV) (h : AH) : Option SR := match st with
  | Sum.inl x :: Sum.inl i :: Sum.inr (Sum.inr (Sum.inl (some a))) :: st' => if 0 ≤ i then (match rd h 10 a i.toNat with
    | some _ => gS (pc + 1) al st' (wr h 10 a i.toNat (aI x))
    | none => none) else none
  | _ => none
def hAstJ (pc : Nat) (al st : List AV) (h : AH) : Option SR := match st with
  | Sum.inr (Sum.inl x) :: Sum.inl i :: Sum.inr (Sum.inr (Sum.inl (some a))) :: st' => if 0 ≤ i then (match rd h 11 a i.toNat with
    | some _ => gS (pc + 1) al st' (wr h 11 a i.toNat (aJ x))
    | none => none) else none
  | _ => none
def elT (t : Nat) : Nat := match t with
  | 12 => 1
  | 13 => 3
  | _ => 0
def hAstR (pc : Nat) (al st : List AV) (h : AH) : Option SR := match st with
  | Sum.inr (Sum.inr (Sum.inl (some x))) :: Sum.inl i :: Sum.inr (Sum.inr (Sum.inl (some a))) :: st' => if 0 ≤ i ∧ 12 ≤ tagR h a ∧ tagR h a ≤ 14 ∧ isO h (elT (tagR h a)) x = true then (match rd h (tagR h a) a i.toNat with
    | some _ => gS (pc + 1) al st' (wr h (tagR h a) a i.toNat (aR (some x)))
    | none => none) else none
  | _ => none
def hLen (pc : Nat) (al st : List AV) (h : AH) : Option SR := match st with
  | Sum.inr (Sum.inr (Sum.inl (some a))) :: st' => (match ln h a with
    | some n => gS (pc + 1) al (aI n :: st') h
    | none => none)
  | _ => none
def dfv (t : FieldType) : AV := match t with
  | .long => aJ 0
  | .object _ => aR none
  | .array _ => aR none
  | _ => aI 0
def dfl (c : Nat) : List AV := (List.range (clsF c)).map fun k => dfv (clsY c k)
def hNew (M : MI) (idx pc : Nat) (al st : List AV) (h : AH) : Option SR := match lk nLst (mK M) idx with
  | some c => gS (pc + 3) al (aR (some h.length) :: st) (h ++ [(c, dfl c)])
  | none => none
def hNwa (t : Nat) (d : AV) (pc : Nat) (al st : List AV) (h : AH) : Option SR := match st with
  | Sum.inl n :: st' => if 0 ≤ n ∧ n ≤ 1000 then gS (pc + 2) al (aR (some h.length) :: st') (h ++ [(t, List.replicate n.toNat d)]) else none
  | _ => none
def hNwr (M : MI) (idx pc : Nat) (al st : List AV) (h : AH) : Option SR := match lk aLst (mK M) idx with
  | some t => (match st with
    | Sum.inl n :: st' => if 0 ≤ n ∧ n ≤ 1000 then gS (pc + 3) al (aR (some h.length) :: st') (h ++ [(t, List.replicate n.toNat (aR none))]) else none
    | _ => none)
  | none => none
def cpL (vs ws : List AV) (sp dp n : Nat) : List AV := (List.range ws.length).map fun k => if dp ≤ k ∧ k < dp + n then vs.getD (sp + (k - dp)) aU else ws.getD k aU
def hCpy (pc : Nat) (al st : List AV) (h : AH) : Option SR := match st with
  | Sum.inl n :: Sum.inl dp :: Sum.inr (Sum.inr (Sum.inl (some d))) :: Sum.inl sp :: Sum.inr (Sum.inr (Sum.inl (some s))) :: st' => (match h[s]?, h[d]? with
    | some c, some e => if c.1 = 11 ∧ e.1 = 11 ∧ 0 ≤ n ∧ 0 ≤ dp ∧ 0 ≤ sp ∧ sp + n ≤ c.2.length ∧ dp + n ≤ e.2.length ∧ wds st' ≤ 8 then gS (pc + 3) al st' (h.set d (11, cpL c.2 e.2 sp.toNat dp.toNat n.toNat)) else none
    | _, _ => none)
  | _ => none
def nU (v : AV) : Bool := match v with
  | Sum.inr (Sum.inr (Sum.inr _)) => false
  | _ => true
def kOk (k ik : Nat) : Bool := match ik with
  | 0 => Nat.beq k 0
  | 1 => Nat.beq k 1
  | _ => Nat.beq k 2 || Nat.beq k 3
def rcv (k : Nat) (M1 : MI) (as : List AV) (h : AH) : Bool := match k with
  | 1 => true
  | 0 => (match as with
    | Sum.inr (Sum.inr (Sum.inl (some a))) :: _ => Nat.blt (mK M1) 6 && isO h (mK M1) a
    | _ => false)
  | _ => (match as with
    | Sum.inr (Sum.inr (Sum.inl (some _))) :: _ => true
    | _ => false)
def hCal (ik : Nat) (M : MI) (idx pc : Nat) (al st : List AV) (h : AH) : Option SR := match cT (mK M) idx with
  | some q => bif kOk q.1 ik && (Nat.blt (mR q.2) (mR M) && (Nat.ble (19 + mL q.2 + mW q.2) (mW M) && (Nat.ble (mN q.2) st.length && (Nat.ble (wds (st.drop (mN q.2))) 8 && (Nat.ble (esl (st.take (mN q.2)).reverse).length (mL q.2) && ((st.take (mN q.2)).reverse.all nU && rcv q.1 q.2 (st.take (mN q.2)).reverse h))))))
    then some (Sum.inr (Sum.inl (q.2, (st.take (mN q.2)).reverse, h, pc + 3, al, st.drop (mN q.2)))) else none
  | none => none
def hObj (M : MI) (pc : Nat) (al st : List AV) (h : AH) : Option SR := match st with
  | Sum.inr (Sum.inr (Sum.inl (some _))) :: st' => bif Nat.ble 1 (mR M) && (Nat.ble 20 (mW M) && Nat.ble (wds st') 8) then gS (pc + 3) al st' h else none
  | _ => none
def hSpe (M : MI) (idx pc : Nat) (al st : List AV) (h : AH) : Option SR := match lk oLst (mK M) idx with
  | some _ => hObj M pc al st h
  | none => hCal 2 M idx pc al st h
def acpI : Nat := 112
def hSta (M : MI) (idx pc : Nat) (al st : List AV) (h : AH) : Option SR := bif Nat.beq (mK M) 4 && Nat.beq idx acpI then (bif Nat.ble 1 (mR M) && Nat.ble 30 (mW M) then hCpy pc al st h else none) else hCal 1 M idx pc al st h
def rS (r : Option AV) (h : AH) : Option SR := some (Sum.inr (Sum.inr (r, h)))
def hRetI (M : MI) (st : List AV) (h : AH) : Option SR := match st with
  | [Sum.inl z] => (match mT M with
    | some .int => rS (some (aI z)) h
    | some .boolean => if z = 0 ∨ z = 1 then rS (some (aI z)) h else none
    | _ => none)
  | _ => none
def hRetJ (M : MI) (st : List AV) (h : AH) : Option SR := match st with
  | [Sum.inr (Sum.inl z)] => (match mT M with
    | some .long => rS (some (aJ z)) h
    | _ => none)
  | _ => none
def hRetR (M : MI) (st : List AV) (h : AH) : Option SR := match st with
  | [Sum.inr (Sum.inr (Sum.inl r))] => (match mT M with
    | some (.object _) => rS (some (aR r)) h
    | _ => none)
  | _ => none
def hRetV (M : MI) (st : List AV) (h : AH) : Option SR := match st with
  | [] => (match mT M with
    | none => rS none h
    | _ => none)
  | _ => none
def hDup (pc : Nat) (al st : List AV) (h : AH) : Option SR := match st with
  | Sum.inl z :: st' => gS (pc + 1) al (aI z :: aI z :: st') h
  | Sum.inr (Sum.inr (Sum.inl r)) :: st' => gS (pc + 1) al (aR r :: aR r :: st') h
  | _ => none
def hDup2 (pc : Nat) (al st : List AV) (h : AH) : Option SR := match st with
  | Sum.inr (Sum.inl z) :: st' => gS (pc + 1) al (aJ z :: aJ z :: st') h
  | Sum.inl z :: Sum.inr (Sum.inr (Sum.inl r)) :: st' => gS (pc + 1) al (aI z :: aR r :: aI z :: aR r :: st') h
  | _ => none
def hPop (pc : Nat) (al st : List AV) (h : AH) : Option SR := match st with
  | Sum.inl _ :: st' => gS (pc + 1) al st' h
  | Sum.inr (Sum.inr (Sum.inl _)) :: st' => gS (pc + 1) al st' h
  | _ => none
def q1 (n k : Nat) (x : Option SR) : Option SR := bif Nat.beq n k then x else none
def stI (M : MI) (i : Instr) (n pc : Nat) (al st : List AV) (h : AH) : Option SR := match i with
  | .iconst z => q1 n 1 (if -1 ≤ z ∧ z ≤ 5 then gS (pc + 1) al (aI z :: st) h else none)
  | .lconst k => q1 n 1 (gS (pc + 1) al (aJ ((k : Nat) : Int) :: st) h)
  | .bipush z => q1 n 2 (if -128 ≤ z ∧ z ≤ 127 then gS (pc + 2) al (aI z :: st) h else none)
  | .sipush z => q1 n 3 (if -32768 ≤ z ∧ z ≤ 32767 then gS (pc + 3) al (aI z :: st) h else none)
  | .ldc k => q1 n 2 (match lk kILst (mK M) k with
    | some z => gS (pc + 2) al (aI z :: st) h
    | none => none)
  | .ldc2_w k => q1 n 3 (match lk kJLst (mK M) k with
    | some z => gS (pc + 3) al (aJ z :: st) h
    | none => none)
  | .aconst_null => q1 n 1 (gS (pc + 1) al (aR none :: st) h)
  | .iload_n k => q1 n 1 (hLI k 1 pc al st h)
  | .iload k => q1 n 2 (hLI k 2 pc al st h)
  | .lload_n k => q1 n 1 (hLJ k 1 pc al st h)
  | .lload k => q1 n 2 (hLJ k 2 pc al st h)
  | .aload_n k => q1 n 1 (hLR k 1 pc al st h)
  | .aload k => q1 n 2 (hLR k 2 pc al st h)
  | .istore_n k => q1 n 1 (hSI k 1 pc al st h)
  | .istore k => q1 n 2 (hSI k 2 pc al st h)
  | .lstore_n k => q1 n 1 (hSJ k 1 pc al st h)
  | .lstore k => q1 n 2 (hSJ k 2 pc al st h)
  | .astore_n k => q1 n 1 (hSR k 1 pc al st h)
  | .astore k => q1 n 2 (hSR k 2 pc al st h)
  | .iinc k c => q1 n 3 (hInc k c pc al st h)
  | .iadd => q1 n 1 (hB32 (fun a b => w32 (a + b)) pc al st h)
  | .isub => q1 n 1 (hB32 (fun a b => w32 (a - b)) pc al st h)
  | .imul => q1 n 1 (hB32 (fun a b => w32 (a * b)) pc al st h)
  | .idiv => q1 n 1 (hD32 (fun a b => w32 (a.tdiv b)) pc al st h)
  | .irem => q1 n 1 (hD32 (fun a b => a.tmod b) pc al st h)
  | .ineg => q1 n 1 (hU32 (fun a => aI (w32 (-a))) pc al st h)
  | .iand => q1 n 1 (hB32 fAnd pc al st h)
  | .ior => q1 n 1 (hB32 fOr pc al st h)
  | .ishl => q1 n 1 (hB32 fShl pc al st h)
  | .ishr => q1 n 1 (hB32 fShr pc al st h)
  | .ladd => q1 n 1 (hB64 (fun a b => w64 (a + b)) pc al st h)
  | .lsub => q1 n 1 (hB64 (fun a b => w64 (a - b)) pc al st h)
  | .lmul => q1 n 1 (hB64 (fun a b => w64 (a * b)) pc al st h)
  | .ldiv => q1 n 1 (hD64 (fun a b => w64 (a.tdiv b)) pc al st h)
  | .lrem => q1 n 1 (hD64 (fun a b => a.tmod b) pc al st h)
  | .lneg => q1 n 1 (hU64 (fun a => aJ (w64 (-a))) pc al st h)
  | .land => q1 n 1 (hB64 fAndJ pc al st h)
  | .lxor => q1 n 1 (hB64 fXorJ pc al st h)
  | .lcmp => q1 n 1 (match st with
    | Sum.inr (Sum.inl b) :: Sum.inr (Sum.inl a) :: st' => gS (pc + 1) al (aI (fCmp a b) :: st') h
    | _ => none)
  | .i2l => q1 n 1 (hU32 (fun a => aJ a) pc al st h)
  | .l2i => q1 n 1 (hU64 (fun a => aI (w32 a)) pc al st h)
  | .i2b => q1 n 1 (hU32 (fun a => aI (w8 a)) pc al st h)
  | .i2s => q1 n 1 (hU32 (fun a => aI (w16 a)) pc al st h)
  | .dup => q1 n 1 (hDup pc al st h)
  | .dup2 => q1 n 1 (hDup2 pc al st h)
  | .pop => q1 n 1 (hPop pc al st h)
  | .goto off => q1 n 3 (match tg pc off with
    | some t => gS t al st h
    | none => none)
  | .ifCond c off => q1 n 3 (hIf c off pc al st h)
  | .if_icmp c off => q1 n 3 (hCmp c off pc al st h)
  | .ifnull off => q1 n 3 (hNull false off pc al st h)
  | .ifnonnull off => q1 n 3 (hNull true off pc al st h)
  | .tableswitch d lo hi offs => hTab d lo hi offs pc al st h
  | .getfield k => q1 n 3 (hGet M k pc al st h)
  | .putfield k => q1 n 3 (hPut M k pc al st h)
  | .iaload => q1 n 1 (hAld 10 pc al st h)
  | .laload => q1 n 1 (hAld 11 pc al st h)
  | .aaload => q1 n 1 (hAldR pc al st h)
  | .iastore => q1 n 1 (hAstI pc al st h)
  | .lastore => q1 n 1 (hAstJ pc al st h)
  | .aastore => q1 n 1 (hAstR pc al st h)
  | .arraylength => q1 n 1 (hLen pc al st h)
  | .new k => q1 n 3 (hNew M k pc al st h)
  | .newarray .int => q1 n 2 (hNwa 10 (aI 0) pc al st h)
  | .newarray .long => q1 n 2 (hNwa 11 (aJ 0) pc al st h)
  | .anewarray k => q1 n 3 (hNwr M k pc al st h)
  | .invokevirtual k => q1 n 3 (hCal 0 M k pc al st h)
  | .invokestatic k => q1 n 3 (hSta M k pc al st h)
  | .invokespecial k => q1 n 3 (hSpe M k pc al st h)
  | .ireturn => q1 n 1 (hRetI M st h)
  | .lreturn => q1 n 1 (hRetJ M st h)
  | .areturn => q1 n 1 (hRetR M st h)
  | .return_ => q1 n 1 (hRetV M st h)
  | _ => none
def stp (M : MI) (pc : Nat) (al st : List AV) (h : AH) : Option SR := match decode (mC M) pc with
  | .ok q => stI M q.1 q.2 pc al st h
  | .error _ => none
def exec : Nat → Cf → Option RV
  | 0, _ => none
  | n + 1, c => match stp c.1 c.2.1 c.2.2.1 c.2.2.2.1 c.2.2.2.2 with
    | none => none
    | some (Sum.inl q) => exec n (c.1, q)
    | some (Sum.inr (Sum.inl q)) => (match exec n (q.1, 0, ent q.1 q.2.1, [], q.2.2.1) with
      | none => none
      | some r => exec n (c.1, q.2.2.2.1, q.2.2.2.2.1, r.1.toList ++ q.2.2.2.2.2, r.2))
    | some (Sum.inr (Sum.inr r)) => some r
theorem exec_succ : ∀ (n : Nat) (c : Cf) (r : RV), exec n c = some r → exec (n + 1) c = some r := by
  intro n
  induction n with
  | zero => intro c r h; cases h
  | succ n ih =>
    intro c r h
    rw [exec] at h ⊢
    cases hs : stp c.1 c.2.1 c.2.2.1 c.2.2.2.1 c.2.2.2.2 with
    | none => rw [hs] at h; cases h
    | some x =>
      rw [hs] at h
      match x, h with
      | Sum.inl q, h => exact ih _ _ h
      | Sum.inr (Sum.inl q), h =>
        simp only at h ⊢
        cases h1 : exec n (q.1, 0, ent q.1 q.2.1, [], q.2.2.1) with
        | none => rw [h1] at h; cases h
        | some r1 =>
          rw [h1] at h
          rw [ih _ _ h1]
          exact ih _ _ h
      | Sum.inr (Sum.inr r1), h => exact h
theorem exec_le {n k : Nat} {c : Cf} {r : RV} (hk : n ≤ k) (h : exec n c = some r) : exec k c = some r := by
  induction hk with
  | refl => exact h
  | step _ ih => exact exec_succ _ _ _ ih
/-- what the bytecode answers from a point on, if it comes to an end -/
noncomputable def X (M : MI) (pc : Nat) (al st : List AV) (h : AH) : Option RV := @dite _ (∃ r n, exec n (M, pc, al, st, h) = some r) (Classical.propDecidable _) (fun e => some e.choose) (fun _ => none)
theorem X_iff {M : MI} {pc : Nat} {al st : List AV} {h : AH} {r : RV} : X M pc al st h = some r ↔ ∃ n, exec n (M, pc, al, st, h) = some r := by
  unfold X
  constructor
  · intro q
    split at q
    · rename_i e
      cases q
      exact e.choose_spec
    · cases q
  · intro q
    obtain ⟨n, hn⟩ := q
    have e : ∃ r n, exec n (M, pc, al, st, h) = some r := ⟨r, n, hn⟩
    rw [dif_pos e]
    obtain ⟨k, hk⟩ := e.choose_spec
    have h1 := exec_le (Nat.le_max_left n k) hn
    have h2 := exec_le (Nat.le_max_right n k) hk
    rw [h1] at h2
    exact congrArg some (Option.some.inj h2).symm
theorem X_ext {M M1 : MI} {pc pc1 : Nat} {al st al1 st1 : List AV} {h h1 : AH} (q : ∀ r, (∃ n, exec n (M, pc, al, st, h) = some r) ↔ ∃ n, exec n (M1, pc1, al1, st1, h1) = some r) : X M pc al st h = X M1 pc1 al1 st1 h1 := by
  cases e : X M pc al st h with
  | some r => exact (X_iff.mpr ((q r).mp (X_iff.mp e))).symm
  | none =>
    cases e1 : X M1 pc1 al1 st1 h1 with
    | none => rfl
    | some r =>
      rw [X_iff.mpr ((q r).mpr (X_iff.mp e1))] at e
      cases e
theorem X_go {M : MI} {pc pc1 : Nat} {al st al1 st1 : List AV} {h h1 : AH} (q : stp M pc al st h = gS pc1 al1 st1 h1) : X M pc al st h = X M pc1 al1 st1 h1 := by
  refine X_ext fun r => ⟨fun ⟨n, hn⟩ => ?_, fun ⟨n, hn⟩ => ⟨n + 1, ?_⟩⟩
  · cases n with
    | zero => cases hn
    | succ n =>
      rw [exec] at hn
      simp only [q, gS] at hn
      exact ⟨n, hn⟩
  · rw [exec]
    simp only [q, gS]
    exact hn
theorem X_ret {M : MI} {pc : Nat} {al st : List AV} {h h1 : AH} {r : Option AV} (q : stp M pc al st h = rS r h1) : X M pc al st h = some (r, h1) := by
  refine X_iff.mpr ⟨1, ?_⟩
  rw [exec]
  simp only [q, rS]
/-- a call, and what goes on with its answer -/
def cK (r : Option RV) (k : Option AV → AH → Option RV) : Option RV := match r with
  | none => none
  | some q => k q.1 q.2
theorem cK_some {v : Option AV} {h : AH} {k : Option AV → AH → Option RV} : cK (some (v, h)) k = k v h := rfl
noncomputable def E (M : MI) (as : List AV) (h : AH) : Option RV := X M 0 (ent M as) [] h
theorem X_call {M M1 : MI} {pc pc1 : Nat} {al st al1 st1 as : List AV} {h h1 : AH} (q : stp M pc al st h = some (Sum.inr (Sum.inl (M1, as, h1, pc1, al1, st1)))) : X M pc al st h = cK (E M1 as h1) fun v h2 => X M pc1 al1 (v.toList ++ st1) h2 := by
  unfold E
  cases e : X M1 0 (ent M1 as) [] h1 with
  | some r =>
    obtain ⟨k, hk⟩ := X_iff.mp e
    refine X_ext fun r2 => ⟨fun ⟨n, hn⟩ => ?_, fun ⟨n, hn⟩ => ⟨max n k + 1, ?_⟩⟩
    · cases n with
      | zero => cases hn
      | succ n =>
        rw [exec] at hn
        simp only [q] at hn
        cases e1 : exec n (M1, 0, ent M1 as, [], h1) with
        | none => rw [e1] at hn; cases hn
        | some r3 =>
          rw [e1] at hn
          have h4 := exec_le (Nat.le_max_left n k) e1
          rw [exec_le (Nat.le_max_right n k) hk] at h4
          cases h4
          exact ⟨n, hn⟩
    · rw [exec]
      simp only [q]
      rw [exec_le (Nat.le_max_right n k) hk]
      exact exec_le (Nat.le_max_left n k) hn
  | none =>
    show X M pc al st h = none
    cases e2 : X M pc al st h with
    | none => rfl
    | some r =>
      obtain ⟨n, hn⟩ := X_iff.mp e2
      cases n with
      | zero => cases hn
      | succ n =>
        rw [exec] at hn
        simp only [q] at hn
        cases e1 : exec n (M1, 0, ent M1 as, [], h1) with
        | none => rw [e1] at hn; cases hn
        | some r3 => rw [X_iff.mpr ⟨n, e1⟩] at e; cases e
end
section

/-! ===== what the number machine answers, the machine answers ===== -/
def nu (ws : va_W) : List Nat := ws.map Prod.fst
def vr (N : List Nat) (v : AV) (V : Value) : Prop := match v with
  | Sum.inl z => ∃ x : Int32, V = .int x ∧ z = x.toInt
  | Sum.inr (Sum.inl z) => ∃ x : Int64, V = .long x ∧ z = x.toInt
  | Sum.inr (Sum.inr (Sum.inl none)) => V = .null
  | Sum.inr (Sum.inr (Sum.inl (some k))) => ∃ a : Nat, V = .ref a ∧ N[k]? = some a
  | Sum.inr (Sum.inr (Sum.inr _)) => True
def sr (N : List Nat) : List AV → List Value → Prop
  | [], [] => True
  | v :: t, V :: T => vr N v V ∧ sr N t T
  | _, _ => False
def ovr (N : List Nat) (v : Option AV) (V : Option Value) : Prop := match v with
  | none => V = none
  | some w => ∃ U, V = some U ∧ vr N w U
def cr (tys : List (ClassId × FieldType)) (N : List Nat) (c : AC) (e : va_E) : Prop := match e with
  | .inr o => c.1 = o.1 ∧ o.1 < 6 ∧ c.2.length = clsF o.1 ∧ sr N c.2 o.2
  | .inl a => a.2.1 = c.2.length ∧ a.2.1 < 2147483648 ∧ (match a.2.2 with
    | .inl f => c.1 = 10 ∧ (∃ t : Nat, tys[t]? = some (a.1, .int)) ∧ ∀ j, j < a.2.1 → c.2[j]? = some (aI (f j).toInt)
    | .inr (.inl f) => c.1 = 11 ∧ (∃ t : Nat, tys[t]? = some (a.1, .long)) ∧ ∀ j, j < a.2.1 → c.2[j]? = some (aJ (f j).toInt)
    | .inr (.inr (.inr (.inr f))) => 12 ≤ c.1 ∧ c.1 ≤ 14 ∧ (∃ t : Nat, tys[t]? = some (a.1, .object (arrN c.1))) ∧ ∀ j, j < a.2.1 → ∃ r, c.2[j]? = some (aR r) ∧ vr N (aR r) (va_rf (f j))
    | _ => False)
def hr (tys : List (ClassId × FieldType)) (ws : va_W) (h : AH) : Prop := ws.length = h.length ∧ ∀ (k : Nat) (c : AC) (q : Nat × va_E), h[k]? = some c → ws[k]? = some q → cr tys (nu ws) c q.2
def slt (h : AH) : Nat := (h.map fun c => c.2.length).sum
def lr (N : List Nat) (nL : Nat) (al : List AV) (ls : Array Slot) : Prop := al.length = nL ∧ ∃ l, lv_has ls nL l ∧ ∀ (i : Nat) (v : AV), al[i]? = some v → v = aU ∨ ∃ V, (i, V) ∈ l ∧ vr N v V
def KN (U : State) : Prop := (∀ w ∈ nwF, va_Nw w U) ∧ (∀ w ∈ nwM, va_Nw w U) ∧ va_AO RX1 U ∧ va_AO RX3 U ∧ va_AO RX0 U
-- prefixes
def px (N N1 : List Nat) : Prop := ∃ t, N1 = N ++ t
theorem px.rf {N : List Nat} : px N N := ⟨[], by simp⟩
theorem px.tr {N N1 N2 : List Nat} (h : px N N1) (h1 : px N1 N2) : px N N2 := by
  obtain ⟨t, rfl⟩ := h
  obtain ⟨u, rfl⟩ := h1
  exact ⟨t ++ u, by simp⟩
theorem px.at {N N1 : List Nat} (h : px N N1) {k a : Nat} (q : N[k]? = some a) : N1[k]? = some a := by
  obtain ⟨t, rfl⟩ := h
  have := (List.getElem?_eq_some_iff.mp q).1
  rw [List.getElem?_append_left this]
  exact q
theorem vr.up {N N1 : List Nat} (hp : px N N1) {v : AV} {V : Value} (h : vr N v V) : vr N1 v V := by
  match v, h with
  | Sum.inl z, h => exact h
  | Sum.inr (Sum.inl z), h => exact h
  | Sum.inr (Sum.inr (Sum.inl none)), h => exact h
  | Sum.inr (Sum.inr (Sum.inl (some k))), h =>
    obtain ⟨a, h1, h2⟩ := h
    exact ⟨a, h1, hp.at h2⟩
  | Sum.inr (Sum.inr (Sum.inr _)), _ => exact trivial
theorem sr.up {N N1 : List Nat} (hp : px N N1) : ∀ {st : List AV} {T : List Value}, sr N st T → sr N1 st T
  | [], [], h => h
  | _ :: _, _ :: _, h => ⟨h.1.up hp, sr.up hp h.2⟩
  | [], _ :: _, h => h.elim
  | _ :: _, [], h => h.elim
theorem lr.up {N N1 : List Nat} (hp : px N N1) {nL : Nat} {al : List AV} {ls : Array Slot} (h : lr N nL al ls) : lr N1 nL al ls := by
  obtain ⟨h1, l, h2, h3⟩ := h
  refine ⟨h1, l, h2, fun i v q => ?_⟩
  rcases h3 i v q with h | ⟨V, h4, h5⟩
  · exact Or.inl h
  · exact Or.inr ⟨V, h4, h5.up hp⟩
theorem cr.up {tys tys1 : List (ClassId × FieldType)} {N N1 : List Nat} (hp : px N N1) (ht : ∀ (t : Nat) q, tys[t]? = some q → ∃ u : Nat, tys1[u]? = some q) {c : AC} {e : va_E} (h : cr tys N c e) : cr tys1 N1 c e := by
  match e, h with
  | .inr o, h => exact ⟨h.1, h.2.1, h.2.2.1, h.2.2.2.up hp⟩
  | .inl (cA, n, .inl f), h =>
    obtain ⟨h1, h2, h3, ⟨t, h4⟩, h5⟩ := h
    exact ⟨h1, h2, h3, ht t _ h4, h5⟩
  | .inl (cA, n, .inr (.inl f)), h =>
    obtain ⟨h1, h2, h3, ⟨t, h4⟩, h5⟩ := h
    exact ⟨h1, h2, h3, ht t _ h4, h5⟩
  | .inl (cA, n, .inr (.inr (.inr (.inr f)))), h =>
    obtain ⟨h1, h2, h3, h3', ⟨t, h4⟩, h5⟩ := h
    refine ⟨h1, h2, h3, h3', ht t _ h4, fun j hj => ?_⟩
    obtain ⟨r, h6, h7⟩ := h5 j hj
    exact ⟨r, h6, h7.up hp⟩
theorem sr.len {N : List Nat} : ∀ {st : List AV} {T : List Value}, sr N st T → st.length = T.length
  | [], [], _ => rfl
  | _ :: _, _ :: _, h => congrArg (· + 1) (sr.len h.2)
  | [], _ :: _, h => h.elim
  | _ :: _, [], h => h.elim
theorem sr.app {N : List Nat} : ∀ {a b : List AV} {A B : List Value}, sr N a A → sr N b B → sr N (a ++ b) (A ++ B)
  | [], _, [], _, _, h => h
  | _ :: _, _, _ :: _, _, h, h1 => ⟨h.1, sr.app h.2 h1⟩
  | [], _, _ :: _, _, h, _ => h.elim
  | _ :: _, _, [], _, h, _ => h.elim
theorem sr.take {N : List Nat} : ∀ {a : List AV} {A : List Value} (n : Nat), sr N a A → sr N (a.take n) (A.take n)
  | [], [], n, _ => by simp [sr]
  | _ :: _, _ :: _, 0, _ => by simp [sr]
  | _ :: _, _ :: _, n + 1, h => ⟨h.1, sr.take n h.2⟩
  | [], _ :: _, _, h => h.elim
  | _ :: _, [], _, h => h.elim
theorem sr.drop {N : List Nat} : ∀ {a : List AV} {A : List Value} (n : Nat), sr N a A → sr N (a.drop n) (A.drop n)
  | [], [], n, _ => by simp [sr]
  | _ :: _, _ :: _, 0, h => h
  | _ :: _, _ :: _, n + 1, h => by simpa using sr.drop n h.2
  | [], _ :: _, _, h => h.elim
  | _ :: _, [], _, h => h.elim
theorem sr.rev {N : List Nat} : ∀ {a : List AV} {A : List Value}, sr N a A → sr N a.reverse A.reverse
  | [], [], _ => by simp [sr]
  | _ :: _, _ :: _, h => by
    rw [List.reverse_cons, List.reverse_cons]
    exact sr.app (sr.rev h.2) ⟨h.1, trivial⟩
  | [], _ :: _, h => h.elim
  | _ :: _, [], h => h.elim
theorem sr.at {N : List Nat} : ∀ {a : List AV} {A : List Value} {k : Nat} {v : AV}, sr N a A → a[k]? = some v → ∃ V, A[k]? = some V ∧ vr N v V
  | _ :: _, V :: _, 0, _, h, q => by
    rw [List.getElem?_cons_zero] at q
    cases q
    exact ⟨V, rfl, h.1⟩
  | _ :: _, _ :: _, k + 1, _, h, q => by
    rw [List.getElem?_cons_succ] at q
    obtain ⟨V, h1, h2⟩ := sr.at h.2 q
    exact ⟨V, by rw [List.getElem?_cons_succ]; exact h1, h2⟩
  | [], _, k, _, _, q => by simp at q
  | _ :: _, [], _, _, h, _ => h.elim
theorem sr.set {N : List Nat} : ∀ {a : List AV} {A : List Value} (k : Nat) {v : AV} {V : Value}, sr N a A → vr N v V → sr N (a.set k v) (A.set k V)
  | [], [], k, _, _, _, _ => by simp [sr]
  | _ :: _, _ :: _, 0, _, _, h, q => ⟨q, h.2⟩
  | _ :: _, _ :: _, k + 1, _, _, h, q => ⟨h.1, sr.set k h.2 q⟩
  | [], _ :: _, _, _, _, h, _ => h.elim
  | _ :: _, [], _, _, _, h, _ => h.elim
theorem vr_cat {N : List Nat} {v : AV} {V : Value} (h : vr N v V) (hu : nU v = true) : (V.category = 2 ↔ ∃ z, v = aJ z) ∧ (V.category = 1 ↔ ¬ ∃ z, v = aJ z) := by
  match v, h with
  | Sum.inl z, ⟨x, h1, _⟩ => subst h1; simp [Value.category]
  | Sum.inr (Sum.inl z), ⟨x, h1, _⟩ => subst h1; simp [Value.category]
  | Sum.inr (Sum.inr (Sum.inl none)), h => cases h; simp [Value.category]
  | Sum.inr (Sum.inr (Sum.inl (some k))), ⟨a, h1, _⟩ => subst h1; simp [Value.category]
  | Sum.inr (Sum.inr (Sum.inr _)), _ => simp [nU] at hu
theorem cat_le (V : Value) : V.category ≤ 2 := by cases V <;> simp [Value.category]
theorem sr.wds {N : List Nat} : ∀ {a : List AV} {A : List Value}, sr N a A → (A.map fun v => v.category).sum ≤ wds a
  | [], [], _ => by simp
  | v :: t, V :: T, h => by
    have ih := sr.wds h.2
    rw [List.map_cons, List.sum_cons]
    match v, h.1 with
    | Sum.inl z, ⟨x, h1, _⟩ => subst h1; exact Nat.add_le_add (Nat.le_refl 1) ih
    | Sum.inr (Sum.inl z), ⟨x, h1, _⟩ => subst h1; exact Nat.add_le_add (Nat.le_refl 2) ih
    | Sum.inr (Sum.inr (Sum.inl none)), h => cases h; exact Nat.add_le_add (Nat.le_refl 1) ih
    | Sum.inr (Sum.inr (Sum.inl (some k))), ⟨a, h1, _⟩ => subst h1; exact Nat.add_le_add (Nat.le_refl 1) ih
    | Sum.inr (Sum.inr (Sum.inr _)), _ =>
      exact Nat.add_le_add (cat_le V) ih
  | [], _ :: _, h => h.elim
  | _ :: _, [], h => h.elim
theorem sto1_at : ∀ (al : List AV) (k : Nat) (v : AV) (i : Nat), (sto1 al k v)[i]? = if i = k then al[i]?.map (fun _ => v) else if i + 1 = k then al[i]?.map clr else al[i]?
  | [], k, v, i => by simp [sto1]
  | a :: t, 0, v, i => by
    rw [sto1]
    cases i with
    | zero => simp
    | succ i => simp
  | a :: t, 1, v, i => by
    rw [sto1]
    cases i with
    | zero => simp
    | succ i =>
      simp only [List.getElem?_cons_succ]
      by_cases h : i = 0
      · subst h
        cases t <;> simp
      · rw [List.getElem?_set_ne (Ne.symm h)]
        simp [h]
  | a :: t, k + 2, v, i => by
    rw [sto1]
    cases i with
    | zero => simp
    | succ i =>
      rw [List.getElem?_cons_succ, sto1_at t (k + 1) v i, List.getElem?_cons_succ]
      by_cases h1 : i = k + 1
      · rw [if_pos h1, if_pos (by omega)]
      · rw [if_neg h1, if_neg (show ¬ i + 1 = k + 2 by omega)]
        by_cases h2 : i + 1 = k + 1
        · rw [if_pos h2, if_pos (by omega)]
        · rw [if_neg h2, if_neg (by omega)]
theorem sto1_len : ∀ (al : List AV) (k : Nat) (v : AV), (sto1 al k v).length = al.length
  | [], _, _ => rfl
  | _ :: _, 0, _ => rfl
  | a :: t, 1, v => by rw [sto1]; simp
  | a :: t, k + 2, v => by rw [sto1]; simp [sto1_len t]
theorem clr_nU {v : AV} (h : clr v ≠ aU) : clr v = v ∧ ¬ ∃ z, v = aJ z := by
  match v, h with
  | Sum.inl z, _ => exact ⟨rfl, fun ⟨_, q⟩ => by cases q⟩
  | Sum.inr (Sum.inl z), h => exact absurd rfl h
  | Sum.inr (Sum.inr (Sum.inl r)), _ => exact ⟨rfl, fun ⟨_, q⟩ => by cases q⟩
  | Sum.inr (Sum.inr (Sum.inr _)), h => exact absurd rfl h
theorem nU_of {v : AV} (h : v ≠ aU) : nU v = true := by
  match v, h with
  | Sum.inl z, _ => rfl
  | Sum.inr (Sum.inl z), _ => rfl
  | Sum.inr (Sum.inr (Sum.inl r)), _ => rfl
  | Sum.inr (Sum.inr (Sum.inr _)), h => exact absurd rfl h
theorem lr.s1 {N : List Nat} {nL k : Nat} {al : List AV} {l : List (Nat × Value)} {v : AV} {V : Value} (h0 : al.length = nL) (h : ∀ (i : Nat) (v : AV), al[i]? = some v → v = aU ∨ ∃ V, (i, V) ∈ l ∧ vr N v V) (hk : k < al.length) (hv : vr N v V) {ls' : Array Slot} (h' : lv_has ls' nL ((k, V) :: l.filter (fun q => !(q.1 == k) && !(q.1 + 1 == k && q.2.category == 2)))) : lr N nL (sto1 al k v) ls' := by
  refine ⟨(sto1_len al k v).trans h0, _, h', fun i w hw => ?_⟩
  rw [sto1_at] at hw
  by_cases h1 : i = k
  · subst h1
    rw [if_pos rfl, List.getElem?_eq_getElem hk] at hw
    cases hw
    exact Or.inr ⟨V, List.mem_cons_self, hv⟩
  · rw [if_neg h1] at hw
    by_cases hu : w = aU
    · exact Or.inl hu
    · refine Or.inr ?_
      have key : al[i]? = some w ∧ (i + 1 = k → ¬ ∃ z, w = aJ z) := by
        by_cases h2 : i + 1 = k
        · rw [if_pos h2] at hw
          cases hx : al[i]? with
          | none => rw [hx] at hw; cases hw
          | some x =>
            rw [hx] at hw
            have hw : clr x = w := Option.some.inj hw
            have := clr_nU (v := x) (by rw [hw]; exact hu)
            rw [this.1] at hw
            subst hw
            exact ⟨rfl, fun _ => this.2⟩
        · rw [if_neg h2] at hw
          exact ⟨hw, fun q => absurd q h2⟩
      rcases h i w key.1 with q | ⟨U, hU, hV⟩
      · exact absurd q hu
      · refine ⟨U, List.mem_cons_of_mem _ (List.mem_filter.mpr ⟨hU, ?_⟩), hV⟩
        have hc := vr_cat hV (nU_of hu)
        simp only [Bool.and_eq_true, Bool.not_eq_true', beq_eq_false_iff_ne, ne_eq, Bool.and_eq_false_iff]
        refine ⟨h1, ?_⟩
        by_cases h2 : i + 1 = k
        · exact Or.inr fun q => key.2 h2 (hc.1.mp q)
        · exact Or.inl h2
theorem lr.s2 {N : List Nat} {nL k : Nat} {al : List AV} {l : List (Nat × Value)} {v : AV} {V : Value} (h0 : al.length = nL) (h : ∀ (i : Nat) (v : AV), al[i]? = some v → v = aU ∨ ∃ V, (i, V) ∈ l ∧ vr N v V) (hk : k + 1 < al.length) (hv : vr N v V) {ls' : Array Slot} (h' : lv_has ls' nL ((k, V) :: l.filter (fun q => !(q.1 == k) && (!(q.1 == k + 1) && !(q.1 + 1 == k && q.2.category == 2))))) : lr N nL (sto2 al k v) ls' := by
  refine ⟨by rw [sto2, List.length_set]; exact (sto1_len al k v).trans h0, _, h', fun i w hw => ?_⟩
  by_cases h3 : i = k + 1
  · subst h3
    rw [sto2, List.getElem?_set_self (by rw [sto1_len]; exact hk)] at hw
    cases hw
    exact Or.inl rfl
  · rw [sto2, List.getElem?_set_ne (Ne.symm h3), sto1_at] at hw
    by_cases h1 : i = k
    · subst h1
      rw [if_pos rfl, List.getElem?_eq_getElem (by omega)] at hw
      cases hw
      exact Or.inr ⟨V, List.mem_cons_self, hv⟩
    · rw [if_neg h1] at hw
      by_cases hu : w = aU
      · exact Or.inl hu
      · refine Or.inr ?_
        have key : al[i]? = some w ∧ (i + 1 = k → ¬ ∃ z, w = aJ z) := by
          by_cases h2 : i + 1 = k
          · rw [if_pos h2] at hw
            cases hx : al[i]? with
            | none => rw [hx] at hw; cases hw
            | some x =>
              rw [hx] at hw
              have hw : clr x = w := Option.some.inj hw
              have := clr_nU (v := x) (by rw [hw]; exact hu)
              rw [this.1] at hw
              subst hw
              exact ⟨rfl, fun _ => this.2⟩
          · rw [if_neg h2] at hw
            exact ⟨hw, fun q => absurd q h2⟩
        rcases h i w key.1 with q | ⟨U, hU, hV⟩
        · exact absurd q hu
        · refine ⟨U, List.mem_cons_of_mem _ (List.mem_filter.mpr ⟨hU, ?_⟩), hV⟩
          have hc := vr_cat hV (nU_of hu)
          simp only [Bool.and_eq_true, Bool.not_eq_true', beq_eq_false_iff_ne, ne_eq, Bool.and_eq_false_iff]
          refine ⟨h1, h3, ?_⟩
          by_cases h2 : i + 1 = k
          · exact Or.inr fun q => key.2 h2 (hc.1.mp q)
          · exact Or.inl h2
theorem lr.ld {N : List Nat} {nL k : Nat} {al : List AV} {ls : Array Slot} {v : AV} (h : lr N nL al ls) (hv : al[k]? = some v) (hu : v ≠ aU) : ∃ V, ls[k]? = some (.val V) ∧ vr N v V := by
  obtain ⟨h0, l, h1, h2⟩ := h
  rcases h2 k v hv with q | ⟨V, q1, q2⟩
  · exact absurd q hu
  · exact ⟨V, h1.2.2 (k, V) q1, q2⟩
theorem esl_len {N : List Nat} : ∀ {as : List AV} {A : List Value}, sr N as A → as.all nU = true → (esl as).length = (lg_sl A).length
  | [], [], _, _ => rfl
  | v :: t, V :: T, h, hu => by
    simp only [List.all_cons, Bool.and_eq_true] at hu
    have ih := esl_len h.2 hu.2
    have e : lg_sl (V :: T) = (if V.category = 2 then [Slot.val V, .second] else [.val V]) ++ lg_sl T := rfl
    rw [e, List.length_append]
    match v, h.1 with
    | Sum.inl z, ⟨x, h1, _⟩ => subst h1; simp only [esl, List.length_cons, ih, Value.category]; simp; omega
    | Sum.inr (Sum.inl z), ⟨x, h1, _⟩ => subst h1; simp only [esl, List.length_cons, ih, Value.category]; simp; omega
    | Sum.inr (Sum.inr (Sum.inl none)), h => cases h; simp only [esl, List.length_cons, ih, Value.category]; simp; omega
    | Sum.inr (Sum.inr (Sum.inl (some k))), ⟨a, h1, _⟩ => subst h1; simp only [esl, List.length_cons, ih, Value.category]; simp; omega
    | Sum.inr (Sum.inr (Sum.inr _)), _ => simp [nU] at hu
  | [], _ :: _, h, _ => h.elim
  | _ :: _, [], h, _ => h.elim
theorem esl_at {N : List Nat} : ∀ {as : List AV} {A : List Value} (i0 : Nat), sr N as A → as.all nU = true → ∀ (i : Nat) (v : AV), (esl as)[i]? = some v → v = aU ∨ ∃ V, (i0 + i, V) ∈ lv_args i0 A ∧ vr N v V
  | [], [], _, _, _, i, v, q => by simp [esl] at q
  | w :: t, W :: T, i0, h, hu, i, v, q => by
    simp only [List.all_cons, Bool.and_eq_true] at hu
    have one : ∀ (x : AV), (¬ W.category = 2) → vr N x W → (x :: esl t)[i]? = some v → v = aU ∨ ∃ V, (i0 + i, V) ∈ lv_args i0 (W :: T) ∧ vr N v V := by
      intro x hc hx q
      rw [lv_args, if_neg hc]
      cases i with
      | zero =>
        rw [List.getElem?_cons_zero] at q
        cases q
        exact Or.inr ⟨W, List.mem_cons_self, hx⟩
      | succ i =>
        rw [List.getElem?_cons_succ] at q
        rcases esl_at (i0 + 1) h.2 hu.2 i v q with z | ⟨V, z1, z2⟩
        · exact Or.inl z
        · exact Or.inr ⟨V, List.mem_cons_of_mem _ (by rw [show i0 + (i + 1) = i0 + 1 + i by omega]; exact z1), z2⟩
    match w, h.1, q with
    | Sum.inl z, h1, q =>
      refine one _ ?_ h1 q
      obtain ⟨x, h2, _⟩ := h1
      subst h2; simp [Value.category]
    | Sum.inr (Sum.inl z), h1, q =>
      have h9 := h1
      obtain ⟨x, h2, _⟩ := h1
      have hc : W.category = 2 := by subst h2; rfl
      rw [lv_args, if_pos hc]
      rw [esl] at q
      match i, q with
      | 0, q =>
        rw [List.getElem?_cons_zero] at q
        cases q
        exact Or.inr ⟨W, List.mem_cons_self, h9⟩
      | 1, q =>
        rw [List.getElem?_cons_succ, List.getElem?_cons_zero] at q
        cases q
        exact Or.inl rfl
      | i + 2, q =>
        rw [List.getElem?_cons_succ, List.getElem?_cons_succ] at q
        rcases esl_at (i0 + 2) h.2 hu.2 i v q with z | ⟨V, z1, z2⟩
        · exact Or.inl z
        · exact Or.inr ⟨V, List.mem_cons_of_mem _ (by rw [show i0 + (i + 2) = i0 + 2 + i by omega]; exact z1), z2⟩
    | Sum.inr (Sum.inr (Sum.inl none)), h1, q =>
      refine one _ ?_ h1 q
      cases h1; simp [Value.category]
    | Sum.inr (Sum.inr (Sum.inl (some k))), h1, q =>
      refine one _ ?_ h1 q
      obtain ⟨x, h2, _⟩ := h1
      subst h2; simp [Value.category]
    | Sum.inr (Sum.inr (Sum.inr _)), _, _ => simp [nU] at hu
  | [], _ :: _, _, h, _, _, _, _ => h.elim
  | _ :: _, [], _, h, _, _, _, _ => h.elim
theorem lr.entry {N : List Nat} {M : MI} {as : List AV} {A : List Value} (h : sr N as A) (hu : as.all nU = true) (hl : (esl as).length ≤ mL M) : (lg_sl A).length ≤ mL M ∧ lr N (mL M) (ent M as) ((lg_sl A ++ List.replicate (mL M - (lg_sl A).length) Slot.unset).toArray) := by
  have e := esl_len h hu
  have hA : (lg_sl A).length ≤ mL M := by rw [← e]; exact hl
  refine ⟨hA, ?_, _, lv_entry A hA, fun i v q => ?_⟩
  · rw [ent, List.length_append, List.length_replicate]; omega
  · rw [ent] at q
    by_cases hi : i < (esl as).length
    · rw [List.getElem?_append_left hi] at q
      rcases esl_at 0 h hu i v q with z | ⟨V, z1, z2⟩
      · exact Or.inl z
      · exact Or.inr ⟨V, by rw [Nat.zero_add] at z1; exact z1, z2⟩
    · rw [List.getElem?_append_right (by omega), List.getElem?_replicate] at q
      split at q
      · cases q; exact Or.inl rfl
      · cases q
theorem KN.call {U : State} {g : JFrame} {mk : MethodId} {a : Array Value} (h : KN U) : KN (U.calling g mk a) := by
  obtain ⟨h1, h2, h3, h4, h5⟩ := h
  refine ⟨fun w hw => ?_, fun w hw => ?_, va_AO.moved (Vm.Alike.refl U.vm) h3, va_AO.moved (Vm.Alike.refl U.vm) h4, va_AO.moved (Vm.Alike.refl U.vm) h5⟩
  · have := h1 w hw
    simp only [nwF, List.mem_cons, List.not_mem_nil, or_false] at hw
    rcases hw with rfl | rfl | rfl | rfl | rfl | rfl | rfl | rfl | rfl | rfl | rfl | rfl <;> exact va_Nw.same rfl rfl this
  · have := h2 w hw
    simp only [nwM, List.mem_cons, List.not_mem_nil, or_false] at hw
    rcases hw with rfl | rfl | rfl | rfl <;> exact va_Nw.same rfl rfl this
theorem KN.warm {s U : State} (hW : s.WarmedH U.vm) (h : KN s) : KN U := by
  obtain ⟨h1, h2, h3, h4, h5⟩ := h
  refine ⟨fun w hw => ?_, fun w hw => ?_, va_AO.moved hW.alike h3, va_AO.moved hW.alike h4, va_AO.moved hW.alike h5⟩
  · have := h1 w hw
    simp only [nwF, List.mem_cons, List.not_mem_nil, or_false] at hw
    rcases hw with rfl | rfl | rfl | rfl | rfl | rfl | rfl | rfl | rfl | rfl | rfl | rfl <;> exact va_Nw.warmF hW this
  · have := h2 w hw
    simp only [nwM, List.mem_cons, List.not_mem_nil, or_false] at hw
    rcases hw with rfl | rfl | rfl | rfl <;> exact va_Nw.warmM hW this
end
section

/-! ===== handler by handler ===== -/
theorem w32_t (x : Int) : x.bmod (2 ^ 32) = w32 x := by
  rw [Int.bmod_def, w32]; simp only [show ((2 ^ 32 : Nat) : Int) = 4294967296 from rfl]; split <;> omega
theorem w64_t (x : Int) : x.bmod (2 ^ 64) = w64 x := by
  rw [Int.bmod_def, w64]; simp only [show ((2 ^ 64 : Nat) : Int) = 18446744073709551616 from rfl]; split <;> omega
theorem w8_t (x : Int) : x.bmod (2 ^ 8) = w8 x := by
  rw [Int.bmod_def, w8]; simp only [show ((2 ^ 8 : Nat) : Int) = 256 from rfl]; split <;> omega
theorem w16_t (x : Int) : x.bmod (2 ^ 16) = w16 x := by
  rw [Int.bmod_def, w16]; simp only [show ((2 ^ 16 : Nat) : Int) = 65536 from rfl]; split <;> omega
theorem w32_in {x : Int} (h1 : -2147483648 ≤ x) (h2 : x ≤ 2147483647) : w32 x = x := by unfold w32; omega
theorem w64_in {x : Int} (h1 : -9223372036854775808 ≤ x) (h2 : x ≤ 9223372036854775807) : w64 x = x := by unfold w64; omega
theorem i32_of {z : Int} (h1 : -2147483648 ≤ z) (h2 : z ≤ 2147483647) : (Int32.ofInt z).toInt = z := by
  rw [Int32.toInt_ofInt, w32_t, w32_in h1 h2]
theorem i64_of {z : Int} (h1 : -9223372036854775808 ≤ z) (h2 : z ≤ 9223372036854775807) : (Int64.ofInt z).toInt = z := by
  rw [Int64.toInt_ofInt, w64_t, w64_in h1 h2]
theorem i32_b (x : Int32) : -2147483648 ≤ x.toInt ∧ x.toInt ≤ 2147483647 := by
  have a := x.le_toInt
  have b := x.toInt_lt
  omega
theorem i64_b (x : Int64) : -9223372036854775808 ≤ x.toInt ∧ x.toInt ≤ 9223372036854775807 := by
  have a := x.le_toInt
  have b := x.toInt_lt
  omega
theorem i32_self (x : Int32) : Int32.ofInt x.toInt = x := by simp
theorem i64_self (x : Int64) : Int64.ofInt x.toInt = x := by simp
theorem e_add (x y : Int32) : w32 (x.toInt + y.toInt) = (x + y).toInt := by rw [Int32.toInt_add, w32_t]
theorem e_sub (x y : Int32) : w32 (x.toInt - y.toInt) = (x - y).toInt := by rw [Int32.toInt_sub, w32_t]
theorem e_mul (x y : Int32) : w32 (x.toInt * y.toInt) = (x * y).toInt := by rw [Int32.toInt_mul, w32_t]
theorem e_neg (x : Int32) : w32 (-x.toInt) = (-x).toInt := by rw [Int32.toInt_neg, w32_t]
theorem e_div (x y : Int32) : w32 (x.toInt.tdiv y.toInt) = (x / y).toInt := by rw [Int32.toInt_div, w32_t]
theorem e_addJ (x y : Int64) : w64 (x.toInt + y.toInt) = (x + y).toInt := by rw [Int64.toInt_add, w64_t]
theorem e_subJ (x y : Int64) : w64 (x.toInt - y.toInt) = (x - y).toInt := by rw [Int64.toInt_sub, w64_t]
theorem e_mulJ (x y : Int64) : w64 (x.toInt * y.toInt) = (x * y).toInt := by rw [Int64.toInt_mul, w64_t]
theorem e_negJ (x : Int64) : w64 (-x.toInt) = (-x).toInt := by rw [Int64.toInt_neg, w64_t]
theorem e_divJ (x y : Int64) : w64 (x.toInt.tdiv y.toInt) = (x / y).toInt := by rw [Int64.toInt_div, w64_t]
theorem tmod_lt' (a b : Int) : a.tmod b = a - a.tdiv b * b := by
  have := Int.tmod_add_tdiv_mul a b
  omega
theorem tmod_abs (a b : Int) : (0 ≤ a → 0 ≤ a.tmod b ∧ a.tmod b ≤ a) ∧ (a ≤ 0 → a ≤ a.tmod b ∧ a.tmod b ≤ 0) := by
  have pos : ∀ a : Int, 0 ≤ a → 0 ≤ a.tmod b ∧ a.tmod b ≤ a := by
    intro a h
    obtain ⟨n, rfl⟩ := Int.eq_ofNat_of_zero_le h
    rcases Int.natAbs_eq b with e | e
    · rw [e, show (n : Int).tmod (b.natAbs : Int) = ((n % b.natAbs : Nat) : Int) from rfl]
      have := Nat.mod_le n b.natAbs
      omega
    · rw [e, Int.tmod_neg, show (n : Int).tmod (b.natAbs : Int) = ((n % b.natAbs : Nat) : Int) from rfl]
      have := Nat.mod_le n b.natAbs
      omega
  refine ⟨pos a, fun h => ?_⟩
  have := pos (-a) (by omega)
  rw [Int.neg_tmod] at this
  omega
theorem e_rem (x y : Int32) : x.toInt.tmod y.toInt = (x - x / y * y).toInt := by
  have hb := i32_b x
  have h := tmod_abs x.toInt y.toInt
  have e : (x - x / y * y).toInt = w32 (x.toInt.tmod y.toInt) := by
    rw [Int32.toInt_sub, Int32.toInt_mul, Int32.toInt_div, Int.sub_bmod_bmod, ← w32_t, tmod_lt']
    rw [Int.bmod_def (x := x.toInt - _), Int.bmod_def (x := x.toInt - _)]
    have k : (x.toInt - (x.toInt.tdiv y.toInt).bmod (2 ^ 32) * y.toInt) % ((2 ^ 32 : Nat) : Int) = (x.toInt - x.toInt.tdiv y.toInt * y.toInt) % ((2 ^ 32 : Nat) : Int) := by
      rw [Int.sub_emod, Int.sub_emod x.toInt (x.toInt.tdiv y.toInt * y.toInt)]
      congr 2
      rw [Int.mul_emod, Int.mul_emod (x.toInt.tdiv y.toInt), Int.bmod_emod]
    rw [k]
  rw [e]
  refine (w32_in ?_ ?_).symm
  · rcases Int.le_total 0 x.toInt with z | z
    · have := h.1 z; omega
    · have := h.2 z; omega
  · rcases Int.le_total 0 x.toInt with z | z
    · have := h.1 z; omega
    · have := h.2 z; omega
theorem e_remJ (x y : Int64) : x.toInt.tmod y.toInt = (x - x / y * y).toInt := by
  have hb := i64_b x
  have h := tmod_abs x.toInt y.toInt
  have e : (x - x / y * y).toInt = w64 (x.toInt.tmod y.toInt) := by
    rw [Int64.toInt_sub, Int64.toInt_mul, Int64.toInt_div, Int.sub_bmod_bmod, ← w64_t, tmod_lt']
    rw [Int.bmod_def (x := x.toInt - _), Int.bmod_def (x := x.toInt - _)]
    have k : (x.toInt - (x.toInt.tdiv y.toInt).bmod (2 ^ 64) * y.toInt) % ((2 ^ 64 : Nat) : Int) = (x.toInt - x.toInt.tdiv y.toInt * y.toInt) % ((2 ^ 64 : Nat) : Int) := by
      rw [Int.sub_emod, Int.sub_emod x.toInt (x.toInt.tdiv y.toInt * y.toInt)]
      congr 2
      rw [Int.mul_emod, Int.mul_emod (x.toInt.tdiv y.toInt), Int.bmod_emod]
    rw [k]
  rw [e]
  refine (w64_in ?_ ?_).symm
  · rcases Int.le_total 0 x.toInt with z | z
    · have := h.1 z; omega
    · have := h.2 z; omega
  · rcases Int.le_total 0 x.toInt with z | z
    · have := h.1 z; omega
    · have := h.2 z; omega
theorem e_i2l (x : Int32) : x.toInt = x.toInt64.toInt := by simp
theorem e_l2i (x : Int64) : w32 x.toInt = x.toInt32.toInt := by rw [Int64.toInt_toInt32, w32_t]
theorem e_i2b (x : Int32) : w8 x.toInt = x.toInt8.toInt32.toInt := by rw [lg_i2b_toInt, w8_t]
theorem e_i2s (x : Int32) : w16 x.toInt = x.toInt16.toInt32.toInt := by rw [Int16.toInt_toInt32, Int32.toInt_toInt16, w16_t]
theorem e_cmp (x y : Int64) : fCmp x.toInt y.toInt = (lg_cmp x y).toInt := by
  unfold fCmp lg_cmp
  simp only [gt_iff_lt, Int64.lt_iff_toInt_lt, ← Int64.toInt_inj]
  split
  · rfl
  · split <;> rfl
theorem e_cnd (c : Jvm.ClassFile.Cond) (x y : Int32) : (c = .eq → (cnd c x.toInt y.toInt = true ↔ x = y)) ∧ (c = .ne → (cnd c x.toInt y.toInt = true ↔ ¬ x = y)) ∧ (c = .lt → (cnd c x.toInt y.toInt = true ↔ x < y)) ∧ (c = .ge → (cnd c x.toInt y.toInt = true ↔ y ≤ x)) ∧ (c = .gt → (cnd c x.toInt y.toInt = true ↔ y < x)) ∧ (c = .le → (cnd c x.toInt y.toInt = true ↔ x ≤ y)) := by
  refine ⟨?_, ?_, ?_, ?_, ?_, ?_⟩ <;> (intro h; subst h; simp only [cnd, decide_eq_true_eq, Int32.lt_iff_toInt_lt, Int32.le_iff_toInt_le, ← Int32.toInt_inj])
theorem q1_of {n k : Nat} {y : Option SR} {x : SR} (h : q1 n k y = some x) : n = k ∧ y = some x := by
  unfold q1 at h
  cases hb : Nat.beq n k with
  | true => rw [hb] at h; exact ⟨Nat.eq_of_beq_eq_true hb, h⟩
  | false => rw [hb] at h; cases h
theorem tg_of {pc t : Nat} {off : Int} (h : tg pc off = some t) : (pc : Int) + off = (t : Int) := by
  unfold tg at h
  split at h
  · cases h; omega
  · cases h
theorem if_t0 {cc : Jvm.ClassFile.Cond} {off a : Int} {pc : Nat} {al st : List AV} {h : AH} {x : SR} (q : hIf cc off pc al (Sum.inl a :: st) h = some x) : ∃ t0 : Nat, (pc : Int) + off = (t0 : Int) ∧ (bif cnd cc a 0 then gS t0 al st h else gS (pc + 3) al st h) = some x := by
  unfold hIf at q
  cases htg : tg pc off with
  | none => rw [htg] at q; cases q
  | some t => rw [htg] at q; exact ⟨t, tg_of htg, q⟩
theorem cmp_t0 {cc : Jvm.ClassFile.Cond} {off a b : Int} {pc : Nat} {al st : List AV} {h : AH} {x : SR} (q : hCmp cc off pc al (Sum.inl b :: Sum.inl a :: st) h = some x) : ∃ t0 : Nat, (pc : Int) + off = (t0 : Int) ∧ (bif cnd cc a b then gS t0 al st h else gS (pc + 3) al st h) = some x := by
  unfold hCmp at q
  cases htg : tg pc off with
  | none => rw [htg] at q; cases q
  | some t => rw [htg] at q; exact ⟨t, tg_of htg, q⟩
theorem bif_of {b : Bool} {y : Option SR} {x : SR} (h : (bif b then y else none) = some x) : b = true ∧ y = some x := by
  cases b with
  | true => exact ⟨rfl, h⟩
  | false => cases h
theorem ite_of {c : Prop} [Decidable c] {y : Option SR} {x : SR} (h : (if c then y else none) = some x) : c ∧ y = some x := by
  split at h
  · exact ⟨‹_›, h⟩
  · cases h


section SND
variable {p : Program} {l : Launch} {e : Env} {R : Room} {s : State} {m : MethodId} {args : Array Value} {below : List Frame} {meth : Method} {c : Code} {Q : State → Prop} {D : va_G} {A : Nat → Prop} {H0 : Heap} {N0 : List Nat} {n0 m0 : Nat} {M : MI}
/-- the machine, at a point that stands for this one of the number machine, comes to a state with Q -/
def WX (p : Program) (l : Launch) (e : Env) (R : Room) (s : State) (m : MethodId) (args : Array Value) (below : List Frame) (meth : Method) (c : Code) (Q : State → Prop) (D : va_G) (A : Nat → Prop) (H0 : Heap) (N0 : List Nat) (n0 m0 : Nat) (M : MI) (pc : Nat) (al st : List AV) (h : AH) : Prop :=
  ∀ (tys : List (ClassId × FieldType)) (ws : va_W) (H : Heap) (locs : List Loc) (cells slots : Nat) (ls : Array Slot) (rst : List Value),
    va_K D vwA tys s → hr tys ws h → px N0 (nu ws) → va_P D vwA ws H → va_D A ws → va_S A H0 H locs → lr (nu ws) (mL M) al ls → sr (nu ws) st rst → cells + n0 ≤ h.length → slots + m0 ≤ slt h →
    W p l e R s m args below meth c H locs cells slots Q (F0 m pc ls rst)
/-- what holds all along a method -/
def CX (p : Program) (R : Room) (s : State) (m : MethodId) (args : Array Value) (meth : Method) (c : Code) (A : Nat → Prop) (H0 : Heap) (M : MI) : Prop :=
  p.tables.exec = Jvm.exec ∧ c.code = mC M ∧ c.maxLocals = mL M ∧ meth.sig.returnType = mT M ∧ s.vm.findClass (clsN (mK M)) = some m.cls ∧ (∀ w ∈ wAll, w.before args s = true) ∧ meth.locks = false ∧ meth.name = (mY M).name ∧ KN s ∧ mR M ≤ R.frames ∧ mW M ≤ R.locals ∧ (∀ q, H0.size ≤ q → A q)
theorem s_go {pc1 : Nat} {al1 st1 : List AV} {h1 : AH} {x : SR} (hq : gS pc1 al1 st1 h1 = some x) (hk : ∀ pc' al' st' h', x = Sum.inl (pc', al', st', h') → WX p l e R s m args below meth c Q D A H0 N0 n0 m0 M pc' al' st' h') : WX p l e R s m args below meth c Q D A H0 N0 n0 m0 M pc1 al1 st1 h1 := hk pc1 al1 st1 h1 (Option.some.inj hq).symm

theorem s_B32 (C : CX p R s m args meth c A H0 M) {pc : Nat} {al st : List AV} {h : AH} {x : SR} {f : Int → Int → Int} {F : Int32 → Int32 → Int32} (hf : ∀ x y : Int32, f x.toInt y.toInt = (F x y).toInt) (row : ∀ {H : Heap} {locs : List Loc} {cells slots : Nat} {ls : Array Slot} {rest : List Value} {x y : Int32},  W p l e R s m args below meth c H locs cells slots Q (F0 m (pc + 1) ls (.int (F x y) :: rest)) → W p l e R s m args below meth c H locs cells slots Q (F0 m pc ls (.int y :: .int x :: rest))) (hst : hB32 f pc al st h = some x) (hk : ∀ pc' al' st' h', x = Sum.inl (pc', al', st', h') → WX p l e R s m args below meth c Q D A H0 N0 n0 m0 M pc' al' st' h') : WX p l e R s m args below meth c Q D A H0 N0 n0 m0 M pc al st h := by
  obtain ⟨hx, hb, hml, hrt, hown, hts, hlo, hnm, hkn, hRf, hRl, hA⟩ := C
  match st, hst with
  | Sum.inl b :: Sum.inl a :: st', hst =>
    have k := s_go hst hk
    intro tys ws H locs cells slots ls rst hK hh hpx hP hD hS hl hs hc1 hc2
    match rst, hs with
    | Y :: Z :: T, ⟨⟨y, hy, ey⟩, ⟨z, hz, ez⟩, hT⟩ =>
      subst hy; subst hz
      exact row  (k tys ws H locs cells slots ls _ hK hh hpx hP hD hS hl ⟨⟨_, rfl, by rw [ey, ez]; exact hf _ _⟩, hT⟩ hc1 hc2)
    | [_], h => exact h.2.elim
    | [], h => exact h.elim

theorem s_B64 (C : CX p R s m args meth c A H0 M) {pc : Nat} {al st : List AV} {h : AH} {x : SR} {f : Int → Int → Int} {F : Int64 → Int64 → Int64} (hf : ∀ x y : Int64, f x.toInt y.toInt = (F x y).toInt) (row : ∀ {H : Heap} {locs : List Loc} {cells slots : Nat} {ls : Array Slot} {rest : List Value} {x y : Int64},  W p l e R s m args below meth c H locs cells slots Q (F0 m (pc + 1) ls (.long (F x y) :: rest)) → W p l e R s m args below meth c H locs cells slots Q (F0 m pc ls (.long y :: .long x :: rest))) (hst : hB64 f pc al st h = some x) (hk : ∀ pc' al' st' h', x = Sum.inl (pc', al', st', h') → WX p l e R s m args below meth c Q D A H0 N0 n0 m0 M pc' al' st' h') : WX p l e R s m args below meth c Q D A H0 N0 n0 m0 M pc al st h := by
  obtain ⟨hx, hb, hml, hrt, hown, hts, hlo, hnm, hkn, hRf, hRl, hA⟩ := C
  match st, hst with
  | Sum.inr (Sum.inl b) :: Sum.inr (Sum.inl a) :: st', hst =>
    have k := s_go hst hk
    intro tys ws H locs cells slots ls rst hK hh hpx hP hD hS hl hs hc1 hc2
    match rst, hs with
    | Y :: Z :: T, ⟨⟨y, hy, ey⟩, ⟨z, hz, ez⟩, hT⟩ =>
      subst hy; subst hz
      exact row  (k tys ws H locs cells slots ls _ hK hh hpx hP hD hS hl ⟨⟨_, rfl, by rw [ey, ez]; exact hf _ _⟩, hT⟩ hc1 hc2)
    | [_], h => exact h.2.elim
    | [], h => exact h.elim

theorem s_D32 (C : CX p R s m args meth c A H0 M) {pc : Nat} {al st : List AV} {h : AH} {x : SR} {f : Int → Int → Int} {F : Int32 → Int32 → Int32} (hf : ∀ x y : Int32, f x.toInt y.toInt = (F x y).toInt) (row : ∀ {H : Heap} {locs : List Loc} {cells slots : Nat} {ls : Array Slot} {rest : List Value} {x y : Int32}, ¬ y = 0 → W p l e R s m args below meth c H locs cells slots Q (F0 m (pc + 1) ls (.int (F x y) :: rest)) → W p l e R s m args below meth c H locs cells slots Q (F0 m pc ls (.int y :: .int x :: rest))) (hst : hD32 f pc al st h = some x) (hk : ∀ pc' al' st' h', x = Sum.inl (pc', al', st', h') → WX p l e R s m args below meth c Q D A H0 N0 n0 m0 M pc' al' st' h') : WX p l e R s m args below meth c Q D A H0 N0 n0 m0 M pc al st h := by
  obtain ⟨hx, hb, hml, hrt, hown, hts, hlo, hnm, hkn, hRf, hRl, hA⟩ := C
  match st, hst with
  | Sum.inl b :: Sum.inl a :: st', hst =>
    obtain ⟨hb0, hst⟩ : ¬ b = 0 ∧ gS (pc + 1) al (aI (f a b) :: st') h = some x := by
      unfold hD32 at hst
      simp only at hst
      split at hst
      · cases hst
      · exact ⟨‹_›, hst⟩
    have k := s_go hst hk
    intro tys ws H locs cells slots ls rst hK hh hpx hP hD hS hl hs hc1 hc2
    match rst, hs with
    | Y :: Z :: T, ⟨⟨y, hy, ey⟩, ⟨z, hz, ez⟩, hT⟩ =>
      subst hy; subst hz
      exact row (fun z0 => hb0 (by rw [ey, z0]; rfl)) (k tys ws H locs cells slots ls _ hK hh hpx hP hD hS hl ⟨⟨_, rfl, by rw [ey, ez]; exact hf _ _⟩, hT⟩ hc1 hc2)
    | [_], h => exact h.2.elim
    | [], h => exact h.elim

theorem s_D64 (C : CX p R s m args meth c A H0 M) {pc : Nat} {al st : List AV} {h : AH} {x : SR} {f : Int → Int → Int} {F : Int64 → Int64 → Int64} (hf : ∀ x y : Int64, f x.toInt y.toInt = (F x y).toInt) (row : ∀ {H : Heap} {locs : List Loc} {cells slots : Nat} {ls : Array Slot} {rest : List Value} {x y : Int64}, ¬ y = 0 → W p l e R s m args below meth c H locs cells slots Q (F0 m (pc + 1) ls (.long (F x y) :: rest)) → W p l e R s m args below meth c H locs cells slots Q (F0 m pc ls (.long y :: .long x :: rest))) (hst : hD64 f pc al st h = some x) (hk : ∀ pc' al' st' h', x = Sum.inl (pc', al', st', h') → WX p l e R s m args below meth c Q D A H0 N0 n0 m0 M pc' al' st' h') : WX p l e R s m args below meth c Q D A H0 N0 n0 m0 M pc al st h := by
  obtain ⟨hx, hb, hml, hrt, hown, hts, hlo, hnm, hkn, hRf, hRl, hA⟩ := C
  match st, hst with
  | Sum.inr (Sum.inl b) :: Sum.inr (Sum.inl a) :: st', hst =>
    obtain ⟨hb0, hst⟩ : ¬ b = 0 ∧ gS (pc + 1) al (aJ (f a b) :: st') h = some x := by
      unfold hD64 at hst
      simp only at hst
      split at hst
      · cases hst
      · exact ⟨‹_›, hst⟩
    have k := s_go hst hk
    intro tys ws H locs cells slots ls rst hK hh hpx hP hD hS hl hs hc1 hc2
    match rst, hs with
    | Y :: Z :: T, ⟨⟨y, hy, ey⟩, ⟨z, hz, ez⟩, hT⟩ =>
      subst hy; subst hz
      exact row (fun z0 => hb0 (by rw [ey, z0]; rfl)) (k tys ws H locs cells slots ls _ hK hh hpx hP hD hS hl ⟨⟨_, rfl, by rw [ey, ez]; exact hf _ _⟩, hT⟩ hc1 hc2)
    | [_], h => exact h.2.elim
    | [], h => exact h.elim

theorem s_U32 (C : CX p R s m args meth c A H0 M) {pc : Nat} {al st : List AV} {h : AH} {x : SR} {f : Int → AV} {F : Int32 → Value} (hf : ∀ (N : List Nat) (y : Int32), vr N (f y.toInt) (F y)) (row : ∀ {H : Heap} {locs : List Loc} {cells slots : Nat} {ls : Array Slot} {rest : List Value} {y : Int32}, W p l e R s m args below meth c H locs cells slots Q (F0 m (pc + 1) ls (F y :: rest)) → W p l e R s m args below meth c H locs cells slots Q (F0 m pc ls (.int y :: rest))) (hst : hU32 f pc al st h = some x) (hk : ∀ pc' al' st' h', x = Sum.inl (pc', al', st', h') → WX p l e R s m args below meth c Q D A H0 N0 n0 m0 M pc' al' st' h') : WX p l e R s m args below meth c Q D A H0 N0 n0 m0 M pc al st h := by
  obtain ⟨hx, hb, hml, hrt, hown, hts, hlo, hnm, hkn, hRf, hRl, hA⟩ := C
  match st, hst with
  | Sum.inl a :: st', hst =>
    have k := s_go hst hk
    intro tys ws H locs cells slots ls rst hK hh hpx hP hD hS hl hs hc1 hc2
    match rst, hs with
    | Y :: T, ⟨⟨y, hy, ey⟩, hT⟩ =>
      subst hy
      exact row (k tys ws H locs cells slots ls _ hK hh hpx hP hD hS hl ⟨by rw [ey]; exact hf _ _, hT⟩ hc1 hc2)
    | [], h => exact h.elim

theorem s_U64 (C : CX p R s m args meth c A H0 M) {pc : Nat} {al st : List AV} {h : AH} {x : SR} {f : Int → AV} {F : Int64 → Value} (hf : ∀ (N : List Nat) (y : Int64), vr N (f y.toInt) (F y)) (row : ∀ {H : Heap} {locs : List Loc} {cells slots : Nat} {ls : Array Slot} {rest : List Value} {y : Int64}, W p l e R s m args below meth c H locs cells slots Q (F0 m (pc + 1) ls (F y :: rest)) → W p l e R s m args below meth c H locs cells slots Q (F0 m pc ls (.long y :: rest))) (hst : hU64 f pc al st h = some x) (hk : ∀ pc' al' st' h', x = Sum.inl (pc', al', st', h') → WX p l e R s m args below meth c Q D A H0 N0 n0 m0 M pc' al' st' h') : WX p l e R s m args below meth c Q D A H0 N0 n0 m0 M pc al st h := by
  obtain ⟨hx, hb, hml, hrt, hown, hts, hlo, hnm, hkn, hRf, hRl, hA⟩ := C
  match st, hst with
  | Sum.inr (Sum.inl a) :: st', hst =>
    have k := s_go hst hk
    intro tys ws H locs cells slots ls rst hK hh hpx hP hD hS hl hs hc1 hc2
    match rst, hs with
    | Y :: T, ⟨⟨y, hy, ey⟩, hT⟩ =>
      subst hy
      exact row (k tys ws H locs cells slots ls _ hK hh hpx hP hD hS hl ⟨by rw [ey]; exact hf _ _, hT⟩ hc1 hc2)
    | [], h => exact h.elim

theorem s_push (C : CX p R s m args meth c A H0 M) {pc : Nat} {al st : List AV} {h : AH} {x : SR} {v : AV} {V : Value} {n : Nat} (hv : ∀ N : List Nat, vr N v V) (row : ∀ {H : Heap} {locs : List Loc} {cells slots : Nat} {ls : Array Slot} {rest : List Value}, W p l e R s m args below meth c H locs cells slots Q (F0 m (pc + n) ls (V :: rest)) → W p l e R s m args below meth c H locs cells slots Q (F0 m pc ls rest)) (hst : gS (pc + n) al (v :: st) h = some x) (hk : ∀ pc' al' st' h', x = Sum.inl (pc', al', st', h') → WX p l e R s m args below meth c Q D A H0 N0 n0 m0 M pc' al' st' h') : WX p l e R s m args below meth c Q D A H0 N0 n0 m0 M pc al st h := by
  obtain ⟨hx, hb, hml, hrt, hown, hts, hlo, hnm, hkn, hRf, hRl, hA⟩ := C
  have k := s_go hst hk
  intro tys ws H locs cells slots ls rst hK hh hpx hP hD hS hl hs hc1 hc2
  exact row (k tys ws H locs cells slots ls _ hK hh hpx hP hD hS hl ⟨hv _, hs⟩ hc1 hc2)

theorem s_LI (C : CX p R s m args meth c A H0 M) {pc : Nat} {al st : List AV} {h : AH} {x : SR} {k n : Nat} (row : ∀ {H : Heap} {locs : List Loc} {cells slots : Nat} {ls : Array Slot} {rest : List Value} {x : Int32}, ls[k]? = some (.val (.int x)) → W p l e R s m args below meth c H locs cells slots Q (F0 m (pc + n) ls (.int x :: rest)) → W p l e R s m args below meth c H locs cells slots Q (F0 m pc ls rest)) (hst : hLI k n pc al st h = some x) (hk : ∀ pc' al' st' h', x = Sum.inl (pc', al', st', h') → WX p l e R s m args below meth c Q D A H0 N0 n0 m0 M pc' al' st' h') : WX p l e R s m args below meth c Q D A H0 N0 n0 m0 M pc al st h := by
  obtain ⟨hx, hb, hml, hrt, hown, hts, hlo, hnm, hkn, hRf, hRl, hA⟩ := C
  unfold hLI at hst
  cases hv : al[k]? with
  | none => rw [hv] at hst; cases hst
  | some v =>
    rw [hv] at hst
    match v, hv, hst with
    | Sum.inl z, hv, hst =>
      have kk := s_go hst hk
      intro tys ws H locs cells slots ls rst hK hh hpx hP hD hS hl hs hc1 hc2
      obtain ⟨V, h1, ⟨y, hy, ey⟩⟩ := hl.ld hv (fun q => by cases q)
      subst hy
      exact row h1 (kk tys ws H locs cells slots ls _ hK hh hpx hP hD hS hl ⟨⟨y, rfl, ey⟩, hs⟩ hc1 hc2)

theorem s_LJ (C : CX p R s m args meth c A H0 M) {pc : Nat} {al st : List AV} {h : AH} {x : SR} {k n : Nat} (row : ∀ {H : Heap} {locs : List Loc} {cells slots : Nat} {ls : Array Slot} {rest : List Value} {x : Int64}, ls[k]? = some (.val (.long x)) → W p l e R s m args below meth c H locs cells slots Q (F0 m (pc + n) ls (.long x :: rest)) → W p l e R s m args below meth c H locs cells slots Q (F0 m pc ls rest)) (hst : hLJ k n pc al st h = some x) (hk : ∀ pc' al' st' h', x = Sum.inl (pc', al', st', h') → WX p l e R s m args below meth c Q D A H0 N0 n0 m0 M pc' al' st' h') : WX p l e R s m args below meth c Q D A H0 N0 n0 m0 M pc al st h := by
  obtain ⟨hx, hb, hml, hrt, hown, hts, hlo, hnm, hkn, hRf, hRl, hA⟩ := C
  unfold hLJ at hst
  cases hv : al[k]? with
  | none => rw [hv] at hst; cases hst
  | some v =>
    rw [hv] at hst
    match v, hv, hst with
    | Sum.inr (Sum.inl z), hv, hst =>
      have kk := s_go hst hk
      intro tys ws H locs cells slots ls rst hK hh hpx hP hD hS hl hs hc1 hc2
      obtain ⟨V, h1, ⟨y, hy, ey⟩⟩ := hl.ld hv (fun q => by cases q)
      subst hy
      exact row h1 (kk tys ws H locs cells slots ls _ hK hh hpx hP hD hS hl ⟨⟨y, rfl, ey⟩, hs⟩ hc1 hc2)

theorem s_LR (C : CX p R s m args meth c A H0 M) {pc : Nat} {al st : List AV} {h : AH} {x : SR} {k n : Nat} (row : ∀ {H : Heap} {locs : List Loc} {cells slots : Nat} {ls : Array Slot} {rest : List Value} {x : Nat}, ls[k]? = some (.val (.ref x)) → W p l e R s m args below meth c H locs cells slots Q (F0 m (pc + n) ls (.ref x :: rest)) → W p l e R s m args below meth c H locs cells slots Q (F0 m pc ls rest)) (rowN : ∀ {H : Heap} {locs : List Loc} {cells slots : Nat} {ls : Array Slot} {rest : List Value}, ls[k]? = some (.val .null) → W p l e R s m args below meth c H locs cells slots Q (F0 m (pc + n) ls (.null :: rest)) → W p l e R s m args below meth c H locs cells slots Q (F0 m pc ls rest)) (hst : hLR k n pc al st h = some x) (hk : ∀ pc' al' st' h', x = Sum.inl (pc', al', st', h') → WX p l e R s m args below meth c Q D A H0 N0 n0 m0 M pc' al' st' h') : WX p l e R s m args below meth c Q D A H0 N0 n0 m0 M pc al st h := by
  obtain ⟨hx, hb, hml, hrt, hown, hts, hlo, hnm, hkn, hRf, hRl, hA⟩ := C
  unfold hLR at hst
  cases hv : al[k]? with
  | none => rw [hv] at hst; cases hst
  | some v =>
    rw [hv] at hst
    match v, hv, hst with
    | Sum.inr (Sum.inr (Sum.inl none)), hv, hst =>
      have kk := s_go hst hk
      intro tys ws H locs cells slots ls rst hK hh hpx hP hD hS hl hs hc1 hc2
      obtain ⟨V, h1, hy⟩ := hl.ld hv (fun q => by cases q)
      cases hy
      exact rowN h1 (kk tys ws H locs cells slots ls _ hK hh hpx hP hD hS hl ⟨rfl, hs⟩ hc1 hc2)
    | Sum.inr (Sum.inr (Sum.inl (some r))), hv, hst =>
      have kk := s_go hst hk
      intro tys ws H locs cells slots ls rst hK hh hpx hP hD hS hl hs hc1 hc2
      obtain ⟨V, h1, ⟨y, hy, ey⟩⟩ := hl.ld hv (fun q => by cases q)
      subst hy
      exact row h1 (kk tys ws H locs cells slots ls _ hK hh hpx hP hD hS hl ⟨⟨y, rfl, ey⟩, hs⟩ hc1 hc2)

theorem s_SI (C : CX p R s m args meth c A H0 M) {pc : Nat} {al st : List AV} {h : AH} {x : SR} {k n : Nat} (row : ∀ {H : Heap} {locs : List Loc} {cells slots : Nat} {ls : Array Slot} {rest : List Value} {x : Int32} {lv lv' : List (Nat × Value)}, lv_has ls (mL M) lv → k < mL M → (k, Value.int x) :: lv.filter (fun q => !(q.1 == k) && !(q.1 + 1 == k && q.2.category == 2)) = lv' → (∀ ls' : Array Slot, lv_has ls' (mL M) lv' → W p l e R s m args below meth c H locs cells slots Q (F0 m (pc + n) ls' rest)) → W p l e R s m args below meth c H locs cells slots Q (F0 m pc ls (.int x :: rest))) (hst : hSI k n pc al st h = some x) (hk : ∀ pc' al' st' h', x = Sum.inl (pc', al', st', h') → WX p l e R s m args below meth c Q D A H0 N0 n0 m0 M pc' al' st' h') : WX p l e R s m args below meth c Q D A H0 N0 n0 m0 M pc al st h := by
  obtain ⟨hx, hb, hml, hrt, hown, hts, hlo, hnm, hkn, hRf, hRl, hA⟩ := C
  match st, hst with
  | Sum.inl z :: st', hst =>
    unfold hSI at hst
    obtain ⟨hk0, hst⟩ := bif_of hst
    have hk0 := Nat.lt_of_lt_of_le (Nat.le_of_ble_eq_true hk0) (Nat.le_refl _)
    have kk := s_go hst hk
    intro tys ws H locs cells slots ls rst hK hh hpx hP hD hS hl hs hc1 hc2
    match rst, hs with
    | Y :: T, ⟨⟨y, hy, ey⟩, hT⟩ =>
      subst hy
      obtain ⟨h0, lv, h1, h2⟩ := hl
      exact row h1 (by rw [← h0]; exact hk0) rfl fun ls' h3 => kk tys ws H locs cells slots ls' _ hK hh hpx hP hD hS (lr.s1 (v := aI z) (V := Value.int y) h0 h2 hk0 ⟨y, rfl, ey⟩ h3) hT hc1 hc2
    | [], h => exact h.elim

theorem s_SJ (C : CX p R s m args meth c A H0 M) {pc : Nat} {al st : List AV} {h : AH} {x : SR} {k n : Nat} (row : ∀ {H : Heap} {locs : List Loc} {cells slots : Nat} {ls : Array Slot} {rest : List Value} {x : Int64} {lv lv' : List (Nat × Value)}, lv_has ls (mL M) lv → k + 1 < mL M → (k, Value.long x) :: lv.filter (fun q => !(q.1 == k) && (!(q.1 == k + 1) && !(q.1 + 1 == k && q.2.category == 2))) = lv' → (∀ ls' : Array Slot, lv_has ls' (mL M) lv' → W p l e R s m args below meth c H locs cells slots Q (F0 m (pc + n) ls' rest)) → W p l e R s m args below meth c H locs cells slots Q (F0 m pc ls (.long x :: rest))) (hst : hSJ k n pc al st h = some x) (hk : ∀ pc' al' st' h', x = Sum.inl (pc', al', st', h') → WX p l e R s m args below meth c Q D A H0 N0 n0 m0 M pc' al' st' h') : WX p l e R s m args below meth c Q D A H0 N0 n0 m0 M pc al st h := by
  obtain ⟨hx, hb, hml, hrt, hown, hts, hlo, hnm, hkn, hRf, hRl, hA⟩ := C
  match st, hst with
  | Sum.inr (Sum.inl z) :: st', hst =>
    unfold hSJ at hst
    obtain ⟨hk0, hst⟩ := bif_of hst
    have hk0 := Nat.lt_of_lt_of_le (Nat.le_of_ble_eq_true hk0) (Nat.le_refl _)
    have kk := s_go hst hk
    intro tys ws H locs cells slots ls rst hK hh hpx hP hD hS hl hs hc1 hc2
    match rst, hs with
    | Y :: T, ⟨⟨y, hy, ey⟩, hT⟩ =>
      subst hy
      obtain ⟨h0, lv, h1, h2⟩ := hl
      exact row h1 (by rw [← h0]; exact hk0) rfl fun ls' h3 => kk tys ws H locs cells slots ls' _ hK hh hpx hP hD hS (lr.s2 (v := aJ z) (V := Value.long y) h0 h2 hk0 ⟨y, rfl, ey⟩ h3) hT hc1 hc2
    | [], h => exact h.elim

theorem s_SR (C : CX p R s m args meth c A H0 M) {pc : Nat} {al st : List AV} {h : AH} {x : SR} {k n : Nat} (row : ∀ {H : Heap} {locs : List Loc} {cells slots : Nat} {ls : Array Slot} {rest : List Value} {x : Nat} {lv lv' : List (Nat × Value)}, lv_has ls (mL M) lv → k < mL M → (k, Value.ref x) :: lv.filter (fun q => !(q.1 == k) && !(q.1 + 1 == k && q.2.category == 2)) = lv' → (∀ ls' : Array Slot, lv_has ls' (mL M) lv' → W p l e R s m args below meth c H locs cells slots Q (F0 m (pc + n) ls' rest)) → W p l e R s m args below meth c H locs cells slots Q (F0 m pc ls (.ref x :: rest))) (rowN : ∀ {H : Heap} {locs : List Loc} {cells slots : Nat} {ls : Array Slot} {rest : List Value} {lv lv' : List (Nat × Value)}, lv_has ls (mL M) lv → k < mL M → (k, Value.null) :: lv.filter (fun q => !(q.1 == k) && !(q.1 + 1 == k && q.2.category == 2)) = lv' → (∀ ls' : Array Slot, lv_has ls' (mL M) lv' → W p l e R s m args below meth c H locs cells slots Q (F0 m (pc + n) ls' rest)) → W p l e R s m args below meth c H locs cells slots Q (F0 m pc ls (.null :: rest))) (hst : hSR k n pc al st h = some x) (hk : ∀ pc' al' st' h', x = Sum.inl (pc', al', st', h') → WX p l e R s m args below meth c Q D A H0 N0 n0 m0 M pc' al' st' h') : WX p l e R s m args below meth c Q D A H0 N0 n0 m0 M pc al st h := by
  obtain ⟨hx, hb, hml, hrt, hown, hts, hlo, hnm, hkn, hRf, hRl, hA⟩ := C
  match st, hst with
  | Sum.inr (Sum.inr (Sum.inl r)) :: st', hst =>
    unfold hSR at hst
    obtain ⟨hk0, hst⟩ := bif_of hst
    have hk0 := Nat.lt_of_lt_of_le (Nat.le_of_ble_eq_true hk0) (Nat.le_refl _)
    have kk := s_go hst hk
    intro tys ws H locs cells slots ls rst hK hh hpx hP hD hS hl hs hc1 hc2
    match r, rst, hs, kk with
    | some r, Y :: T, ⟨⟨y, hy, ey⟩, hT⟩, kk =>
      subst hy
      obtain ⟨h0, lv, h1, h2⟩ := hl
      exact row h1 (by rw [← h0]; exact hk0) rfl fun ls' h3 => kk tys ws H locs cells slots ls' _ hK hh hpx hP hD hS (lr.s1 (v := aR (some r)) (V := .ref y) h0 h2 hk0 ⟨y, rfl, ey⟩ h3) hT hc1 hc2
    | none, Y :: T, ⟨hy, hT⟩, kk =>
      cases hy
      obtain ⟨h0, lv, h1, h2⟩ := hl
      exact rowN h1 (by rw [← h0]; exact hk0) rfl fun ls' h3 => kk tys ws H locs cells slots ls' _ hK hh hpx hP hD hS (lr.s1 (v := aR none) (V := .null) h0 h2 hk0 rfl h3) hT hc1 hc2
    | _, [], h, _ => exact h.elim

theorem s_Inc (C : CX p R s m args meth c A H0 M) {pc : Nat} {al st : List AV} {h : AH} {x : SR} {k : Nat} {d : Int} (hd : decode (mC M) pc = .ok (.iinc k d, 3)) (hst : hInc k d pc al st h = some x) (hk : ∀ pc' al' st' h', x = Sum.inl (pc', al', st', h') → WX p l e R s m args below meth c Q D A H0 N0 n0 m0 M pc' al' st' h') : WX p l e R s m args below meth c Q D A H0 N0 n0 m0 M pc al st h := by
  obtain ⟨hx, hb, hml, hrt, hown, hts, hlo, hnm, hkn, hRf, hRl, hA⟩ := C
  unfold hInc at hst
  cases hv : al[k]? with
  | none => rw [hv] at hst; cases hst
  | some v =>
    rw [hv] at hst
    match v, hv, hst with
    | Sum.inl z, hv, hst =>
      have kk := s_go hst hk
      intro tys ws H locs cells slots ls rst hK hh hpx hP hD hS hl hs hc1 hc2
      have hlt := (List.getElem?_eq_some_iff.mp hv).1
      obtain ⟨h0, lv, h1, h2⟩ := hl
      rcases h2 k _ hv with q | ⟨V, h3, ⟨y, hy, ey⟩⟩
      · cases q
      · subst hy
        obtain ⟨j, hj⟩ := List.getElem?_of_mem h3
        refine lv_iinc (v := y + Int32.ofInt d) hx hb hd h1 hj rfl (by rw [← h0]; exact hlt) rfl fun ls' h4 => kk tys ws H locs cells slots ls' _ hK hh hpx hP hD hS (lr.s1 (v := aI (w32 (z + d))) (V := .int (y + Int32.ofInt d)) h0 h2 hlt ⟨_, rfl, ?_⟩ h4) hs hc1 hc2
        rw [Int32.toInt_add, Int32.toInt_ofInt, Int.add_bmod_bmod, w32_t, ey]

theorem s_If (C : CX p R s m args meth c A H0 M) {pc : Nat} {al st : List AV} {h : AH} {x : SR} {cc : Jvm.ClassFile.Cond} {off : Int} (hd : decode (mC M) pc = .ok (.ifCond cc off, 3))  (hst : hIf cc off pc al st h = some x) (hk : ∀ pc' al' st' h', x = Sum.inl (pc', al', st', h') → WX p l e R s m args below meth c Q D A H0 N0 n0 m0 M pc' al' st' h') : WX p l e R s m args below meth c Q D A H0 N0 n0 m0 M pc al st h := by
  obtain ⟨hx, hb, hml, hrt, hown, hts, hlo, hnm, hkn, hRf, hRl, hA⟩ := C
  match st, hst with
  | Sum.inl a :: st', hst =>
    obtain ⟨t0, ht0, hst⟩ := if_t0 hst
    intro tys ws H locs cells slots ls rst hK hh hpx hP hD hS hl hs hc1 hc2
    match rst, hs with
    | Y :: T, ⟨⟨y, hy, ey⟩, hT⟩ =>
      subst hy
      have hce := e_cnd cc y 0
      rw [← ey, show (0 : Int32).toInt = 0 from rfl] at hce
      have kt : cnd cc a 0 = true → W p l e R s m args below meth c H locs cells slots Q (F0 m t0 ls T) := by
        intro hcn
        simp only [hcn, cond_true] at hst
        exact s_go hst hk tys ws H locs cells slots ls _ hK hh hpx hP hD hS hl hT hc1 hc2
      have kf : cnd cc a 0 = false → W p l e R s m args below meth c H locs cells slots Q (F0 m (pc + 3) ls T) := by
        intro hcn
        simp only [hcn, cond_false] at hst
        exact s_go hst hk tys ws H locs cells slots ls _ hK hh hpx hP hD hS hl hT hc1 hc2
      obtain ⟨c1, c2, c3, c4, c5, c6⟩ := hce
      have nb : ∀ {P : Prop}, (cnd cc a 0 = true ↔ P) → ¬ P → cnd cc a 0 = false := fun i n => by
        cases hq : cnd cc a 0 with
        | true => exact absurd (i.mp hq) n
        | false => rfl
      cases cc with
      | eq => exact lv_if_eq hx hb hd ht0 (fun q => kt ((c1 rfl).mpr q)) (fun q => kf (nb (c1 rfl) q))
      | ne => exact lv_if_ne hx hb hd ht0 (fun q => kt ((c2 rfl).mpr q)) (fun q => kf (nb (c2 rfl) (fun z => z q)))
      | lt => exact lv_if_lt hx hb hd ht0 (fun q => kt ((c3 rfl).mpr q)) (fun q => kf (nb (c3 rfl) q))
      | ge => exact lv_if_ge hx hb hd ht0 (fun q => kt ((c4 rfl).mpr q)) (fun q => kf (nb (c4 rfl) q))
      | gt => exact lv_if_gt hx hb hd ht0 (fun q => kt ((c5 rfl).mpr q)) (fun q => kf (nb (c5 rfl) q))
      | le => exact lv_if_le hx hb hd ht0 (fun q => kt ((c6 rfl).mpr q)) (fun q => kf (nb (c6 rfl) q))
    | [], h => exact h.elim

theorem s_Cmp (C : CX p R s m args meth c A H0 M) {pc : Nat} {al st : List AV} {h : AH} {x : SR} {cc : Jvm.ClassFile.Cond} {off : Int} (hd : decode (mC M) pc = .ok (.if_icmp cc off, 3))  (hst : hCmp cc off pc al st h = some x) (hk : ∀ pc' al' st' h', x = Sum.inl (pc', al', st', h') → WX p l e R s m args below meth c Q D A H0 N0 n0 m0 M pc' al' st' h') : WX p l e R s m args below meth c Q D A H0 N0 n0 m0 M pc al st h := by
  obtain ⟨hx, hb, hml, hrt, hown, hts, hlo, hnm, hkn, hRf, hRl, hA⟩ := C
  match st, hst with
  | Sum.inl b :: Sum.inl a :: st', hst =>
    obtain ⟨t0, ht0, hst⟩ := cmp_t0 hst
    intro tys ws H locs cells slots ls rst hK hh hpx hP hD hS hl hs hc1 hc2
    match rst, hs with
    | Y :: Z :: T, ⟨⟨y, hy, ey⟩, ⟨z, hz, ez⟩, hT⟩ =>
      subst hy; subst hz
      have hce := e_cnd cc z y
      rw [← ey, ← ez] at hce
      have kt : cnd cc a b = true → W p l e R s m args below meth c H locs cells slots Q (F0 m t0 ls T) := by
        intro hcn
        simp only [hcn, cond_true] at hst
        exact s_go hst hk tys ws H locs cells slots ls _ hK hh hpx hP hD hS hl hT hc1 hc2
      have kf : cnd cc a b = false → W p l e R s m args below meth c H locs cells slots Q (F0 m (pc + 3) ls T) := by
        intro hcn
        simp only [hcn, cond_false] at hst
        exact s_go hst hk tys ws H locs cells slots ls _ hK hh hpx hP hD hS hl hT hc1 hc2
      obtain ⟨c1, c2, c3, c4, c5, c6⟩ := hce
      have nb : ∀ {P : Prop}, (cnd cc a b = true ↔ P) → ¬ P → cnd cc a b = false := fun i n => by
        cases hq : cnd cc a b with
        | true => exact absurd (i.mp hq) n
        | false => rfl
      cases cc with
      | eq => exact lv_icmp_eq hx hb hd ht0 (fun q => kt ((c1 rfl).mpr q)) (fun q => kf (nb (c1 rfl) q))
      | ne => exact lv_icmp_ne hx hb hd ht0 (fun q => kt ((c2 rfl).mpr q)) (fun q => kf (nb (c2 rfl) (fun z => z q)))
      | lt => exact lv_icmp_lt hx hb hd ht0 (fun q => kt ((c3 rfl).mpr q)) (fun q => kf (nb (c3 rfl) q))
      | ge => exact lv_icmp_ge hx hb hd ht0 (fun q => kt ((c4 rfl).mpr q)) (fun q => kf (nb (c4 rfl) q))
      | gt => exact lv_icmp_gt hx hb hd ht0 (fun q => kt ((c5 rfl).mpr q)) (fun q => kf (nb (c5 rfl) q))
      | le => exact lv_icmp_le hx hb hd ht0 (fun q => kt ((c6 rfl).mpr q)) (fun q => kf (nb (c6 rfl) q))
    | [_], h => exact h.2.elim
    | [], h => exact h.elim

end SND
end
section

theorem rd_of {h : AH} {t a k : Nat} {v : AV} (q : rd h t a k = some v) : ∃ c, h[a]? = some c ∧ c.1 = t ∧ c.2[k]? = some v := by
  unfold rd at q
  cases hc : h[a]? with
  | none => rw [hc] at q; cases q
  | some c =>
    rw [hc] at q
    simp only at q
    cases hb : Nat.beq c.1 t with
    | true => rw [hb] at q; exact ⟨c, rfl, Nat.eq_of_beq_eq_true hb, q⟩
    | false => rw [hb] at q; cases q
theorem isO_of {h : AH} {t a : Nat} (q : isO h t a = true) : ∃ c, h[a]? = some c ∧ c.1 = t := by
  unfold isO at q
  cases hc : h[a]? with
  | none => rw [hc] at q; cases q
  | some c => rw [hc] at q; exact ⟨c, rfl, Nat.eq_of_beq_eq_true q⟩
theorem wr_of {h : AH} {t a k : Nat} {v : AV} {c : AC} (hc : h[a]? = some c) (ht : c.1 = t) : wr h t a k v = h.set a (t, c.2.set k v) := by
  unfold wr
  rw [hc]
  simp only [ht, Nat.beq_refl, cond_true]
theorem nu_at {ws : va_W} {a b : Nat} {e : va_E} (h : ws[a]? = some (b, e)) : (nu ws)[a]? = some b := by
  unfold nu
  rw [List.getElem?_map, h]
  rfl
theorem nu_back {ws : va_W} {a b : Nat} (h : (nu ws)[a]? = some b) : ∃ e, ws[a]? = some (b, e) := by
  unfold nu at h
  rw [List.getElem?_map] at h
  cases hq : ws[a]? with
  | none => rw [hq] at h; cases h
  | some q =>
    rw [hq] at h
    obtain ⟨b', e⟩ := q
    cases h
    exact ⟨e, rfl⟩
theorem nu_set {ws : va_W} {a b : Nat} {e e' : va_E} (h : ws[a]? = some (b, e)) : nu (ws.set a (b, e')) = nu ws := by
  apply List.ext_getElem?
  intro i
  unfold nu
  rw [List.getElem?_map, List.getElem?_map]
  by_cases hi : i = a
  · subst hi
    rw [List.getElem?_set_self (List.getElem?_eq_some_iff.mp h).1, h]
    rfl
  · rw [List.getElem?_set_ne (Ne.symm hi)]
theorem hr_set {tys : List (ClassId × FieldType)} {ws : va_W} {h : AH} {a b : Nat} {e e' : va_E} {c' : AC} (hh : hr tys ws h) (hw : ws[a]? = some (b, e)) (hc : cr tys (nu ws) c' e') : hr tys (ws.set a (b, e')) (h.set a c') := by
  refine ⟨by rw [List.length_set, List.length_set]; exact hh.1, fun k c q h1 h2 => ?_⟩
  rw [nu_set hw]
  by_cases hk : k = a
  · subst hk
    have hl := (List.getElem?_eq_some_iff.mp hw).1
    rw [List.getElem?_set_self hl] at h2
    rw [List.getElem?_set_self (by rw [← hh.1]; exact hl)] at h1
    cases h1; cases h2
    exact hc
  · rw [List.getElem?_set_ne (Ne.symm hk)] at h1 h2
    exact hh.2 k c q h1 h2
theorem slt_cons (c : AC) (h : AH) : slt (c :: h) = c.2.length + slt h := by simp [slt]
theorem slt_set : ∀ {h : AH} {a : Nat} {c c' : AC}, h[a]? = some c → c'.2.length = c.2.length → slt (h.set a c') = slt h
  | [], _, _, _, q, _ => by simp at q
  | x :: t, 0, c, c', q, z => by
    rw [List.getElem?_cons_zero] at q
    cases q
    rw [List.set_cons_zero, slt_cons, slt_cons, z]
  | x :: t, a + 1, c, c', q, z => by
    rw [List.getElem?_cons_succ] at q
    rw [List.set_cons_succ, slt_cons, slt_cons, slt_set q z]
theorem slt_app (h : AH) (c : AC) : slt (h ++ [c]) = slt h + c.2.length := by simp [slt]
theorem cr_O {tys : List (ClassId × FieldType)} {N : List Nat} {c : AC} {e : va_E} (h : cr tys N c e) (hc : c.1 < 6) : ∃ fs, e = .inr (c.1, fs) ∧ c.2.length = clsF c.1 ∧ sr N c.2 fs := by
  match e, h with
  | .inr (o, fs), h =>
    obtain ⟨h1, h2, h3, h4⟩ := h
    refine ⟨fs, by rw [h1], by rw [h1]; exact h3, h4⟩
  | .inl (cA, n, .inl f), h => obtain ⟨_, _, h3, _⟩ := h; exact absurd hc (by rw [h3]; decide)
  | .inl (cA, n, .inr (.inl f)), h => obtain ⟨_, _, h3, _⟩ := h; exact absurd hc (by rw [h3]; decide)
  | .inl (cA, n, .inr (.inr (.inr (.inr f)))), h => obtain ⟨_, _, h3, _⟩ := h; exact absurd hc (by omega)
  | .inl (cA, n, .inr (.inr (.inl f))), h => exact h.2.2.elim
  | .inl (cA, n, .inr (.inr (.inr (.inl f)))), h => exact h.2.2.elim
theorem cr_I {tys : List (ClassId × FieldType)} {N : List Nat} {c : AC} {e : va_E} (h : cr tys N c e) (hc : c.1 = 10) : ∃ (cA : ClassId) (f : Nat → Int32) (t : Nat), e = .inl (cA, c.2.length, .inl f) ∧ c.2.length < 2147483648 ∧ tys[t]? = some (cA, .int) ∧ ∀ j, j < c.2.length → c.2[j]? = some (aI (f j).toInt) := by
  match e, h with
  | .inr (o, fs), h => obtain ⟨h1, h2, _⟩ := h; exact absurd h2 (by simp only at h1; omega)
  | .inl (cA, n, .inl f), h =>
    obtain ⟨h1, h2, _, ⟨t, h3⟩, h4⟩ := h
    simp only at h1 h2 h3 h4
    subst h1
    exact ⟨cA, f, t, rfl, h2, h3, h4⟩
  | .inl (cA, n, .inr (.inl f)), h => obtain ⟨_, _, h3, _⟩ := h; exact absurd h3 (by omega)
  | .inl (cA, n, .inr (.inr (.inr (.inr f)))), h => obtain ⟨_, _, h3, _⟩ := h; exact absurd h3 (by omega)
  | .inl (cA, n, .inr (.inr (.inl f))), h => exact h.2.2.elim
  | .inl (cA, n, .inr (.inr (.inr (.inl f)))), h => exact h.2.2.elim
theorem cr_J {tys : List (ClassId × FieldType)} {N : List Nat} {c : AC} {e : va_E} (h : cr tys N c e) (hc : c.1 = 11) : ∃ (cA : ClassId) (f : Nat → Int64) (t : Nat), e = .inl (cA, c.2.length, .inr (.inl f)) ∧ c.2.length < 2147483648 ∧ tys[t]? = some (cA, .long) ∧ ∀ j, j < c.2.length → c.2[j]? = some (aJ (f j).toInt) := by
  match e, h with
  | .inr (o, fs), h => obtain ⟨h1, h2, _⟩ := h; exact absurd h2 (by simp only at h1; omega)
  | .inl (cA, n, .inr (.inl f)), h =>
    obtain ⟨h1, h2, _, ⟨t, h3⟩, h4⟩ := h
    simp only at h1 h2 h3 h4
    subst h1
    exact ⟨cA, f, t, rfl, h2, h3, h4⟩
  | .inl (cA, n, .inl f), h => obtain ⟨_, _, h3, _⟩ := h; exact absurd h3 (by omega)
  | .inl (cA, n, .inr (.inr (.inr (.inr f)))), h => obtain ⟨_, _, h3, _⟩ := h; exact absurd h3 (by omega)
  | .inl (cA, n, .inr (.inr (.inl f))), h => exact h.2.2.elim
  | .inl (cA, n, .inr (.inr (.inr (.inl f)))), h => exact h.2.2.elim
theorem cr_R {tys : List (ClassId × FieldType)} {N : List Nat} {c : AC} {e : va_E} (h : cr tys N c e) (hc : 12 ≤ c.1) : ∃ (cA : ClassId) (f : Nat → Option Nat) (t : Nat), e = .inl (cA, c.2.length, .inr (.inr (.inr (.inr f)))) ∧ c.2.length < 2147483648 ∧ c.1 ≤ 14 ∧ tys[t]? = some (cA, .object (arrN c.1)) ∧ ∀ j, j < c.2.length → ∃ r, c.2[j]? = some (aR r) ∧ vr N (aR r) (va_rf (f j)) := by
  match e, h with
  | .inr (o, fs), h => obtain ⟨h1, h2, _⟩ := h; exact absurd h2 (by simp only at h1; omega)
  | .inl (cA, n, .inr (.inr (.inr (.inr f)))), h =>
    obtain ⟨h1, h2, _, h2', ⟨t, h3⟩, h4⟩ := h
    simp only at h1 h2 h3 h4
    subst h1
    exact ⟨cA, f, t, rfl, h2, h2', h3, h4⟩
  | .inl (cA, n, .inl f), h => obtain ⟨_, _, h3, _⟩ := h; exact absurd h3 (by omega)
  | .inl (cA, n, .inr (.inl f)), h => obtain ⟨_, _, h3, _⟩ := h; exact absurd h3 (by omega)
  | .inl (cA, n, .inr (.inr (.inl f))), h => exact h.2.2.elim
  | .inl (cA, n, .inr (.inr (.inr (.inl f)))), h => exact h.2.2.elim
theorem hr_at {tys : List (ClassId × FieldType)} {ws : va_W} {h : AH} {a b : Nat} {c : AC} (hh : hr tys ws h) (hc : h[a]? = some c) (hb : (nu ws)[a]? = some b) : ∃ e, ws[a]? = some (b, e) ∧ cr tys (nu ws) c e := by
  obtain ⟨e, he⟩ := nu_back hb
  exact ⟨e, he, hh.2 a c (b, e) hc he⟩
theorem hr_new {tys : List (ClassId × FieldType)} {tys' : List (ClassId × FieldType)} {ws : va_W} {h : AH} {q : Nat} {e : va_E} {c : AC} (hh : hr tys ws h) (ht : ∀ (t : Nat) q, tys[t]? = some q → ∃ u : Nat, tys'[u]? = some q) (hc : cr tys' (nu (ws ++ [(q, e)])) c e) : hr tys' (ws ++ [(q, e)]) (h ++ [c]) ∧ px (nu ws) (nu (ws ++ [(q, e)])) ∧ (nu (ws ++ [(q, e)]))[h.length]? = some q := by
  have hp : px (nu ws) (nu (ws ++ [(q, e)])) := ⟨[q], by simp [nu]⟩
  refine ⟨⟨by simp [hh.1], fun k c1 q1 h1 h2 => ?_⟩, hp, ?_⟩
  · by_cases hk : k < h.length
    · rw [List.getElem?_append_left hk] at h1
      rw [List.getElem?_append_left (by rw [hh.1]; exact hk)] at h2
      exact (hh.2 k c1 q1 h1 h2).up hp ht
    · rw [List.getElem?_append_right (by omega)] at h1
      rw [List.getElem?_append_right (by rw [hh.1]; omega)] at h2
      rw [hh.1] at h2
      have hz : k - h.length < 1 := (List.getElem?_eq_some_iff.mp h1).1
      rw [show k - h.length = 0 by omega] at h1 h2
      cases h1; cases h2
      exact hc
  · rw [← hh.1]
    exact nu_at (e := e) (by simp)
theorem ty_app {tys : List (ClassId × FieldType)} {x : ClassId × FieldType} (t : Nat) (q : ClassId × FieldType) (h : tys[t]? = some q) : ∃ u : Nat, (tys ++ [x])[u]? = some q := ⟨t, by rw [List.getElem?_append_left (List.getElem?_eq_some_iff.mp h).1]; exact h⟩
theorem ty_new {tys : List (ClassId × FieldType)} {x : ClassId × FieldType} : ∃ u : Nat, (tys ++ [x])[u]? = some x := ⟨tys.length, by simp⟩
theorem cl_nat (x : Int32) : x.toNatClampNeg = x.toInt.toNat := rfl
theorem put_ty {N : List Nat} {C k kd : Nat} {v : AV} {V : Value} (hty : (kd = 0 ∧ clsY C k = .int) ∨ (kd = 1 ∧ clsY C k = .boolean) ∨ (kd = 2 ∧ clsY C k = .long) ∨ (kd = 3 ∧ ((∃ n, clsY C k = .object n) ∨ ∃ t, clsY C k = .array t))) (ho : okV kd v = true) (hv : vr N v V) : narrow (clsY C k) V = V ∧ fits (clsY C k) V = true := by
  match v, hv, ho with
  | Sum.inl z, ⟨x, h1, h2⟩, ho =>
    subst h1
    rcases hty with ⟨h, e⟩ | ⟨h, e⟩ | ⟨h, e⟩ | ⟨h, e⟩
    · rw [e]; exact ⟨rfl, rfl⟩
    · subst h
      have hz : z = 0 ∨ z = 1 := by simpa [okV] using ho
      rw [e]
      rcases hz with q | q
      · have : x = 0 := Int32.toInt_inj.mp (by rw [← h2, q]; rfl)
        subst this; exact ⟨rfl, rfl⟩
      · have : x = 1 := Int32.toInt_inj.mp (by rw [← h2, q]; rfl)
        subst this; exact ⟨rfl, rfl⟩
    · subst h; simp [okV] at ho
    · subst h; simp [okV] at ho
  | Sum.inr (Sum.inl z), ⟨x, h1, h2⟩, ho =>
    subst h1
    rcases hty with ⟨h, e⟩ | ⟨h, e⟩ | ⟨h, e⟩ | ⟨h, e⟩
    · subst h; simp [okV] at ho
    · subst h; simp [okV] at ho
    · rw [e]; exact ⟨rfl, rfl⟩
    · subst h; simp [okV] at ho
  | Sum.inr (Sum.inr (Sum.inl r)), hv, ho =>
    have hV : V = .null ∨ ∃ a, V = .ref a := by
      cases r with
      | none => exact Or.inl hv
      | some k => obtain ⟨a, h, _⟩ := hv; exact Or.inr ⟨a, h⟩
    rcases hty with ⟨h, e⟩ | ⟨h, e⟩ | ⟨h, e⟩ | ⟨h, e⟩
    · subst h; simp [okV] at ho
    · subst h; simp [okV] at ho
    · subst h; simp [okV] at ho
    · rcases e with ⟨n, e⟩ | ⟨n, e⟩ <;> rw [e] <;> rcases hV with rfl | ⟨a, rfl⟩ <;> exact ⟨rfl, rfl⟩
  | Sum.inr (Sum.inr (Sum.inr _)), _, ho => simp [okV] at ho


section SND2
variable {p : Program} {l : Launch} {e : Env} {R : Room} {s : State} {m : MethodId} {args : Array Value} {below : List Frame} {meth : Method} {c : Code} {Q : State → Prop} {D : va_G} {A : Nat → Prop} {H0 : Heap} {N0 : List Nat} {n0 m0 : Nat} {M : MI}

set_option maxRecDepth 4000 in
theorem s_Nul (C : CX p R s m args meth c A H0 M) {pc : Nat} {al st : List AV} {h : AH} {x : SR} {off : Int} (hd : decode (mC M) pc = .ok (.ifnull off, 3)) (hst : hNull false off pc al st h = some x) (hk : ∀ pc' al' st' h', x = Sum.inl (pc', al', st', h') → WX p l e R s m args below meth c Q D A H0 N0 n0 m0 M pc' al' st' h') : WX p l e R s m args below meth c Q D A H0 N0 n0 m0 M pc al st h := by
  obtain ⟨hx, hb, hml, hrt, hown, hts, hlo, hnm, hkn, hRf, hRl, hA⟩ := C
  match st, hst with
  | Sum.inr (Sum.inr (Sum.inl none)) :: st', hst =>
    have hst : (match tg pc off with
      | some t => gS t al st' h
      | none => none) = some x := hst
    cases htg : tg pc off with
    | none => rw [htg] at hst; cases hst
    | some t =>
      rw [htg] at hst
      have k := s_go hst hk
      intro tys ws H locs cells slots ls rst hK hh hpx hP hD hS hl hs hc1 hc2
      match rst, hs with
      | Y :: T, ⟨hy, hT⟩ =>
        cases hy
        exact lv_ifnullN hx hb hd (tg_of htg) (k tys ws H locs cells slots ls _ hK hh hpx hP hD hS hl hT hc1 hc2)
      | [], h => exact h.elim
  | Sum.inr (Sum.inr (Sum.inl (some r))) :: st', hst =>
    have hst : gS (pc + 3) al st' h = some x := hst
    have k := s_go hst hk
    intro tys ws H locs cells slots ls rst hK hh hpx hP hD hS hl hs hc1 hc2
    match rst, hs with
    | Y :: T, ⟨⟨y, hy, _⟩, hT⟩ =>
      subst hy
      exact lv_ifnull hx hb hd (k tys ws H locs cells slots ls _ hK hh hpx hP hD hS hl hT hc1 hc2)
    | [], h => exact h.elim

set_option maxRecDepth 4000 in
theorem s_NNul (C : CX p R s m args meth c A H0 M) {pc : Nat} {al st : List AV} {h : AH} {x : SR} {off : Int} (hd : decode (mC M) pc = .ok (.ifnonnull off, 3)) (hst : hNull true off pc al st h = some x) (hk : ∀ pc' al' st' h', x = Sum.inl (pc', al', st', h') → WX p l e R s m args below meth c Q D A H0 N0 n0 m0 M pc' al' st' h') : WX p l e R s m args below meth c Q D A H0 N0 n0 m0 M pc al st h := by
  obtain ⟨hx, hb, hml, hrt, hown, hts, hlo, hnm, hkn, hRf, hRl, hA⟩ := C
  match st, hst with
  | Sum.inr (Sum.inr (Sum.inl (some r))) :: st', hst =>
    have hst : (match tg pc off with
      | some t => gS t al st' h
      | none => none) = some x := hst
    cases htg : tg pc off with
    | none => rw [htg] at hst; cases hst
    | some t =>
      rw [htg] at hst
      have k := s_go hst hk
      intro tys ws H locs cells slots ls rst hK hh hpx hP hD hS hl hs hc1 hc2
      match rst, hs with
      | Y :: T, ⟨⟨y, hy, _⟩, hT⟩ =>
        subst hy
        exact lv_ifnonnull hx hb hd (tg_of htg) (k tys ws H locs cells slots ls _ hK hh hpx hP hD hS hl hT hc1 hc2)
      | [], h => exact h.elim
  | Sum.inr (Sum.inr (Sum.inl none)) :: st', hst =>
    have hst : gS (pc + 3) al st' h = some x := hst
    have k := s_go hst hk
    intro tys ws H locs cells slots ls rst hK hh hpx hP hD hS hl hs hc1 hc2
    match rst, hs with
    | Y :: T, ⟨hy, hT⟩ =>
      cases hy
      exact lv_ifnonnullN hx hb hd (k tys ws H locs cells slots ls _ hK hh hpx hP hD hS hl hT hc1 hc2)
    | [], h => exact h.elim

set_option maxRecDepth 4000 in
theorem s_Tab (C : CX p R s m args meth c A H0 M) {pc : Nat} {al st : List AV} {h : AH} {x : SR} {d lo hi : Int} {offs : Array Int} {n : Nat} (hd : decode (mC M) pc = .ok (.tableswitch d lo hi offs, n)) (hst : hTab d lo hi offs pc al st h = some x) (hk : ∀ pc' al' st' h', x = Sum.inl (pc', al', st', h') → WX p l e R s m args below meth c Q D A H0 N0 n0 m0 M pc' al' st' h') : WX p l e R s m args below meth c Q D A H0 N0 n0 m0 M pc al st h := by
  obtain ⟨hx, hb, hml, hrt, hown, hts, hlo, hnm, hkn, hRf, hRl, hA⟩ := C
  match st, hst with
  | Sum.inl a :: st', hst =>
    intro tys ws H locs cells slots ls rst hK hh hpx hP hD hS hl hs hc1 hc2
    match rst, hs with
    | Y :: T, ⟨⟨y, hy, ey⟩, hT⟩ =>
      subst hy
      unfold hTab at hst
      simp only at hst
      split at hst
      · rename_i hor
        cases htg : tg pc d with
        | none => rw [htg] at hst; cases hst
        | some t =>
          rw [htg] at hst
          exact lv_tableOut hx hb hd (by rw [← ey]; exact hor) (tg_of htg) (s_go hst hk tys ws H locs cells slots ls _ hK hh hpx hP hD hS hl hT hc1 hc2)
      · rename_i hor
        cases ho : offs[(a - lo).toNat]? with
        | none => rw [ho] at hst; cases hst
        | some o =>
          rw [ho] at hst
          simp only at hst
          cases htg : tg pc o with
          | none => rw [htg] at hst; cases hst
          | some t =>
            rw [htg] at hst
            exact lv_tableIn hx hb hd (by rw [← ey]; omega) (by rw [← ey]; omega) (by rw [← ey]; exact ho) (tg_of htg) (s_go hst hk tys ws H locs cells slots ls _ hK hh hpx hP hD hS hl hT hc1 hc2)
    | [], h => exact h.elim

set_option maxRecDepth 4000 in
theorem s_Lcm (C : CX p R s m args meth c A H0 M) {pc : Nat} {al st : List AV} {h : AH} {x : SR} (hd : decode (mC M) pc = .ok (.lcmp, 1)) (hst : (match st with
    | Sum.inr (Sum.inl b) :: Sum.inr (Sum.inl a) :: st' => gS (pc + 1) al (aI (fCmp a b) :: st') h
    | _ => none) = some x) (hk : ∀ pc' al' st' h', x = Sum.inl (pc', al', st', h') → WX p l e R s m args below meth c Q D A H0 N0 n0 m0 M pc' al' st' h') : WX p l e R s m args below meth c Q D A H0 N0 n0 m0 M pc al st h := by
  obtain ⟨hx, hb, hml, hrt, hown, hts, hlo, hnm, hkn, hRf, hRl, hA⟩ := C
  match st, hst with
  | Sum.inr (Sum.inl b) :: Sum.inr (Sum.inl a) :: st', hst =>
    have k := s_go hst hk
    intro tys ws H locs cells slots ls rst hK hh hpx hP hD hS hl hs hc1 hc2
    match rst, hs with
    | Y :: Z :: T, ⟨⟨y, hy, ey⟩, ⟨z, hz, ez⟩, hT⟩ =>
      subst hy; subst hz
      exact W.lcmp hx hb hd (k tys ws H locs cells slots ls _ hK hh hpx hP hD hS hl ⟨⟨_, rfl, by rw [ey, ez]; exact e_cmp _ _⟩, hT⟩ hc1 hc2)
    | [_], h => exact h.2.elim
    | [], h => exact h.elim

set_option maxRecDepth 4000 in
theorem s_Dup (C : CX p R s m args meth c A H0 M) {pc : Nat} {al st : List AV} {h : AH} {x : SR} (hd : decode (mC M) pc = .ok (.dup, 1)) (hst : hDup pc al st h = some x) (hk : ∀ pc' al' st' h', x = Sum.inl (pc', al', st', h') → WX p l e R s m args below meth c Q D A H0 N0 n0 m0 M pc' al' st' h') : WX p l e R s m args below meth c Q D A H0 N0 n0 m0 M pc al st h := by
  obtain ⟨hx, hb, hml, hrt, hown, hts, hlo, hnm, hkn, hRf, hRl, hA⟩ := C
  match st, hst with
  | Sum.inl a :: st', hst =>
    have k := s_go hst hk
    intro tys ws H locs cells slots ls rst hK hh hpx hP hD hS hl hs hc1 hc2
    match rst, hs with
    | Y :: T, ⟨⟨y, hy, ey⟩, hT⟩ =>
      subst hy
      exact lv_dup hx hb hd rfl (k tys ws H locs cells slots ls _ hK hh hpx hP hD hS hl ⟨⟨y, rfl, ey⟩, ⟨y, rfl, ey⟩, hT⟩ hc1 hc2)
    | [], h => exact h.elim
  | Sum.inr (Sum.inr (Sum.inl r)) :: st', hst =>
    have k := s_go hst hk
    intro tys ws H locs cells slots ls rst hK hh hpx hP hD hS hl hs hc1 hc2
    match rst, hs with
    | Y :: T, ⟨hy, hT⟩ =>
      exact lv_dup hx hb hd ((vr_cat hy rfl).2.mpr (fun ⟨_, q⟩ => by cases q)) (k tys ws H locs cells slots ls _ hK hh hpx hP hD hS hl ⟨hy, hy, hT⟩ hc1 hc2)
    | [], h => exact h.elim

set_option maxRecDepth 4000 in
theorem s_Dup2 (C : CX p R s m args meth c A H0 M) {pc : Nat} {al st : List AV} {h : AH} {x : SR} (hd : decode (mC M) pc = .ok (.dup2, 1)) (hst : hDup2 pc al st h = some x) (hk : ∀ pc' al' st' h', x = Sum.inl (pc', al', st', h') → WX p l e R s m args below meth c Q D A H0 N0 n0 m0 M pc' al' st' h') : WX p l e R s m args below meth c Q D A H0 N0 n0 m0 M pc al st h := by
  obtain ⟨hx, hb, hml, hrt, hown, hts, hlo, hnm, hkn, hRf, hRl, hA⟩ := C
  match st, hst with
  | Sum.inr (Sum.inl a) :: st', hst =>
    have k := s_go hst hk
    intro tys ws H locs cells slots ls rst hK hh hpx hP hD hS hl hs hc1 hc2
    match rst, hs with
    | Y :: T, ⟨⟨y, hy, ey⟩, hT⟩ =>
      subst hy
      exact lv_dup2_2 hx hb hd rfl (k tys ws H locs cells slots ls _ hK hh hpx hP hD hS hl ⟨⟨y, rfl, ey⟩, ⟨y, rfl, ey⟩, hT⟩ hc1 hc2)
    | [], h => exact h.elim
  | Sum.inl a :: Sum.inr (Sum.inr (Sum.inl r)) :: st', hst =>
    have k := s_go hst hk
    intro tys ws H locs cells slots ls rst hK hh hpx hP hD hS hl hs hc1 hc2
    match rst, hs with
    | Y :: Z :: T, ⟨⟨y, hy, ey⟩, hz, hT⟩ =>
      subst hy
      exact lv_dup2_11 hx hb hd rfl ((vr_cat hz rfl).2.mpr (fun ⟨_, q⟩ => by cases q)) (k tys ws H locs cells slots ls _ hK hh hpx hP hD hS hl ⟨⟨y, rfl, ey⟩, hz, ⟨y, rfl, ey⟩, hz, hT⟩ hc1 hc2)
    | [_], h => exact h.2.elim
    | [], h => exact h.elim

set_option maxRecDepth 4000 in
theorem s_Pop (C : CX p R s m args meth c A H0 M) {pc : Nat} {al st : List AV} {h : AH} {x : SR} (hd : decode (mC M) pc = .ok (.pop, 1)) (hst : hPop pc al st h = some x) (hk : ∀ pc' al' st' h', x = Sum.inl (pc', al', st', h') → WX p l e R s m args below meth c Q D A H0 N0 n0 m0 M pc' al' st' h') : WX p l e R s m args below meth c Q D A H0 N0 n0 m0 M pc al st h := by
  obtain ⟨hx, hb, hml, hrt, hown, hts, hlo, hnm, hkn, hRf, hRl, hA⟩ := C
  match st, hst with
  | Sum.inl a :: st', hst =>
    have k := s_go hst hk
    intro tys ws H locs cells slots ls rst hK hh hpx hP hD hS hl hs hc1 hc2
    match rst, hs with
    | Y :: T, ⟨⟨y, hy, ey⟩, hT⟩ =>
      subst hy
      exact lv_pop hx hb hd rfl (k tys ws H locs cells slots ls _ hK hh hpx hP hD hS hl hT hc1 hc2)
    | [], h => exact h.elim
  | Sum.inr (Sum.inr (Sum.inl r)) :: st', hst =>
    have k := s_go hst hk
    intro tys ws H locs cells slots ls rst hK hh hpx hP hD hS hl hs hc1 hc2
    match rst, hs with
    | Y :: T, ⟨hy, hT⟩ =>
      exact lv_pop hx hb hd ((vr_cat hy rfl).2.mpr (fun ⟨_, q⟩ => by cases q)) (k tys ws H locs cells slots ls _ hK hh hpx hP hD hS hl hT hc1 hc2)
    | [], h => exact h.elim

set_option maxRecDepth 4000 in
theorem s_Get (C : CX p R s m args meth c A H0 M) {pc : Nat} {al st : List AV} {h : AH} {x : SR} {idx : Nat} (hd : decode (mC M) pc = .ok (.getfield idx, 3)) (hst : hGet M idx pc al st h = some x) (hk : ∀ pc' al' st' h', x = Sum.inl (pc', al', st', h') → WX p l e R s m args below meth c Q D A H0 N0 n0 m0 M pc' al' st' h') : WX p l e R s m args below meth c Q D A H0 N0 n0 m0 M pc al st h := by
  obtain ⟨hx, hb, hml, hrt, hown, hts, hlo, hnm, hkn, hRf, hRl, hA⟩ := C
  unfold hGet at hst
  cases hf : fT (mK M) idx with
  | none => rw [hf] at hst; cases hst
  | some q =>
    rw [hf] at hst
    obtain ⟨C, k, kd, fin⟩ := q
    obtain ⟨hC, hkF, hdecl, hfin, hty, hw⟩ := fLst_ok _ (lk_mem hf)
    simp only at hC hkF hdecl hfin hty hw
    match st, hst with
    | Sum.inr (Sum.inr (Sum.inl (some a))) :: st', hst =>
      simp only at hst
      cases hr0 : rd h C a k with
      | none => rw [hr0] at hst; cases hst
      | some v =>
        rw [hr0] at hst
        have kk := s_go hst hk
        obtain ⟨cc, h1, h2, h3⟩ := rd_of hr0
        intro tys ws H locs cells slots ls rst hK hh hpx hP hD hS hl hs hc1 hc2
        match rst, hs with
        | Y :: T, ⟨⟨b, hy, hb1⟩, hT⟩ =>
          subst hy
          obtain ⟨ee, he, hcr⟩ := hr_at hh h1 hb1
          obtain ⟨fs, rfl, h4, h5⟩ := cr_O hcr (by omega)
          rw [h2] at he
          obtain ⟨Vv, h6, h7⟩ := h5.at h3
          have go := kk tys ws H locs cells slots ls (Vv :: T) hK hh hpx hP hD hS hl ⟨h7, hT⟩ hc1 hc2
          rcases hw with hw | ⟨_, host, hw⟩
          · exact va_get (C := clsN C) (T := clsT C) (N := clsF C) (ci := C) hx hb hts (clsW_ok C hC) hown hK hP a he (vwA_at C hC) k hkF (hts _ hw) (fun _ z => z) h6 hd go
          · exact va_getN (C := clsN C) (T := clsT C) (N := clsF C) (ci := C) (host := host) hx hb hts (clsW_ok C hC) hown hK hP a he (vwA_at C hC) k hkF (by
              have hz := hkn.1 _ hw
              exact va_Nw.use rfl hz) (fun _ z => z) h6 hd go
        | [], h => exact h.elim

set_option maxRecDepth 4000 in
theorem s_Put (C : CX p R s m args meth c A H0 M) {pc : Nat} {al st : List AV} {h : AH} {x : SR} {idx : Nat} (hd : decode (mC M) pc = .ok (.putfield idx, 3)) (hst : hPut M idx pc al st h = some x) (hk : ∀ pc' al' st' h', x = Sum.inl (pc', al', st', h') → WX p l e R s m args below meth c Q D A H0 N0 n0 m0 M pc' al' st' h') : WX p l e R s m args below meth c Q D A H0 N0 n0 m0 M pc al st h := by
  obtain ⟨hx, hb, hml, hrt, hown, hts, hlo, hnm, hkn, hRf, hRl, hA⟩ := C
  unfold hPut at hst
  cases hf : fT (mK M) idx with
  | none => rw [hf] at hst; cases hst
  | some q =>
    rw [hf] at hst
    obtain ⟨C, k, kd, fin⟩ := q
    obtain ⟨hC, hkF, hdecl, hfin, hty, hw⟩ := fLst_ok _ (lk_mem hf)
    simp only at hC hkF hdecl hfin hty hw
    match st, hst with
    | v :: Sum.inr (Sum.inr (Sum.inl (some a))) :: st', hst =>
      simp only at hst
      cases hr0 : rd h C a k with
      | none => rw [hr0] at hst; cases hst
      | some v0 =>
        rw [hr0] at hst
        simp only at hst
        obtain ⟨hcond, hst⟩ := bif_of hst
        rw [Bool.and_eq_true] at hcond
        obtain ⟨hok, hfn⟩ := hcond
        have kk := s_go hst hk
        obtain ⟨cc, h1, h2, h3⟩ := rd_of hr0
        intro tys ws H locs cells slots ls rst hK hh hpx hP hD hS hl hs hc1 hc2
        match rst, hs with
        | Vv :: Y :: T, ⟨hv, ⟨b, hy, hb1⟩, hT⟩ =>
          subst hy
          obtain ⟨ee, he, hcr⟩ := hr_at hh h1 hb1
          obtain ⟨fs, rfl, h4, h5⟩ := cr_O hcr (by omega)
          rw [h2] at he h4
          have hlen := h5.len
          obtain ⟨hn1, hf1⟩ := put_ty hty hok hv
          have hw1 : wr h C a k v = h.set a (C, cc.2.set k v) := wr_of h1 h2
          rw [hw1] at kk
          have go : ∀ (H1 : Heap) (locs1 : List Loc), va_P D vwA (ws.set a (b, .inr (C, fs.set k Vv))) H1 → va_D A (ws.set a (b, .inr (C, fs.set k Vv))) → va_S A H0 H1 locs1 → W p l e R s m args below meth c H1 locs1 cells slots Q (F0 m (pc + 3) ls T) := by
            intro H1 locs1 hP1 hD1 hS1
            have hnu := nu_set (e' := .inr (C, fs.set k Vv)) he
            refine kk tys _ H1 locs1 cells slots ls T hK (hr_set hh he ?_) (by rw [hnu]; exact hpx) hP1 hD1 hS1 (by rw [hnu]; exact hl) (by rw [hnu]; exact hT) (by rw [List.length_set]; exact hc1) (by rw [slt_set h1 (by simp)]; exact hc2)
            exact ⟨rfl, hC, by simp only [List.length_set]; exact h4, h5.set k hv⟩
          have hdp := clsY_ok C hC k hkF
          rcases hw with hw | ⟨hne, host, hw⟩
          · cases hfb : fin with
            | false =>
              rw [hfb] at hfin
              exact va_put (C := clsN C) (T := clsT C) (N := clsF C) (ci := C) hx hb hts (clsW_ok C hC) (clsY C) (clsY_ok C hC) (clsT_nm C hC) hown hK hP hD hS a he (vwA_at C hC) k hkF (hts _ hw) (fun _ z => z) hfin hdp hn1 hf1 (by omega) hd go
            | true =>
              rw [hfb] at hfin hfn
              simp only [Bool.not_true, Bool.false_or, Bool.and_eq_true, decide_eq_true_eq] at hfn
              have hKC := Nat.eq_of_beq_eq_true hfn.2
              exact va_putF (C := clsN C) (T := clsT C) (N := clsF C) (ci := C) hx hb hts (clsW_ok C hC) (clsY C) (clsY_ok C hC) (clsT_nm C hC) hown hK hP hD hS a he (vwA_at C hC) k hkF (hts _ hw) (fun _ z => z) hfin (hnm.trans hfn.1) (by rw [hdecl, hKC]) hdp hn1 hf1 (by omega) hd go
          · cases hfb : fin with
            | false =>
              rw [hfb] at hfin
              exact va_putN (C := clsN C) (T := clsT C) (N := clsF C) (ci := C) (host := host) hx hb hts (clsW_ok C hC) (clsY C) (clsY_ok C hC) (clsT_nm C hC) hown hK hP hD hS a he (vwA_at C hC) k hkF (va_Nw.use rfl (hkn.1 _ hw)) (fun _ z => z) hfin hdp hn1 hf1 (by omega) hd go
            | true =>
              rw [hfb] at hfn
              simp only [Bool.not_true, Bool.false_or, Bool.and_eq_true, decide_eq_true_eq] at hfn
              exact absurd (Nat.eq_of_beq_eq_true hfn.2) hne
        | [_], h => exact h.2.elim
        | [], h => exact h.elim

set_option maxRecDepth 4000 in
theorem s_AldI (C : CX p R s m args meth c A H0 M) {pc : Nat} {al st : List AV} {h : AH} {x : SR} (hd : decode (mC M) pc = .ok (.iaload, 1)) (hst : hAld 10 pc al st h = some x) (hk : ∀ pc' al' st' h', x = Sum.inl (pc', al', st', h') → WX p l e R s m args below meth c Q D A H0 N0 n0 m0 M pc' al' st' h') : WX p l e R s m args below meth c Q D A H0 N0 n0 m0 M pc al st h := by
  obtain ⟨hx, hb, hml, hrt, hown, hts, hlo, hnm, hkn, hRf, hRl, hA⟩ := C
  match st, hst with
  | Sum.inl i :: Sum.inr (Sum.inr (Sum.inl (some a))) :: st', hst =>
    unfold hAld at hst
    simp only at hst
    obtain ⟨hi0, hst⟩ := ite_of hst
    cases hr0 : rd h 10 a i.toNat with
    | none => rw [hr0] at hst; cases hst
    | some v =>
      rw [hr0] at hst
      have kk := s_go hst hk
      obtain ⟨cc, h1, h2, h3⟩ := rd_of hr0
      intro tys ws H locs cells slots ls rst hK hh hpx hP hD hS hl hs hc1 hc2
      match rst, hs with
      | X0 :: Y :: T, ⟨⟨x0, hx0, ex0⟩, ⟨b, hy, hb1⟩, hT⟩ =>
        subst hy; subst hx0; subst ex0
        obtain ⟨ee, he, hcr⟩ := hr_at hh h1 hb1
        obtain ⟨cA, f, t, rfl, hl31, ht, hf⟩ := cr_I hcr h2
        have hlt := (List.getElem?_eq_some_iff.mp h3).1
        have hj := hf _ hlt
        rw [h3] at hj
        cases hj
        exact va_iald hx hb hK hP a t he ht (vp_in_iff.mpr ⟨hi0, by omega⟩) hd (kk tys ws H locs cells slots ls _ hK hh hpx hP hD hS hl ⟨⟨_, rfl, rfl⟩, hT⟩ hc1 hc2)
      | [_], h => exact h.2.elim
      | [], h => exact h.elim

set_option maxRecDepth 4000 in
theorem s_AldJ (C : CX p R s m args meth c A H0 M) {pc : Nat} {al st : List AV} {h : AH} {x : SR} (hd : decode (mC M) pc = .ok (.laload, 1)) (hst : hAld 11 pc al st h = some x) (hk : ∀ pc' al' st' h', x = Sum.inl (pc', al', st', h') → WX p l e R s m args below meth c Q D A H0 N0 n0 m0 M pc' al' st' h') : WX p l e R s m args below meth c Q D A H0 N0 n0 m0 M pc al st h := by
  obtain ⟨hx, hb, hml, hrt, hown, hts, hlo, hnm, hkn, hRf, hRl, hA⟩ := C
  match st, hst with
  | Sum.inl i :: Sum.inr (Sum.inr (Sum.inl (some a))) :: st', hst =>
    unfold hAld at hst
    simp only at hst
    obtain ⟨hi0, hst⟩ := ite_of hst
    cases hr0 : rd h 11 a i.toNat with
    | none => rw [hr0] at hst; cases hst
    | some v =>
      rw [hr0] at hst
      have kk := s_go hst hk
      obtain ⟨cc, h1, h2, h3⟩ := rd_of hr0
      intro tys ws H locs cells slots ls rst hK hh hpx hP hD hS hl hs hc1 hc2
      match rst, hs with
      | X0 :: Y :: T, ⟨⟨x0, hx0, ex0⟩, ⟨b, hy, hb1⟩, hT⟩ =>
        subst hy; subst hx0; subst ex0
        obtain ⟨ee, he, hcr⟩ := hr_at hh h1 hb1
        obtain ⟨cA, f, t, rfl, hl31, ht, hf⟩ := cr_J hcr h2
        have hlt := (List.getElem?_eq_some_iff.mp h3).1
        have hj := hf _ hlt
        rw [h3] at hj
        cases hj
        exact va_lald hx hb hK hP a t he ht (vp_in_iff.mpr ⟨hi0, by omega⟩) hd (kk tys ws H locs cells slots ls _ hK hh hpx hP hD hS hl ⟨⟨_, rfl, rfl⟩, hT⟩ hc1 hc2)
      | [_], h => exact h.2.elim
      | [], h => exact h.elim

set_option maxRecDepth 4000 in
theorem s_AldR (C : CX p R s m args meth c A H0 M) {pc : Nat} {al st : List AV} {h : AH} {x : SR} (hd : decode (mC M) pc = .ok (.aaload, 1)) (hst : hAldR pc al st h = some x) (hk : ∀ pc' al' st' h', x = Sum.inl (pc', al', st', h') → WX p l e R s m args below meth c Q D A H0 N0 n0 m0 M pc' al' st' h') : WX p l e R s m args below meth c Q D A H0 N0 n0 m0 M pc al st h := by
  obtain ⟨hx, hb, hml, hrt, hown, hts, hlo, hnm, hkn, hRf, hRl, hA⟩ := C
  match st, hst with
  | Sum.inl i :: Sum.inr (Sum.inr (Sum.inl (some a))) :: st', hst =>
    unfold hAldR at hst
    simp only at hst
    obtain ⟨⟨hi0, ht12⟩, hst⟩ := ite_of hst
    cases hr0 : rd h (tagR h a) a i.toNat with
    | none => rw [hr0] at hst; cases hst
    | some v =>
      rw [hr0] at hst
      have kk := s_go hst hk
      obtain ⟨cc, h1, h2, h3⟩ := rd_of hr0
      intro tys ws H locs cells slots ls rst hK hh hpx hP hD hS hl hs hc1 hc2
      match rst, hs with
      | X0 :: Y :: T, ⟨⟨x0, hx0, ex0⟩, ⟨b, hy, hb1⟩, hT⟩ =>
        subst hy; subst hx0; subst ex0
        obtain ⟨ee, he, hcr⟩ := hr_at hh h1 hb1
        obtain ⟨cA, f, t, rfl, hl31, h14, ht, hf⟩ := cr_R hcr (by rw [h2]; exact ht12)
        have hlt := (List.getElem?_eq_some_iff.mp h3).1
        obtain ⟨r, hj, hv⟩ := hf _ hlt
        rw [h3] at hj
        cases hj
        exact va_aldq hx hb hK hP a t he ht (vp_in_iff.mpr ⟨hi0, by omega⟩) hd (kk tys ws H locs cells slots ls _ hK hh hpx hP hD hS hl ⟨hv, hT⟩ hc1 hc2)
      | [_], h => exact h.2.elim
      | [], h => exact h.elim

set_option maxRecDepth 4000 in
theorem s_AstI (C : CX p R s m args meth c A H0 M) {pc : Nat} {al st : List AV} {h : AH} {x : SR} (hd : decode (mC M) pc = .ok (.iastore, 1)) (hst : hAstI pc al st h = some x) (hk : ∀ pc' al' st' h', x = Sum.inl (pc', al', st', h') → WX p l e R s m args below meth c Q D A H0 N0 n0 m0 M pc' al' st' h') : WX p l e R s m args below meth c Q D A H0 N0 n0 m0 M pc al st h := by
  obtain ⟨hx, hb, hml, hrt, hown, hts, hlo, hnm, hkn, hRf, hRl, hA⟩ := C
  match st, hst with
  | Sum.inl x1 :: Sum.inl i :: Sum.inr (Sum.inr (Sum.inl (some a))) :: st', hst =>
    unfold hAstI at hst
    simp only at hst
    obtain ⟨hi0, hst⟩ := ite_of hst
    cases hr0 : rd h 10 a i.toNat with
    | none => rw [hr0] at hst; cases hst
    | some v =>
      rw [hr0] at hst
      have kk := s_go hst hk
      obtain ⟨cc, h1, h2, h3⟩ := rd_of hr0
      intro tys ws H locs cells slots ls rst hK hh hpx hP hD hS hl hs hc1 hc2
      match rst, hs with
      | X1 :: X0 :: Y :: T, ⟨⟨y1, hy1, ey1⟩, ⟨x0, hx0, ex0⟩, ⟨b, hy, hb1⟩, hT⟩ =>
        subst hy; subst hx0; subst ex0; subst hy1; subst ey1
        obtain ⟨ee, he, hcr⟩ := hr_at hh h1 hb1
        obtain ⟨cA, f, t, rfl, hl31, ht, hf⟩ := cr_I hcr h2
        have hlt := (List.getElem?_eq_some_iff.mp h3).1
        rw [wr_of h1 h2] at kk
        refine va_iast hx hb hK hP hD hS a t he ht (vp_in_iff.mpr ⟨hi0, by omega⟩) hd (fun H1 locs1 hP1 hD1 hS1 => ?_)
        have hnu := nu_set (e' := .inl (cA, cc.2.length, .inl (upd f x0.toNatClampNeg y1))) he
        refine kk tys _ H1 locs1 cells slots ls T hK (hr_set (e' := .inl (cA, cc.2.length, .inl (upd f x0.toNatClampNeg y1))) hh he ⟨?_, hl31, rfl, ⟨t, ht⟩, fun j hj => ?_⟩) (by rw [hnu]; exact hpx) hP1 hD1 hS1 (by rw [hnu]; exact hl) (by rw [hnu]; exact hT) (by rw [List.length_set]; exact hc1) (by rw [slt_set h1 (by simp)]; exact hc2)
        · simp only [List.length_set]
        · show (cc.2.set x0.toInt.toNat (aI y1.toInt))[j]? = some (aI (upd f x0.toInt.toNat y1 j).toInt)
          have hj : j < cc.2.length := hj
          unfold upd
          by_cases hq : j = x0.toInt.toNat
          · rw [if_pos hq, hq, List.getElem?_set_self hlt]
          · rw [if_neg hq, List.getElem?_set_ne (Ne.symm hq)]
            exact hf j hj
      | [_, _], h => exact h.2.2.elim
      | [_], h => exact h.2.elim
      | [], h => exact h.elim

set_option maxRecDepth 4000 in
theorem s_AstJ (C : CX p R s m args meth c A H0 M) {pc : Nat} {al st : List AV} {h : AH} {x : SR} (hd : decode (mC M) pc = .ok (.lastore, 1)) (hst : hAstJ pc al st h = some x) (hk : ∀ pc' al' st' h', x = Sum.inl (pc', al', st', h') → WX p l e R s m args below meth c Q D A H0 N0 n0 m0 M pc' al' st' h') : WX p l e R s m args below meth c Q D A H0 N0 n0 m0 M pc al st h := by
  obtain ⟨hx, hb, hml, hrt, hown, hts, hlo, hnm, hkn, hRf, hRl, hA⟩ := C
  match st, hst with
  | Sum.inr (Sum.inl x1) :: Sum.inl i :: Sum.inr (Sum.inr (Sum.inl (some a))) :: st', hst =>
    unfold hAstJ at hst
    simp only at hst
    obtain ⟨hi0, hst⟩ := ite_of hst
    cases hr0 : rd h 11 a i.toNat with
    | none => rw [hr0] at hst; cases hst
    | some v =>
      rw [hr0] at hst
      have kk := s_go hst hk
      obtain ⟨cc, h1, h2, h3⟩ := rd_of hr0
      intro tys ws H locs cells slots ls rst hK hh hpx hP hD hS hl hs hc1 hc2
      match rst, hs with
      | X1 :: X0 :: Y :: T, ⟨⟨y1, hy1, ey1⟩, ⟨x0, hx0, ex0⟩, ⟨b, hy, hb1⟩, hT⟩ =>
        subst hy; subst hx0; subst ex0; subst hy1; subst ey1
        obtain ⟨ee, he, hcr⟩ := hr_at hh h1 hb1
        obtain ⟨cA, f, t, rfl, hl31, ht, hf⟩ := cr_J hcr h2
        have hlt := (List.getElem?_eq_some_iff.mp h3).1
        rw [wr_of h1 h2] at kk
        refine va_last hx hb hK hP hD hS a t he ht (vp_in_iff.mpr ⟨hi0, by omega⟩) hd (fun H1 locs1 hP1 hD1 hS1 => ?_)
        have hnu := nu_set (e' := .inl (cA, cc.2.length, .inr <| .inl (vp_updL f x0.toNatClampNeg y1))) he
        refine kk tys _ H1 locs1 cells slots ls T hK (hr_set (e' := .inl (cA, cc.2.length, .inr <| .inl (vp_updL f x0.toNatClampNeg y1))) hh he ⟨?_, hl31, rfl, ⟨t, ht⟩, fun j hj => ?_⟩) (by rw [hnu]; exact hpx) hP1 hD1 hS1 (by rw [hnu]; exact hl) (by rw [hnu]; exact hT) (by rw [List.length_set]; exact hc1) (by rw [slt_set h1 (by simp)]; exact hc2)
        · simp only [List.length_set]
        · show (cc.2.set x0.toInt.toNat (aJ y1.toInt))[j]? = some (aJ (vp_updL f x0.toInt.toNat y1 j).toInt)
          have hj : j < cc.2.length := hj
          unfold vp_updL
          by_cases hq : j = x0.toInt.toNat
          · rw [if_pos hq, hq, List.getElem?_set_self hlt]
          · rw [if_neg hq, List.getElem?_set_ne (Ne.symm hq)]
            exact hf j hj
      | [_, _], h => exact h.2.2.elim
      | [_], h => exact h.2.elim
      | [], h => exact h.elim

set_option maxRecDepth 4000 in
theorem s_AstR (C : CX p R s m args meth c A H0 M) {pc : Nat} {al st : List AV} {h : AH} {x : SR} (hd : decode (mC M) pc = .ok (.aastore, 1)) (hst : hAstR pc al st h = some x) (hk : ∀ pc' al' st' h', x = Sum.inl (pc', al', st', h') → WX p l e R s m args below meth c Q D A H0 N0 n0 m0 M pc' al' st' h') : WX p l e R s m args below meth c Q D A H0 N0 n0 m0 M pc al st h := by
  obtain ⟨hx, hb, hml, hrt, hown, hts, hlo, hnm, hkn, hRf, hRl, hA⟩ := C
  match st, hst with
  | Sum.inr (Sum.inr (Sum.inl (some x1))) :: Sum.inl i :: Sum.inr (Sum.inr (Sum.inl (some a))) :: st', hst =>
    unfold hAstR at hst
    simp only at hst
    obtain ⟨⟨hi0, ht12, ht14, hiso⟩, hst⟩ := ite_of hst
    obtain ⟨cx, hx1, hx2⟩ := isO_of hiso
    cases hr0 : rd h (tagR h a) a i.toNat with
    | none => rw [hr0] at hst; cases hst
    | some v =>
      rw [hr0] at hst
      have kk := s_go hst hk
      obtain ⟨cc, h1, h2, h3⟩ := rd_of hr0
      intro tys ws H locs cells slots ls rst hK hh hpx hP hD hS hl hs hc1 hc2
      match rst, hs with
      | X1 :: X0 :: Y :: T, ⟨⟨b1, hy1, ey1⟩, ⟨x0, hx0, ex0⟩, ⟨b, hy, hb1⟩, hT⟩ =>
        subst hy; subst hx0; subst ex0; subst hy1
        obtain ⟨ee, he, hcr⟩ := hr_at hh h1 hb1
        obtain ⟨cA, f, t, rfl, hl31, h14, ht, hf⟩ := cr_R hcr (by rw [h2]; exact ht12)
        obtain ⟨ex, hex, hcx⟩ := hr_at hh hx1 ey1
        have hel : elT (tagR h a) < 6 ∧ arrN cc.1 = clsN (elT (tagR h a)) := by
          rw [h2]
          generalize tagR h a = tt at ht12 ht14
          match tt, ht12, ht14 with
          | 12, _, _ => exact ⟨by decide, rfl⟩
          | 13, _, _ => exact ⟨by decide, rfl⟩
          | 14, _, _ => exact ⟨by decide, rfl⟩
        obtain ⟨fsx, rfl, _, _⟩ := cr_O hcx (by rw [hx2]; exact hel.1)
        rw [hx2] at hex
        have hlt := (List.getElem?_eq_some_iff.mp h3).1
        rw [wr_of h1 h2] at kk
        rw [hel.2] at ht
        refine va_astq (r := (clsN (elT (tagR h a)), clsT (elT (tagR h a)), clsF (elT (tagR h a)))) hx hb hK hP hD hS a t x1 (elT (tagR h a)) he ht hex (vwA_at _ hel.1) (vp_in_iff.mpr ⟨hi0, by omega⟩) hd (fun H1 locs1 hP1 hD1 hS1 => ?_)
        have hnu := nu_set (e' := .inl (cA, cc.2.length, .inr (.inr (.inr (.inr (va_up f x0.toNatClampNeg (some b1))))))) he
        refine kk tys _ H1 locs1 cells slots ls T hK (hr_set (e' := .inl (cA, cc.2.length, .inr (.inr (.inr (.inr (va_up f x0.toNatClampNeg (some b1))))))) hh he ⟨?_, hl31, ht12, ht14, ⟨t, ?_⟩, fun j hj => ?_⟩) (by rw [hnu]; exact hpx) hP1 hD1 hS1 (by rw [hnu]; exact hl) (by rw [hnu]; exact hT) (by rw [List.length_set]; exact hc1) (by rw [slt_set h1 (by simp)]; exact hc2)
        · simp only [List.length_set]
        · rw [ht]; simp only; rw [← hel.2, h2]
        · show ∃ r, (cc.2.set x0.toInt.toNat (aR (some x1)))[j]? = some (aR r) ∧ vr (nu ws) (aR r) (va_rf (va_up f x0.toInt.toNat (some b1) j))
          have hj : j < cc.2.length := hj
          unfold va_up
          by_cases hq : j = x0.toInt.toNat
          · rw [if_pos hq, hq, List.getElem?_set_self hlt]
            exact ⟨some x1, rfl, b1, rfl, ey1⟩
          · rw [if_neg hq, List.getElem?_set_ne (Ne.symm hq)]
            exact hf j hj
      | [_, _], h => exact h.2.2.elim
      | [_], h => exact h.2.elim
      | [], h => exact h.elim

set_option maxRecDepth 4000 in
theorem s_Len (C : CX p R s m args meth c A H0 M) {pc : Nat} {al st : List AV} {h : AH} {x : SR} (hd : decode (mC M) pc = .ok (.arraylength, 1)) (hst : hLen pc al st h = some x) (hk : ∀ pc' al' st' h', x = Sum.inl (pc', al', st', h') → WX p l e R s m args below meth c Q D A H0 N0 n0 m0 M pc' al' st' h') : WX p l e R s m args below meth c Q D A H0 N0 n0 m0 M pc al st h := by
  obtain ⟨hx, hb, hml, hrt, hown, hts, hlo, hnm, hkn, hRf, hRl, hA⟩ := C
  match st, hst with
  | Sum.inr (Sum.inr (Sum.inl (some a))) :: st', hst =>
    unfold hLen at hst
    simp only at hst
    cases hr0 : ln h a with
    | none => rw [hr0] at hst; cases hst
    | some n =>
      rw [hr0] at hst
      have kk := s_go hst hk
      obtain ⟨cc, h1, h2, h3⟩ : ∃ cc, h[a]? = some cc ∧ 10 ≤ cc.1 ∧ n = cc.2.length := by
        unfold ln at hr0
        cases hc : h[a]? with
        | none => rw [hc] at hr0; cases hr0
        | some cc =>
          rw [hc] at hr0
          simp only at hr0
          cases hbb : Nat.ble 10 cc.1 with
          | true => rw [hbb] at hr0; cases hr0; exact ⟨cc, rfl, Nat.le_of_ble_eq_true hbb, rfl⟩
          | false => rw [hbb] at hr0; cases hr0
      intro tys ws H locs cells slots ls rst hK hh hpx hP hD hS hl hs hc1 hc2
      match rst, hs with
      | Y :: T, ⟨⟨b, hy, hb1⟩, hT⟩ =>
        subst hy
        obtain ⟨ee, he, hcr⟩ := hr_at hh h1 hb1
        have fin : ∀ (cA : ClassId) (f : vp_A) (t : Nat) (ty : FieldType), ee = .inl (cA, f) → f.1 = cc.2.length → cc.2.length < 2147483648 → tys[t]? = some (cA, ty) → W p l e R s m args below meth c H locs cells slots Q (F0 m pc ls (.ref b :: T)) := by
          intro cA f t ty e1 e2 e3 e4
          subst e1
          refine va_alen hx hb hK hP a t he e4 rfl hd (kk tys ws H locs cells slots ls _ hK hh hpx hP hD hS hl ⟨⟨_, rfl, ?_⟩, hT⟩ hc1 hc2)
          rw [e2, h3]
          exact (nI_toInt e3).symm
        rcases (show cc.1 = 10 ∨ cc.1 = 11 ∨ 12 ≤ cc.1 by omega) with q | q | q
        · obtain ⟨cA, f, t, e1, hl31, ht, hf⟩ := cr_I hcr q
          exact fin cA _ t _ e1 rfl hl31 ht
        · obtain ⟨cA, f, t, e1, hl31, ht, hf⟩ := cr_J hcr q
          exact fin cA _ t _ e1 rfl hl31 ht
        · obtain ⟨cA, f, t, e1, hl31, h14, ht, hf⟩ := cr_R hcr q
          exact fin cA _ t _ e1 rfl hl31 ht
      | [], h => exact h.elim


theorem sr_dfl (N : List Nat) (C : Nat) : ∀ (ks : List Nat), sr N (ks.map fun k => dfv (clsY C k)) (ks.map fun k => defaultValue (clsY C k))
  | [] => trivial
  | k :: ks => by
    refine ⟨?_, sr_dfl N C ks⟩
    show vr N (dfv (clsY C k)) (defaultValue (clsY C k))
    generalize hz : clsY C k = ty
    have hok : ∀ c k, clsY c k = .int ∨ clsY c k = .long ∨ clsY c k = .boolean ∨ (∃ n, clsY c k = .object n) ∨ ∃ n, clsY c k = .array n := by
      intro c k
      unfold clsY
      split <;> (first | unfold tyX0 | unfold tyX1 | unfold tyX2 | unfold tyX3 | unfold tyX4 | unfold tyX5) <;> split <;> first | exact Or.inl rfl | exact Or.inr (Or.inl rfl) | exact Or.inr (Or.inr (Or.inl rfl)) | exact Or.inr (Or.inr (Or.inr (Or.inl ⟨_, rfl⟩))) | exact Or.inr (Or.inr (Or.inr (Or.inr ⟨_, rfl⟩)))
    have := hok C k
    rw [hz] at this
    rcases this with h | h | h | ⟨n, h⟩ | ⟨n, h⟩ <;> subst h
    · exact ⟨0, rfl, rfl⟩
    · exact ⟨0, rfl, rfl⟩
    · exact ⟨0, rfl, rfl⟩
    · exact rfl
    · exact rfl

set_option maxRecDepth 4000 in
theorem s_New (C : CX p R s m args meth c A H0 M) {pc : Nat} {al st : List AV} {h : AH} {x : SR} {idx : Nat} (hd : decode (mC M) pc = .ok (.new idx, 3)) (hst : hNew M idx pc al st h = some x) (hbd : ∀ pc' al' st' h', x = Sum.inl (pc', al', st', h') → h'.length ≤ n0 + R.cells ∧ slt h' ≤ m0 + R.slots) (hk : ∀ pc' al' st' h', x = Sum.inl (pc', al', st', h') → WX p l e R s m args below meth c Q D A H0 N0 n0 m0 M pc' al' st' h') : WX p l e R s m args below meth c Q D A H0 N0 n0 m0 M pc al st h := by
  obtain ⟨hx, hb, hml, hrt, hown, hts, hlo, hnm, hkn, hRf, hRl, hA⟩ := C
  unfold hNew at hst
  cases hn : lk nLst (mK M) idx with
  | none => rw [hn] at hst; cases hst
  | some C =>
    rw [hn] at hst
    obtain ⟨hC, hw1, hw2, hw3⟩ := nLst_ok _ (lk_mem hn)
    simp only at hC hw1 hw2 hw3 hst
    have kk := s_go hst hk
    obtain ⟨hb1, hb2⟩ := hbd _ _ _ _ (Option.some.inj hst).symm
    have hlen : (dfl C).length = clsF C := by simp [dfl]
    rw [List.length_append, List.length_singleton] at hb1
    rw [slt_app] at hb2
    simp only [hlen] at hb2
    intro tys ws H locs cells slots ls rst hK hh hpx hP hD hS hl hs hc1 hc2
    refine va_new (C := clsN C) (T := clsT C) (N := clsF C) (ci := C) hx hb hts (clsW_ok C hC) (clsY C) (clsY_ok C hC) hown (hts _ hw1) (hts _ hw2) (hts _ hw3) hK hP hD hS hA (vwA_at C hC) (fs := (List.range (clsF C)).map fun k => defaultValue (clsY C k)) (fun j hj => by simp [vp_V, hj]) (by omega) (by omega) hd (fun q H1 hP1 hD1 hS1 => ?_)
    obtain ⟨g1, g2, g3⟩ := hr_new (tys' := tys) (q := q) (e := .inr (C, (List.range (clsF C)).map fun k => defaultValue (clsY C k))) (c := (C, dfl C)) hh (fun t x h => ⟨t, h⟩) ⟨rfl, hC, hlen, sr_dfl _ C _⟩
    exact kk tys _ H1 locs (cells + 1) (slots + clsF C) ls _ hK g1 (hpx.tr g2) hP1 hD1 hS1 (hl.up g2) ⟨⟨q, rfl, g3⟩, hs.up g2⟩ (by rw [List.length_append, List.length_singleton]; omega) (by rw [slt_app]; simp only [hlen]; omega)

set_option maxRecDepth 4000 in
theorem s_NwI (C : CX p R s m args meth c A H0 M) {pc : Nat} {al st : List AV} {h : AH} {x : SR} (hd : decode (mC M) pc = .ok (.newarray .int, 2)) (hst : hNwa 10 (aI 0) pc al st h = some x) (hbd : ∀ pc' al' st' h', x = Sum.inl (pc', al', st', h') → h'.length ≤ n0 + R.cells ∧ slt h' ≤ m0 + R.slots) (hk : ∀ pc' al' st' h', x = Sum.inl (pc', al', st', h') → WX p l e R s m args below meth c Q D A H0 N0 n0 m0 M pc' al' st' h') : WX p l e R s m args below meth c Q D A H0 N0 n0 m0 M pc al st h := by
  obtain ⟨hx, hb, hml, hrt, hown, hts, hlo, hnm, hkn, hRf, hRl, hA⟩ := C
  match st, hst with
  | Sum.inl n :: st', hst =>
    unfold hNwa at hst
    simp only at hst
    obtain ⟨⟨hn0, hn1⟩, hst⟩ := ite_of hst
    have kk := s_go hst hk
    obtain ⟨hb1, hb2⟩ := hbd _ _ _ _ (Option.some.inj hst).symm
    rw [List.length_append, List.length_singleton] at hb1
    rw [slt_app] at hb2
    simp only [List.length_replicate] at hb2
    intro tys ws H locs cells slots ls rst hK hh hpx hP hD hS hl hs hc1 hc2
    match rst, hs with
    | Y :: T, ⟨⟨y, hy, ey⟩, hT⟩ =>
      subst hy; subst ey
      refine va_newa (atype := .int) (ty := .int) (N' := y.toInt.toNat) (a0 := (y.toInt.toNat, .inl (fun _ => (0 : Int32)))) hx hb (hts _ arI_w) rfl hK hP hD hS hA (fun cA => rfl) (by rw [Int32.lt_iff_toInt_lt]; show ¬ y.toInt < 0; omega) (cl_nat y) (by show y.toInt.toNat * _ ≤ 536870912; simp only [componentBytes]; omega) (by omega) (by omega) hd (fun q cA H1 hK1 hP1 hD1 hS1 => ?_)
      obtain ⟨g1, g2, g3⟩ := hr_new (tys' := tys ++ [(cA, .int)]) (q := q) (e := .inl (cA, y.toInt.toNat, .inl (fun _ => (0 : Int32)))) (c := (10, List.replicate y.toInt.toNat (aI 0))) hh ty_app ⟨by simp, by show y.toInt.toNat < 2147483648; omega, rfl, ty_new, fun j hj => by
        have hj : j < y.toInt.toNat := hj
        simp only [List.getElem?_replicate, if_pos hj]
        rfl⟩
      exact kk _ _ H1 locs (cells + 1) (slots + y.toInt.toNat) ls _ hK1 g1 (hpx.tr g2) hP1 hD1 hS1 (hl.up g2) ⟨⟨q, rfl, g3⟩, hT.up g2⟩ (by rw [List.length_append, List.length_singleton]; omega) (by rw [slt_app]; simp only [List.length_replicate]; omega)
    | [], h => exact h.elim

set_option maxRecDepth 4000 in
theorem s_NwJ (C : CX p R s m args meth c A H0 M) {pc : Nat} {al st : List AV} {h : AH} {x : SR} (hd : decode (mC M) pc = .ok (.newarray .long, 2)) (hst : hNwa 11 (aJ 0) pc al st h = some x) (hbd : ∀ pc' al' st' h', x = Sum.inl (pc', al', st', h') → h'.length ≤ n0 + R.cells ∧ slt h' ≤ m0 + R.slots) (hk : ∀ pc' al' st' h', x = Sum.inl (pc', al', st', h') → WX p l e R s m args below meth c Q D A H0 N0 n0 m0 M pc' al' st' h') : WX p l e R s m args below meth c Q D A H0 N0 n0 m0 M pc al st h := by
  obtain ⟨hx, hb, hml, hrt, hown, hts, hlo, hnm, hkn, hRf, hRl, hA⟩ := C
  match st, hst with
  | Sum.inl n :: st', hst =>
    unfold hNwa at hst
    simp only at hst
    obtain ⟨⟨hn0, hn1⟩, hst⟩ := ite_of hst
    have kk := s_go hst hk
    obtain ⟨hb1, hb2⟩ := hbd _ _ _ _ (Option.some.inj hst).symm
    rw [List.length_append, List.length_singleton] at hb1
    rw [slt_app] at hb2
    simp only [List.length_replicate] at hb2
    intro tys ws H locs cells slots ls rst hK hh hpx hP hD hS hl hs hc1 hc2
    match rst, hs with
    | Y :: T, ⟨⟨y, hy, ey⟩, hT⟩ =>
      subst hy; subst ey
      refine va_newa (atype := .long) (ty := .long) (N' := y.toInt.toNat) (a0 := (y.toInt.toNat, .inr (.inl (fun _ => (0 : Int64))))) hx hb (hts _ arJ_w) rfl hK hP hD hS hA (fun cA => rfl) (by rw [Int32.lt_iff_toInt_lt]; show ¬ y.toInt < 0; omega) (cl_nat y) (by show y.toInt.toNat * _ ≤ 536870912; simp only [componentBytes]; omega) (by omega) (by omega) hd (fun q cA H1 hK1 hP1 hD1 hS1 => ?_)
      obtain ⟨g1, g2, g3⟩ := hr_new (tys' := tys ++ [(cA, .long)]) (q := q) (e := .inl (cA, y.toInt.toNat, .inr (.inl (fun _ => (0 : Int64))))) (c := (11, List.replicate y.toInt.toNat (aJ 0))) hh ty_app ⟨by simp, by show y.toInt.toNat < 2147483648; omega, rfl, ty_new, fun j hj => by
        have hj : j < y.toInt.toNat := hj
        simp only [List.getElem?_replicate, if_pos hj]
        rfl⟩
      exact kk _ _ H1 locs (cells + 1) (slots + y.toInt.toNat) ls _ hK1 g1 (hpx.tr g2) hP1 hD1 hS1 (hl.up g2) ⟨⟨q, rfl, g3⟩, hT.up g2⟩ (by rw [List.length_append, List.length_singleton]; omega) (by rw [slt_app]; simp only [List.length_replicate]; omega)
    | [], h => exact h.elim

set_option maxRecDepth 4000 in
theorem s_NwR (C : CX p R s m args meth c A H0 M) {pc : Nat} {al st : List AV} {h : AH} {x : SR} {idx : Nat} (hd : decode (mC M) pc = .ok (.anewarray idx, 3)) (hst : hNwr M idx pc al st h = some x) (hbd : ∀ pc' al' st' h', x = Sum.inl (pc', al', st', h') → h'.length ≤ n0 + R.cells ∧ slt h' ≤ m0 + R.slots) (hk : ∀ pc' al' st' h', x = Sum.inl (pc', al', st', h') → WX p l e R s m args below meth c Q D A H0 N0 n0 m0 M pc' al' st' h') : WX p l e R s m args below meth c Q D A H0 N0 n0 m0 M pc al st h := by
  obtain ⟨hx, hb, hml, hrt, hown, hts, hlo, hnm, hkn, hRf, hRl, hA⟩ := C
  unfold hNwr at hst
  cases hn : lk aLst (mK M) idx with
  | none => rw [hn] at hst; cases hst
  | some t =>
    rw [hn] at hst
    obtain ⟨ht1, ht2, hw1⟩ := aLst_ok _ (lk_mem hn)
    simp only at ht1 ht2 hw1 hst
    match st, hst with
    | Sum.inl n :: st', hst =>
      simp only at hst
      obtain ⟨⟨hn0, hn1⟩, hst⟩ := ite_of hst
      have kk := s_go hst hk
      obtain ⟨hb1, hb2⟩ := hbd _ _ _ _ (Option.some.inj hst).symm
      rw [List.length_append, List.length_singleton] at hb1
      rw [slt_app] at hb2
      simp only [List.length_replicate] at hb2
      have hover : va_AO (arrN t) s := by
        match t, ht1, ht2 with
        | 12, _, _ => exact hkn.2.2.1
        | 13, _, _ => exact hkn.2.2.2.1
        | 14, _, _ => exact hkn.2.2.2.2
      intro tys ws H locs cells slots ls rst hK hh hpx hP hD hS hl hs hc1 hc2
      match rst, hs with
      | Y :: T, ⟨⟨y, hy, ey⟩, hT⟩ =>
        subst hy; subst ey
        refine va_newq (C := arrN t) (N' := y.toInt.toNat) hx hb hown (hts _ hw1) hover hK hP hD hS hA (by rw [Int32.lt_iff_toInt_lt]; show ¬ y.toInt < 0; omega) (cl_nat y) (by omega) (by omega) (by omega) hd (fun q cA H1 hK1 hP1 hD1 hS1 => ?_)
        obtain ⟨g1, g2, g3⟩ := hr_new (tys' := tys ++ [(cA, .object (arrN t))]) (q := q) (e := .inl (cA, y.toInt.toNat, .inr (.inr (.inr (.inr (fun _ => none)))))) (c := (t, List.replicate y.toInt.toNat (aR none))) hh ty_app ⟨by simp, by show y.toInt.toNat < 2147483648; omega, ht1, ht2, ty_new, fun j hj => by
          have hj : j < y.toInt.toNat := hj
          exact ⟨none, by simp only [List.getElem?_replicate, if_pos hj], rfl⟩⟩
        exact kk _ _ H1 locs (cells + 1) (slots + y.toInt.toNat) ls _ hK1 g1 (hpx.tr g2) hP1 hD1 hS1 (hl.up g2) ⟨⟨q, rfl, g3⟩, hT.up g2⟩ (by rw [List.length_append, List.length_singleton]; omega) (by rw [slt_app]; simp only [List.length_replicate]; omega)
      | [], h => exact h.elim

end SND2
end
section

/-- a step never takes cells away -/
def SH (h : AH) (x : SR) : Prop := (∀ pc' al' st' h', x = Sum.inl (pc', al', st', h') → h.length ≤ h'.length ∧ slt h ≤ slt h') ∧ (∀ q, x = Sum.inr (Sum.inl q) → q.2.2.1 = h) ∧ ∀ r, x = Sum.inr (Sum.inr r) → r.2 = h
theorem SH_same {pc : Nat} {al st : List AV} {h : AH} {x : SR} (q : gS pc al st h = some x) : SH h x := by
  refine ⟨fun pc' al' st' h' e => ?_, fun y e => ?_, fun y e => ?_⟩ <;> rw [← Option.some.inj q] at e <;> cases e
  exact ⟨Nat.le_refl _, Nat.le_refl _⟩
theorem SH_to {pc : Nat} {al st : List AV} {h h1 : AH} {x : SR} (q : gS pc al st h1 = some x) (z : h.length ≤ h1.length ∧ slt h ≤ slt h1) : SH h x := by
  refine ⟨fun pc' al' st' h' e => ?_, fun y e => ?_, fun y e => ?_⟩ <;> rw [← Option.some.inj q] at e <;> cases e
  exact z
theorem wr_mono (h : AH) (t a k : Nat) (v : AV) : (wr h t a k v).length = h.length ∧ slt (wr h t a k v) = slt h := by
  unfold wr
  cases hc : h[a]? with
  | none => exact ⟨rfl, rfl⟩
  | some c =>
    simp only
    cases hb : Nat.beq c.1 t with
    | false => exact ⟨rfl, rfl⟩
    | true => exact ⟨by simp, slt_set hc (by simp)⟩
theorem SH_wr {pc : Nat} {al st : List AV} {h : AH} {t a k : Nat} {v : AV} {x : SR} (q : gS pc al st (wr h t a k v) = some x) : SH h x := SH_to q (by rw [(wr_mono h t a k v).1, (wr_mono h t a k v).2]; exact ⟨Nat.le_refl _, Nat.le_refl _⟩)
theorem SH_app {pc : Nat} {al st : List AV} {h : AH} {c : AC} {x : SR} (q : gS pc al st (h ++ [c]) = some x) : SH h x := SH_to q ⟨by simp, by rw [slt_app]; omega⟩
theorem SH_cal {M1 : MI} {as al st : List AV} {h : AH} {pc : Nat} {x : SR} (q : (some (Sum.inr (Sum.inl (M1, as, h, pc, al, st))) : Option SR) = some x) : SH h x := by
  refine ⟨fun pc' al' st' h' e => ?_, fun y e => ?_, fun y e => ?_⟩ <;> rw [← Option.some.inj q] at e <;> cases e
  rfl
theorem SH_ret {v : Option AV} {h : AH} {x : SR} (q : (some (Sum.inr (Sum.inr (v, h))) : Option SR) = some x) : SH h x := by
  refine ⟨fun pc' al' st' h' e => ?_, fun y e => ?_, fun y e => ?_⟩ <;> rw [← Option.some.inj q] at e <;> cases e
  rfl
theorem SH_cpy {pc : Nat} {al st : List AV} {h : AH} {x : SR} (q : hCpy pc al st h = some x) : SH h x := by
  unfold hCpy at q
  split at q
  · split at q
    · rename_i c e hc he
      split at q
      · exact SH_to q ⟨by simp, by rw [slt_set he (by simp [cpL])]; exact Nat.le_refl _⟩
      · cases q
    · cases q
  · cases q

theorem SH_stI {M : MI} {i : Instr} {n pc : Nat} {al st : List AV} {h : AH} {x : SR} (hst : stI M i n pc al st h = some x) : SH h x := by
  cases i with
  | iconst z => have hst := (q1_of hst).2; (try simp only [Bool.cond_eq_ite] at hst); repeat' (first | exact SH_same hst | exact SH_wr hst | exact SH_app hst | exact SH_cal hst | exact SH_ret hst | exact (Option.some_ne_none _ hst.symm).elim | split at hst)
  | lconst k => have hst := (q1_of hst).2; (try simp only [Bool.cond_eq_ite] at hst); repeat' (first | exact SH_same hst | exact SH_wr hst | exact SH_app hst | exact SH_cal hst | exact SH_ret hst | exact (Option.some_ne_none _ hst.symm).elim | split at hst)
  | bipush z => have hst := (q1_of hst).2; (try simp only [Bool.cond_eq_ite] at hst); repeat' (first | exact SH_same hst | exact SH_wr hst | exact SH_app hst | exact SH_cal hst | exact SH_ret hst | exact (Option.some_ne_none _ hst.symm).elim | split at hst)
  | sipush z => have hst := (q1_of hst).2; (try simp only [Bool.cond_eq_ite] at hst); repeat' (first | exact SH_same hst | exact SH_wr hst | exact SH_app hst | exact SH_cal hst | exact SH_ret hst | exact (Option.some_ne_none _ hst.symm).elim | split at hst)
  | ldc k => have hst := (q1_of hst).2; (try simp only [Bool.cond_eq_ite] at hst); repeat' (first | exact SH_same hst | exact SH_wr hst | exact SH_app hst | exact SH_cal hst | exact SH_ret hst | exact (Option.some_ne_none _ hst.symm).elim | split at hst)
  | ldc2_w k => have hst := (q1_of hst).2; (try simp only [Bool.cond_eq_ite] at hst); repeat' (first | exact SH_same hst | exact SH_wr hst | exact SH_app hst | exact SH_cal hst | exact SH_ret hst | exact (Option.some_ne_none _ hst.symm).elim | split at hst)
  | aconst_null => have hst := (q1_of hst).2; (try simp only [Bool.cond_eq_ite] at hst); repeat' (first | exact SH_same hst | exact SH_wr hst | exact SH_app hst | exact SH_cal hst | exact SH_ret hst | exact (Option.some_ne_none _ hst.symm).elim | split at hst)
  | iload_n k => have hst := (q1_of hst).2; unfold hLI at hst; (try simp only [Bool.cond_eq_ite] at hst); repeat' (first | exact SH_same hst | exact SH_wr hst | exact SH_app hst | exact SH_cal hst | exact SH_ret hst | exact (Option.some_ne_none _ hst.symm).elim | split at hst)
  | iload k => have hst := (q1_of hst).2; unfold hLI at hst; (try simp only [Bool.cond_eq_ite] at hst); repeat' (first | exact SH_same hst | exact SH_wr hst | exact SH_app hst | exact SH_cal hst | exact SH_ret hst | exact (Option.some_ne_none _ hst.symm).elim | split at hst)
  | lload_n k => have hst := (q1_of hst).2; unfold hLJ at hst; (try simp only [Bool.cond_eq_ite] at hst); repeat' (first | exact SH_same hst | exact SH_wr hst | exact SH_app hst | exact SH_cal hst | exact SH_ret hst | exact (Option.some_ne_none _ hst.symm).elim | split at hst)
  | lload k => have hst := (q1_of hst).2; unfold hLJ at hst; (try simp only [Bool.cond_eq_ite] at hst); repeat' (first | exact SH_same hst | exact SH_wr hst | exact SH_app hst | exact SH_cal hst | exact SH_ret hst | exact (Option.some_ne_none _ hst.symm).elim | split at hst)
  | aload_n k => have hst := (q1_of hst).2; unfold hLR at hst; (try simp only [Bool.cond_eq_ite] at hst); repeat' (first | exact SH_same hst | exact SH_wr hst | exact SH_app hst | exact SH_cal hst | exact SH_ret hst | exact (Option.some_ne_none _ hst.symm).elim | split at hst)
  | aload k => have hst := (q1_of hst).2; unfold hLR at hst; (try simp only [Bool.cond_eq_ite] at hst); repeat' (first | exact SH_same hst | exact SH_wr hst | exact SH_app hst | exact SH_cal hst | exact SH_ret hst | exact (Option.some_ne_none _ hst.symm).elim | split at hst)
  | istore_n k => have hst := (q1_of hst).2; unfold hSI at hst; (try simp only [Bool.cond_eq_ite] at hst); repeat' (first | exact SH_same hst | exact SH_wr hst | exact SH_app hst | exact SH_cal hst | exact SH_ret hst | exact (Option.some_ne_none _ hst.symm).elim | split at hst)
  | istore k => have hst := (q1_of hst).2; unfold hSI at hst; (try simp only [Bool.cond_eq_ite] at hst); repeat' (first | exact SH_same hst | exact SH_wr hst | exact SH_app hst | exact SH_cal hst | exact SH_ret hst | exact (Option.some_ne_none _ hst.symm).elim | split at hst)
  | lstore_n k => have hst := (q1_of hst).2; unfold hSJ at hst; (try simp only [Bool.cond_eq_ite] at hst); repeat' (first | exact SH_same hst | exact SH_wr hst | exact SH_app hst | exact SH_cal hst | exact SH_ret hst | exact (Option.some_ne_none _ hst.symm).elim | split at hst)
  | lstore k => have hst := (q1_of hst).2; unfold hSJ at hst; (try simp only [Bool.cond_eq_ite] at hst); repeat' (first | exact SH_same hst | exact SH_wr hst | exact SH_app hst | exact SH_cal hst | exact SH_ret hst | exact (Option.some_ne_none _ hst.symm).elim | split at hst)
  | astore_n k => have hst := (q1_of hst).2; unfold hSR at hst; (try simp only [Bool.cond_eq_ite] at hst); repeat' (first | exact SH_same hst | exact SH_wr hst | exact SH_app hst | exact SH_cal hst | exact SH_ret hst | exact (Option.some_ne_none _ hst.symm).elim | split at hst)
  | astore k => have hst := (q1_of hst).2; unfold hSR at hst; (try simp only [Bool.cond_eq_ite] at hst); repeat' (first | exact SH_same hst | exact SH_wr hst | exact SH_app hst | exact SH_cal hst | exact SH_ret hst | exact (Option.some_ne_none _ hst.symm).elim | split at hst)
  | iinc k d => have hst := (q1_of hst).2; unfold hInc at hst; (try simp only [Bool.cond_eq_ite] at hst); repeat' (first | exact SH_same hst | exact SH_wr hst | exact SH_app hst | exact SH_cal hst | exact SH_ret hst | exact (Option.some_ne_none _ hst.symm).elim | split at hst)
  | iadd => have hst := (q1_of hst).2; unfold hB32 at hst; (try simp only [Bool.cond_eq_ite] at hst); repeat' (first | exact SH_same hst | exact SH_wr hst | exact SH_app hst | exact SH_cal hst | exact SH_ret hst | exact (Option.some_ne_none _ hst.symm).elim | split at hst)
  | isub => have hst := (q1_of hst).2; unfold hB32 at hst; (try simp only [Bool.cond_eq_ite] at hst); repeat' (first | exact SH_same hst | exact SH_wr hst | exact SH_app hst | exact SH_cal hst | exact SH_ret hst | exact (Option.some_ne_none _ hst.symm).elim | split at hst)
  | imul => have hst := (q1_of hst).2; unfold hB32 at hst; (try simp only [Bool.cond_eq_ite] at hst); repeat' (first | exact SH_same hst | exact SH_wr hst | exact SH_app hst | exact SH_cal hst | exact SH_ret hst | exact (Option.some_ne_none _ hst.symm).elim | split at hst)
  | idiv => have hst := (q1_of hst).2; unfold hD32 at hst; (try simp only [Bool.cond_eq_ite] at hst); repeat' (first | exact SH_same hst | exact SH_wr hst | exact SH_app hst | exact SH_cal hst | exact SH_ret hst | exact (Option.some_ne_none _ hst.symm).elim | split at hst)
  | irem => have hst := (q1_of hst).2; unfold hD32 at hst; (try simp only [Bool.cond_eq_ite] at hst); repeat' (first | exact SH_same hst | exact SH_wr hst | exact SH_app hst | exact SH_cal hst | exact SH_ret hst | exact (Option.some_ne_none _ hst.symm).elim | split at hst)
  | ineg => have hst := (q1_of hst).2; unfold hU32 at hst; (try simp only [Bool.cond_eq_ite] at hst); repeat' (first | exact SH_same hst | exact SH_wr hst | exact SH_app hst | exact SH_cal hst | exact SH_ret hst | exact (Option.some_ne_none _ hst.symm).elim | split at hst)
  | iand => have hst := (q1_of hst).2; unfold hB32 at hst; (try simp only [Bool.cond_eq_ite] at hst); repeat' (first | exact SH_same hst | exact SH_wr hst | exact SH_app hst | exact SH_cal hst | exact SH_ret hst | exact (Option.some_ne_none _ hst.symm).elim | split at hst)
  | ior => have hst := (q1_of hst).2; unfold hB32 at hst; (try simp only [Bool.cond_eq_ite] at hst); repeat' (first | exact SH_same hst | exact SH_wr hst | exact SH_app hst | exact SH_cal hst | exact SH_ret hst | exact (Option.some_ne_none _ hst.symm).elim | split at hst)
  | ishl => have hst := (q1_of hst).2; unfold hB32 at hst; (try simp only [Bool.cond_eq_ite] at hst); repeat' (first | exact SH_same hst | exact SH_wr hst | exact SH_app hst | exact SH_cal hst | exact SH_ret hst | exact (Option.some_ne_none _ hst.symm).elim | split at hst)
  | ishr => have hst := (q1_of hst).2; unfold hB32 at hst; (try simp only [Bool.cond_eq_ite] at hst); repeat' (first | exact SH_same hst | exact SH_wr hst | exact SH_app hst | exact SH_cal hst | exact SH_ret hst | exact (Option.some_ne_none _ hst.symm).elim | split at hst)
  | ladd => have hst := (q1_of hst).2; unfold hB64 at hst; (try simp only [Bool.cond_eq_ite] at hst); repeat' (first | exact SH_same hst | exact SH_wr hst | exact SH_app hst | exact SH_cal hst | exact SH_ret hst | exact (Option.some_ne_none _ hst.symm).elim | split at hst)
  | lsub => have hst := (q1_of hst).2; unfold hB64 at hst; (try simp only [Bool.cond_eq_ite] at hst); repeat' (first | exact SH_same hst | exact SH_wr hst | exact SH_app hst | exact SH_cal hst | exact SH_ret hst | exact (Option.some_ne_none _ hst.symm).elim | split at hst)
  | lmul => have hst := (q1_of hst).2; unfold hB64 at hst; (try simp only [Bool.cond_eq_ite] at hst); repeat' (first | exact SH_same hst | exact SH_wr hst | exact SH_app hst | exact SH_cal hst | exact SH_ret hst | exact (Option.some_ne_none _ hst.symm).elim | split at hst)
  | ldiv => have hst := (q1_of hst).2; unfold hD64 at hst; (try simp only [Bool.cond_eq_ite] at hst); repeat' (first | exact SH_same hst | exact SH_wr hst | exact SH_app hst | exact SH_cal hst | exact SH_ret hst | exact (Option.some_ne_none _ hst.symm).elim | split at hst)
  | lrem => have hst := (q1_of hst).2; unfold hD64 at hst; (try simp only [Bool.cond_eq_ite] at hst); repeat' (first | exact SH_same hst | exact SH_wr hst | exact SH_app hst | exact SH_cal hst | exact SH_ret hst | exact (Option.some_ne_none _ hst.symm).elim | split at hst)
  | lneg => have hst := (q1_of hst).2; unfold hU64 at hst; (try simp only [Bool.cond_eq_ite] at hst); repeat' (first | exact SH_same hst | exact SH_wr hst | exact SH_app hst | exact SH_cal hst | exact SH_ret hst | exact (Option.some_ne_none _ hst.symm).elim | split at hst)
  | land => have hst := (q1_of hst).2; unfold hB64 at hst; (try simp only [Bool.cond_eq_ite] at hst); repeat' (first | exact SH_same hst | exact SH_wr hst | exact SH_app hst | exact SH_cal hst | exact SH_ret hst | exact (Option.some_ne_none _ hst.symm).elim | split at hst)
  | lxor => have hst := (q1_of hst).2; unfold hB64 at hst; (try simp only [Bool.cond_eq_ite] at hst); repeat' (first | exact SH_same hst | exact SH_wr hst | exact SH_app hst | exact SH_cal hst | exact SH_ret hst | exact (Option.some_ne_none _ hst.symm).elim | split at hst)
  | lcmp => have hst := (q1_of hst).2; (try simp only [Bool.cond_eq_ite] at hst); repeat' (first | exact SH_same hst | exact SH_wr hst | exact SH_app hst | exact SH_cal hst | exact SH_ret hst | exact (Option.some_ne_none _ hst.symm).elim | split at hst)
  | i2l => have hst := (q1_of hst).2; unfold hU32 at hst; (try simp only [Bool.cond_eq_ite] at hst); repeat' (first | exact SH_same hst | exact SH_wr hst | exact SH_app hst | exact SH_cal hst | exact SH_ret hst | exact (Option.some_ne_none _ hst.symm).elim | split at hst)
  | l2i => have hst := (q1_of hst).2; unfold hU64 at hst; (try simp only [Bool.cond_eq_ite] at hst); repeat' (first | exact SH_same hst | exact SH_wr hst | exact SH_app hst | exact SH_cal hst | exact SH_ret hst | exact (Option.some_ne_none _ hst.symm).elim | split at hst)
  | i2b => have hst := (q1_of hst).2; unfold hU32 at hst; (try simp only [Bool.cond_eq_ite] at hst); repeat' (first | exact SH_same hst | exact SH_wr hst | exact SH_app hst | exact SH_cal hst | exact SH_ret hst | exact (Option.some_ne_none _ hst.symm).elim | split at hst)
  | i2s => have hst := (q1_of hst).2; unfold hU32 at hst; (try simp only [Bool.cond_eq_ite] at hst); repeat' (first | exact SH_same hst | exact SH_wr hst | exact SH_app hst | exact SH_cal hst | exact SH_ret hst | exact (Option.some_ne_none _ hst.symm).elim | split at hst)
  | dup => have hst := (q1_of hst).2; unfold hDup at hst; (try simp only [Bool.cond_eq_ite] at hst); repeat' (first | exact SH_same hst | exact SH_wr hst | exact SH_app hst | exact SH_cal hst | exact SH_ret hst | exact (Option.some_ne_none _ hst.symm).elim | split at hst)
  | dup2 => have hst := (q1_of hst).2; unfold hDup2 at hst; (try simp only [Bool.cond_eq_ite] at hst); repeat' (first | exact SH_same hst | exact SH_wr hst | exact SH_app hst | exact SH_cal hst | exact SH_ret hst | exact (Option.some_ne_none _ hst.symm).elim | split at hst)
  | pop => have hst := (q1_of hst).2; unfold hPop at hst; (try simp only [Bool.cond_eq_ite] at hst); repeat' (first | exact SH_same hst | exact SH_wr hst | exact SH_app hst | exact SH_cal hst | exact SH_ret hst | exact (Option.some_ne_none _ hst.symm).elim | split at hst)
  | goto off => have hst := (q1_of hst).2; (try simp only [Bool.cond_eq_ite] at hst); repeat' (first | exact SH_same hst | exact SH_wr hst | exact SH_app hst | exact SH_cal hst | exact SH_ret hst | exact (Option.some_ne_none _ hst.symm).elim | split at hst)
  | ifCond cc off => have hst := (q1_of hst).2; unfold hIf at hst; (try simp only [Bool.cond_eq_ite] at hst); repeat' (first | exact SH_same hst | exact SH_wr hst | exact SH_app hst | exact SH_cal hst | exact SH_ret hst | exact (Option.some_ne_none _ hst.symm).elim | split at hst)
  | if_icmp cc off => have hst := (q1_of hst).2; unfold hCmp at hst; (try simp only [Bool.cond_eq_ite] at hst); repeat' (first | exact SH_same hst | exact SH_wr hst | exact SH_app hst | exact SH_cal hst | exact SH_ret hst | exact (Option.some_ne_none _ hst.symm).elim | split at hst)
  | ifnull off => have hst := (q1_of hst).2; unfold hNull at hst; (try simp only [Bool.cond_eq_ite] at hst); repeat' (first | exact SH_same hst | exact SH_wr hst | exact SH_app hst | exact SH_cal hst | exact SH_ret hst | exact (Option.some_ne_none _ hst.symm).elim | split at hst)
  | ifnonnull off => have hst := (q1_of hst).2; unfold hNull at hst; (try simp only [Bool.cond_eq_ite] at hst); repeat' (first | exact SH_same hst | exact SH_wr hst | exact SH_app hst | exact SH_cal hst | exact SH_ret hst | exact (Option.some_ne_none _ hst.symm).elim | split at hst)
  | tableswitch d lo hi offs => replace hst : hTab d lo hi offs pc al st h = some x := hst; unfold hTab at hst; (try simp only [Bool.cond_eq_ite] at hst); repeat' (first | exact SH_same hst | exact SH_wr hst | exact SH_app hst | exact SH_cal hst | exact SH_ret hst | exact (Option.some_ne_none _ hst.symm).elim | split at hst)
  | getfield k => have hst := (q1_of hst).2; unfold hGet at hst; (try simp only [Bool.cond_eq_ite] at hst); repeat' (first | exact SH_same hst | exact SH_wr hst | exact SH_app hst | exact SH_cal hst | exact SH_ret hst | exact (Option.some_ne_none _ hst.symm).elim | split at hst)
  | putfield k => have hst := (q1_of hst).2; unfold hPut at hst; (try simp only [Bool.cond_eq_ite] at hst); repeat' (first | exact SH_same hst | exact SH_wr hst | exact SH_app hst | exact SH_cal hst | exact SH_ret hst | exact (Option.some_ne_none _ hst.symm).elim | split at hst)
  | iaload => have hst := (q1_of hst).2; unfold hAld at hst; (try simp only [Bool.cond_eq_ite] at hst); repeat' (first | exact SH_same hst | exact SH_wr hst | exact SH_app hst | exact SH_cal hst | exact SH_ret hst | exact (Option.some_ne_none _ hst.symm).elim | split at hst)
  | laload => have hst := (q1_of hst).2; unfold hAld at hst; (try simp only [Bool.cond_eq_ite] at hst); repeat' (first | exact SH_same hst | exact SH_wr hst | exact SH_app hst | exact SH_cal hst | exact SH_ret hst | exact (Option.some_ne_none _ hst.symm).elim | split at hst)
  | aaload => have hst := (q1_of hst).2; unfold hAldR at hst; (try simp only [Bool.cond_eq_ite] at hst); repeat' (first | exact SH_same hst | exact SH_wr hst | exact SH_app hst | exact SH_cal hst | exact SH_ret hst | exact (Option.some_ne_none _ hst.symm).elim | split at hst)
  | iastore => have hst := (q1_of hst).2; unfold hAstI at hst; (try simp only [Bool.cond_eq_ite] at hst); repeat' (first | exact SH_same hst | exact SH_wr hst | exact SH_app hst | exact SH_cal hst | exact SH_ret hst | exact (Option.some_ne_none _ hst.symm).elim | split at hst)
  | lastore => have hst := (q1_of hst).2; unfold hAstJ at hst; (try simp only [Bool.cond_eq_ite] at hst); repeat' (first | exact SH_same hst | exact SH_wr hst | exact SH_app hst | exact SH_cal hst | exact SH_ret hst | exact (Option.some_ne_none _ hst.symm).elim | split at hst)
  | aastore => have hst := (q1_of hst).2; unfold hAstR at hst; (try simp only [Bool.cond_eq_ite] at hst); repeat' (first | exact SH_same hst | exact SH_wr hst | exact SH_app hst | exact SH_cal hst | exact SH_ret hst | exact (Option.some_ne_none _ hst.symm).elim | split at hst)
  | arraylength => have hst := (q1_of hst).2; unfold hLen at hst; (try simp only [Bool.cond_eq_ite] at hst); repeat' (first | exact SH_same hst | exact SH_wr hst | exact SH_app hst | exact SH_cal hst | exact SH_ret hst | exact (Option.some_ne_none _ hst.symm).elim | split at hst)
  | new k => have hst := (q1_of hst).2; unfold hNew at hst; (try simp only [Bool.cond_eq_ite] at hst); repeat' (first | exact SH_same hst | exact SH_wr hst | exact SH_app hst | exact SH_cal hst | exact SH_ret hst | exact (Option.some_ne_none _ hst.symm).elim | split at hst)
  | newarray t => cases t with
    | int => have hst := (q1_of hst).2; unfold hNwa at hst; (try simp only [Bool.cond_eq_ite] at hst); repeat' (first | exact SH_same hst | exact SH_wr hst | exact SH_app hst | exact SH_cal hst | exact SH_ret hst | exact (Option.some_ne_none _ hst.symm).elim | split at hst)
    | long => have hst := (q1_of hst).2; unfold hNwa at hst; (try simp only [Bool.cond_eq_ite] at hst); repeat' (first | exact SH_same hst | exact SH_wr hst | exact SH_app hst | exact SH_cal hst | exact SH_ret hst | exact (Option.some_ne_none _ hst.symm).elim | split at hst)
    | _ => exact absurd (show (none : Option SR) = some x from hst) (fun q => by cases q)
  | anewarray k => have hst := (q1_of hst).2; unfold hNwr at hst; (try simp only [Bool.cond_eq_ite] at hst); repeat' (first | exact SH_same hst | exact SH_wr hst | exact SH_app hst | exact SH_cal hst | exact SH_ret hst | exact (Option.some_ne_none _ hst.symm).elim | split at hst)
  | invokevirtual k => have hst := (q1_of hst).2; unfold hCal at hst; (try simp only [Bool.cond_eq_ite] at hst); repeat' (first | exact SH_same hst | exact SH_wr hst | exact SH_app hst | exact SH_cal hst | exact SH_ret hst | exact (Option.some_ne_none _ hst.symm).elim | split at hst)
  | invokestatic k => have hst := (q1_of hst).2; unfold hSta at hst; cases hq : (Nat.beq (mK M) 4 && Nat.beq k acpI) with
    | true => rw [hq] at hst; exact SH_cpy (bif_of hst).2
    | false => rw [hq] at hst; replace hst : hCal 1 M k pc al st h = some x := hst; unfold hCal at hst; (try simp only [Bool.cond_eq_ite] at hst); repeat' (first | exact SH_same hst | exact SH_wr hst | exact SH_app hst | exact SH_cal hst | exact SH_ret hst | exact (Option.some_ne_none _ hst.symm).elim | split at hst)
  | invokespecial k => have hst := (q1_of hst).2; unfold hSpe at hst; cases hq : lk oLst (mK M) k with
    | some _ => rw [hq] at hst; replace hst : hObj M pc al st h = some x := hst; unfold hObj at hst; (try simp only [Bool.cond_eq_ite] at hst); repeat' (first | exact SH_same hst | exact SH_wr hst | exact SH_app hst | exact SH_cal hst | exact SH_ret hst | exact (Option.some_ne_none _ hst.symm).elim | split at hst)
    | none => rw [hq] at hst; replace hst : hCal 2 M k pc al st h = some x := hst; unfold hCal at hst; (try simp only [Bool.cond_eq_ite] at hst); repeat' (first | exact SH_same hst | exact SH_wr hst | exact SH_app hst | exact SH_cal hst | exact SH_ret hst | exact (Option.some_ne_none _ hst.symm).elim | split at hst)
  | ireturn => have hst := (q1_of hst).2; unfold hRetI rS at hst; (try simp only [Bool.cond_eq_ite] at hst); repeat' (first | exact SH_same hst | exact SH_wr hst | exact SH_app hst | exact SH_cal hst | exact SH_ret hst | exact (Option.some_ne_none _ hst.symm).elim | split at hst)
  | lreturn => have hst := (q1_of hst).2; unfold hRetJ rS at hst; (try simp only [Bool.cond_eq_ite] at hst); repeat' (first | exact SH_same hst | exact SH_wr hst | exact SH_app hst | exact SH_cal hst | exact SH_ret hst | exact (Option.some_ne_none _ hst.symm).elim | split at hst)
  | areturn => have hst := (q1_of hst).2; unfold hRetR rS at hst; (try simp only [Bool.cond_eq_ite] at hst); repeat' (first | exact SH_same hst | exact SH_wr hst | exact SH_app hst | exact SH_cal hst | exact SH_ret hst | exact (Option.some_ne_none _ hst.symm).elim | split at hst)
  | return_ => have hst := (q1_of hst).2; unfold hRetV rS at hst; (try simp only [Bool.cond_eq_ite] at hst); repeat' (first | exact SH_same hst | exact SH_wr hst | exact SH_app hst | exact SH_cal hst | exact SH_ret hst | exact (Option.some_ne_none _ hst.symm).elim | split at hst)
  | _ => exact absurd (show (none : Option SR) = some x from hst) (fun q => by cases q)

theorem SH_stp {M : MI} {pc : Nat} {al st : List AV} {h : AH} {x : SR} (hst : stp M pc al st h = some x) : SH h x := by
  unfold stp at hst
  split at hst
  · exact SH_stI hst
  · cases hst
theorem exec_mono : ∀ (n : Nat) (c : Cf) (r : RV), exec n c = some r → c.2.2.2.2.length ≤ r.2.length ∧ slt c.2.2.2.2 ≤ slt r.2 := by
  intro n
  induction n with
  | zero => intro c r h; cases h
  | succ n ih =>
    intro c r h
    rw [exec] at h
    cases hs : stp c.1 c.2.1 c.2.2.1 c.2.2.2.1 c.2.2.2.2 with
    | none => rw [hs] at h; cases h
    | some x =>
      rw [hs] at h
      obtain ⟨s1, s2, s3⟩ := SH_stp hs
      match x, h with
      | Sum.inl q, h =>
        have z := s1 q.1 q.2.1 q.2.2.1 q.2.2.2 rfl
        have y := ih _ _ h
        exact ⟨Nat.le_trans z.1 y.1, Nat.le_trans z.2 y.2⟩
      | Sum.inr (Sum.inl q), h =>
        have z := s2 q rfl
        simp only at h
        cases h1 : exec n (q.1, 0, ent q.1 q.2.1, [], q.2.2.1) with
        | none => rw [h1] at h; cases h
        | some r1 =>
          rw [h1] at h
          have y := ih _ _ h
          have y1 := ih _ _ h1
          simp only [z] at y1 y
          exact ⟨Nat.le_trans y1.1 y.1, Nat.le_trans y1.2 y.2⟩
      | Sum.inr (Sum.inr r1), h =>
        have z := s3 r1 rfl
        cases h
        rw [z]
        exact ⟨Nat.le_refl _, Nat.le_refl _⟩
end
section

/-- what a method owes at its end: its answer, and the cells as the number machine has them -/
def QX (D : va_G) (ws : va_W) (sz : Nat) (v : Option AV) (h2 : AH) : Array Value → State → Outcome → State → Prop := fun _ st oc t => (∃ (rv : Option Value) (tys' : List (ClassId × FieldType)) (ws' : va_W), oc = .returned rv ∧ ovr (nu ws') v rv ∧ hr tys' ws' h2 ∧ px (nu ws) (nu ws') ∧ va_P D vwA ws' t.heap ∧ va_K D vwA tys' t ∧ va_D (va_A ws sz) ws') ∧ va_F (va_A ws sz) st t
def PX (D : va_G) (tys : List (ClassId × FieldType)) (ws : va_W) (sz : Nat) (U : State) : Prop := U.heap.size = sz ∧ va_P D vwA ws U.heap ∧ va_K D vwA tys U ∧ va_D (fun _ => True) ws ∧ KN U
abbrev wsM (M : MI) : List Cond := Cond.code (mY M) (mC M) (mL M) (mT M) :: wAll
def MetX (l : Launch) (D : va_G) (M : MI) (as : List AV) (h : AH) (v : Option AV) (h2 : AH) : Prop :=
  ∀ (tys : List (ClassId × FieldType)) (ws : va_W) (As : List Value) (sz mc ms : Nat), hr tys ws h → sr (nu ws) as As → h2.length ≤ h.length + mc → slt h2 ≤ slt h + ms →
    Met l (mY M) (wsM M) ({ frames := mR M, cells := mc, slots := ms, locals := mW M } : Room) (va_Pc As (PX D tys ws sz)) (QX D ws sz v h2) mc ms (va_A ws sz)
theorem PX.blind {D : va_G} {tys : List (ClassId × FieldType)} {ws : va_W} {sz : Nat} {As : List Value} : FrameBlind (va_Pc As (PX D tys ws sz)) := fun a U g mk q => ⟨q.1, q.2.1, q.2.2.1, va_K.moved (u := U) (U := U.calling g mk a) (Vm.Alike.refl U.vm) q.2.2.2.1, q.2.2.2.2.1, q.2.2.2.2.2.call⟩
section SND3
variable {p : Program} {l : Launch} {e : Env} {R : Room} {s : State} {m : MethodId} {args : Array Value} {below : List Frame} {meth : Method} {c : Code} {Q : State → Prop} {D : va_G} {A : Nat → Prop} {H0 : Heap} {N0 : List Nat} {n0 m0 : Nat} {M : MI}
theorem am_call {H : Heap} {locs : List Loc} {cells slots mc ms pc : Nat} {ls : Array Slot} {st0 rest : List Value} {ws : va_W} {v : Option AV} {h2 : AH} {a : Array Value} (hrun : va_Run p l e R s m args below meth c H locs cells slots mc ms (F0 m pc ls st0) rest (QX D ws H.size v h2 a) (va_A ws H.size)) (hS : va_S A H0 H locs) (hAw : ∀ q, va_A ws H.size q → A q)
    (kk : ∀ (rv : Option Value) (tys' : List (ClassId × FieldType)) (ws' : va_W) (H1 : Heap) (locs1 : List Loc), ovr (nu ws') v rv → hr tys' ws' h2 → px (nu ws) (nu ws') → va_P D vwA ws' H1 → va_K D vwA tys' s → va_D A ws' → va_S A H0 H1 locs1 → W p l e R s m args below meth c H1 locs1 (cells + mc) (slots + ms) Q (F0 m (pc + 3) ls (rv.toList ++ rest))) : W p l e R s m args below meth c H locs cells slots Q (F0 m pc ls st0) := by
  intro T hT X0
  obtain ⟨w, st₀, t, T', L, h0, X', hL, e1, e2, ⟨⟨rv, tys', ws', hv, g1, g2, g3, g4, g5, g6⟩, hz, hk⟩, st⟩ := hrun T hT X0
  cases hv
  rw [h0] at hz hk
  have hvm : s.vm.Alike t.vm := by rw [← e2]; exact X'.warmed.alike
  obtain ⟨t2, a1, b1⟩ := kk w tys' ws' T'.heap (locs ++ L) g1 g2 g3 (by rw [e1]; exact g4) (va_K.moved hvm.symm g5) (g6.weaken fun _ _ _ h => hAw _ h)
    ⟨Nat.le_trans hS.1 (by rw [e1]; exact hz), fun q h1 h2 => by rw [e1, hk q (Nat.lt_of_lt_of_le h1 hS.1) (fun z => h2 (hAw q z))]; exact hS.2.1 q h1 h2, fun q hq => by
      rcases List.mem_append.mp hq with h | h
      · exact hS.2.2 q h
      · exact hAw _ (hL q h)⟩ T' rfl X'
  exact ⟨t2, st t2 a1, b1⟩
theorem aw_of {ws : va_W} {H : Heap} {locs : List Loc} (hD : va_D A ws) (hS : va_S A H0 H locs) (hA : ∀ q, H0.size ≤ q → A q) : ∀ q, va_A ws H.size q → A q := by
  intro q h
  rcases h with ⟨k, e, h⟩ | h
  · exact hD.2 k (q, e) h
  · exact hA q (Nat.le_trans hS.1 h)
set_option maxRecDepth 4000 in
theorem s_Cal (C : CX p R s m args meth c A H0 M) {ik idx pc : Nat} {al st : List AV} {h : AH} {x : SR} (hd : decode (mC M) pc = .ok ((match ik with
  | 0 => Instr.invokevirtual idx
  | 1 => Instr.invokestatic idx
  | _ => Instr.invokespecial idx), 3)) (hst : hCal ik M idx pc al st h = some x) (hk : ∀ M1 as h1 pc' al' st', x = Sum.inr (Sum.inl (M1, as, h1, pc', al', st')) → okM M1 → as.all nU = true → (esl as).length ≤ mL M1 → ∃ v h2, MetX l D M1 as h1 v h2 ∧ h1.length ≤ h2.length ∧ slt h1 ≤ slt h2 ∧ h2.length ≤ n0 + R.cells ∧ slt h2 ≤ m0 + R.slots ∧ WX p l e R s m args below meth c Q D A H0 N0 n0 m0 M pc' al' (v.toList ++ st') h2) : WX p l e R s m args below meth c Q D A H0 N0 n0 m0 M pc al st h := by
  obtain ⟨hx, hb, hml, hrt, hown, hts, hlo, hnm, hkn, hRf, hRl, hA⟩ := C
  unfold hCal at hst
  cases hc : cT (mK M) idx with
  | none => rw [hc] at hst; cases hst
  | some q =>
    obtain ⟨k, M1⟩ := q
    rw [hc] at hst
    simp only at hst
    obtain ⟨hcond, hst⟩ := bif_of hst
    simp only [Bool.and_eq_true] at hcond
    obtain ⟨c1, c2, c3, c4, c5, c6, c7, c8⟩ := hcond
    have c2 := Nat.le_of_ble_eq_true c2
    have c3 := Nat.le_of_ble_eq_true c3
    have c4 := Nat.le_of_ble_eq_true c4
    have c5 := Nat.le_of_ble_eq_true c5
    have c6 := Nat.le_of_ble_eq_true c6
    obtain ⟨hoC, hoM⟩ := cLst_ok _ (lk_mem hc)
    simp only at hoC hoM
    obtain ⟨v, h2, hM, i1, i2, i3, i4, kk⟩ := hk M1 _ h _ _ _ (Option.some.inj hst).symm hoM c7 c6
    obtain ⟨m1, m2, m3, m4, m5⟩ := hoM
    intro tys ws H locs cells slots ls rst hK hh hpx hP hD hS hl hs hc1 hc2
    have hsA : sr (nu ws) (st.take (mN M1)).reverse (rst.take (mN M1)).reverse := (hs.take _).rev
    have hsR : sr (nu ws) (st.drop (mN M1)) (rst.drop (mN M1)) := hs.drop _
    have hrl : (rst.take (mN M1)).reverse.length = mN M1 := by rw [List.length_reverse, List.length_take, ← hs.len]; omega
    have hrst : rst = (rst.take (mN M1)).reverse.reverse ++ rst.drop (mN M1) := by rw [List.reverse_reverse]; exact (List.take_append_drop _ _).symm
    generalize hAs : (rst.take (mN M1)).reverse = As at hsA hrl hrst
    have hMet := hM tys ws As H.size (h2.length - h.length) (slt h2 - slt h) hh hsA (by omega) (by omega)
    have hcb : ∀ (w : Cond), w ∈ wAll → w.before args s = true := hts
    have hwU : ∀ w ∈ wsM M1, ∀ (a' : Array Value) (U : State), s.WarmedH U.vm → w.before a' U = true := by
      intro w hw a' U hW
      have hw : w ∈ wAll := by
        rcases List.mem_cons.mp hw with rfl | hw
        · exact m1
        · exact hw
      exact word_at hW (wAll_good hw) (hts w hw)
    have hroom : (rst.drop (mN M1)).map (fun v => v.category) |>.sum |> (· ≤ 8) := Nat.le_trans hsR.wds c5
    have hf2 : cells + (h2.length - h.length) ≤ R.cells ∧ slots + (slt h2 - slt h) ≤ R.slots := ⟨by omega, by omega⟩
    have hsize : ls.size = mL M := by obtain ⟨_, lv, h1, _⟩ := hl; exact h1.1
    have hframes : mR M1 + 1 ≤ R.frames := Nat.le_trans c2 hRf
    have hloc : 8 + (mL M1 + 11) + mW M1 ≤ R.locals := by omega
    have hPX : ∀ U : State, U.heap = H → s.WarmedH U.vm → PX D tys ws H.size U := fun U hU hW => ⟨by rw [hU], by rw [hU]; exact hP, va_K.moved hW.alike hK, hD.weaken (fun _ _ _ _ => trivial), KN.warm hW hkn⟩
    have go : ∀ a : Array Value, va_Run p l e R s m args below meth c H locs cells slots (h2.length - h.length) (slt h2 - slt h) (F0 m pc ls rst) (rst.drop (mN M1)) (QX D ws H.size v h2 a) (va_A ws H.size) → W p l e R s m args below meth c H locs cells slots Q (F0 m pc ls rst) := by
      intro a hrun
      refine am_call hrun hS (aw_of hD hS hA) fun rv tys' ws' H1 locs1 g1 g2 g3 g4 g5 g6 g7 => ?_
      refine kk tys' ws' H1 locs1 _ _ ls _ g5 g2 (hpx.tr g3) g4 g6 g7 (hl.up g3) ?_ (by omega) (by omega)
      refine sr.app ?_ (hsR.up g3)
      match v, g1 with
      | none, g1 => cases g1; exact trivial
      | some w, ⟨U, g1, g8⟩ => cases g1; exact ⟨g8, trivial⟩
    -- the kinds of call
    match k, hoC, c8, c1 with
    | 0, ⟨o1, o2, o3, o4⟩, c8, c1 =>
      have hik : ik = 0 := by
        match ik, c1 with
        | 0, _ => rfl
        | 1, c1 => cases c1
        | n + 2, c1 => cases c1
      subst hik
      match hsv : (st.take (mN M1)).reverse, hsA, c8 with
      | Sum.inr (Sum.inr (Sum.inl (some ra))) :: as', hsA, c8 =>
        match As, hsA, hMet, hrst, hrl with
        | Y :: As', ⟨⟨b, hy, hb1⟩, hA'⟩, hMet, hrst, hrl =>
          subst hy
          obtain ⟨c9, c8⟩ := (Bool.and_eq_true _ _).mp c8
          have hlt6 : mK M1 < 6 := Nat.le_of_ble_eq_true c9
          obtain ⟨co, q1, q2⟩ := isO_of c8
          obtain ⟨eo, q3, q4⟩ := hr_at hh q1 hb1
          obtain ⟨fs, rfl, _, _⟩ := cr_O q4 (by rw [q2]; exact hlt6)
          rw [q2] at q3
          refine go _ (va_runV (As := As') (C := (mY M1).cls) ⟨hx, hb, hml, hown, hts⟩ hMet (n := As'.length) ⟨⟨rfl, rfl, hframes, hloc, hwU, List.mem_cons_self, hts _ m1, hts _ m2, m5, fun sig hsig => ?_, hts _ o1⟩, hts _ o2, hts _ o3⟩ ⟨PX.blind, ?_, fun U hU hW => ⟨rfl, hPX U hU hW⟩⟩ rfl rfl hsize ?_ (lv_room hroom) hd hf2)
          · rw [hsig] at o4
            have this : sig.parameters.length + 1 = mN M1 := Option.some.inj o4
            rw [List.length_cons] at hrl
            omega
          · have hcls : clsN (mK M1) = (mY M1).cls := m4.symm
            rw [← hcls]
            exact va_recv hK hP (vwA_at _ hlt6) q3
          · show rst = As'.reverse ++ .ref b :: rst.drop (mN M1)
            rw [List.reverse_cons, List.append_assoc] at hrst
            exact hrst
        | [], hsA, _, _, _ => exact hsA.elim
    | 1, ⟨o1, o2, o3⟩, c8, c1 =>
      have hik : ik = 1 := by
        match ik, c1 with
        | 0, c1 => cases c1
        | 1, _ => rfl
        | n + 2, c1 => cases c1
      subst hik
      refine go _ (va_runS (As := As) ⟨hx, hb, hml, hown, hts⟩ hMet (n := As.length) ⟨⟨rfl, rfl, hframes, hloc, hwU, List.mem_cons_self, hts _ m1, hts _ m2, m5, fun sig hsig => ?_, hts _ o1⟩, hts _ o2⟩ ⟨PX.blind, fun U hU hW => ⟨rfl, hPX U hU hW⟩⟩ rfl rfl hsize hrst (lv_room hroom) hd hf2)
      rw [hsig] at o3
      have this : sig.parameters.length = mN M1 := Option.some.inj o3
      omega
    | 2, ⟨o1, o2, o3, o3', o4⟩, c8, c1 =>
      have hik : ∃ n, ik = n + 2 := by
        match ik, c1 with
        | 0, c1 => cases c1
        | 1, c1 => cases c1
        | n + 2, _ => exact ⟨n, rfl⟩
      obtain ⟨ik', rfl⟩ := hik
      match hsv : (st.take (mN M1)).reverse, hsA, c8 with
      | Sum.inr (Sum.inr (Sum.inl (some ra))) :: as', hsA, c8 =>
        match As, hsA, hMet, hrst, hrl with
        | Y :: As', ⟨⟨b, hy, hb1⟩, hA'⟩, hMet, hrst, hrl =>
          subst hy
          have hcode : Cond.code (mY M1) (mC M1) (mL M1) none ∈ wAll := by rw [← o3']; exact m1
          refine go _ (va_runI (As := As') (b := b) ⟨hx, hb, hml, hown, hts⟩ hMet (n := As'.length) ⟨⟨rfl, rfl, hframes, hloc, hwU, List.mem_cons_of_mem _ hcode, hts _ hcode, hts _ m2, m5, fun sig hsig => ?_, hts _ o1⟩, o3, hts _ o2⟩ ⟨PX.blind, fun U hU hW => ⟨rfl, hPX U hU hW⟩⟩ rfl rfl hsize ?_ (lv_room hroom) hd hf2)
          · rw [hsig] at o4
            have this : sig.parameters.length + 1 = mN M1 := Option.some.inj o4
            rw [List.length_cons] at hrl
            omega
          · show rst = As'.reverse ++ .ref b :: rst.drop (mN M1)
            rw [List.reverse_cons, List.append_assoc] at hrst
            exact hrst
        | [], hsA, _, _, _ => exact hsA.elim
    | k + 3, ⟨⟨host, o1⟩, o2, o3, o3', o4⟩, c8, c1 =>
      have hik : ∃ n, ik = n + 2 := by
        match ik, c1 with
        | 0, c1 => cases c1
        | 1, c1 => cases c1
        | n + 2, _ => exact ⟨n, rfl⟩
      obtain ⟨ik', rfl⟩ := hik
      match hsv : (st.take (mN M1)).reverse, hsA, c8 with
      | Sum.inr (Sum.inr (Sum.inl (some ra))) :: as', hsA, c8 =>
        match As, hsA, hMet, hrst, hrl with
        | Y :: As', ⟨⟨b, hy, hb1⟩, hA'⟩, hMet, hrst, hrl =>
          subst hy
          have hcode : Cond.code (mY M1) (mC M1) (mL M1) none ∈ wAll := by rw [← o3']; exact m1
          refine go _ (va_runIN (As := As') (b := b) (host := host) ⟨hx, hb, hml, hown, hts⟩ hMet (n := As'.length) ⟨⟨⟨rfl, rfl, hframes, hloc, hwU, List.mem_cons_of_mem _ hcode⟩, hts _ hcode, hts _ m2, m5, fun sig hsig => ?_, va_Nw.use rfl (hkn.2.1 _ o1)⟩, o3, hts _ o2⟩ ⟨PX.blind, fun U hU hW => ⟨rfl, hPX U hU hW⟩⟩ rfl rfl hsize ?_ (lv_room hroom) hd hf2)
          · rw [hsig] at o4
            have this : sig.parameters.length + 1 = mN M1 := Option.some.inj o4
            rw [List.length_cons] at hrl
            omega
          · show rst = As'.reverse ++ .ref b :: rst.drop (mN M1)
            rw [List.reverse_cons, List.append_assoc] at hrst
            exact hrst
        | [], hsA, _, _, _ => exact hsA.elim
end SND3
end
section

section SND4
variable {p : Program} {l : Launch} {e : Env} {R : Room} {s : State} {m : MethodId} {args : Array Value} {below : List Frame} {meth : Method} {c : Code} {Q : State → Prop} {D : va_G} {A : Nat → Prop} {H0 : Heap} {N0 : List Nat} {n0 m0 : Nat} {M : MI}
theorem s_Obj (C : CX p R s m args meth c A H0 M) {idx pc : Nat} {al st : List AV} {h : AH} {x : SR} (hd : decode (mC M) pc = .ok (.invokespecial idx, 3)) (hi : lk oLst (mK M) idx = some ()) (hst : hObj M pc al st h = some x) (hk : ∀ pc' al' st' h', x = Sum.inl (pc', al', st', h') → WX p l e R s m args below meth c Q D A H0 N0 n0 m0 M pc' al' st' h') : WX p l e R s m args below meth c Q D A H0 N0 n0 m0 M pc al st h := by
  obtain ⟨hx, hb, hml, hrt, hown, hts, hlo, hnm, hkn, hRf, hRl, hA⟩ := C
  have hw := oLst_ok _ (lk_mem hi)
  simp only at hw
  match st, hst with
  | Sum.inr (Sum.inr (Sum.inl (some a))) :: st', hst =>
    unfold hObj at hst
    simp only at hst
    obtain ⟨hcond, hst⟩ := bif_of hst
    simp only [Bool.and_eq_true] at hcond
    obtain ⟨c1, c2, c3⟩ := hcond
    have c1 := Nat.le_of_ble_eq_true c1
    have c2 := Nat.le_of_ble_eq_true c2
    have c3 := Nat.le_of_ble_eq_true c3
    have kk := s_go hst hk
    intro tys ws H locs cells slots ls rst hK hh hpx hP hD hS hl hs hc1 hc2
    match rst, hs with
    | Y :: T, ⟨⟨b, hy, hb1⟩, hT⟩ =>
      subst hy
      have hsz : ls.size = mL M := by obtain ⟨_, lv, h1, _⟩ := hl; exact h1.1
      have hwd := hT.wds
      refine W.objInit (g := F0 m pc ls (.ref b :: T)) hx hb hown (hts _ hw) (hts _ objI_w) (hts _ objC_w) rfl (by show ls.size = _; rw [hml]; exact hsz) rfl hd (by omega) (by show 2 * 0 + _ + 12 ≤ _; omega) ?_
      exact kk tys ws H locs cells slots ls T hK hh hpx hP hD hS hl hT hc1 hc2
    | [], h => exact h.elim
theorem getD_some {α : Type} {l : List α} {k : Nat} {x d : α} (h : l[k]? = some x) : l.getD k d = x := by simp [List.getD, h]
theorem cpL_at {vs ws : List AV} {sp dp n j : Nat} (hj : j < ws.length) : (cpL vs ws sp dp n)[j]? = some (if dp ≤ j ∧ j < dp + n then vs.getD (sp + (j - dp)) aU else ws.getD j aU) := by
  unfold cpL
  rw [List.getElem?_map, List.getElem?_range hj]
  rfl
set_option maxRecDepth 4000 in
theorem s_Cpy (C : CX p R s m args meth c A H0 M) {pc : Nat} {al st : List AV} {h : AH} {x : SR} (hd : decode (mC M) pc = .ok (.invokestatic acpI, 3)) (h4 : mK M = 4) (hr1 : 1 ≤ mR M) (hw1 : 30 ≤ mW M) (hst : hCpy pc al st h = some x) (hk : ∀ pc' al' st' h', x = Sum.inl (pc', al', st', h') → WX p l e R s m args below meth c Q D A H0 N0 n0 m0 M pc' al' st' h') : WX p l e R s m args below meth c Q D A H0 N0 n0 m0 M pc al st h := by
  obtain ⟨hx, hb, hml, hrt, hown, hts, hlo, hnm, hkn, hRf, hRl, hA⟩ := C
  obtain ⟨w1, w2, w3, w4⟩ := acp_w
  match st, hst with
  | Sum.inl n :: Sum.inl dp :: Sum.inr (Sum.inr (Sum.inl (some d))) :: Sum.inl sp :: Sum.inr (Sum.inr (Sum.inl (some sa))) :: st', hst =>
    unfold hCpy at hst
    simp only at hst
    cases hcs : h[sa]? with
    | none => rw [hcs] at hst; cases hst
    | some cs =>
      cases hcd : h[d]? with
      | none => rw [hcs, hcd] at hst; cases hst
      | some cd =>
        rw [hcs, hcd] at hst
        simp only at hst
        obtain ⟨⟨k1, k2, k3, k4, k5, k6, k7, k8⟩, hst⟩ := ite_of hst
        have kk := s_go hst hk
        intro tys ws H locs cells slots ls rst hK hh hpx hP hD hS hl hs hc1 hc2
        match rst, hs with
        | V1 :: V2 :: V3 :: V4 :: V5 :: T, ⟨⟨y1, e1, f1⟩, ⟨y2, e2, f2⟩, ⟨b3, e3, f3⟩, ⟨y4, e4, f4⟩, ⟨b5, e5, f5⟩, hT⟩ =>
          subst e1; subst e2; subst e3; subst e4; subst e5; subst f1; subst f2; subst f4
          have hsz : ls.size = mL M := by obtain ⟨_, lv, h1, _⟩ := hl; exact h1.1
          have hwd := hT.wds
          obtain ⟨es, hes, hcrs⟩ := hr_at hh hcs f5
          obtain ⟨ed, hed, hcrd⟩ := hr_at hh hcd f3
          obtain ⟨cA, f, t, rfl, g1, g2, g3⟩ := cr_J hcrs k1
          obtain ⟨cB, g, u, rfl, g4, g5, g6⟩ := cr_J hcrd k2
          rw [h4] at hown
          have hnf : nativeFrameWords "java/lang/System" "arraycopy" 5 = 7 := by decide +kernel
          refine va_copyl hx hb (hml.trans hsz.symm) hown (hts _ w1) (hts _ w2) (hts _ w3) (hts _ w4) hK hP hD hS sa d t u hes hed g2 g5 rfl (by rw [Int32.lt_iff_toInt_lt]; show ¬ y4.toInt < 0; omega) (by rw [Int32.lt_iff_toInt_lt]; show ¬ y2.toInt < 0; omega) (by rw [Int32.lt_iff_toInt_lt]; show ¬ y1.toInt < 0; omega) (by rw [cl_nat, cl_nat]; omega) (by rw [cl_nat, cl_nat]; omega) (fun _ _ => rfl) (by omega) (by rw [hnf]; omega) hd (fun H1 locs1 hP1 hD1 hS1 => ?_)
          have hnu := nu_set (e' := .inl (cB, cd.2.length, .inr (.inl (va_cpy f g y4.toNatClampNeg y2.toNatClampNeg y1.toNatClampNeg)))) hed
          refine kk tys _ H1 locs1 cells slots ls T hK (hr_set (e' := .inl (cB, cd.2.length, .inr (.inl (va_cpy f g y4.toNatClampNeg y2.toNatClampNeg y1.toNatClampNeg)))) hh hed ⟨?_, g4, rfl, ⟨u, g5⟩, fun j hj => ?_⟩) (by rw [hnu]; exact hpx) hP1 hD1 hS1 (by rw [hnu]; exact hl) (by rw [hnu]; exact hT) (by rw [List.length_set]; exact hc1) (by rw [slt_set hcd (by simp [cpL])]; exact hc2)
          · simp [cpL]
          · have hj : j < cd.2.length := hj
            show (cpL cs.2 cd.2 y4.toInt.toNat y2.toInt.toNat y1.toInt.toNat)[j]? = some (aJ (va_cpy f g y4.toInt.toNat y2.toInt.toNat y1.toInt.toNat j).toInt)
            rw [cpL_at hj]
            unfold va_cpy
            by_cases hq : y2.toInt.toNat ≤ j ∧ j < y2.toInt.toNat + y1.toInt.toNat
            · rw [if_pos hq, if_pos hq, getD_some (g3 _ (by omega))]
            · rw [if_neg hq, if_neg hq, getD_some (g6 _ hj)]
        | [_, _, _, _], h => exact h.2.2.2.2.elim
        | [_, _, _], h => exact h.2.2.2.elim
        | [_, _], h => exact h.2.2.elim
        | [_], h => exact h.2.elim
        | [], h => exact h.elim
/-- what an end owes -/
def RX (s : State) (args : Array Value) (below : List Frame) (Q : State → Prop) (D : va_G) (A : Nat → Prop) (H0 : Heap) (N0 : List Nat) (n0 m0 : Nat) (v : Option AV) (h' : AH) : Prop := ∃ (ws0 : va_W) (mc ms : Nat), N0 = nu ws0 ∧ A = va_A ws0 s.heap.size ∧ H0 = s.heap ∧ Q = MQ below (QX D ws0 s.heap.size v h') args s mc ms (va_A ws0 s.heap.size) ∧ h'.length ≤ n0 + mc ∧ slt h' ≤ m0 + ms
theorem s_Ret (C : CX p R s m args meth c A H0 M) {i : Instr} {pc : Nat} {al st : List AV} {h : AH} {x : SR} (hd : decode (mC M) pc = .ok (i, 1)) (hst : (i = .ireturn ∧ hRetI M st h = some x) ∨ (i = .lreturn ∧ hRetJ M st h = some x) ∨ (i = .areturn ∧ hRetR M st h = some x) ∨ (i = .return_ ∧ hRetV M st h = some x)) (hk : ∀ v h', x = Sum.inr (Sum.inr (v, h')) → RX s args below Q D A H0 N0 n0 m0 v h') : WX p l e R s m args below meth c Q D A H0 N0 n0 m0 M pc al st h := by
  obtain ⟨hx, hb, hml, hrt, hown, hts, hlo, hnm, hkn, hRf, hRl, hA⟩ := C
  have fin : ∀ {v : Option AV}, RX s args below Q D A H0 N0 n0 m0 v h → (∀ (mc ms : Nat) (ws0 : va_W) (H : Heap) (locs : List Loc) (ls : Array Slot) (rst : List Value), sr (nu ws0) [] [] → (∀ ws, sr (nu ws) st rst → (∀ rv, ovr (nu ws) v rv → (∀ t : State, t.heap = H → s.WarmedH t.vm → QX D ws0 s.heap.size v h args s (.returned rv) t)) → (∀ q ∈ locs, va_A ws0 s.heap.size q.base) → W p l e R s m args below meth c H locs mc ms (MQ below (QX D ws0 s.heap.size v h) args s mc ms (va_A ws0 s.heap.size)) (F0 m pc ls rst))) → WX p l e R s m args below meth c Q D A H0 N0 n0 m0 M pc al st h := by
    intro v ⟨ws0, mc, ms, z1, z2, z3, z4, z5, z6⟩ row
    subst z1; subst z2; subst z3; subst z4
    intro tys ws H locs cells slots ls rst hK hh hpx hP hD hS hl hs hc1 hc2
    refine W.widen (k := mc) (n := ms) (by omega) (by omega) ?_
    refine row mc ms ws0 H locs ls rst trivial ws hs (fun rv hv t ht hW => ⟨⟨rv, tys, ws, rfl, hv, hh, hpx, by rw [ht]; exact hP, va_K.moved hW.alike hK, hD⟩, hS.F ht⟩) hS.2.2
  rcases hst with ⟨rfl, hst⟩ | ⟨rfl, hst⟩ | ⟨rfl, hst⟩ | ⟨rfl, hst⟩
  · match st, hst with
    | [Sum.inl z], hst =>
      unfold hRetI at hst
      simp only at hst
      cases hT : mT M with
      | none => rw [hT] at hst; cases hst
      | some ty =>
        rw [hT] at hst hrt
        cases ty with
        | int =>
          have hst := Option.some.inj hst
          refine fin (hk _ _ hst.symm) fun mc ms ws0 H locs ls rst _ ws hs hq hf => ?_
          match rst, hs with
          | [Y], ⟨⟨y, hy, ey⟩, _⟩ =>
            subst hy
            exact W.iret hx hb hrt (hq _ ⟨_, rfl, y, rfl, ey⟩) hf hd
          | [], h => exact h.elim
          | _ :: _ :: _, h => exact h.2.elim
        | boolean =>
          obtain ⟨h01, hst⟩ := ite_of hst
          have hst := Option.some.inj hst
          refine fin (hk _ _ hst.symm) fun mc ms ws0 H locs ls rst _ ws hs hq hf => ?_
          match rst, hs with
          | [Y], ⟨⟨y, hy, ey⟩, _⟩ =>
            subst hy
            refine W.zret hx hb hrt ?_ (hq _ ⟨_, rfl, y, rfl, ey⟩) hf hd
            rcases h01 with h0 | h0
            · have : y = 0 := Int32.toInt_inj.mp (by rw [← ey, h0]; rfl)
              subst this; rfl
            · have : y = 1 := Int32.toInt_inj.mp (by rw [← ey, h0]; rfl)
              subst this; rfl
          | [], h => exact h.elim
          | _ :: _ :: _, h => exact h.2.elim
        | _ => cases hst
  · match st, hst with
    | [Sum.inr (Sum.inl z)], hst =>
      unfold hRetJ at hst
      simp only at hst
      cases hT : mT M with
      | none => rw [hT] at hst; cases hst
      | some ty =>
        rw [hT] at hst hrt
        cases ty with
        | long =>
          have hst := Option.some.inj hst
          refine fin (hk _ _ hst.symm) fun mc ms ws0 H locs ls rst _ ws hs hq hf => ?_
          match rst, hs with
          | [Y], ⟨⟨y, hy, ey⟩, _⟩ =>
            subst hy
            exact W.lret hx hb hrt (hq _ ⟨_, rfl, y, rfl, ey⟩) hf hd
          | [], h => exact h.elim
          | _ :: _ :: _, h => exact h.2.elim
        | _ => cases hst
  · match st, hst with
    | [Sum.inr (Sum.inr (Sum.inl r))], hst =>
      unfold hRetR at hst
      simp only at hst
      cases hT : mT M with
      | none => rw [hT] at hst; cases hst
      | some ty =>
        rw [hT] at hst hrt
        cases ty with
        | object nm =>
          have hst := Option.some.inj hst
          refine fin (hk _ _ hst.symm) fun mc ms ws0 H locs ls rst _ ws hs hq hf => ?_
          match rst, hs with
          | [Y], ⟨hy, _⟩ =>
            have hV : Y = .null ∨ ∃ a, Y = .ref a := by
              cases r with
              | none => exact Or.inl hy
              | some k => obtain ⟨a, h, _⟩ := hy; exact Or.inr ⟨a, h⟩
            exact W.aret hx hb hrt (Or.inl ⟨nm, rfl⟩) hV (hq _ ⟨Y, rfl, hy⟩) hf hd
          | [], h => exact h.elim
          | _ :: _ :: _, h => exact h.2.elim
        | _ => cases hst
  · match st, hst with
    | [], hst =>
      unfold hRetV at hst
      simp only at hst
      cases hT : mT M with
      | some ty => rw [hT] at hst; cases hst
      | none =>
        rw [hT] at hst hrt
        have hst := Option.some.inj hst
        refine fin (hk _ _ hst.symm) fun mc ms ws0 H locs ls rst _ ws hs hq hf => ?_
        match rst, hs with
        | [], _ => exact W.vret hx hb hrt (hq _ rfl) hf hd
        | _ :: _, h => exact h.elim

set_option maxHeartbeats 4000000 in
theorem snd_stI (C : CX p R s m args meth c A H0 M) {i : Instr} {n pc : Nat} {al st : List AV} {h : AH} {x : SR} (hd : decode (mC M) pc = .ok (i, n)) (hst : stI M i n pc al st h = some x) (hbd : ∀ pc' al' st' h', x = Sum.inl (pc', al', st', h') → h'.length ≤ n0 + R.cells ∧ slt h' ≤ m0 + R.slots) (hk : ∀ pc' al' st' h', x = Sum.inl (pc', al', st', h') → WX p l e R s m args below meth c Q D A H0 N0 n0 m0 M pc' al' st' h') (hkc : ∀ M1 as h1 pc' al' st', x = Sum.inr (Sum.inl (M1, as, h1, pc', al', st')) → okM M1 → as.all nU = true → (esl as).length ≤ mL M1 → ∃ v h2, MetX l D M1 as h1 v h2 ∧ h1.length ≤ h2.length ∧ slt h1 ≤ slt h2 ∧ h2.length ≤ n0 + R.cells ∧ slt h2 ≤ m0 + R.slots ∧ WX p l e R s m args below meth c Q D A H0 N0 n0 m0 M pc' al' (v.toList ++ st') h2) (hkr : ∀ v h', x = Sum.inr (Sum.inr (v, h')) → RX s args below Q D A H0 N0 n0 m0 v h') : WX p l e R s m args below meth c Q D A H0 N0 n0 m0 M pc al st h := by
  cases i with
  | iconst z =>
    obtain ⟨rfl, hst⟩ := q1_of hst; obtain ⟨hz, hst⟩ := ite_of hst; exact s_push C (v := aI z) (V := .int (Int32.ofInt z)) (n := 1) (fun _ => ⟨_, rfl, (i32_of (by omega) (by omega)).symm⟩) (fun k => lv_iconst C.1 C.2.1 hd rfl k) hst hk
  | lconst j =>
    obtain ⟨rfl, hst⟩ := q1_of hst; exact s_push C (v := aJ ((j : Nat) : Int)) (V := .long (Int64.ofNat (j : Nat))) (n := 1) (fun _ => ⟨_, rfl, by match j with
    | 0 => rfl
    | 1 => rfl⟩) (fun k => lv_lconst C.1 C.2.1 hd rfl k) hst hk
  | bipush z =>
    obtain ⟨rfl, hst⟩ := q1_of hst; obtain ⟨hz, hst⟩ := ite_of hst; exact s_push C (v := aI z) (V := .int (Int8.ofInt z).toInt32) (n := 2) (fun _ => ⟨_, rfl, by rw [Int8.toInt_toInt32, Int8.toInt_ofInt, w8_t]; unfold w8; omega⟩) (fun k => lv_bipush C.1 C.2.1 hd rfl k) hst hk
  | sipush z =>
    obtain ⟨rfl, hst⟩ := q1_of hst; obtain ⟨hz, hst⟩ := ite_of hst; exact s_push C (v := aI z) (V := .int (Int16.ofInt z).toInt32) (n := 3) (fun _ => ⟨_, rfl, by rw [Int16.toInt_toInt32, Int16.toInt_ofInt, w16_t]; unfold w16; omega⟩) (fun k => lv_sipush C.1 C.2.1 hd rfl k) hst hk
  | ldc j =>
    replace hst : q1 n 2 (match lk kILst (mK M) j with
      | some z => gS (pc + 2) al (aI z :: st) h
      | none => none) = some x := hst
    obtain ⟨rfl, hst⟩ := q1_of hst; cases hz : lk kILst (mK M) j with
    | none => rw [hz] at hst; cases hst
    | some z =>
      rw [hz] at hst
      obtain ⟨w1, w2⟩ := kILst_ok _ (lk_mem hz)
      exact s_push C (v := aI z) (V := .int (Int32.ofInt z)) (n := 2) (fun _ => ⟨_, rfl, w2.symm⟩) (fun k => lv_ldc C.1 C.2.1 C.2.2.2.2.1 (C.2.2.2.2.2.1 _ w1) hd k) hst hk
  | ldc2_w j =>
    replace hst : q1 n 3 (match lk kJLst (mK M) j with
      | some z => gS (pc + 3) al (aJ z :: st) h
      | none => none) = some x := hst
    obtain ⟨rfl, hst⟩ := q1_of hst; cases hz : lk kJLst (mK M) j with
    | none => rw [hz] at hst; cases hst
    | some z =>
      rw [hz] at hst
      obtain ⟨w1, w2⟩ := kJLst_ok _ (lk_mem hz)
      exact s_push C (v := aJ z) (V := .long (Int64.ofInt z)) (n := 3) (fun _ => ⟨_, rfl, w2.symm⟩) (fun k => lv_ldc2 C.1 C.2.1 C.2.2.2.2.1 (C.2.2.2.2.2.1 _ w1) hd k) hst hk
  | aconst_null =>
    obtain ⟨rfl, hst⟩ := q1_of hst; exact s_push C (v := aR none) (V := .null) (n := 1) (fun _ => rfl) (fun k => lv_null C.1 C.2.1 hd k) hst hk
  | iload_n j =>
    obtain ⟨rfl, hst⟩ := q1_of hst; exact s_LI C (fun h1 k => lv_iload_n C.1 C.2.1 hd rfl h1 k) hst hk
  | iload j =>
    obtain ⟨rfl, hst⟩ := q1_of hst; exact s_LI C (fun h1 k => lv_iload C.1 C.2.1 hd h1 k) hst hk
  | lload_n j =>
    obtain ⟨rfl, hst⟩ := q1_of hst; exact s_LJ C (fun h1 k => lv_lload_n C.1 C.2.1 hd rfl h1 k) hst hk
  | lload j =>
    obtain ⟨rfl, hst⟩ := q1_of hst; exact s_LJ C (fun h1 k => lv_lload C.1 C.2.1 hd h1 k) hst hk
  | aload_n j =>
    obtain ⟨rfl, hst⟩ := q1_of hst; exact s_LR C (fun h1 k => lv_aload_n C.1 C.2.1 hd rfl h1 k) (fun h1 k => lv_aload_nN C.1 C.2.1 hd rfl h1 k) hst hk
  | aload j =>
    obtain ⟨rfl, hst⟩ := q1_of hst; exact s_LR C (fun h1 k => lv_aload C.1 C.2.1 hd h1 k) (fun h1 k => lv_aloadN C.1 C.2.1 hd h1 k) hst hk
  | istore_n j =>
    obtain ⟨rfl, hst⟩ := q1_of hst; exact s_SI C (fun h1 h2 h3 k => lv_istore_n C.1 C.2.1 hd rfl h1 h2 h3 k) hst hk
  | istore j =>
    obtain ⟨rfl, hst⟩ := q1_of hst; exact s_SI C (fun h1 h2 h3 k => lv_istore C.1 C.2.1 hd h1 h2 h3 k) hst hk
  | lstore_n j =>
    obtain ⟨rfl, hst⟩ := q1_of hst; exact s_SJ C (fun h1 h2 h3 k => lv_lstore_n C.1 C.2.1 hd rfl h1 h2 h3 k) hst hk
  | lstore j =>
    obtain ⟨rfl, hst⟩ := q1_of hst; exact s_SJ C (fun h1 h2 h3 k => lv_lstore C.1 C.2.1 hd h1 h2 h3 k) hst hk
  | astore_n j =>
    obtain ⟨rfl, hst⟩ := q1_of hst; exact s_SR C (fun h1 h2 h3 k => lv_astore_n C.1 C.2.1 hd rfl h1 h2 h3 k) (fun h1 h2 h3 k => lv_astore_nN C.1 C.2.1 hd rfl h1 h2 h3 k) hst hk
  | astore j =>
    obtain ⟨rfl, hst⟩ := q1_of hst; exact s_SR C (fun h1 h2 h3 k => lv_astore C.1 C.2.1 hd h1 h2 h3 k) (fun h1 h2 h3 k => lv_astoreN C.1 C.2.1 hd h1 h2 h3 k) hst hk
  | iinc j d =>
    obtain ⟨rfl, hst⟩ := q1_of hst; exact s_Inc C hd hst hk
  | iadd =>
    obtain ⟨rfl, hst⟩ := q1_of hst; exact s_B32 C (F := fun x y => x + y) e_add (fun k => lv_iadd C.1 C.2.1 hd k) hst hk
  | isub =>
    obtain ⟨rfl, hst⟩ := q1_of hst; exact s_B32 C (F := fun x y => x - y) e_sub (fun k => lv_isub C.1 C.2.1 hd k) hst hk
  | imul =>
    obtain ⟨rfl, hst⟩ := q1_of hst; exact s_B32 C (F := fun x y => x * y) e_mul (fun k => lv_imul C.1 C.2.1 hd k) hst hk
  | iand =>
    obtain ⟨rfl, hst⟩ := q1_of hst; exact s_B32 C (F := fun x y => x &&& y) (fun x y => by unfold fAnd; rw [i32_self, i32_self]) (fun k => lv_iand C.1 C.2.1 hd k) hst hk
  | ior =>
    obtain ⟨rfl, hst⟩ := q1_of hst; exact s_B32 C (F := fun x y => x ||| y) (fun x y => by unfold fOr; rw [i32_self, i32_self]) (fun k => lv_ior C.1 C.2.1 hd k) hst hk
  | ishl =>
    obtain ⟨rfl, hst⟩ := q1_of hst; exact s_B32 C (F := fun x y => x <<< (y &&& 31)) (fun x y => by unfold fShl; rw [i32_self, i32_self]) (fun k => lv_ishl C.1 C.2.1 hd k) hst hk
  | ishr =>
    obtain ⟨rfl, hst⟩ := q1_of hst; exact s_B32 C (F := fun x y => x >>> (y &&& 31)) (fun x y => by unfold fShr; rw [i32_self, i32_self]) (fun k => lv_ishr C.1 C.2.1 hd k) hst hk
  | idiv =>
    obtain ⟨rfl, hst⟩ := q1_of hst; exact s_D32 C (F := fun x y => x / y) e_div (fun h0 k => lv_idiv C.1 C.2.1 hd h0 k) hst hk
  | irem =>
    obtain ⟨rfl, hst⟩ := q1_of hst; exact s_D32 C (F := fun x y => x - x / y * y) e_rem (fun h0 k => lv_irem C.1 C.2.1 hd h0 k) hst hk
  | ineg =>
    obtain ⟨rfl, hst⟩ := q1_of hst; exact s_U32 C (f := fun a => aI (w32 (-a))) (F := fun x => .int (-x)) (fun _ y => ⟨_, rfl, e_neg y⟩) (fun k => lv_ineg C.1 C.2.1 hd k) hst hk
  | ladd =>
    obtain ⟨rfl, hst⟩ := q1_of hst; exact s_B64 C (F := fun x y => x + y) e_addJ (fun k => lv_ladd C.1 C.2.1 hd k) hst hk
  | lsub =>
    obtain ⟨rfl, hst⟩ := q1_of hst; exact s_B64 C (F := fun x y => x - y) e_subJ (fun k => lv_lsub C.1 C.2.1 hd k) hst hk
  | lmul =>
    obtain ⟨rfl, hst⟩ := q1_of hst; exact s_B64 C (F := fun x y => x * y) e_mulJ (fun k => lv_lmul C.1 C.2.1 hd k) hst hk
  | land =>
    obtain ⟨rfl, hst⟩ := q1_of hst; exact s_B64 C (F := fun x y => x &&& y) (fun x y => by unfold fAndJ; rw [i64_self, i64_self]) (fun k => lv_land C.1 C.2.1 hd k) hst hk
  | lxor =>
    obtain ⟨rfl, hst⟩ := q1_of hst; exact s_B64 C (F := fun x y => x ^^^ y) (fun x y => by unfold fXorJ; rw [i64_self, i64_self]) (fun k => lv_lxor C.1 C.2.1 hd k) hst hk
  | ldiv =>
    obtain ⟨rfl, hst⟩ := q1_of hst; exact s_D64 C (F := fun x y => x / y) e_divJ (fun h0 k => lv_ldiv C.1 C.2.1 hd h0 k) hst hk
  | lrem =>
    obtain ⟨rfl, hst⟩ := q1_of hst; exact s_D64 C (F := fun x y => x - x / y * y) e_remJ (fun h0 k => lv_lrem C.1 C.2.1 hd h0 k) hst hk
  | lneg =>
    obtain ⟨rfl, hst⟩ := q1_of hst; exact s_U64 C (f := fun a => aJ (w64 (-a))) (F := fun x => .long (-x)) (fun _ y => ⟨_, rfl, e_negJ y⟩) (fun k => lv_lneg C.1 C.2.1 hd k) hst hk
  | lcmp =>
    obtain ⟨rfl, hst⟩ := q1_of hst; exact s_Lcm C hd hst hk
  | i2l =>
    obtain ⟨rfl, hst⟩ := q1_of hst; exact s_U32 C (f := fun a => aJ a) (F := fun x => .long x.toInt64) (fun _ y => ⟨_, rfl, e_i2l y⟩) (fun k => lv_i2l C.1 C.2.1 hd rfl k) hst hk
  | l2i =>
    obtain ⟨rfl, hst⟩ := q1_of hst; exact s_U64 C (f := fun a => aI (w32 a)) (F := fun x => .int x.toInt32) (fun _ y => ⟨_, rfl, e_l2i y⟩) (fun k => lv_l2i C.1 C.2.1 hd rfl k) hst hk
  | i2b =>
    obtain ⟨rfl, hst⟩ := q1_of hst; exact s_U32 C (f := fun a => aI (w8 a)) (F := fun x => .int x.toInt8.toInt32) (fun _ y => ⟨_, rfl, e_i2b y⟩) (fun k => lv_i2b C.1 C.2.1 hd rfl k) hst hk
  | i2s =>
    obtain ⟨rfl, hst⟩ := q1_of hst; exact s_U32 C (f := fun a => aI (w16 a)) (F := fun x => .int x.toInt16.toInt32) (fun _ y => ⟨_, rfl, e_i2s y⟩) (fun k => lv_i2s C.1 C.2.1 hd rfl k) hst hk
  | dup =>
    obtain ⟨rfl, hst⟩ := q1_of hst; exact s_Dup C hd hst hk
  | dup2 =>
    obtain ⟨rfl, hst⟩ := q1_of hst; exact s_Dup2 C hd hst hk
  | pop =>
    obtain ⟨rfl, hst⟩ := q1_of hst; exact s_Pop C hd hst hk
  | goto off =>
    replace hst : q1 n 3 (match tg pc off with
      | some t => gS t al st h
      | none => none) = some x := hst
    obtain ⟨rfl, hst⟩ := q1_of hst; cases htg : tg pc off with
    | none => rw [htg] at hst; cases hst
    | some t =>
      rw [htg] at hst
      have kk := s_go hst hk
      intro tys ws H locs cells slots ls rst hK hh hpx hP hD hS hl hs hc1 hc2
      exact lv_goto C.1 C.2.1 hd (tg_of htg) (kk tys ws H locs cells slots ls rst hK hh hpx hP hD hS hl hs hc1 hc2)
  | ifCond cc off =>
    obtain ⟨rfl, hst⟩ := q1_of hst; exact s_If C hd hst hk
  | if_icmp cc off =>
    obtain ⟨rfl, hst⟩ := q1_of hst; exact s_Cmp C hd hst hk
  | ifnull off =>
    obtain ⟨rfl, hst⟩ := q1_of hst; exact s_Nul C hd hst hk
  | ifnonnull off =>
    obtain ⟨rfl, hst⟩ := q1_of hst; exact s_NNul C hd hst hk
  | tableswitch d lo hi offs =>
    replace hst : hTab d lo hi offs pc al st h = some x := hst; exact s_Tab C hd hst hk
  | getfield j =>
    obtain ⟨rfl, hst⟩ := q1_of hst; exact s_Get C hd hst hk
  | putfield j =>
    obtain ⟨rfl, hst⟩ := q1_of hst; exact s_Put C hd hst hk
  | iaload =>
    obtain ⟨rfl, hst⟩ := q1_of hst; exact s_AldI C hd hst hk
  | laload =>
    obtain ⟨rfl, hst⟩ := q1_of hst; exact s_AldJ C hd hst hk
  | aaload =>
    obtain ⟨rfl, hst⟩ := q1_of hst; exact s_AldR C hd hst hk
  | iastore =>
    obtain ⟨rfl, hst⟩ := q1_of hst; exact s_AstI C hd hst hk
  | lastore =>
    obtain ⟨rfl, hst⟩ := q1_of hst; exact s_AstJ C hd hst hk
  | aastore =>
    obtain ⟨rfl, hst⟩ := q1_of hst; exact s_AstR C hd hst hk
  | arraylength =>
    obtain ⟨rfl, hst⟩ := q1_of hst; exact s_Len C hd hst hk
  | new j =>
    obtain ⟨rfl, hst⟩ := q1_of hst; exact s_New C hd hst hbd hk
  | newarray t =>
    cases t with
    | int => obtain ⟨rfl, hst⟩ := q1_of hst; exact s_NwI C hd hst hbd hk
    | long => obtain ⟨rfl, hst⟩ := q1_of hst; exact s_NwJ C hd hst hbd hk
    | _ => exact absurd (show (none : Option SR) = some x from hst) (fun q => by cases q)
  | anewarray j =>
    obtain ⟨rfl, hst⟩ := q1_of hst; exact s_NwR C hd hst hbd hk
  | invokevirtual j =>
    obtain ⟨rfl, hst⟩ := q1_of hst; exact s_Cal C (ik := 0) hd hst hkc
  | invokestatic j =>
    replace hst : q1 n 3 (hSta M j pc al st h) = some x := hst
    obtain ⟨rfl, hst⟩ := q1_of hst; unfold hSta at hst
    cases hq : (Nat.beq (mK M) 4 && Nat.beq j acpI) with
    | true =>
      rw [hq] at hst
      obtain ⟨hcond, hst2⟩ := bif_of (show (bif Nat.ble 1 (mR M) && Nat.ble 30 (mW M) then hCpy pc al st h else none) = some x from hst)
      simp only [Bool.and_eq_true] at hcond hq
      have e1 := Nat.eq_of_beq_eq_true hq.1
      have e2 := Nat.eq_of_beq_eq_true hq.2
      subst e2
      exact s_Cpy C hd e1 (Nat.le_of_ble_eq_true hcond.1) (Nat.le_of_ble_eq_true hcond.2) hst2 hk
    | false =>
      rw [hq] at hst
      exact s_Cal C (ik := 1) hd hst hkc
  | invokespecial j =>
    replace hst : q1 n 3 (hSpe M j pc al st h) = some x := hst
    obtain ⟨rfl, hst⟩ := q1_of hst; unfold hSpe at hst
    cases hq : lk oLst (mK M) j with
    | some u => rw [hq] at hst; exact s_Obj C hd hq hst hk
    | none => rw [hq] at hst; exact s_Cal C (ik := 2) hd hst hkc
  | ireturn =>
    obtain ⟨rfl, hst⟩ := q1_of hst; exact s_Ret C hd (Or.inl ⟨rfl, hst⟩) hkr
  | lreturn =>
    obtain ⟨rfl, hst⟩ := q1_of hst; exact s_Ret C hd (Or.inr (Or.inl ⟨rfl, hst⟩)) hkr
  | areturn =>
    obtain ⟨rfl, hst⟩ := q1_of hst; exact s_Ret C hd (Or.inr (Or.inr (Or.inl ⟨rfl, hst⟩))) hkr
  | return_ =>
    obtain ⟨rfl, hst⟩ := q1_of hst; exact s_Ret C hd (Or.inr (Or.inr (Or.inr ⟨rfl, hst⟩))) hkr
  | _ => exact absurd (show (none : Option SR) = some x from hst) (fun q => by cases q)

/-- along an execution -/
theorem snd_run {v0 : Option AV} {h0 : AH} (C : CX p R s m args meth c A H0 M) (hR : h0.length ≤ n0 + R.cells ∧ slt h0 ≤ m0 + R.slots) (hend : RX s args below Q D A H0 N0 n0 m0 v0 h0) :
    ∀ (n : Nat), (∀ k, k < n → ∀ (M1 : MI) (as : List AV) (h : AH) (v : Option AV) (h2 : AH), exec k (M1, 0, ent M1 as, [], h) = some (v, h2) → okM M1 → as.all nU = true → (esl as).length ≤ mL M1 → MetX l D M1 as h v h2) →
    ∀ (k : Nat), k ≤ n → ∀ (pc : Nat) (al st : List AV) (h : AH), exec k (M, pc, al, st, h) = some (v0, h0) → WX p l e R s m args below meth c Q D A H0 N0 n0 m0 M pc al st h := by
  intro n IH k
  induction k with
  | zero => intro _ pc al st h q; cases q
  | succ k ih =>
    intro hkn pc al st h q
    rw [exec] at q
    simp only at q
    cases hs : stp M pc al st h with
    | none => rw [hs] at q; cases q
    | some x =>
      rw [hs] at q
      have hs' := hs
      unfold stp at hs
      split at hs
      · rename_i iq hdq
        obtain ⟨i, len⟩ := iq
        obtain ⟨s1, s2, s3⟩ := SH_stp hs'
        refine snd_stI C hdq hs ?_ ?_ ?_ ?_
        · intro pc' al' st' h' e
          subst e
          have z := exec_mono _ _ _ q
          simp only at z
          omega
        · intro pc' al' st' h' e
          subst e
          exact ih (by omega) pc' al' st' h' q
        · intro M1 as h1 pc' al' st' e o1 o2 o3
          subst e
          simp only at q
          cases e1 : exec k (M1, 0, ent M1 as, [], h1) with
          | none => rw [e1] at q; cases q
          | some r1 =>
            rw [e1] at q
            obtain ⟨v, h2⟩ := r1
            have z := exec_mono _ _ _ q
            have z1 := exec_mono _ _ _ e1
            simp only at z z1
            exact ⟨v, h2, IH k (by omega) M1 as h1 v h2 e1 o1 o2 o3, z1.1, z1.2, by omega, by omega, ih (by omega) pc' al' _ h2 q⟩
        · intro v h' e
          subst e
          cases q
          exact hend
      · cases hs
end SND4
theorem snd_all (l : Launch) (D : va_G) : ∀ (n : Nat) (M : MI) (as : List AV) (h : AH) (v : Option AV) (h2 : AH), exec n (M, 0, ent M as, [], h) = some (v, h2) → okM M → as.all nU = true → (esl as).length ≤ mL M → MetX l D M as h v h2 := by
  intro n
  induction n using Nat.strongRecOn with
  | ind n IH =>
    intro M as h v h2 hex hok hu hl
    intro tys ws As sz mc ms hh hsr h1 h3
    refine va_MetF (cc := mC M) (maxL := mL M) (ret := mT M) hok.2.2.1 rfl ?_
    intro p e s m args below meth c s₁ B hml hv
    obtain ⟨rfl, hsz, hP, hK, hD0, hKN⟩ := hv
    have hts : ∀ w ∈ wAll, w.before As.toArray s = true := fun w hw => atoms_spec (ws := wsM M) B.pre w (List.mem_cons_of_mem _ hw)
    have hown : s.vm.findClass (clsN (mK M)) = some m.cls := by rw [← hok.2.2.2.1]; exact findClass_of_methodNamed B.named
    subst hsz
    have hD := hD0.self (sz := s.heap.size)
    have hA : ∀ q : Nat, s.heap.size ≤ q → va_A ws s.heap.size q := fun q h => Or.inr h
    obtain ⟨e1, e2⟩ := lr.entry hsr hu hl
    rw [lg_entry_eq]
    have C : CX p (headSpec (wsM M) { frames := mR M, cells := mc, slots := ms, locals := mW M }).room s m As.toArray meth c (va_A ws s.heap.size) s.heap M := ⟨B.exec, B.bytes, hml, B.returns, hown, hts, B.notSynchronized, (name_of_methodNamed B.named B.method).1, hKN, Nat.le_refl _, Nat.le_refl _, hA⟩
    have hrun := snd_run (l := l) (e := e) (below := below) (Q := MQ below (QX D ws s.heap.size v h2) As.toArray s mc ms (va_A ws s.heap.size)) (D := D) (N0 := nu ws) (n0 := h.length) (m0 := slt h) (v0 := v) (h0 := h2) C ⟨h1, h3⟩ ⟨ws, mc, ms, rfl, rfl, rfl, rfl, h1, h3⟩ n (fun k hk M1 as h v h2 => IH k hk M1 as h v h2) n (Nat.le_refl _) 0 (ent M as) [] h hex
    exact hrun tys ws s.heap [] 0 0 _ [] hK hh px.rf hP hD va_S.rf e2 trivial (by omega) (by omega)
/-- what the number machine answers, the machine answers -/
theorem snd_E (l : Launch) (D : va_G) {M : MI} {as : List AV} {h : AH} {v : Option AV} {h2 : AH} (q : E M as h = some (v, h2)) (hok : okM M) (hu : as.all nU = true) (hl : (esl as).length ≤ mL M) : MetX l D M as h v h2 := by
  obtain ⟨n, hn⟩ := X_iff.mp q
  exact snd_all l D n M as h v h2 hn hok hu hl
end
section
/-! ===== one instruction of the number machine, as an equation ===== -/
theorem stp_of {M : MI} {pc n : Nat} {i : Instr} {al st : List AV} {h : AH} (d : decode (mC M) pc = .ok (i, n)) : stp M pc al st h = stI M i n pc al st h := by
  unfold stp
  rw [d]
theorem X_of {M : MI} {pc n pc1 : Nat} {i : Instr} {al st al1 st1 : List AV} {h h1 : AH} (d : decode (mC M) pc = .ok (i, n)) (q : stI M i n pc al st h = gS pc1 al1 st1 h1) : X M pc al st h = X M pc1 al1 st1 h1 := X_go ((stp_of d).trans q)
theorem X_ofR {M : MI} {pc n : Nat} {i : Instr} {al st : List AV} {h h1 : AH} {r : Option AV} (d : decode (mC M) pc = .ok (i, n)) (q : stI M i n pc al st h = rS r h1) : X M pc al st h = some (r, h1) := X_ret ((stp_of d).trans q)
theorem X_none {M : MI} {pc : Nat} {al st : List AV} {h : AH} (q : stp M pc al st h = none) : X M pc al st h = none := by
  cases e : X M pc al st h with
  | none => rfl
  | some r =>
    obtain ⟨n, hn⟩ := X_iff.mp e
    cases n with
    | zero => cases hn
    | succ n =>
      rw [exec] at hn
      simp only [q] at hn
      cases hn
def gK (o : Option AV) (K : AV → Option RV) : Option RV := match o with
  | some v => K v
  | none => none
def pK (o : Option AV) (y : Option RV) : Option RV := match o with
  | some _ => y
  | none => none
def gL (o : Option Nat) (K : Int → Option RV) : Option RV := match o with
  | some n => K n
  | none => none
def cI (r : Option RV) (K : Int → AH → Option RV) : Option RV := match r with
  | some (some (Sum.inl z), h) => K z h
  | _ => none
def cJ (r : Option RV) (K : Int → AH → Option RV) : Option RV := match r with
  | some (some (Sum.inr (Sum.inl z)), h) => K z h
  | _ => none
def cR (r : Option RV) (K : Option Nat → AH → Option RV) : Option RV := match r with
  | some (some (Sum.inr (Sum.inr (Sum.inl z))), h) => K z h
  | _ => none
def cV (r : Option RV) (K : AH → Option RV) : Option RV := match r with
  | some (none, h) => K h
  | _ => none
theorem gK_of {o : Option AV} {v : AV} (q : o = some v) {K : AV → Option RV} : gK o K = K v := by rw [q]; rfl
theorem pK_of {o : Option AV} {v : AV} (q : o = some v) {y : Option RV} : pK o y = y := by rw [q]; rfl
theorem gL_of {o : Option Nat} {n : Nat} (q : o = some n) {K : Int → Option RV} : gL o K = K n := by rw [q]; rfl
theorem cI_of {r : Option RV} {z : Int} {h : AH} (q : r = some (some (aI z), h)) {K : Int → AH → Option RV} : cI r K = K z h := by rw [q]; rfl
theorem cJ_of {r : Option RV} {z : Int} {h : AH} (q : r = some (some (aJ z), h)) {K : Int → AH → Option RV} : cJ r K = K z h := by rw [q]; rfl
theorem cR_of {r : Option RV} {z : Option Nat} {h : AH} (q : r = some (some (aR z), h)) {K : Option Nat → AH → Option RV} : cR r K = K z h := by rw [q]; rfl
theorem cV_of {r : Option RV} {h : AH} (q : r = some (none, h)) {K : AH → Option RV} : cV r K = K h := by rw [q]; rfl
theorem x_if {M : MI} {pc t : Nat} {cc : Jvm.ClassFile.Cond} {off a : Int} {al st : List AV} {h : AH} (d : decode (mC M) pc = .ok (.ifCond cc off, 3)) (ht : tg pc off = some t) : X M pc al (aI a :: st) h = if cnd cc a 0 = true then X M t al st h else X M (pc + 3) al st h := by
  have e : stI M (.ifCond cc off) 3 pc al (aI a :: st) h = bif cnd cc a 0 then gS t al st h else gS (pc + 3) al st h := by
    show hIf cc off pc al (aI a :: st) h = _
    unfold hIf
    rw [ht]
  cases hc : cnd cc a 0 with
  | true => rw [hc] at e; rw [if_pos rfl]; exact X_of d e
  | false => rw [hc] at e; rw [if_neg (by decide)]; exact X_of d e
theorem x_icmp {M : MI} {pc t : Nat} {cc : Jvm.ClassFile.Cond} {off a b : Int} {al st : List AV} {h : AH} (d : decode (mC M) pc = .ok (.if_icmp cc off, 3)) (ht : tg pc off = some t) : X M pc al (aI b :: aI a :: st) h = if cnd cc a b = true then X M t al st h else X M (pc + 3) al st h := by
  have e : stI M (.if_icmp cc off) 3 pc al (aI b :: aI a :: st) h = bif cnd cc a b then gS t al st h else gS (pc + 3) al st h := by
    show hCmp cc off pc al (aI b :: aI a :: st) h = _
    unfold hCmp
    rw [ht]
  cases hc : cnd cc a b with
  | true => rw [hc] at e; rw [if_pos rfl]; exact X_of d e
  | false => rw [hc] at e; rw [if_neg (by decide)]; exact X_of d e
theorem ite_dec {α : Type} {c : Prop} [Decidable c] {x y : α} : (if decide c = true then x else y) = if c then x else y := by
  by_cases h : c
  · rw [if_pos h, if_pos (decide_eq_true h)]
  · rw [if_neg h, if_neg (by simpa using h)]
theorem x_eq0 {M : MI} {pc t : Nat} {off a : Int} {al st : List AV} {h : AH} (d : decode (mC M) pc = .ok (.ifCond .eq off, 3)) (ht : tg pc off = some t) : X M pc al (aI a :: st) h = if a = 0 then X M t al st h else X M (pc + 3) al st h := (x_if d ht).trans ite_dec
theorem x_ne0 {M : MI} {pc t : Nat} {off a : Int} {al st : List AV} {h : AH} (d : decode (mC M) pc = .ok (.ifCond .ne off, 3)) (ht : tg pc off = some t) : X M pc al (aI a :: st) h = if ¬ a = 0 then X M t al st h else X M (pc + 3) al st h := (x_if d ht).trans ite_dec
theorem x_lt0 {M : MI} {pc t : Nat} {off a : Int} {al st : List AV} {h : AH} (d : decode (mC M) pc = .ok (.ifCond .lt off, 3)) (ht : tg pc off = some t) : X M pc al (aI a :: st) h = if a < 0 then X M t al st h else X M (pc + 3) al st h := (x_if d ht).trans ite_dec
theorem x_ge0 {M : MI} {pc t : Nat} {off a : Int} {al st : List AV} {h : AH} (d : decode (mC M) pc = .ok (.ifCond .ge off, 3)) (ht : tg pc off = some t) : X M pc al (aI a :: st) h = if 0 ≤ a then X M t al st h else X M (pc + 3) al st h := (x_if d ht).trans ite_dec
theorem x_gt0 {M : MI} {pc t : Nat} {off a : Int} {al st : List AV} {h : AH} (d : decode (mC M) pc = .ok (.ifCond .gt off, 3)) (ht : tg pc off = some t) : X M pc al (aI a :: st) h = if 0 < a then X M t al st h else X M (pc + 3) al st h := (x_if d ht).trans ite_dec
theorem x_le0 {M : MI} {pc t : Nat} {off a : Int} {al st : List AV} {h : AH} (d : decode (mC M) pc = .ok (.ifCond .le off, 3)) (ht : tg pc off = some t) : X M pc al (aI a :: st) h = if a ≤ 0 then X M t al st h else X M (pc + 3) al st h := (x_if d ht).trans ite_dec
theorem x_eqC {M : MI} {pc t : Nat} {off a b : Int} {al st : List AV} {h : AH} (d : decode (mC M) pc = .ok (.if_icmp .eq off, 3)) (ht : tg pc off = some t) : X M pc al (aI b :: aI a :: st) h = if a = b then X M t al st h else X M (pc + 3) al st h := (x_icmp d ht).trans ite_dec
theorem x_neC {M : MI} {pc t : Nat} {off a b : Int} {al st : List AV} {h : AH} (d : decode (mC M) pc = .ok (.if_icmp .ne off, 3)) (ht : tg pc off = some t) : X M pc al (aI b :: aI a :: st) h = if ¬ a = b then X M t al st h else X M (pc + 3) al st h := (x_icmp d ht).trans ite_dec
theorem x_ltC {M : MI} {pc t : Nat} {off a b : Int} {al st : List AV} {h : AH} (d : decode (mC M) pc = .ok (.if_icmp .lt off, 3)) (ht : tg pc off = some t) : X M pc al (aI b :: aI a :: st) h = if a < b then X M t al st h else X M (pc + 3) al st h := (x_icmp d ht).trans ite_dec
theorem x_geC {M : MI} {pc t : Nat} {off a b : Int} {al st : List AV} {h : AH} (d : decode (mC M) pc = .ok (.if_icmp .ge off, 3)) (ht : tg pc off = some t) : X M pc al (aI b :: aI a :: st) h = if b ≤ a then X M t al st h else X M (pc + 3) al st h := (x_icmp d ht).trans ite_dec
theorem x_gtC {M : MI} {pc t : Nat} {off a b : Int} {al st : List AV} {h : AH} (d : decode (mC M) pc = .ok (.if_icmp .gt off, 3)) (ht : tg pc off = some t) : X M pc al (aI b :: aI a :: st) h = if b < a then X M t al st h else X M (pc + 3) al st h := (x_icmp d ht).trans ite_dec
theorem x_leC {M : MI} {pc t : Nat} {off a b : Int} {al st : List AV} {h : AH} (d : decode (mC M) pc = .ok (.if_icmp .le off, 3)) (ht : tg pc off = some t) : X M pc al (aI b :: aI a :: st) h = if a ≤ b then X M t al st h else X M (pc + 3) al st h := (x_icmp d ht).trans ite_dec
theorem x_get {M : MI} {pc idx C k kd a : Nat} {fin : Bool} {al st : List AV} {h : AH} (d : decode (mC M) pc = .ok (.getfield idx, 3)) (f : fT (mK M) idx = some (C, k, kd, fin)) : X M pc al (aR (some a) :: st) h = gK (rd h C a k) fun v => X M (pc + 3) al (v :: st) h := by
  have e : stI M (.getfield idx) 3 pc al (aR (some a) :: st) h = (match rd h C a k with
    | some v => gS (pc + 3) al (v :: st) h
    | none => none) := by
    show hGet M idx pc al (aR (some a) :: st) h = _
    unfold hGet
    rw [f]
    rfl
  cases hc : rd h C a k with
  | none => rw [hc] at e; exact X_none ((stp_of d).trans e)
  | some v => rw [hc] at e; exact X_of d e
theorem x_put {M : MI} {pc idx C k kd a : Nat} {fin : Bool} {al st : List AV} {h : AH} {v : AV} (d : decode (mC M) pc = .ok (.putfield idx, 3)) (f : fT (mK M) idx = some (C, k, kd, fin)) (hv : okV kd v = true) (hf : (!fin || (decide ((mY M).name = "<init>") && Nat.beq (mK M) C)) = true) : X M pc al (v :: aR (some a) :: st) h = pK (rd h C a k) (X M (pc + 3) al st (wr h C a k v)) := by
  have e : stI M (.putfield idx) 3 pc al (v :: aR (some a) :: st) h = (match rd h C a k with
    | some _ => gS (pc + 3) al st (wr h C a k v)
    | none => none) := by
    show hPut M idx pc al (v :: aR (some a) :: st) h = _
    unfold hPut
    rw [f]
    simp only [hv, hf, Bool.and_self, cond_true]
    rfl
  cases hc : rd h C a k with
  | none => rw [hc] at e; exact X_none ((stp_of d).trans e)
  | some v => rw [hc] at e; exact X_of d e
theorem x_ald {M : MI} {pc t a : Nat} {ii : Instr} {i : Int} {al st : List AV} {h : AH} (d : decode (mC M) pc = .ok (ii, 1)) (q : stI M ii 1 pc al (aI i :: aR (some a) :: st) h = hAld t pc al (aI i :: aR (some a) :: st) h) : X M pc al (aI i :: aR (some a) :: st) h = if 0 ≤ i then gK (rd h t a i.toNat) (fun v => X M (pc + 1) al (v :: st) h) else none := by
  by_cases hi : 0 ≤ i
  · rw [if_pos hi]
    have e : stI M ii 1 pc al (aI i :: aR (some a) :: st) h = (match rd h t a i.toNat with
      | some v => gS (pc + 1) al (v :: st) h
      | none => none) := by
      rw [q]
      unfold hAld
      simp only [if_pos hi]
      rfl
    cases hc : rd h t a i.toNat with
    | none => rw [hc] at e; exact X_none ((stp_of d).trans e)
    | some v => rw [hc] at e; exact X_of d e
  · rw [if_neg hi]
    refine X_none ((stp_of d).trans (q.trans ?_))
    unfold hAld
    simp only [if_neg hi]
theorem x_aldI {M : MI} {pc a : Nat} {i : Int} {al st : List AV} {h : AH} (d : decode (mC M) pc = .ok (.iaload, 1)) : X M pc al (aI i :: aR (some a) :: st) h = if 0 ≤ i then gK (rd h 10 a i.toNat) (fun v => X M (pc + 1) al (v :: st) h) else none := x_ald d rfl
theorem x_aldJ {M : MI} {pc a : Nat} {i : Int} {al st : List AV} {h : AH} (d : decode (mC M) pc = .ok (.laload, 1)) : X M pc al (aI i :: aR (some a) :: st) h = if 0 ≤ i then gK (rd h 11 a i.toNat) (fun v => X M (pc + 1) al (v :: st) h) else none := x_ald d rfl
theorem x_aldR {M : MI} {pc a t : Nat} {i : Int} {al st : List AV} {h : AH} (d : decode (mC M) pc = .ok (.aaload, 1)) (ht : tagR h a = t) (h12 : 12 ≤ t) : X M pc al (aI i :: aR (some a) :: st) h = if 0 ≤ i then gK (rd h t a i.toNat) (fun v => X M (pc + 1) al (v :: st) h) else none := by
  subst ht
  by_cases hi : 0 ≤ i
  · rw [if_pos hi]
    have e : stI M .aaload 1 pc al (aI i :: aR (some a) :: st) h = (match rd h (tagR h a) a i.toNat with
      | some v => gS (pc + 1) al (v :: st) h
      | none => none) := by
      show hAldR pc al (aI i :: aR (some a) :: st) h = _
      unfold hAldR
      simp only [if_pos (⟨hi, h12⟩ : 0 ≤ i ∧ 12 ≤ tagR h a)]
      rfl
    cases hc : rd h (tagR h a) a i.toNat with
    | none => rw [hc] at e; exact X_none ((stp_of d).trans e)
    | some v => rw [hc] at e; exact X_of d e
  · rw [if_neg hi]
    refine X_none ((stp_of d).trans ?_)
    show hAldR pc al (aI i :: aR (some a) :: st) h = none
    unfold hAldR
    simp only [if_neg (fun q => hi q.1 : ¬ (0 ≤ i ∧ 12 ≤ tagR h a))]
theorem x_astI {M : MI} {pc a : Nat} {i x : Int} {al st : List AV} {h : AH} (d : decode (mC M) pc = .ok (.iastore, 1)) : X M pc al (aI x :: aI i :: aR (some a) :: st) h = if 0 ≤ i then pK (rd h 10 a i.toNat) (X M (pc + 1) al st (wr h 10 a i.toNat (aI x))) else none := by
  by_cases hi : 0 ≤ i
  · rw [if_pos hi]
    have e : stI M .iastore 1 pc al (aI x :: aI i :: aR (some a) :: st) h = (match rd h 10 a i.toNat with
      | some _ => gS (pc + 1) al st (wr h 10 a i.toNat (aI x))
      | none => none) := by
      show hAstI pc al (aI x :: aI i :: aR (some a) :: st) h = _
      unfold hAstI
      simp only [if_pos hi]
      rfl
    cases hc : rd h 10 a i.toNat with
    | none => rw [hc] at e; exact X_none ((stp_of d).trans e)
    | some v => rw [hc] at e; exact X_of d e
  · rw [if_neg hi]
    refine X_none ((stp_of d).trans ?_)
    show hAstI pc al (aI x :: aI i :: aR (some a) :: st) h = none
    unfold hAstI
    simp only [if_neg hi]
theorem x_astJ {M : MI} {pc a : Nat} {i x : Int} {al st : List AV} {h : AH} (d : decode (mC M) pc = .ok (.lastore, 1)) : X M pc al (aJ x :: aI i :: aR (some a) :: st) h = if 0 ≤ i then pK (rd h 11 a i.toNat) (X M (pc + 1) al st (wr h 11 a i.toNat (aJ x))) else none := by
  by_cases hi : 0 ≤ i
  · rw [if_pos hi]
    have e : stI M .lastore 1 pc al (aJ x :: aI i :: aR (some a) :: st) h = (match rd h 11 a i.toNat with
      | some _ => gS (pc + 1) al st (wr h 11 a i.toNat (aJ x))
      | none => none) := by
      show hAstJ pc al (aJ x :: aI i :: aR (some a) :: st) h = _
      unfold hAstJ
      simp only [if_pos hi]
      rfl
    cases hc : rd h 11 a i.toNat with
    | none => rw [hc] at e; exact X_none ((stp_of d).trans e)
    | some v => rw [hc] at e; exact X_of d e
  · rw [if_neg hi]
    refine X_none ((stp_of d).trans ?_)
    show hAstJ pc al (aJ x :: aI i :: aR (some a) :: st) h = none
    unfold hAstJ
    simp only [if_neg hi]
theorem x_astR {M : MI} {pc a b t : Nat} {i : Int} {al st : List AV} {h : AH} (d : decode (mC M) pc = .ok (.aastore, 1)) (ht : tagR h a = t) (h12 : 12 ≤ t ∧ t ≤ 14) (ho : isO h (elT t) b = true) : X M pc al (aR (some b) :: aI i :: aR (some a) :: st) h = if 0 ≤ i then pK (rd h t a i.toNat) (X M (pc + 1) al st (wr h t a i.toNat (aR (some b)))) else none := by
  subst ht
  by_cases hi : 0 ≤ i
  · rw [if_pos hi]
    have e : stI M .aastore 1 pc al (aR (some b) :: aI i :: aR (some a) :: st) h = (match rd h (tagR h a) a i.toNat with
      | some _ => gS (pc + 1) al st (wr h (tagR h a) a i.toNat (aR (some b)))
      | none => none) := by
      show hAstR pc al (aR (some b) :: aI i :: aR (some a) :: st) h = _
      unfold hAstR
      simp only [if_pos (⟨hi, h12.1, h12.2, ho⟩ : 0 ≤ i ∧ 12 ≤ tagR h a ∧ tagR h a ≤ 14 ∧ isO h (elT (tagR h a)) b = true)]
      rfl
    cases hc : rd h (tagR h a) a i.toNat with
    | none => rw [hc] at e; exact X_none ((stp_of d).trans e)
    | some v => rw [hc] at e; exact X_of d e
  · rw [if_neg hi]
    refine X_none ((stp_of d).trans ?_)
    show hAstR pc al (aR (some b) :: aI i :: aR (some a) :: st) h = none
    unfold hAstR
    simp only [if_neg (fun q => hi q.1 : ¬ (0 ≤ i ∧ 12 ≤ tagR h a ∧ tagR h a ≤ 14 ∧ isO h (elT (tagR h a)) b = true))]
theorem x_len {M : MI} {pc a : Nat} {al st : List AV} {h : AH} (d : decode (mC M) pc = .ok (.arraylength, 1)) : X M pc al (aR (some a) :: st) h = gL (ln h a) fun n => X M (pc + 1) al (aI n :: st) h := by
  have e : stI M .arraylength 1 pc al (aR (some a) :: st) h = (match ln h a with
    | some n => gS (pc + 1) al (aI n :: st) h
    | none => none) := rfl
  cases hc : ln h a with
  | none => rw [hc] at e; exact X_none ((stp_of d).trans e)
  | some v => rw [hc] at e; exact X_of d e
theorem x_div {M : MI} {pc : Nat} {a b : Int} {al st : List AV} {h : AH} (d : decode (mC M) pc = .ok (.idiv, 1)) : X M pc al (aI b :: aI a :: st) h = if b = 0 then none else X M (pc + 1) al (aI (w32 (a.tdiv b)) :: st) h := by
  have e : stI M .idiv 1 pc al (aI b :: aI a :: st) h = if b = 0 then none else gS (pc + 1) al (aI (w32 (a.tdiv b)) :: st) h := rfl
  by_cases hb : b = 0
  · rw [if_pos hb] at e ⊢; exact X_none ((stp_of d).trans e)
  · rw [if_neg hb] at e ⊢; exact X_of d e
theorem x_rem {M : MI} {pc : Nat} {a b : Int} {al st : List AV} {h : AH} (d : decode (mC M) pc = .ok (.irem, 1)) : X M pc al (aI b :: aI a :: st) h = if b = 0 then none else X M (pc + 1) al (aI (a.tmod b) :: st) h := by
  have e : stI M .irem 1 pc al (aI b :: aI a :: st) h = if b = 0 then none else gS (pc + 1) al (aI (a.tmod b) :: st) h := rfl
  by_cases hb : b = 0
  · rw [if_pos hb] at e ⊢; exact X_none ((stp_of d).trans e)
  · rw [if_neg hb] at e ⊢; exact X_of d e
theorem x_divJ {M : MI} {pc : Nat} {a b : Int} {al st : List AV} {h : AH} (d : decode (mC M) pc = .ok (.ldiv, 1)) : X M pc al (aJ b :: aJ a :: st) h = if b = 0 then none else X M (pc + 1) al (aJ (w64 (a.tdiv b)) :: st) h := by
  have e : stI M .ldiv 1 pc al (aJ b :: aJ a :: st) h = if b = 0 then none else gS (pc + 1) al (aJ (w64 (a.tdiv b)) :: st) h := rfl
  by_cases hb : b = 0
  · rw [if_pos hb] at e ⊢; exact X_none ((stp_of d).trans e)
  · rw [if_neg hb] at e ⊢; exact X_of d e
theorem x_remJ {M : MI} {pc : Nat} {a b : Int} {al st : List AV} {h : AH} (d : decode (mC M) pc = .ok (.lrem, 1)) : X M pc al (aJ b :: aJ a :: st) h = if b = 0 then none else X M (pc + 1) al (aJ (a.tmod b) :: st) h := by
  have e : stI M .lrem 1 pc al (aJ b :: aJ a :: st) h = if b = 0 then none else gS (pc + 1) al (aJ (a.tmod b) :: st) h := rfl
  by_cases hb : b = 0
  · rw [if_pos hb] at e ⊢; exact X_none ((stp_of d).trans e)
  · rw [if_neg hb] at e ⊢; exact X_of d e
theorem x_nwa {M : MI} {pc t : Nat} {at_ : ArrayType} {n : Int} {dv : AV} {al st : List AV} {h : AH} (d : decode (mC M) pc = .ok (.newarray at_, 2)) (q : stI M (.newarray at_) 2 pc al (aI n :: st) h = hNwa t dv pc al (aI n :: st) h) : X M pc al (aI n :: st) h = if 0 ≤ n ∧ n ≤ 1000 then X M (pc + 2) al (aR (some h.length) :: st) (h ++ [(t, List.replicate n.toNat dv)]) else none := by
  by_cases hn : 0 ≤ n ∧ n ≤ 1000
  · rw [if_pos hn]
    exact X_of d (q.trans (by unfold hNwa; simp only [if_pos hn]))
  · rw [if_neg hn]
    exact X_none ((stp_of d).trans (q.trans (by unfold hNwa; simp only [if_neg hn])))
theorem x_nwr {M : MI} {pc t idx : Nat} {n : Int} {al st : List AV} {h : AH} (d : decode (mC M) pc = .ok (.anewarray idx, 3)) (f : lk aLst (mK M) idx = some t) : X M pc al (aI n :: st) h = if 0 ≤ n ∧ n ≤ 1000 then X M (pc + 3) al (aR (some h.length) :: st) (h ++ [(t, List.replicate n.toNat (aR none))]) else none := by
  have e : stI M (.anewarray idx) 3 pc al (aI n :: st) h = if 0 ≤ n ∧ n ≤ 1000 then gS (pc + 3) al (aR (some h.length) :: st) (h ++ [(t, List.replicate n.toNat (aR none))]) else none := by
    show hNwr M idx pc al (aI n :: st) h = _
    unfold hNwr
    rw [f]
  by_cases hn : 0 ≤ n ∧ n ≤ 1000
  · rw [if_pos hn] at e ⊢; exact X_of d e
  · rw [if_neg hn] at e ⊢; exact X_none ((stp_of d).trans e)
theorem x_new {M : MI} {pc C idx : Nat} {al st : List AV} {h : AH} (d : decode (mC M) pc = .ok (.new idx, 3)) (f : lk nLst (mK M) idx = some C) {fs : List AV} (hf : dfl C = fs) : X M pc al st h = X M (pc + 3) al (aR (some h.length) :: st) (h ++ [(C, fs)]) := by
  subst hf
  refine X_of d ?_
  show hNew M idx pc al st h = _
  unfold hNew
  rw [f]
/-- a call, whatever it answers -/
theorem x_cal {M M1 : MI} {pc idx k ik : Nat} {ii : Instr} {al as rest : List AV} {h : AH} (d : decode (mC M) pc = .ok (ii, 3)) (hi : ∀ st, stI M ii 3 pc al st h = hCal ik M idx pc al st h) (f : cT (mK M) idx = some (k, M1)) (hn : as.length = mN M1) (hs : (kOk k ik && (Nat.blt (mR M1) (mR M) && (Nat.ble (19 + mL M1 + mW M1) (mW M) && (Nat.ble (wds rest) 8 && (Nat.ble (esl as).length (mL M1) && as.all nU))))) = true) (hr : rcv k M1 as h = true) : X M pc al (as.reverse ++ rest) h = cK (E M1 as h) fun v h2 => X M (pc + 3) al (v.toList ++ rest) h2 := by
  refine X_call ((stp_of d).trans ((hi _).trans ?_))
  unfold hCal
  rw [f]
  simp only
  have e1 : (as.reverse ++ rest).take (mN M1) = as.reverse := by rw [List.take_append_of_le_length (by rw [List.length_reverse, hn]; exact Nat.le_refl _), List.take_of_length_le (by rw [List.length_reverse, hn]; exact Nat.le_refl _)]
  have e2 : (as.reverse ++ rest).drop (mN M1) = rest := by rw [← hn, ← List.length_reverse (as := as), List.drop_left]
  have e3 : Nat.ble (mN M1) (as.reverse ++ rest).length = true := by
    rw [Nat.ble_eq, List.length_append, List.length_reverse, hn]
    omega
  rw [e1, e2, e3, List.reverse_reverse, hr]
  simp only [Bool.and_eq_true] at hs
  obtain ⟨s1, s2, s3, s4, s5, s6⟩ := hs
  rw [s1, s2, s3, s4, s5, s6]
  rfl
theorem ck_I {r : Option RV} {K : Option AV → AH → Option RV} {K1 : Int → AH → Option RV} (h1 : ∀ z h, K (some (aI z)) h = K1 z h) (h2 : ∀ v h, (∀ z, v ≠ some (aI z)) → K v h = none) : cK r K = cI r K1 := by
  match r with
  | none => rfl
  | some (some (Sum.inl z), h) => exact h1 z h
  | some (none, h) => exact h2 none h (fun z q => by cases q)
  | some (some (Sum.inr x), h) => exact h2 _ h (fun z q => by cases q)
/-- a point at which the stack has what the instruction can't take -/
theorem isO_wr {h : AH} {t a k t' a' : Nat} {v : AV} : isO (wr h t a k v) t' a' = isO h t' a' := by
  unfold wr
  cases hc : h[a]? with
  | none => rfl
  | some c =>
    simp only
    cases hb : Nat.beq c.1 t with
    | false => rfl
    | true =>
      show isO (h.set a (t, c.2.set k v)) t' a' = _
      have ht := Nat.eq_of_beq_eq_true hb
      unfold isO
      by_cases ha : a' = a
      · subst ha
        rw [List.getElem?_set_self (List.getElem?_eq_some_iff.mp hc).1, hc]
        simp only [ht]
      · rw [List.getElem?_set_ne (Ne.symm ha)]
theorem ln_wr {h : AH} {t a k a' : Nat} {v : AV} : ln (wr h t a k v) a' = ln h a' := by
  unfold wr
  cases hc : h[a]? with
  | none => rfl
  | some c =>
    simp only
    cases hb : Nat.beq c.1 t with
    | false => rfl
    | true =>
      show ln (h.set a (t, c.2.set k v)) a' = _
      have ht := Nat.eq_of_beq_eq_true hb
      unfold ln
      by_cases ha : a' = a
      · subst ha
        rw [List.getElem?_set_self (List.getElem?_eq_some_iff.mp hc).1, hc]
        simp only [ht, List.length_set]
      · rw [List.getElem?_set_ne (Ne.symm ha)]
theorem tagR_wr {h : AH} {t a k a' : Nat} {v : AV} : tagR (wr h t a k v) a' = tagR h a' := by
  unfold wr
  cases hc : h[a]? with
  | none => rfl
  | some c =>
    simp only
    cases hb : Nat.beq c.1 t with
    | false => rfl
    | true =>
      show tagR (h.set a (t, c.2.set k v)) a' = _
      have ht := Nat.eq_of_beq_eq_true hb
      unfold tagR
      by_cases ha : a' = a
      · subst ha
        rw [List.getElem?_set_self (List.getElem?_eq_some_iff.mp hc).1, hc]
        simp only [ht]
      · rw [List.getElem?_set_ne (Ne.symm ha)]
theorem rd_wr {h : AH} {t a k : Nat} {v w : AV} (q : rd h t a k = some w) : rd (wr h t a k v) t a k = some v := by
  obtain ⟨c, h1, h2, h3⟩ := rd_of q
  rw [wr_of h1 h2]
  unfold rd
  rw [List.getElem?_set_self (List.getElem?_eq_some_iff.mp h1).1]
  simp only [Nat.beq_refl, cond_true]
  rw [List.getElem?_set_self (List.getElem?_eq_some_iff.mp h3).1]
theorem rd_wn {h : AH} {t a k t' a' k' : Nat} {v : AV} (q : t' ≠ t ∨ a' ≠ a ∨ k' ≠ k) : rd (wr h t a k v) t' a' k' = rd h t' a' k' := by
  unfold wr
  cases hc : h[a]? with
  | none => rfl
  | some c =>
    simp only
    cases hb : Nat.beq c.1 t with
    | false => rfl
    | true =>
      show rd (h.set a (t, c.2.set k v)) t' a' k' = _
      have ht := Nat.eq_of_beq_eq_true hb
      unfold rd
      by_cases ha : a' = a
      · subst ha
        rw [List.getElem?_set_self (List.getElem?_eq_some_iff.mp hc).1, hc]
        simp only [ht]
        cases hb2 : Nat.beq t t' with
        | false => rfl
        | true =>
          have ht2 := Nat.eq_of_beq_eq_true hb2
          simp only [cond_true]
          rw [List.getElem?_set_ne]
          rcases q with q | q | q
          · exact absurd ht2.symm q
          · exact absurd rfl q
          · exact Ne.symm q
      · rw [List.getElem?_set_ne (Ne.symm ha)]
theorem isO_rd {h : AH} {t a k : Nat} {v : AV} (q : rd h t a k = some v) : isO h t a = true := by
  obtain ⟨c, h1, h2, h3⟩ := rd_of q
  unfold isO
  rw [h1]
  simp only [h2, Nat.beq_refl]
theorem tag_rd {h : AH} {t a k : Nat} {v : AV} (q : rd h t a k = some v) : tagR h a = t := by
  obtain ⟨c, h1, h2, h3⟩ := rd_of q
  unfold tagR
  rw [h1]
  exact h2
theorem wr_len {h : AH} {t a k : Nat} {v : AV} : (wr h t a k v).length = h.length := (wr_mono h t a k v).1
theorem wr_slt {h : AH} {t a k : Nat} {v : AV} : slt (wr h t a k v) = slt h := (wr_mono h t a k v).2
end
