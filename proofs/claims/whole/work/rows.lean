section
-- ===== PART A: goes FIRST, ahead of the names: the tables' words, and 'selects' of the private methods out of them =====
/-- a private method of a class that the tables say can be made, by its rows of tables_1 -/
def lw_okq (q : MethodName × Nat) : Prop := (q.1.cls ≠ "java/lang/invoke/MethodHandle" ∧ q.1.cls ≠ "java/lang/invoke/VarHandle") ∧ Cond.instantiable q.1.cls q.2 ∈ tables_1 ∧ Cond.privateMethod q.1 ∈ tables_1 ∧ Cond.instanceMethod q.1 ∈ tables_1
theorem lw_p0 : lw_okq (⟨"CoinNotThere$Tape", "rewind", "()V"⟩, 4) := ⟨⟨by decide +kernel, by decide +kernel⟩, List.mem_of_getElem? (i := 195) (by decide +kernel), List.mem_of_getElem? (i := 344) (by decide +kernel), List.mem_of_getElem? (i := 345) (by decide +kernel)⟩
theorem lw_p1 : lw_okq (⟨"CoinNotThere$Tape", "readClause", "(LCoinNotThere$Routine;)V"⟩, 4) := ⟨⟨by decide +kernel, by decide +kernel⟩, List.mem_of_getElem? (i := 195) (by decide +kernel), List.mem_of_getElem? (i := 348) (by decide +kernel), List.mem_of_getElem? (i := 349) (by decide +kernel)⟩
theorem lw_p2 : lw_okq (⟨"CoinNotThere$Tape", "number", "(I)I"⟩, 4) := ⟨⟨by decide +kernel, by decide +kernel⟩, List.mem_of_getElem? (i := 195) (by decide +kernel), List.mem_of_getElem? (i := 352) (by decide +kernel), List.mem_of_getElem? (i := 353) (by decide +kernel)⟩
theorem lw_p3 : lw_okq (⟨"CoinNotThere$Tape", "next", "()I"⟩, 4) := ⟨⟨by decide +kernel, by decide +kernel⟩, List.mem_of_getElem? (i := 195) (by decide +kernel), List.mem_of_getElem? (i := 356) (by decide +kernel), List.mem_of_getElem? (i := 357) (by decide +kernel)⟩
theorem lw_p4 : lw_okq (⟨"CoinNotThere$Tape", "digit", "(II)I"⟩, 4) := ⟨⟨by decide +kernel, by decide +kernel⟩, List.mem_of_getElem? (i := 195) (by decide +kernel), List.mem_of_getElem? (i := 360) (by decide +kernel), List.mem_of_getElem? (i := 361) (by decide +kernel)⟩
theorem lw_p5 : lw_okq (⟨"CoinNotThere$Tape", "accepts", "(C)Z"⟩, 4) := ⟨⟨by decide +kernel, by decide +kernel⟩, List.mem_of_getElem? (i := 195) (by decide +kernel), List.mem_of_getElem? (i := 365) (by decide +kernel), List.mem_of_getElem? (i := 366) (by decide +kernel)⟩
theorem lw_p6 : lw_okq (⟨"CoinNotThere$Tape", "placeAndSize", "()I"⟩, 4) := ⟨⟨by decide +kernel, by decide +kernel⟩, List.mem_of_getElem? (i := 195) (by decide +kernel), List.mem_of_getElem? (i := 369) (by decide +kernel), List.mem_of_getElem? (i := 370) (by decide +kernel)⟩
theorem lw_p7 : lw_okq (⟨"CoinNotThere$Tape", "answer", "(I)I"⟩, 4) := ⟨⟨by decide +kernel, by decide +kernel⟩, List.mem_of_getElem? (i := 195) (by decide +kernel), List.mem_of_getElem? (i := 373) (by decide +kernel), List.mem_of_getElem? (i := 374) (by decide +kernel)⟩
theorem lw_p8 : lw_okq (⟨"CoinNotThere$Tape", "readWatcher", "(LCoinNotThere$House;)V"⟩, 4) := ⟨⟨by decide +kernel, by decide +kernel⟩, List.mem_of_getElem? (i := 195) (by decide +kernel), List.mem_of_getElem? (i := 390) (by decide +kernel), List.mem_of_getElem? (i := 391) (by decide +kernel)⟩
theorem lw_p9 : lw_okq (⟨"CoinNotThereModel", "isTaken", "(I)Z"⟩, 28) := ⟨⟨by decide +kernel, by decide +kernel⟩, List.mem_of_getElem? (i := 668) (by decide +kernel), List.mem_of_getElem? (i := 796) (by decide +kernel), List.mem_of_getElem? (i := 797) (by decide +kernel)⟩
theorem lw_p10 : lw_okq (⟨"CoinNotThereModel", "comes", "(II)I"⟩, 28) := ⟨⟨by decide +kernel, by decide +kernel⟩, List.mem_of_getElem? (i := 668) (by decide +kernel), List.mem_of_getElem? (i := 800) (by decide +kernel), List.mem_of_getElem? (i := 801) (by decide +kernel)⟩
theorem lw_p11 : lw_okq (⟨"CoinNotThereModel", "isOne", "(I)Z"⟩, 28) := ⟨⟨by decide +kernel, by decide +kernel⟩, List.mem_of_getElem? (i := 668) (by decide +kernel), List.mem_of_getElem? (i := 808) (by decide +kernel), List.mem_of_getElem? (i := 809) (by decide +kernel)⟩
theorem lw_p12 : lw_okq (⟨"CoinNotThereModel", "heedOf", "(II)I"⟩, 28) := ⟨⟨by decide +kernel, by decide +kernel⟩, List.mem_of_getElem? (i := 668) (by decide +kernel), List.mem_of_getElem? (i := 816) (by decide +kernel), List.mem_of_getElem? (i := 817) (by decide +kernel)⟩
theorem lw_p13 : lw_okq (⟨"CoinNotThereModel", "readAll", "(Z)I"⟩, 28) := ⟨⟨by decide +kernel, by decide +kernel⟩, List.mem_of_getElem? (i := 668) (by decide +kernel), List.mem_of_getElem? (i := 836) (by decide +kernel), List.mem_of_getElem? (i := 837) (by decide +kernel)⟩
theorem lw_p14 : lw_okq (⟨"CoinNotThereModel", "beatClause", "(I)V"⟩, 28) := ⟨⟨by decide +kernel, by decide +kernel⟩, List.mem_of_getElem? (i := 668) (by decide +kernel), List.mem_of_getElem? (i := 840) (by decide +kernel), List.mem_of_getElem? (i := 841) (by decide +kernel)⟩
theorem lw_p15 : lw_okq (⟨"CoinNotThereModel", "number", "(I)I"⟩, 28) := ⟨⟨by decide +kernel, by decide +kernel⟩, List.mem_of_getElem? (i := 668) (by decide +kernel), List.mem_of_getElem? (i := 844) (by decide +kernel), List.mem_of_getElem? (i := 845) (by decide +kernel)⟩
def lw_privs_1 : List (MethodName × Nat) := [(⟨"CoinNotThere$Tape", "rewind", "()V"⟩, 4), (⟨"CoinNotThere$Tape", "readClause", "(LCoinNotThere$Routine;)V"⟩, 4), (⟨"CoinNotThere$Tape", "number", "(I)I"⟩, 4), (⟨"CoinNotThere$Tape", "next", "()I"⟩, 4), (⟨"CoinNotThere$Tape", "digit", "(II)I"⟩, 4), (⟨"CoinNotThere$Tape", "accepts", "(C)Z"⟩, 4), (⟨"CoinNotThere$Tape", "placeAndSize", "()I"⟩, 4), (⟨"CoinNotThere$Tape", "answer", "(I)I"⟩, 4), (⟨"CoinNotThere$Tape", "readWatcher", "(LCoinNotThere$House;)V"⟩, 4), (⟨"CoinNotThereModel", "isTaken", "(I)Z"⟩, 28), (⟨"CoinNotThereModel", "comes", "(II)I"⟩, 28), (⟨"CoinNotThereModel", "isOne", "(I)Z"⟩, 28), (⟨"CoinNotThereModel", "heedOf", "(II)I"⟩, 28), (⟨"CoinNotThereModel", "readAll", "(Z)I"⟩, 28), (⟨"CoinNotThereModel", "beatClause", "(I)V"⟩, 28), (⟨"CoinNotThereModel", "number", "(I)I"⟩, 28)]
theorem lw_r1 : ∀ q ∈ lw_privs_1, lw_okq q := List.forall_mem_cons.mpr ⟨lw_p0, List.forall_mem_cons.mpr ⟨lw_p1, List.forall_mem_cons.mpr ⟨lw_p2, List.forall_mem_cons.mpr ⟨lw_p3, List.forall_mem_cons.mpr ⟨lw_p4, List.forall_mem_cons.mpr ⟨lw_p5, List.forall_mem_cons.mpr ⟨lw_p6, List.forall_mem_cons.mpr ⟨lw_p7, List.forall_mem_cons.mpr ⟨lw_p8, List.forall_mem_cons.mpr ⟨lw_p9, List.forall_mem_cons.mpr ⟨lw_p10, List.forall_mem_cons.mpr ⟨lw_p11, List.forall_mem_cons.mpr ⟨lw_p12, List.forall_mem_cons.mpr ⟨lw_p13, List.forall_mem_cons.mpr ⟨lw_p14, List.forall_mem_cons.mpr ⟨lw_p15, fun _ h => absurd h List.not_mem_nil⟩⟩⟩⟩⟩⟩⟩⟩⟩⟩⟩⟩⟩⟩⟩⟩
theorem lw_p16 : lw_okq (⟨"CoinNotThereModel", "here", "()I"⟩, 28) := ⟨⟨by decide +kernel, by decide +kernel⟩, List.mem_of_getElem? (i := 668) (by decide +kernel), List.mem_of_getElem? (i := 848) (by decide +kernel), List.mem_of_getElem? (i := 849) (by decide +kernel)⟩
theorem lw_p17 : lw_okq (⟨"CoinNotThereModel", "has", "(I)Z"⟩, 28) := ⟨⟨by decide +kernel, by decide +kernel⟩, List.mem_of_getElem? (i := 668) (by decide +kernel), List.mem_of_getElem? (i := 854) (by decide +kernel), List.mem_of_getElem? (i := 855) (by decide +kernel)⟩
theorem lw_p18 : lw_okq (⟨"CoinNotThereModel", "both", "()I"⟩, 28) := ⟨⟨by decide +kernel, by decide +kernel⟩, List.mem_of_getElem? (i := 668) (by decide +kernel), List.mem_of_getElem? (i := 858) (by decide +kernel), List.mem_of_getElem? (i := 859) (by decide +kernel)⟩
theorem lw_p19 : lw_okq (⟨"CoinNotThereModel", "digit", "(II)I"⟩, 28) := ⟨⟨by decide +kernel, by decide +kernel⟩, List.mem_of_getElem? (i := 668) (by decide +kernel), List.mem_of_getElem? (i := 862) (by decide +kernel), List.mem_of_getElem? (i := 863) (by decide +kernel)⟩
theorem lw_p20 : lw_okq (⟨"CoinNotThereModel", "seatClause", "(I)V"⟩, 28) := ⟨⟨by decide +kernel, by decide +kernel⟩, List.mem_of_getElem? (i := 668) (by decide +kernel), List.mem_of_getElem? (i := 866) (by decide +kernel), List.mem_of_getElem? (i := 867) (by decide +kernel)⟩
theorem lw_p21 : lw_okq (⟨"CoinNotThereModel", "pullOn", "(IIIII)I"⟩, 28) := ⟨⟨by decide +kernel, by decide +kernel⟩, List.mem_of_getElem? (i := 668) (by decide +kernel), List.mem_of_getElem? (i := 883) (by decide +kernel), List.mem_of_getElem? (i := 884) (by decide +kernel)⟩
theorem lw_p22 : lw_okq (⟨"CoinNotThereModel", "sight", "(III)Z"⟩, 28) := ⟨⟨by decide +kernel, by decide +kernel⟩, List.mem_of_getElem? (i := 668) (by decide +kernel), List.mem_of_getElem? (i := 895) (by decide +kernel), List.mem_of_getElem? (i := 896) (by decide +kernel)⟩
theorem lw_p23 : lw_okq (⟨"CoinNotThereModel", "oddsOf", "(III)V"⟩, 28) := ⟨⟨by decide +kernel, by decide +kernel⟩, List.mem_of_getElem? (i := 668) (by decide +kernel), List.mem_of_getElem? (i := 903) (by decide +kernel), List.mem_of_getElem? (i := 904) (by decide +kernel)⟩
theorem lw_p24 : lw_okq (⟨"CoinNotThereModel", "seesAll", "(I)I"⟩, 28) := ⟨⟨by decide +kernel, by decide +kernel⟩, List.mem_of_getElem? (i := 668) (by decide +kernel), List.mem_of_getElem? (i := 912) (by decide +kernel), List.mem_of_getElem? (i := 913) (by decide +kernel)⟩
theorem lw_p25 : lw_okq (⟨"CoinNotThereModel", "seesAt", "(II)I"⟩, 28) := ⟨⟨by decide +kernel, by decide +kernel⟩, List.mem_of_getElem? (i := 668) (by decide +kernel), List.mem_of_getElem? (i := 916) (by decide +kernel), List.mem_of_getElem? (i := 917) (by decide +kernel)⟩
theorem lw_p26 : lw_okq (⟨"CoinNotThereModel", "seesWith", "(I)I"⟩, 28) := ⟨⟨by decide +kernel, by decide +kernel⟩, List.mem_of_getElem? (i := 668) (by decide +kernel), List.mem_of_getElem? (i := 935) (by decide +kernel), List.mem_of_getElem? (i := 936) (by decide +kernel)⟩
theorem lw_p27 : lw_okq (⟨"CoinNotThereModel", "shownAt", "(I)I"⟩, 28) := ⟨⟨by decide +kernel, by decide +kernel⟩, List.mem_of_getElem? (i := 668) (by decide +kernel), List.mem_of_getElem? (i := 961) (by decide +kernel), List.mem_of_getElem? (i := 962) (by decide +kernel)⟩
theorem lw_p28 : lw_okq (⟨"CoinNotThereModel", "pointed", "(II)V"⟩, 28) := ⟨⟨by decide +kernel, by decide +kernel⟩, List.mem_of_getElem? (i := 668) (by decide +kernel), List.mem_of_getElem? (i := 969) (by decide +kernel), List.mem_of_getElem? (i := 970) (by decide +kernel)⟩
theorem lw_p29 : lw_okq (⟨"CoinNotThereModel", "finds", "(IIII)I"⟩, 28) := ⟨⟨by decide +kernel, by decide +kernel⟩, List.mem_of_getElem? (i := 668) (by decide +kernel), List.mem_of_getElem? (i := 1013) (by decide +kernel), List.mem_of_getElem? (i := 1014) (by decide +kernel)⟩
def lw_privs_2 : List (MethodName × Nat) := [(⟨"CoinNotThereModel", "here", "()I"⟩, 28), (⟨"CoinNotThereModel", "has", "(I)Z"⟩, 28), (⟨"CoinNotThereModel", "both", "()I"⟩, 28), (⟨"CoinNotThereModel", "digit", "(II)I"⟩, 28), (⟨"CoinNotThereModel", "seatClause", "(I)V"⟩, 28), (⟨"CoinNotThereModel", "pullOn", "(IIIII)I"⟩, 28), (⟨"CoinNotThereModel", "sight", "(III)Z"⟩, 28), (⟨"CoinNotThereModel", "oddsOf", "(III)V"⟩, 28), (⟨"CoinNotThereModel", "seesAll", "(I)I"⟩, 28), (⟨"CoinNotThereModel", "seesAt", "(II)I"⟩, 28), (⟨"CoinNotThereModel", "seesWith", "(I)I"⟩, 28), (⟨"CoinNotThereModel", "shownAt", "(I)I"⟩, 28), (⟨"CoinNotThereModel", "pointed", "(II)V"⟩, 28), (⟨"CoinNotThereModel", "finds", "(IIII)I"⟩, 28)]
theorem lw_r2 : ∀ q ∈ lw_privs_2, lw_okq q := List.forall_mem_cons.mpr ⟨lw_p16, List.forall_mem_cons.mpr ⟨lw_p17, List.forall_mem_cons.mpr ⟨lw_p18, List.forall_mem_cons.mpr ⟨lw_p19, List.forall_mem_cons.mpr ⟨lw_p20, List.forall_mem_cons.mpr ⟨lw_p21, List.forall_mem_cons.mpr ⟨lw_p22, List.forall_mem_cons.mpr ⟨lw_p23, List.forall_mem_cons.mpr ⟨lw_p24, List.forall_mem_cons.mpr ⟨lw_p25, List.forall_mem_cons.mpr ⟨lw_p26, List.forall_mem_cons.mpr ⟨lw_p27, List.forall_mem_cons.mpr ⟨lw_p28, List.forall_mem_cons.mpr ⟨lw_p29, fun _ h => absurd h List.not_mem_nil⟩⟩⟩⟩⟩⟩⟩⟩⟩⟩⟩⟩⟩⟩
def lw_privs : List (MethodName × Nat) := lw_privs_1 ++ (lw_privs_2)
def lw_tbl : List Cond := k2_sels lw_privs ++ tables_1
theorem lw_privs_ok : ∀ q ∈ lw_privs, lw_okq q := by
  show ∀ q ∈ lw_privs_1 ++ (lw_privs_2), lw_okq q
  exact List.forall_mem_append.mpr ⟨lw_r1, lw_r2⟩
end
section
def RX0 : String := "CoinNotThere$Covers"
def TX0 : u_T := fun k => match k with
  | 0 => ("CoinNotThere$Covers", "beats", "[I", true)
  | 1 => ("CoinNotThere$Covers", "kinds", "[I", true)
  | 2 => ("CoinNotThere$Covers", "places", "[I", true)
  | 3 => ("CoinNotThere$Covers", "costs", "[I", true)
  | _ => ("CoinNotThere$Covers", "size", "I", false)
def tyX0 : Nat → FieldType := fun k => match k with
  | 0 => .array .int
  | 1 => .array .int
  | 2 => .array .int
  | 3 => .array .int
  | _ => .int
theorem nmX0 : ∀ a, a < 5 → ∀ b, b < 5 → a ≠ b → (TX0 a).2.1 ≠ (TX0 b).2.1 := by decide +kernel
theorem tyX0_ok : ∀ k, k < 5 → parseFieldDescriptor (TX0 k).2.2.1 = some (tyX0 k) := by decide +kernel
abbrev cX0_init : ByteArray := prog_2_method_1_code
def yX0_init : MethodName := ⟨RX0, "<init>", "()V"⟩
abbrev cX0_become : ByteArray := prog_2_method_2_code
def yX0_become : MethodName := ⟨RX0, "become", "(LCoinNotThere$Covers;)V"⟩
abbrev cX0_add : ByteArray := prog_2_method_3_code
def yX0_add : MethodName := ⟨RX0, "add", "(IIII)V"⟩
abbrev cX0_costOf : ByteArray := prog_2_method_4_code
def yX0_costOf : MethodName := ⟨RX0, "costOf", "(I)I"⟩
abbrev cX0_layOn : ByteArray := prog_2_method_5_code
def yX0_layOn : MethodName := ⟨RX0, "layOn", "(LCoinNotThere$Routine;I)V"⟩
def RX1 : String := "CoinNotThere$House"
def TX1 : u_T := fun k => match k with
  | 0 => ("CoinNotThere$House", "seats", "[I", true)
  | 1 => ("CoinNotThere$House", "kinds", "[I", true)
  | 2 => ("CoinNotThere$House", "doubts", "[I", true)
  | _ => ("CoinNotThere$House", "size", "I", false)
def tyX1 : Nat → FieldType := fun k => match k with
  | 0 => .array .int
  | 1 => .array .int
  | 2 => .array .int
  | _ => .int
theorem nmX1 : ∀ a, a < 4 → ∀ b, b < 4 → a ≠ b → (TX1 a).2.1 ≠ (TX1 b).2.1 := by decide +kernel
theorem tyX1_ok : ∀ k, k < 4 → parseFieldDescriptor (TX1 k).2.2.1 = some (tyX1 k) := by decide +kernel
abbrev cX1_init : ByteArray := prog_3_method_1_code
def yX1_init : MethodName := ⟨RX1, "<init>", "()V"⟩
abbrev cX1_become : ByteArray := prog_3_method_2_code
def yX1_become : MethodName := ⟨RX1, "become", "(LCoinNotThere$House;)V"⟩
abbrev cX1_isTaken : ByteArray := prog_3_method_3_code
def yX1_isTaken : MethodName := ⟨RX1, "isTaken", "(I)Z"⟩
abbrev cX1_admit : ByteArray := prog_3_method_4_code
def yX1_admit : MethodName := ⟨RX1, "admit", "(II)V"⟩
abbrev cX1_dismiss : ByteArray := prog_3_method_5_code
def yX1_dismiss : MethodName := ⟨RX1, "dismiss", "(I)V"⟩
abbrev cX1_warnPlainOnes : ByteArray := prog_3_method_6_code
def yX1_warnPlainOnes : MethodName := ⟨RX1, "warnPlainOnes", "()V"⟩
def RX2 : String := "CoinNotThere$Points"
def TX2 : u_T := fun k => match k with
  | 0 => ("CoinNotThere$Points", "beats", "[I", true)
  | 1 => ("CoinNotThere$Points", "places", "[I", true)
  | _ => ("CoinNotThere$Points", "size", "I", false)
def tyX2 : Nat → FieldType := fun k => match k with
  | 0 => .array .int
  | 1 => .array .int
  | _ => .int
theorem nmX2 : ∀ a, a < 3 → ∀ b, b < 3 → a ≠ b → (TX2 a).2.1 ≠ (TX2 b).2.1 := by decide +kernel
theorem tyX2_ok : ∀ k, k < 3 → parseFieldDescriptor (TX2 k).2.2.1 = some (tyX2 k) := by decide +kernel
abbrev cX2_init : ByteArray := prog_4_method_1_code
def yX2_init : MethodName := ⟨RX2, "<init>", "()V"⟩
abbrev cX2_become : ByteArray := prog_4_method_2_code
def yX2_become : MethodName := ⟨RX2, "become", "(LCoinNotThere$Points;)V"⟩
abbrev cX2_add : ByteArray := prog_4_method_3_code
def yX2_add : MethodName := ⟨RX2, "add", "(II)V"⟩
def RX3 : String := "CoinNotThere$Routine"
def TX3 : u_T := fun k => match k with
  | 0 => ("CoinNotThere$Routine", "moves", "[I", true)
  | 1 => ("CoinNotThere$Routine", "slips", "[I", true)
  | 2 => ("CoinNotThere$Routine", "looks", "[I", true)
  | 3 => ("CoinNotThere$Routine", "names", "[I", true)
  | _ => ("CoinNotThere$Routine", "jokes", "[I", true)
def tyX3 : Nat → FieldType := fun k => match k with
  | 0 => .array .int
  | 1 => .array .int
  | 2 => .array .int
  | 3 => .array .int
  | _ => .array .int
theorem nmX3 : ∀ a, a < 5 → ∀ b, b < 5 → a ≠ b → (TX3 a).2.1 ≠ (TX3 b).2.1 := by decide +kernel
theorem tyX3_ok : ∀ k, k < 5 → parseFieldDescriptor (TX3 k).2.2.1 = some (tyX3 k) := by decide +kernel
abbrev cX3_init : ByteArray := prog_5_method_1_code
def yX3_init : MethodName := ⟨RX3, "<init>", "()V"⟩
abbrev cX3_become : ByteArray := prog_5_method_2_code
def yX3_become : MethodName := ⟨RX3, "become", "(LCoinNotThere$Routine;)V"⟩
abbrev cX3_heedIn : ByteArray := prog_5_method_3_code
def yX3_heedIn : MethodName := ⟨RX3, "heedIn", "(IZI)I"⟩
abbrev cX3_lastSlip : ByteArray := prog_5_method_4_code
def yX3_lastSlip : MethodName := ⟨RX3, "lastSlip", "()I"⟩
def RX4 : String := "CoinNotThere$Sheets"
def TX4 : u_T := fun k => match k with
  | 0 => ("CoinNotThere$Sheets", "lanes", "[I", true)
  | 1 => ("CoinNotThere$Sheets", "sizes", "[I", true)
  | _ => ("CoinNotThere$Sheets", "items", "[I", true)
def tyX4 : Nat → FieldType := fun k => match k with
  | 0 => .array .int
  | 1 => .array .int
  | _ => .array .int
theorem nmX4 : ∀ a, a < 3 → ∀ b, b < 3 → a ≠ b → (TX4 a).2.1 ≠ (TX4 b).2.1 := by decide +kernel
theorem tyX4_ok : ∀ k, k < 3 → parseFieldDescriptor (TX4 k).2.2.1 = some (tyX4 k) := by decide +kernel
abbrev cX4_init : ByteArray := prog_6_method_1_code
def yX4_init : MethodName := ⟨RX4, "<init>", "()V"⟩
abbrev cX4_isMissing : ByteArray := prog_6_method_2_code
def yX4_isMissing : MethodName := ⟨RX4, "isMissing", "(I)Z"⟩
abbrev cX4_refusal : ByteArray := prog_6_method_3_code
def yX4_refusal : MethodName := ⟨RX4, "refusal", "(II)I"⟩
abbrev cX4_hasItems : ByteArray := prog_6_method_4_code
def yX4_hasItems : MethodName := ⟨RX4, "hasItems", "(III)Z"⟩
abbrev cX4_lay : ByteArray := prog_6_method_5_code
def yX4_lay : MethodName := ⟨RX4, "lay", "(III)V"⟩
abbrev cX4_itemAt : ByteArray := prog_6_method_6_code
def yX4_itemAt : MethodName := ⟨RX4, "itemAt", "(II)I"⟩
abbrev cX4_write : ByteArray := prog_6_method_7_code
def yX4_write : MethodName := ⟨RX4, "write", "(III)V"⟩
abbrev cX4_transfer : ByteArray := prog_6_method_8_code
def yX4_transfer : MethodName := ⟨RX4, "transfer", "(IIIII)V"⟩
abbrev cX4_placesAmong : ByteArray := prog_6_method_9_code
def yX4_placesAmong : MethodName := ⟨RX4, "placesAmong", "(III)I"⟩
def RX5 : String := "CoinNotThere$Stage"
def TX5 : u_T := fun k => match k with
  | 0 => ("CoinNotThere$Stage", "routine", "LCoinNotThere$Routine;", true)
  | 1 => ("CoinNotThere$Stage", "house", "LCoinNotThere$House;", true)
  | 2 => ("CoinNotThere$Stage", "covers", "LCoinNotThere$Covers;", true)
  | 3 => ("CoinNotThere$Stage", "points", "LCoinNotThere$Points;", true)
  | 4 => ("CoinNotThere$Stage", "laws", "[I", true)
  | 5 => ("CoinNotThere$Stage", "column", "I", false)
  | 6 => ("CoinNotThere$Stage", "pulls", "[I", true)
  | 7 => ("CoinNotThere$Stage", "above", "I", false)
  | _ => ("CoinNotThere$Stage", "below", "I", false)
def tyX5 : Nat → FieldType := fun k => match k with
  | 0 => .object "CoinNotThere$Routine"
  | 1 => .object "CoinNotThere$House"
  | 2 => .object "CoinNotThere$Covers"
  | 3 => .object "CoinNotThere$Points"
  | 4 => .array .int
  | 5 => .int
  | 6 => .array .int
  | 7 => .int
  | _ => .int
theorem nmX5 : ∀ a, a < 9 → ∀ b, b < 9 → a ≠ b → (TX5 a).2.1 ≠ (TX5 b).2.1 := by decide +kernel
theorem tyX5_ok : ∀ k, k < 9 → parseFieldDescriptor (TX5 k).2.2.1 = some (tyX5 k) := by decide +kernel
abbrev cX5_init : ByteArray := prog_7_method_1_code
def yX5_init : MethodName := ⟨RX5, "<init>", "()V"⟩
abbrev cX5_become : ByteArray := prog_7_method_2_code
def yX5_become : MethodName := ⟨RX5, "become", "(LCoinNotThere$Stage;)V"⟩
abbrev cX5_drawPulls : ByteArray := prog_7_method_3_code
def yX5_drawPulls : MethodName := ⟨RX5, "drawPulls", "(IIII)V"⟩
abbrev cX5_weigh : ByteArray := prog_7_method_4_code
def yX5_weigh : MethodName := ⟨RX5, "weigh", "(IIII)V"⟩
abbrev cX5_seesOfSlip : ByteArray := prog_7_method_5_code
def yX5_seesOfSlip : MethodName := ⟨RX5, "seesOfSlip", "(II)I"⟩
abbrev cX5_seesOfAll : ByteArray := prog_7_method_6_code
def yX5_seesOfAll : MethodName := ⟨RX5, "seesOfAll", "(I)I"⟩
abbrev cX5_someoneCanSeeFrom : ByteArray := prog_7_method_7_code
def yX5_someoneCanSeeFrom : MethodName := ⟨RX5, "someoneCanSeeFrom", "(I)Z"⟩
abbrev cX5_leftAt : ByteArray := prog_7_method_8_code
def yX5_leftAt : MethodName := ⟨RX5, "leftAt", "(I)I"⟩
abbrev cX5_bestShown : ByteArray := prog_7_method_9_code
def yX5_bestShown : MethodName := ⟨RX5, "bestShown", "()I"⟩
abbrev cX5_pointsWhereDrawnMost : ByteArray := prog_7_method_10_code
def yX5_pointsWhereDrawnMost : MethodName := ⟨RX5, "pointsWhereDrawnMost", "()I"⟩
def RX6 : String := "CoinNotThere$Tape"
def TX6 : u_T := fun k => match k with
  | 0 => ("CoinNotThere$Tape", "bytes", "[I", true)
  | 1 => ("CoinNotThere$Tape", "length", "I", false)
  | 2 => ("CoinNotThere$Tape", "at", "I", false)
  | _ => ("CoinNotThere$Tape", "isStuck", "Z", false)
def tyX6 : Nat → FieldType := fun k => match k with
  | 0 => .array .int
  | 1 => .int
  | 2 => .int
  | _ => .boolean
theorem nmX6 : ∀ a, a < 4 → ∀ b, b < 4 → a ≠ b → (TX6 a).2.1 ≠ (TX6 b).2.1 := by decide +kernel
theorem tyX6_ok : ∀ k, k < 4 → parseFieldDescriptor (TX6 k).2.2.1 = some (tyX6 k) := by decide +kernel
abbrev cX6_init : ByteArray := prog_8_method_1_code
def yX6_init : MethodName := ⟨RX6, "<init>", "()V"⟩
abbrev cX6_isWritable : ByteArray := prog_8_method_2_code
def yX6_isWritable : MethodName := ⟨RX6, "isWritable", "(JI)Z"⟩
abbrev cX6_byteOf : ByteArray := prog_8_method_3_code
def yX6_byteOf : MethodName := ⟨RX6, "byteOf", "(JI)I"⟩
abbrev cX6_write : ByteArray := prog_8_method_4_code
def yX6_write : MethodName := ⟨RX6, "write", "(JI)V"⟩
abbrev cX6_readRoutine : ByteArray := prog_8_method_5_code
def yX6_readRoutine : MethodName := ⟨RX6, "readRoutine", "(LCoinNotThere$Routine;)I"⟩
abbrev cX6_readHouse : ByteArray := prog_8_method_6_code
def yX6_readHouse : MethodName := ⟨RX6, "readHouse", "(LCoinNotThere$House;)I"⟩
abbrev cX6_rewind : ByteArray := prog_8_method_7_code
def yX6_rewind : MethodName := ⟨RX6, "rewind", "()V"⟩
abbrev cX6_answer : ByteArray := prog_8_method_8_code
def yX6_answer : MethodName := ⟨RX6, "answer", "(I)I"⟩
abbrev cX6_readClause : ByteArray := prog_8_method_9_code
def yX6_readClause : MethodName := ⟨RX6, "readClause", "(LCoinNotThere$Routine;)V"⟩
abbrev cX6_readWatcher : ByteArray := prog_8_method_10_code
def yX6_readWatcher : MethodName := ⟨RX6, "readWatcher", "(LCoinNotThere$House;)V"⟩
abbrev cX6_placeAndSize : ByteArray := prog_8_method_11_code
def yX6_placeAndSize : MethodName := ⟨RX6, "placeAndSize", "()I"⟩
abbrev cX6_next : ByteArray := prog_8_method_12_code
def yX6_next : MethodName := ⟨RX6, "next", "()I"⟩
abbrev cX6_accepts : ByteArray := prog_8_method_13_code
def yX6_accepts : MethodName := ⟨RX6, "accepts", "(C)Z"⟩
abbrev cX6_digit : ByteArray := prog_8_method_14_code
def yX6_digit : MethodName := ⟨RX6, "digit", "(II)I"⟩
abbrev cX6_number : ByteArray := prog_8_method_15_code
def yX6_number : MethodName := ⟨RX6, "number", "(I)I"⟩
def RX7 : String := "CoinNotThere$WouldBe"
def TX7 : u_T := fun k => match k with
  | _ => ("CoinNotThere$WouldBe", "trial", "LCoinNotThere$Stage;", true)
def tyX7 : Nat → FieldType := fun k => match k with
  | _ => .object "CoinNotThere$Stage"
theorem nmX7 : ∀ a, a < 1 → ∀ b, b < 1 → a ≠ b → (TX7 a).2.1 ≠ (TX7 b).2.1 := by decide +kernel
theorem tyX7_ok : ∀ k, k < 1 → parseFieldDescriptor (TX7 k).2.2.1 = some (tyX7 k) := by decide +kernel
abbrev cX7_init : ByteArray := prog_9_method_1_code
def yX7_init : MethodName := ⟨RX7, "<init>", "()V"⟩
abbrev cX7_seesMoved : ByteArray := prog_9_method_2_code
def yX7_seesMoved : MethodName := ⟨RX7, "seesMoved", "(LCoinNotThere$Stage;II)I"⟩
abbrev cX7_quietestBeat : ByteArray := prog_9_method_3_code
def yX7_quietestBeat : MethodName := ⟨RX7, "quietestBeat", "(LCoinNotThere$Stage;I)I"⟩
abbrev cX7_seesCovered : ByteArray := prog_9_method_4_code
def yX7_seesCovered : MethodName := ⟨RX7, "seesCovered", "(LCoinNotThere$Stage;I)I"⟩
abbrev cX7_bestCovers : ByteArray := prog_9_method_5_code
def yX7_bestCovers : MethodName := ⟨RX7, "bestCovers", "(LCoinNotThere$Stage;I)I"⟩
abbrev cX7_seesWarned : ByteArray := prog_9_method_6_code
def yX7_seesWarned : MethodName := ⟨RX7, "seesWarned", "(LCoinNotThere$Stage;)I"⟩
abbrev cX7_fittingPoints : ByteArray := prog_9_method_7_code
def yX7_fittingPoints : MethodName := ⟨RX7, "fittingPoints", "(LCoinNotThere$Stage;I)I"⟩
abbrev cX7_lookThatFits : ByteArray := prog_9_method_8_code
def yX7_lookThatFits : MethodName := ⟨RX7, "lookThatFits", "(LCoinNotThere$Stage;)I"⟩
def RX8 : String := "CoinNotThere"
def TX8 : u_T := fun k => match k with
  | 0 => ("CoinNotThere", "now", "LCoinNotThere$Stage;", true)
  | 1 => ("CoinNotThere", "kept", "LCoinNotThere$Stage;", true)
  | 2 => ("CoinNotThere", "hasImage", "Z", false)
  | 3 => ("CoinNotThere", "wouldBe", "LCoinNotThere$WouldBe;", true)
  | 4 => ("CoinNotThere", "tape", "LCoinNotThere$Tape;", true)
  | _ => ("CoinNotThere", "sheets", "LCoinNotThere$Sheets;", true)
def tyX8 : Nat → FieldType := fun k => match k with
  | 0 => .object "CoinNotThere$Stage"
  | 1 => .object "CoinNotThere$Stage"
  | 2 => .boolean
  | 3 => .object "CoinNotThere$WouldBe"
  | 4 => .object "CoinNotThere$Tape"
  | _ => .object "CoinNotThere$Sheets"
theorem nmX8 : ∀ a, a < 6 → ∀ b, b < 6 → a ≠ b → (TX8 a).2.1 ≠ (TX8 b).2.1 := by decide +kernel
theorem tyX8_ok : ∀ k, k < 6 → parseFieldDescriptor (TX8 k).2.2.1 = some (tyX8 k) := by decide +kernel
abbrev cX8_init : ByteArray := prog_1_method_1_code
def yX8_init : MethodName := ⟨RX8, "<init>", "()V"⟩
abbrev cX8_act : ByteArray := prog_1_method_2_code
def yX8_act : MethodName := ⟨RX8, "act", "(IIII)I"⟩
abbrev cX8_cue : ByteArray := prog_1_method_3_code
def yX8_cue : MethodName := ⟨RX8, "cue", "(III)I"⟩
abbrev cX8_stand : ByteArray := prog_1_method_4_code
def yX8_stand : MethodName := ⟨RX8, "stand", "(I)I"⟩
abbrev cX8_habit : ByteArray := prog_1_method_5_code
def yX8_habit : MethodName := ⟨RX8, "habit", "(II)I"⟩
abbrev cX8_watcher : ByteArray := prog_1_method_6_code
def yX8_watcher : MethodName := ⟨RX8, "watcher", "(II)I"⟩
abbrev cX8_doubt : ByteArray := prog_1_method_7_code
def yX8_doubt : MethodName := ⟨RX8, "doubt", "(II)I"⟩
abbrev cX8_told : ByteArray := prog_1_method_8_code
def yX8_told : MethodName := ⟨RX8, "told", "(II)I"⟩
abbrev cX8_leave : ByteArray := prog_1_method_9_code
def yX8_leave : MethodName := ⟨RX8, "leave", "(I)I"⟩
abbrev cX8_type : ByteArray := prog_1_method_10_code
def yX8_type : MethodName := ⟨RX8, "type", "(JI)I"⟩
abbrev cX8_routine : ByteArray := prog_1_method_11_code
def yX8_routine : MethodName := ⟨RX8, "routine", "()I"⟩
abbrev cX8_house : ByteArray := prog_1_method_12_code
def yX8_house : MethodName := ⟨RX8, "house", "()I"⟩
abbrev cX8_count : ByteArray := prog_1_method_13_code
def yX8_count : MethodName := ⟨RX8, "count", "(I)I"⟩
abbrev cX8_pull : ByteArray := prog_1_method_14_code
def yX8_pull : MethodName := ⟨RX8, "pull", "(IIII)I"⟩
abbrev cX8_heed : ByteArray := prog_1_method_15_code
def yX8_heed : MethodName := ⟨RX8, "heed", "(II)I"⟩
abbrev cX8_can : ByteArray := prog_1_method_16_code
def yX8_can : MethodName := ⟨RX8, "can", "(II)I"⟩
abbrev cX8_odds : ByteArray := prog_1_method_17_code
def yX8_odds : MethodName := ⟨RX8, "odds", "(IIII)I"⟩
abbrev cX8_sees : ByteArray := prog_1_method_18_code
def yX8_sees : MethodName := ⟨RX8, "sees", "(II)I"⟩
abbrev cX8_quiet : ByteArray := prog_1_method_19_code
def yX8_quiet : MethodName := ⟨RX8, "quiet", "(II)I"⟩
abbrev cX8_cover : ByteArray := prog_1_method_20_code
def yX8_cover : MethodName := ⟨RX8, "cover", "(IIII)I"⟩
abbrev cX8_does : ByteArray := prog_1_method_21_code
def yX8_does : MethodName := ⟨RX8, "does", "(II)I"⟩
abbrev cX8_bought : ByteArray := prog_1_method_22_code
def yX8_bought : MethodName := ⟨RX8, "bought", "(II)I"⟩
abbrev cX8_stances : ByteArray := prog_1_method_23_code
def yX8_stances : MethodName := ⟨RX8, "stances", "()I"⟩
abbrev cX8_often : ByteArray := prog_1_method_24_code
def yX8_often : MethodName := ⟨RX8, "often", "(I)I"⟩
abbrev cX8_warning : ByteArray := prog_1_method_25_code
def yX8_warning : MethodName := ⟨RX8, "warning", "()I"⟩
abbrev cX8_shown : ByteArray := prog_1_method_26_code
def yX8_shown : MethodName := ⟨RX8, "shown", "(I)I"⟩
abbrev cX8_point : ByteArray := prog_1_method_27_code
def yX8_point : MethodName := ⟨RX8, "point", "(II)I"⟩
abbrev cX8_fits : ByteArray := prog_1_method_28_code
def yX8_fits : MethodName := ⟨RX8, "fits", "(I)I"⟩
abbrev cX8_apart : ByteArray := prog_1_method_29_code
def yX8_apart : MethodName := ⟨RX8, "apart", "(IIII)I"⟩
abbrev cX8_clear : ByteArray := prog_1_method_30_code
def yX8_clear : MethodName := ⟨RX8, "clear", "()I"⟩
abbrev cX8_image : ByteArray := prog_1_method_31_code
def yX8_image : MethodName := ⟨RX8, "image", "()I"⟩
abbrev cX8_restore : ByteArray := prog_1_method_32_code
def yX8_restore : MethodName := ⟨RX8, "restore", "()I"⟩
abbrev cX8_eyes : ByteArray := prog_1_method_33_code
def yX8_eyes : MethodName := ⟨RX8, "eyes", "(IIIII)I"⟩
abbrev cX8_sheet : ByteArray := prog_1_method_34_code
def yX8_sheet : MethodName := ⟨RX8, "sheet", "(III)I"⟩
abbrev cX8_drop : ByteArray := prog_1_method_35_code
def yX8_drop : MethodName := ⟨RX8, "drop", "(I)I"⟩
abbrev cX8_item : ByteArray := prog_1_method_36_code
def yX8_item : MethodName := ⟨RX8, "item", "(IIII)I"⟩
abbrev cX8_copy : ByteArray := prog_1_method_37_code
def yX8_copy : MethodName := ⟨RX8, "copy", "(IIIII)I"⟩
abbrev cX8_isBelow : ByteArray := prog_1_method_38_code
def yX8_isBelow : MethodName := ⟨RX8, "isBelow", "(II)Z"⟩
abbrev cX8_isShowing : ByteArray := prog_1_method_39_code
def yX8_isShowing : MethodName := ⟨RX8, "isShowing", "(I)Z"⟩
abbrev cX8_exchange : ByteArray := prog_1_method_40_code
def yX8_exchange : MethodName := ⟨RX8, "exchange", "([III)I"⟩
abbrev cX8_toldIn : ByteArray := prog_1_method_41_code
def yX8_toldIn : MethodName := ⟨RX8, "toldIn", "([I)I"⟩
abbrev cX8_thousandths : ByteArray := prog_1_method_42_code
def yX8_thousandths : MethodName := ⟨RX8, "thousandths", "(II)I"⟩
abbrev cX8_commonDivisor : ByteArray := prog_1_method_43_code
def yX8_commonDivisor : MethodName := ⟨RX8, "commonDivisor", "(II)I"⟩
abbrev cX8_canSee : ByteArray := prog_1_method_44_code
def yX8_canSee : MethodName := ⟨RX8, "canSee", "(III)Z"⟩
def RX9 : String := "CoinNotThereModel"
def TX9 : u_T := fun k => match k with
  | 0 => ("CoinNotThereModel", "moves", "[I", true)
  | 1 => ("CoinNotThereModel", "slips", "[I", true)
  | 2 => ("CoinNotThereModel", "looks", "[I", true)
  | 3 => ("CoinNotThereModel", "names", "[I", true)
  | 4 => ("CoinNotThereModel", "jokes", "[I", true)
  | 5 => ("CoinNotThereModel", "stands", "I", false)
  | 6 => ("CoinNotThereModel", "laws", "[I", true)
  | 7 => ("CoinNotThereModel", "watchers", "I", false)
  | 8 => ("CoinNotThereModel", "parts", "[I", true)
  | 9 => ("CoinNotThereModel", "tape", "[I", true)
  | 10 => ("CoinNotThereModel", "taped", "I", false)
  | 11 => ("CoinNotThereModel", "at", "I", false)
  | 12 => ("CoinNotThereModel", "wrong", "Z", false)
  | 13 => ("CoinNotThereModel", "read", "[I", true)
  | 14 => ("CoinNotThereModel", "above", "J", false)
  | 15 => ("CoinNotThereModel", "below", "J", false)
  | 16 => ("CoinNotThereModel", "covers", "I", false)
  | 17 => ("CoinNotThereModel", "coverParts", "[I", true)
  | 18 => ("CoinNotThereModel", "kept", "[I", true)
  | 19 => ("CoinNotThereModel", "points", "I", false)
  | 20 => ("CoinNotThereModel", "pointBeat", "[I", true)
  | 21 => ("CoinNotThereModel", "pointPlace", "[I", true)
  | 22 => ("CoinNotThereModel", "image", "[I", true)
  | 23 => ("CoinNotThereModel", "isImage", "Z", false)
  | 24 => ("CoinNotThereModel", "lanes", "[I", true)
  | 25 => ("CoinNotThereModel", "sizes", "[I", true)
  | 26 => ("CoinNotThereModel", "items", "[I", true)
  | _ => ("CoinNotThereModel", "moved", "[I", true)
def tyX9 : Nat → FieldType := fun k => match k with
  | 0 => .array .int
  | 1 => .array .int
  | 2 => .array .int
  | 3 => .array .int
  | 4 => .array .int
  | 5 => .int
  | 6 => .array .int
  | 7 => .int
  | 8 => .array .int
  | 9 => .array .int
  | 10 => .int
  | 11 => .int
  | 12 => .boolean
  | 13 => .array .int
  | 14 => .long
  | 15 => .long
  | 16 => .int
  | 17 => .array .int
  | 18 => .array .int
  | 19 => .int
  | 20 => .array .int
  | 21 => .array .int
  | 22 => .array .int
  | 23 => .boolean
  | 24 => .array .int
  | 25 => .array .int
  | 26 => .array .int
  | _ => .array .int
theorem nmX9 : ∀ a, a < 28 → ∀ b, b < 28 → a ≠ b → (TX9 a).2.1 ≠ (TX9 b).2.1 := by decide +kernel
theorem tyX9_ok : ∀ k, k < 28 → parseFieldDescriptor (TX9 k).2.2.1 = some (tyX9 k) := by decide +kernel
abbrev cX9_in : ByteArray := prog_11_method_2_code
def yX9_in : MethodName := ⟨RX9, "in", "(JJJ)Z"⟩
abbrev cX9_init : ByteArray := prog_11_method_3_code
def yX9_init : MethodName := ⟨RX9, "<init>", "()V"⟩
abbrev cX9_isBeat : ByteArray := prog_11_method_4_code
def yX9_isBeat : MethodName := ⟨RX9, "isBeat", "(I)Z"⟩
abbrev cX9_isPlace : ByteArray := prog_11_method_5_code
def yX9_isPlace : MethodName := ⟨RX9, "isPlace", "(I)Z"⟩
abbrev cX9_isOne : ByteArray := prog_11_method_6_code
def yX9_isOne : MethodName := ⟨RX9, "isOne", "(I)Z"⟩
abbrev cX9_act : ByteArray := prog_11_method_7_code
def yX9_act : MethodName := ⟨RX9, "act", "(IIII)I"⟩
abbrev cX9_cue : ByteArray := prog_11_method_8_code
def yX9_cue : MethodName := ⟨RX9, "cue", "(III)I"⟩
abbrev cX9_stand : ByteArray := prog_11_method_9_code
def yX9_stand : MethodName := ⟨RX9, "stand", "(I)I"⟩
abbrev cX9_habit : ByteArray := prog_11_method_10_code
def yX9_habit : MethodName := ⟨RX9, "habit", "(II)I"⟩
abbrev cX9_isTaken : ByteArray := prog_11_method_11_code
def yX9_isTaken : MethodName := ⟨RX9, "isTaken", "(I)Z"⟩
abbrev cX9_comes : ByteArray := prog_11_method_12_code
def yX9_comes : MethodName := ⟨RX9, "comes", "(II)I"⟩
abbrev cX9_watcher : ByteArray := prog_11_method_13_code
def yX9_watcher : MethodName := ⟨RX9, "watcher", "(II)I"⟩
abbrev cX9_doubt : ByteArray := prog_11_method_14_code
def yX9_doubt : MethodName := ⟨RX9, "doubt", "(II)I"⟩
abbrev cX9_told : ByteArray := prog_11_method_15_code
def yX9_told : MethodName := ⟨RX9, "told", "(II)I"⟩
abbrev cX9_leave : ByteArray := prog_11_method_16_code
def yX9_leave : MethodName := ⟨RX9, "leave", "(I)I"⟩
abbrev cX9_type : ByteArray := prog_11_method_17_code
def yX9_type : MethodName := ⟨RX9, "type", "(JI)I"⟩
abbrev cX9_here : ByteArray := prog_11_method_18_code
def yX9_here : MethodName := ⟨RX9, "here", "()I"⟩
abbrev cX9_has : ByteArray := prog_11_method_19_code
def yX9_has : MethodName := ⟨RX9, "has", "(I)Z"⟩
abbrev cX9_number : ByteArray := prog_11_method_20_code
def yX9_number : MethodName := ⟨RX9, "number", "(I)I"⟩
abbrev cX9_digit : ByteArray := prog_11_method_21_code
def yX9_digit : MethodName := ⟨RX9, "digit", "(II)I"⟩
abbrev cX9_both : ByteArray := prog_11_method_22_code
def yX9_both : MethodName := ⟨RX9, "both", "()I"⟩
abbrev cX9_beatClause : ByteArray := prog_11_method_23_code
def yX9_beatClause : MethodName := ⟨RX9, "beatClause", "(I)V"⟩
abbrev cX9_seatClause : ByteArray := prog_11_method_24_code
def yX9_seatClause : MethodName := ⟨RX9, "seatClause", "(I)V"⟩
abbrev cX9_readAll : ByteArray := prog_11_method_25_code
def yX9_readAll : MethodName := ⟨RX9, "readAll", "(Z)I"⟩
abbrev cX9_routine : ByteArray := prog_11_method_26_code
def yX9_routine : MethodName := ⟨RX9, "routine", "()I"⟩
abbrev cX9_house : ByteArray := prog_11_method_27_code
def yX9_house : MethodName := ⟨RX9, "house", "()I"⟩
abbrev cX9_count : ByteArray := prog_11_method_28_code
def yX9_count : MethodName := ⟨RX9, "count", "(I)I"⟩
abbrev cX9_pullOn : ByteArray := prog_11_method_29_code
def yX9_pullOn : MethodName := ⟨RX9, "pullOn", "(IIIII)I"⟩
abbrev cX9_pull : ByteArray := prog_11_method_30_code
def yX9_pull : MethodName := ⟨RX9, "pull", "(IIII)I"⟩
abbrev cX9_heedOf : ByteArray := prog_11_method_31_code
def yX9_heedOf : MethodName := ⟨RX9, "heedOf", "(II)I"⟩
abbrev cX9_heed : ByteArray := prog_11_method_32_code
def yX9_heed : MethodName := ⟨RX9, "heed", "(II)I"⟩
abbrev cX9_sight : ByteArray := prog_11_method_33_code
def yX9_sight : MethodName := ⟨RX9, "sight", "(III)Z"⟩
abbrev cX9_can : ByteArray := prog_11_method_34_code
def yX9_can : MethodName := ⟨RX9, "can", "(II)I"⟩
abbrev cX9_oddsOf : ByteArray := prog_11_method_35_code
def yX9_oddsOf : MethodName := ⟨RX9, "oddsOf", "(III)V"⟩
abbrev cX9_odds : ByteArray := prog_11_method_36_code
def yX9_odds : MethodName := ⟨RX9, "odds", "(IIII)I"⟩
abbrev cX9_seesAt : ByteArray := prog_11_method_37_code
def yX9_seesAt : MethodName := ⟨RX9, "seesAt", "(II)I"⟩
abbrev cX9_seesAll : ByteArray := prog_11_method_38_code
def yX9_seesAll : MethodName := ⟨RX9, "seesAll", "(I)I"⟩
abbrev cX9_sees : ByteArray := prog_11_method_39_code
def yX9_sees : MethodName := ⟨RX9, "sees", "(II)I"⟩
abbrev cX9_quiet : ByteArray := prog_11_method_40_code
def yX9_quiet : MethodName := ⟨RX9, "quiet", "(II)I"⟩
abbrev cX9_cover : ByteArray := prog_11_method_41_code
def yX9_cover : MethodName := ⟨RX9, "cover", "(IIII)I"⟩
abbrev cX9_seesWith : ByteArray := prog_11_method_42_code
def yX9_seesWith : MethodName := ⟨RX9, "seesWith", "(I)I"⟩
abbrev cX9_does : ByteArray := prog_11_method_43_code
def yX9_does : MethodName := ⟨RX9, "does", "(II)I"⟩
abbrev cX9_bought : ByteArray := prog_11_method_44_code
def yX9_bought : MethodName := ⟨RX9, "bought", "(II)I"⟩
abbrev cX9_stances : ByteArray := prog_11_method_45_code
def yX9_stances : MethodName := ⟨RX9, "stances", "()I"⟩
abbrev cX9_often : ByteArray := prog_11_method_46_code
def yX9_often : MethodName := ⟨RX9, "often", "(I)I"⟩
abbrev cX9_warning : ByteArray := prog_11_method_47_code
def yX9_warning : MethodName := ⟨RX9, "warning", "()I"⟩
abbrev cX9_shownAt : ByteArray := prog_11_method_48_code
def yX9_shownAt : MethodName := ⟨RX9, "shownAt", "(I)I"⟩
abbrev cX9_shown : ByteArray := prog_11_method_49_code
def yX9_shown : MethodName := ⟨RX9, "shown", "(I)I"⟩
abbrev cX9_pointed : ByteArray := prog_11_method_50_code
def yX9_pointed : MethodName := ⟨RX9, "pointed", "(II)V"⟩
abbrev cX9_point : ByteArray := prog_11_method_51_code
def yX9_point : MethodName := ⟨RX9, "point", "(II)I"⟩
abbrev cX9_fits : ByteArray := prog_11_method_52_code
def yX9_fits : MethodName := ⟨RX9, "fits", "(I)I"⟩
abbrev cX9_share : ByteArray := prog_11_method_53_code
def yX9_share : MethodName := ⟨RX9, "share", "(II)I"⟩
abbrev cX9_apart : ByteArray := prog_11_method_54_code
def yX9_apart : MethodName := ⟨RX9, "apart", "(IIII)I"⟩
abbrev cX9_clear : ByteArray := prog_11_method_55_code
def yX9_clear : MethodName := ⟨RX9, "clear", "()I"⟩
abbrev cX9_saves : ByteArray := prog_11_method_56_code
def yX9_saves : MethodName := ⟨RX9, "saves", "([I[II)I"⟩
abbrev cX9_gives : ByteArray := prog_11_method_57_code
def yX9_gives : MethodName := ⟨RX9, "gives", "([II[I)I"⟩
abbrev cX9_image : ByteArray := prog_11_method_58_code
def yX9_image : MethodName := ⟨RX9, "image", "()I"⟩
abbrev cX9_restore : ByteArray := prog_11_method_59_code
def yX9_restore : MethodName := ⟨RX9, "restore", "()I"⟩
abbrev cX9_isSheet : ByteArray := prog_11_method_60_code
def yX9_isSheet : MethodName := ⟨RX9, "isSheet", "(I)Z"⟩
abbrev cX9_isLane : ByteArray := prog_11_method_61_code
def yX9_isLane : MethodName := ⟨RX9, "isLane", "(I)Z"⟩
abbrev cX9_finds : ByteArray := prog_11_method_62_code
def yX9_finds : MethodName := ⟨RX9, "finds", "(IIII)I"⟩
abbrev cX9_eyes : ByteArray := prog_11_method_63_code
def yX9_eyes : MethodName := ⟨RX9, "eyes", "(IIIII)I"⟩
abbrev cX9_sheet : ByteArray := prog_11_method_64_code
def yX9_sheet : MethodName := ⟨RX9, "sheet", "(III)I"⟩
abbrev cX9_drop : ByteArray := prog_11_method_65_code
def yX9_drop : MethodName := ⟨RX9, "drop", "(I)I"⟩
abbrev cX9_item : ByteArray := prog_11_method_66_code
def yX9_item : MethodName := ⟨RX9, "item", "(IIII)I"⟩
abbrev cX9_copy : ByteArray := prog_11_method_67_code
def yX9_copy : MethodName := ⟨RX9, "copy", "(IIIII)I"⟩
def RJ9 : String := "java/lang/Math"
def TJ9 : u_T := fun k => match k with
  | _ => ("", "", "", false)
def tyJ9 : Nat → FieldType := fun k => match k with
  | _ => .int
theorem nmJ9 : ∀ a, a < 0 → ∀ b, b < 0 → a ≠ b → (TJ9 a).2.1 ≠ (TJ9 b).2.1 := by decide +kernel
theorem tyJ9_ok : ∀ k, k < 0 → parseFieldDescriptor (TJ9 k).2.2.1 = some (tyJ9 k) := by decide +kernel
abbrev cJ9_max_7cf53 : ByteArray := prog_12_method_65_code
def yJ9_max_7cf53 : MethodName := ⟨RJ9, "max", "(II)I"⟩
abbrev cJ9_min_7cf53 : ByteArray := prog_12_method_69_code
def yJ9_min_7cf53 : MethodName := ⟨RJ9, "min", "(II)I"⟩
def RJ10 : String := "java/lang/System"
def TJ10 : u_T := fun k => match k with
  | _ => ("", "", "", false)
def tyJ10 : Nat → FieldType := fun k => match k with
  | _ => .int
theorem nmJ10 : ∀ a, a < 0 → ∀ b, b < 0 → a ≠ b → (TJ10 a).2.1 ≠ (TJ10 b).2.1 := by decide +kernel
theorem tyJ10_ok : ∀ k, k < 0 → parseFieldDescriptor (TJ10 k).2.2.1 = some (tyJ10 k) := by decide +kernel
def RL : String := "CoinNotThereLaw"
abbrev cL_law : ByteArray := code
abbrev vwCl : List vw_C := [(RX0, TX0, 5), (RX1, TX1, 4), (RX2, TX2, 3), (RX3, TX3, 5), (RX4, TX4, 3), (RX5, TX5, 9), (RX6, TX6, 4), (RX7, TX7, 1), (RX8, TX8, 6), (RX9, TX9, 28)]
end
section
theorem dX0_init_0 : decode cX0_init 0 = .ok (.aload_n 0, 1) := by decide +kernel
theorem dX0_init_1 : decode cX0_init 1 = .ok (.invokespecial 3, 3) := by decide +kernel
theorem dX0_init_4 : decode cX0_init 4 = .ok (.aload_n 0, 1) := by decide +kernel
theorem dX0_init_5 : decode cX0_init 5 = .ok (.bipush 8, 2) := by decide +kernel
theorem dX0_init_7 : decode cX0_init 7 = .ok (.newarray .int, 2) := by decide +kernel
theorem dX0_init_9 : decode cX0_init 9 = .ok (.putfield 9, 3) := by decide +kernel
theorem dX0_init_12 : decode cX0_init 12 = .ok (.aload_n 0, 1) := by decide +kernel
theorem dX0_init_13 : decode cX0_init 13 = .ok (.bipush 8, 2) := by decide +kernel
theorem dX0_init_15 : decode cX0_init 15 = .ok (.newarray .int, 2) := by decide +kernel
theorem dX0_init_17 : decode cX0_init 17 = .ok (.putfield 15, 3) := by decide +kernel
theorem dX0_init_20 : decode cX0_init 20 = .ok (.aload_n 0, 1) := by decide +kernel
theorem dX0_init_21 : decode cX0_init 21 = .ok (.bipush 8, 2) := by decide +kernel
theorem dX0_init_23 : decode cX0_init 23 = .ok (.newarray .int, 2) := by decide +kernel
theorem dX0_init_25 : decode cX0_init 25 = .ok (.putfield 18, 3) := by decide +kernel
theorem dX0_init_28 : decode cX0_init 28 = .ok (.aload_n 0, 1) := by decide +kernel
theorem dX0_init_29 : decode cX0_init 29 = .ok (.bipush 8, 2) := by decide +kernel
theorem dX0_init_31 : decode cX0_init 31 = .ok (.newarray .int, 2) := by decide +kernel
theorem dX0_init_33 : decode cX0_init 33 = .ok (.putfield 21, 3) := by decide +kernel
theorem dX0_init_36 : decode cX0_init 36 = .ok (.return_, 1) := by decide +kernel
theorem dX0_become_0 : decode cX0_become 0 = .ok (.aload_n 1, 1) := by decide +kernel
theorem dX0_become_1 : decode cX0_become 1 = .ok (.getfield 9, 3) := by decide +kernel
theorem dX0_become_4 : decode cX0_become 4 = .ok (.iconst 0, 1) := by decide +kernel
theorem dX0_become_5 : decode cX0_become 5 = .ok (.aload_n 0, 1) := by decide +kernel
theorem dX0_become_6 : decode cX0_become 6 = .ok (.getfield 9, 3) := by decide +kernel
theorem dX0_become_9 : decode cX0_become 9 = .ok (.iconst 0, 1) := by decide +kernel
theorem dX0_become_10 : decode cX0_become 10 = .ok (.bipush 8, 2) := by decide +kernel
theorem dX0_become_12 : decode cX0_become 12 = .ok (.invokestatic 24, 3) := by decide +kernel
theorem dX0_become_15 : decode cX0_become 15 = .ok (.aload_n 1, 1) := by decide +kernel
theorem dX0_become_16 : decode cX0_become 16 = .ok (.getfield 15, 3) := by decide +kernel
theorem dX0_become_19 : decode cX0_become 19 = .ok (.iconst 0, 1) := by decide +kernel
theorem dX0_become_20 : decode cX0_become 20 = .ok (.aload_n 0, 1) := by decide +kernel
theorem dX0_become_21 : decode cX0_become 21 = .ok (.getfield 15, 3) := by decide +kernel
theorem dX0_become_24 : decode cX0_become 24 = .ok (.iconst 0, 1) := by decide +kernel
theorem dX0_become_25 : decode cX0_become 25 = .ok (.bipush 8, 2) := by decide +kernel
theorem dX0_become_27 : decode cX0_become 27 = .ok (.invokestatic 24, 3) := by decide +kernel
theorem dX0_become_30 : decode cX0_become 30 = .ok (.aload_n 1, 1) := by decide +kernel
theorem dX0_become_31 : decode cX0_become 31 = .ok (.getfield 18, 3) := by decide +kernel
theorem dX0_become_34 : decode cX0_become 34 = .ok (.iconst 0, 1) := by decide +kernel
theorem dX0_become_35 : decode cX0_become 35 = .ok (.aload_n 0, 1) := by decide +kernel
theorem dX0_become_36 : decode cX0_become 36 = .ok (.getfield 18, 3) := by decide +kernel
theorem dX0_become_39 : decode cX0_become 39 = .ok (.iconst 0, 1) := by decide +kernel
theorem dX0_become_40 : decode cX0_become 40 = .ok (.bipush 8, 2) := by decide +kernel
theorem dX0_become_42 : decode cX0_become 42 = .ok (.invokestatic 24, 3) := by decide +kernel
theorem dX0_become_45 : decode cX0_become 45 = .ok (.aload_n 1, 1) := by decide +kernel
theorem dX0_become_46 : decode cX0_become 46 = .ok (.getfield 21, 3) := by decide +kernel
theorem dX0_become_49 : decode cX0_become 49 = .ok (.iconst 0, 1) := by decide +kernel
theorem dX0_become_50 : decode cX0_become 50 = .ok (.aload_n 0, 1) := by decide +kernel
theorem dX0_become_51 : decode cX0_become 51 = .ok (.getfield 21, 3) := by decide +kernel
theorem dX0_become_54 : decode cX0_become 54 = .ok (.iconst 0, 1) := by decide +kernel
theorem dX0_become_55 : decode cX0_become 55 = .ok (.bipush 8, 2) := by decide +kernel
theorem dX0_become_57 : decode cX0_become 57 = .ok (.invokestatic 24, 3) := by decide +kernel
theorem dX0_become_60 : decode cX0_become 60 = .ok (.aload_n 0, 1) := by decide +kernel
theorem dX0_become_61 : decode cX0_become 61 = .ok (.aload_n 1, 1) := by decide +kernel
theorem dX0_become_62 : decode cX0_become 62 = .ok (.getfield 30, 3) := by decide +kernel
theorem dX0_become_65 : decode cX0_become 65 = .ok (.putfield 30, 3) := by decide +kernel
theorem dX0_become_68 : decode cX0_become 68 = .ok (.return_, 1) := by decide +kernel
theorem dX0_add_0 : decode cX0_add 0 = .ok (.aload_n 0, 1) := by decide +kernel
theorem dX0_add_1 : decode cX0_add 1 = .ok (.getfield 30, 3) := by decide +kernel
theorem dX0_add_4 : decode cX0_add 4 = .ok (.bipush 8, 2) := by decide +kernel
theorem dX0_add_6 : decode cX0_add 6 = .ok (.if_icmp .ge 54, 3) := by decide +kernel
theorem dX0_add_9 : decode cX0_add 9 = .ok (.aload_n 0, 1) := by decide +kernel
theorem dX0_add_10 : decode cX0_add 10 = .ok (.getfield 9, 3) := by decide +kernel
theorem dX0_add_13 : decode cX0_add 13 = .ok (.aload_n 0, 1) := by decide +kernel
theorem dX0_add_14 : decode cX0_add 14 = .ok (.getfield 30, 3) := by decide +kernel
theorem dX0_add_17 : decode cX0_add 17 = .ok (.iload_n 1, 1) := by decide +kernel
theorem dX0_add_18 : decode cX0_add 18 = .ok (.iastore, 1) := by decide +kernel
theorem dX0_add_19 : decode cX0_add 19 = .ok (.aload_n 0, 1) := by decide +kernel
theorem dX0_add_20 : decode cX0_add 20 = .ok (.getfield 15, 3) := by decide +kernel
theorem dX0_add_23 : decode cX0_add 23 = .ok (.aload_n 0, 1) := by decide +kernel
theorem dX0_add_24 : decode cX0_add 24 = .ok (.getfield 30, 3) := by decide +kernel
theorem dX0_add_27 : decode cX0_add 27 = .ok (.iload_n 2, 1) := by decide +kernel
theorem dX0_add_28 : decode cX0_add 28 = .ok (.iastore, 1) := by decide +kernel
theorem dX0_add_29 : decode cX0_add 29 = .ok (.aload_n 0, 1) := by decide +kernel
theorem dX0_add_30 : decode cX0_add 30 = .ok (.getfield 18, 3) := by decide +kernel
theorem dX0_add_33 : decode cX0_add 33 = .ok (.aload_n 0, 1) := by decide +kernel
theorem dX0_add_34 : decode cX0_add 34 = .ok (.getfield 30, 3) := by decide +kernel
theorem dX0_add_37 : decode cX0_add 37 = .ok (.iload_n 3, 1) := by decide +kernel
theorem dX0_add_38 : decode cX0_add 38 = .ok (.iastore, 1) := by decide +kernel
theorem dX0_add_39 : decode cX0_add 39 = .ok (.aload_n 0, 1) := by decide +kernel
theorem dX0_add_40 : decode cX0_add 40 = .ok (.getfield 21, 3) := by decide +kernel
theorem dX0_add_43 : decode cX0_add 43 = .ok (.aload_n 0, 1) := by decide +kernel
theorem dX0_add_44 : decode cX0_add 44 = .ok (.getfield 30, 3) := by decide +kernel
theorem dX0_add_47 : decode cX0_add 47 = .ok (.iload 4, 2) := by decide +kernel
theorem dX0_add_49 : decode cX0_add 49 = .ok (.iastore, 1) := by decide +kernel
theorem dX0_add_50 : decode cX0_add 50 = .ok (.aload_n 0, 1) := by decide +kernel
theorem dX0_add_51 : decode cX0_add 51 = .ok (.dup, 1) := by decide +kernel
theorem dX0_add_52 : decode cX0_add 52 = .ok (.getfield 30, 3) := by decide +kernel
theorem dX0_add_55 : decode cX0_add 55 = .ok (.iconst 1, 1) := by decide +kernel
theorem dX0_add_56 : decode cX0_add 56 = .ok (.iadd, 1) := by decide +kernel
theorem dX0_add_57 : decode cX0_add 57 = .ok (.putfield 30, 3) := by decide +kernel
theorem dX0_add_60 : decode cX0_add 60 = .ok (.return_, 1) := by decide +kernel
theorem dX0_costOf_0 : decode cX0_costOf 0 = .ok (.iconst 0, 1) := by decide +kernel
theorem dX0_costOf_1 : decode cX0_costOf 1 = .ok (.istore_n 2, 1) := by decide +kernel
theorem dX0_costOf_2 : decode cX0_costOf 2 = .ok (.iconst 0, 1) := by decide +kernel
theorem dX0_costOf_3 : decode cX0_costOf 3 = .ok (.istore_n 3, 1) := by decide +kernel
theorem dX0_costOf_4 : decode cX0_costOf 4 = .ok (.iload_n 3, 1) := by decide +kernel
theorem dX0_costOf_5 : decode cX0_costOf 5 = .ok (.aload_n 0, 1) := by decide +kernel
theorem dX0_costOf_6 : decode cX0_costOf 6 = .ok (.getfield 30, 3) := by decide +kernel
theorem dX0_costOf_9 : decode cX0_costOf 9 = .ok (.if_icmp .ge 26, 3) := by decide +kernel
theorem dX0_costOf_12 : decode cX0_costOf 12 = .ok (.iload_n 1, 1) := by decide +kernel
theorem dX0_costOf_13 : decode cX0_costOf 13 = .ok (.iload_n 3, 1) := by decide +kernel
theorem dX0_costOf_14 : decode cX0_costOf 14 = .ok (.ishr, 1) := by decide +kernel
theorem dX0_costOf_15 : decode cX0_costOf 15 = .ok (.iconst 1, 1) := by decide +kernel
theorem dX0_costOf_16 : decode cX0_costOf 16 = .ok (.iand, 1) := by decide +kernel
theorem dX0_costOf_17 : decode cX0_costOf 17 = .ok (.ifCond .eq 12, 3) := by decide +kernel
theorem dX0_costOf_20 : decode cX0_costOf 20 = .ok (.iload_n 2, 1) := by decide +kernel
theorem dX0_costOf_21 : decode cX0_costOf 21 = .ok (.aload_n 0, 1) := by decide +kernel
theorem dX0_costOf_22 : decode cX0_costOf 22 = .ok (.getfield 21, 3) := by decide +kernel
theorem dX0_costOf_25 : decode cX0_costOf 25 = .ok (.iload_n 3, 1) := by decide +kernel
theorem dX0_costOf_26 : decode cX0_costOf 26 = .ok (.iaload, 1) := by decide +kernel
theorem dX0_costOf_27 : decode cX0_costOf 27 = .ok (.iadd, 1) := by decide +kernel
theorem dX0_costOf_28 : decode cX0_costOf 28 = .ok (.istore_n 2, 1) := by decide +kernel
theorem dX0_costOf_29 : decode cX0_costOf 29 = .ok (.iinc 3 1, 3) := by decide +kernel
theorem dX0_costOf_32 : decode cX0_costOf 32 = .ok (.goto (-28), 3) := by decide +kernel
theorem dX0_costOf_35 : decode cX0_costOf 35 = .ok (.iload_n 2, 1) := by decide +kernel
theorem dX0_costOf_36 : decode cX0_costOf 36 = .ok (.ireturn, 1) := by decide +kernel
theorem dX0_layOn_0 : decode cX0_layOn 0 = .ok (.iconst 0, 1) := by decide +kernel
theorem dX0_layOn_1 : decode cX0_layOn 1 = .ok (.istore_n 3, 1) := by decide +kernel
theorem dX0_layOn_2 : decode cX0_layOn 2 = .ok (.iload_n 3, 1) := by decide +kernel
theorem dX0_layOn_3 : decode cX0_layOn 3 = .ok (.aload_n 0, 1) := by decide +kernel
theorem dX0_layOn_4 : decode cX0_layOn 4 = .ok (.getfield 30, 3) := by decide +kernel
theorem dX0_layOn_7 : decode cX0_layOn 7 = .ok (.if_icmp .ge 133, 3) := by decide +kernel
theorem dX0_layOn_10 : decode cX0_layOn 10 = .ok (.iload_n 2, 1) := by decide +kernel
theorem dX0_layOn_11 : decode cX0_layOn 11 = .ok (.iload_n 3, 1) := by decide +kernel
theorem dX0_layOn_12 : decode cX0_layOn 12 = .ok (.ishr, 1) := by decide +kernel
theorem dX0_layOn_13 : decode cX0_layOn 13 = .ok (.iconst 1, 1) := by decide +kernel
theorem dX0_layOn_14 : decode cX0_layOn 14 = .ok (.iand, 1) := by decide +kernel
theorem dX0_layOn_15 : decode cX0_layOn 15 = .ok (.ifCond .ne 6, 3) := by decide +kernel
theorem dX0_layOn_18 : decode cX0_layOn 18 = .ok (.goto 116, 3) := by decide +kernel
theorem dX0_layOn_21 : decode cX0_layOn 21 = .ok (.aload_n 0, 1) := by decide +kernel
theorem dX0_layOn_22 : decode cX0_layOn 22 = .ok (.getfield 15, 3) := by decide +kernel
theorem dX0_layOn_25 : decode cX0_layOn 25 = .ok (.iload_n 3, 1) := by decide +kernel
theorem dX0_layOn_26 : decode cX0_layOn 26 = .ok (.iaload, 1) := by decide +kernel
theorem dX0_layOn_27 : decode cX0_layOn 27 = .ok (.tableswitch 95 0 2 #[25, 51, 73], 25) := by decide +kernel
theorem dX0_layOn_52 : decode cX0_layOn 52 = .ok (.aload_n 1, 1) := by decide +kernel
theorem dX0_layOn_53 : decode cX0_layOn 53 = .ok (.getfield 34, 3) := by decide +kernel
theorem dX0_layOn_56 : decode cX0_layOn 56 = .ok (.aload_n 0, 1) := by decide +kernel
theorem dX0_layOn_57 : decode cX0_layOn 57 = .ok (.getfield 9, 3) := by decide +kernel
theorem dX0_layOn_60 : decode cX0_layOn 60 = .ok (.iload_n 3, 1) := by decide +kernel
theorem dX0_layOn_61 : decode cX0_layOn 61 = .ok (.iaload, 1) := by decide +kernel
theorem dX0_layOn_62 : decode cX0_layOn 62 = .ok (.bipush 10, 2) := by decide +kernel
theorem dX0_layOn_64 : decode cX0_layOn 64 = .ok (.aload_n 0, 1) := by decide +kernel
theorem dX0_layOn_65 : decode cX0_layOn 65 = .ok (.getfield 18, 3) := by decide +kernel
theorem dX0_layOn_68 : decode cX0_layOn 68 = .ok (.iload_n 3, 1) := by decide +kernel
theorem dX0_layOn_69 : decode cX0_layOn 69 = .ok (.iaload, 1) := by decide +kernel
theorem dX0_layOn_70 : decode cX0_layOn 70 = .ok (.imul, 1) := by decide +kernel
theorem dX0_layOn_71 : decode cX0_layOn 71 = .ok (.bipush 6, 2) := by decide +kernel
theorem dX0_layOn_73 : decode cX0_layOn 73 = .ok (.iadd, 1) := by decide +kernel
theorem dX0_layOn_74 : decode cX0_layOn 74 = .ok (.iastore, 1) := by decide +kernel
theorem dX0_layOn_75 : decode cX0_layOn 75 = .ok (.goto 59, 3) := by decide +kernel
theorem dX0_layOn_78 : decode cX0_layOn 78 = .ok (.aload_n 1, 1) := by decide +kernel
theorem dX0_layOn_79 : decode cX0_layOn 79 = .ok (.getfield 39, 3) := by decide +kernel
theorem dX0_layOn_82 : decode cX0_layOn 82 = .ok (.aload_n 0, 1) := by decide +kernel
theorem dX0_layOn_83 : decode cX0_layOn 83 = .ok (.getfield 9, 3) := by decide +kernel
theorem dX0_layOn_86 : decode cX0_layOn 86 = .ok (.iload_n 3, 1) := by decide +kernel
theorem dX0_layOn_87 : decode cX0_layOn 87 = .ok (.iaload, 1) := by decide +kernel
theorem dX0_layOn_88 : decode cX0_layOn 88 = .ok (.iconst 1, 1) := by decide +kernel
theorem dX0_layOn_89 : decode cX0_layOn 89 = .ok (.aload_n 0, 1) := by decide +kernel
theorem dX0_layOn_90 : decode cX0_layOn 90 = .ok (.getfield 18, 3) := by decide +kernel
theorem dX0_layOn_93 : decode cX0_layOn 93 = .ok (.iload_n 3, 1) := by decide +kernel
theorem dX0_layOn_94 : decode cX0_layOn 94 = .ok (.iaload, 1) := by decide +kernel
theorem dX0_layOn_95 : decode cX0_layOn 95 = .ok (.iadd, 1) := by decide +kernel
theorem dX0_layOn_96 : decode cX0_layOn 96 = .ok (.iastore, 1) := by decide +kernel
theorem dX0_layOn_97 : decode cX0_layOn 97 = .ok (.goto 37, 3) := by decide +kernel
theorem dX0_layOn_100 : decode cX0_layOn 100 = .ok (.aload_n 1, 1) := by decide +kernel
theorem dX0_layOn_101 : decode cX0_layOn 101 = .ok (.getfield 42, 3) := by decide +kernel
theorem dX0_layOn_104 : decode cX0_layOn 104 = .ok (.aload_n 0, 1) := by decide +kernel
theorem dX0_layOn_105 : decode cX0_layOn 105 = .ok (.getfield 9, 3) := by decide +kernel
theorem dX0_layOn_108 : decode cX0_layOn 108 = .ok (.iload_n 3, 1) := by decide +kernel
theorem dX0_layOn_109 : decode cX0_layOn 109 = .ok (.iaload, 1) := by decide +kernel
theorem dX0_layOn_110 : decode cX0_layOn 110 = .ok (.iconst 1, 1) := by decide +kernel
theorem dX0_layOn_111 : decode cX0_layOn 111 = .ok (.aload_n 0, 1) := by decide +kernel
theorem dX0_layOn_112 : decode cX0_layOn 112 = .ok (.getfield 18, 3) := by decide +kernel
theorem dX0_layOn_115 : decode cX0_layOn 115 = .ok (.iload_n 3, 1) := by decide +kernel
theorem dX0_layOn_116 : decode cX0_layOn 116 = .ok (.iaload, 1) := by decide +kernel
theorem dX0_layOn_117 : decode cX0_layOn 117 = .ok (.iadd, 1) := by decide +kernel
theorem dX0_layOn_118 : decode cX0_layOn 118 = .ok (.iastore, 1) := by decide +kernel
theorem dX0_layOn_119 : decode cX0_layOn 119 = .ok (.goto 15, 3) := by decide +kernel
theorem dX0_layOn_122 : decode cX0_layOn 122 = .ok (.aload_n 1, 1) := by decide +kernel
theorem dX0_layOn_123 : decode cX0_layOn 123 = .ok (.getfield 45, 3) := by decide +kernel
theorem dX0_layOn_126 : decode cX0_layOn 126 = .ok (.aload_n 0, 1) := by decide +kernel
theorem dX0_layOn_127 : decode cX0_layOn 127 = .ok (.getfield 9, 3) := by decide +kernel
theorem dX0_layOn_130 : decode cX0_layOn 130 = .ok (.iload_n 3, 1) := by decide +kernel
theorem dX0_layOn_131 : decode cX0_layOn 131 = .ok (.iaload, 1) := by decide +kernel
theorem dX0_layOn_132 : decode cX0_layOn 132 = .ok (.iconst 1, 1) := by decide +kernel
theorem dX0_layOn_133 : decode cX0_layOn 133 = .ok (.iastore, 1) := by decide +kernel
theorem dX0_layOn_134 : decode cX0_layOn 134 = .ok (.iinc 3 1, 3) := by decide +kernel
theorem dX0_layOn_137 : decode cX0_layOn 137 = .ok (.goto (-135), 3) := by decide +kernel
theorem dX0_layOn_140 : decode cX0_layOn 140 = .ok (.return_, 1) := by decide +kernel
theorem dX1_init_0 : decode cX1_init 0 = .ok (.aload_n 0, 1) := by decide +kernel
theorem dX1_init_1 : decode cX1_init 1 = .ok (.invokespecial 3, 3) := by decide +kernel
theorem dX1_init_4 : decode cX1_init 4 = .ok (.aload_n 0, 1) := by decide +kernel
theorem dX1_init_5 : decode cX1_init 5 = .ok (.bipush 12, 2) := by decide +kernel
theorem dX1_init_7 : decode cX1_init 7 = .ok (.newarray .int, 2) := by decide +kernel
theorem dX1_init_9 : decode cX1_init 9 = .ok (.putfield 9, 3) := by decide +kernel
theorem dX1_init_12 : decode cX1_init 12 = .ok (.aload_n 0, 1) := by decide +kernel
theorem dX1_init_13 : decode cX1_init 13 = .ok (.bipush 12, 2) := by decide +kernel
theorem dX1_init_15 : decode cX1_init 15 = .ok (.newarray .int, 2) := by decide +kernel
theorem dX1_init_17 : decode cX1_init 17 = .ok (.putfield 15, 3) := by decide +kernel
theorem dX1_init_20 : decode cX1_init 20 = .ok (.aload_n 0, 1) := by decide +kernel
theorem dX1_init_21 : decode cX1_init 21 = .ok (.bipush 12, 2) := by decide +kernel
theorem dX1_init_23 : decode cX1_init 23 = .ok (.newarray .int, 2) := by decide +kernel
theorem dX1_init_25 : decode cX1_init 25 = .ok (.putfield 18, 3) := by decide +kernel
theorem dX1_init_28 : decode cX1_init 28 = .ok (.return_, 1) := by decide +kernel
theorem dX1_become_0 : decode cX1_become 0 = .ok (.aload_n 1, 1) := by decide +kernel
theorem dX1_become_1 : decode cX1_become 1 = .ok (.getfield 9, 3) := by decide +kernel
theorem dX1_become_4 : decode cX1_become 4 = .ok (.iconst 0, 1) := by decide +kernel
theorem dX1_become_5 : decode cX1_become 5 = .ok (.aload_n 0, 1) := by decide +kernel
theorem dX1_become_6 : decode cX1_become 6 = .ok (.getfield 9, 3) := by decide +kernel
theorem dX1_become_9 : decode cX1_become 9 = .ok (.iconst 0, 1) := by decide +kernel
theorem dX1_become_10 : decode cX1_become 10 = .ok (.bipush 12, 2) := by decide +kernel
theorem dX1_become_12 : decode cX1_become 12 = .ok (.invokestatic 21, 3) := by decide +kernel
theorem dX1_become_15 : decode cX1_become 15 = .ok (.aload_n 1, 1) := by decide +kernel
theorem dX1_become_16 : decode cX1_become 16 = .ok (.getfield 15, 3) := by decide +kernel
theorem dX1_become_19 : decode cX1_become 19 = .ok (.iconst 0, 1) := by decide +kernel
theorem dX1_become_20 : decode cX1_become 20 = .ok (.aload_n 0, 1) := by decide +kernel
theorem dX1_become_21 : decode cX1_become 21 = .ok (.getfield 15, 3) := by decide +kernel
theorem dX1_become_24 : decode cX1_become 24 = .ok (.iconst 0, 1) := by decide +kernel
theorem dX1_become_25 : decode cX1_become 25 = .ok (.bipush 12, 2) := by decide +kernel
theorem dX1_become_27 : decode cX1_become 27 = .ok (.invokestatic 21, 3) := by decide +kernel
theorem dX1_become_30 : decode cX1_become 30 = .ok (.aload_n 1, 1) := by decide +kernel
theorem dX1_become_31 : decode cX1_become 31 = .ok (.getfield 18, 3) := by decide +kernel
theorem dX1_become_34 : decode cX1_become 34 = .ok (.iconst 0, 1) := by decide +kernel
theorem dX1_become_35 : decode cX1_become 35 = .ok (.aload_n 0, 1) := by decide +kernel
theorem dX1_become_36 : decode cX1_become 36 = .ok (.getfield 18, 3) := by decide +kernel
theorem dX1_become_39 : decode cX1_become 39 = .ok (.iconst 0, 1) := by decide +kernel
theorem dX1_become_40 : decode cX1_become 40 = .ok (.bipush 12, 2) := by decide +kernel
theorem dX1_become_42 : decode cX1_become 42 = .ok (.invokestatic 21, 3) := by decide +kernel
theorem dX1_become_45 : decode cX1_become 45 = .ok (.aload_n 0, 1) := by decide +kernel
theorem dX1_become_46 : decode cX1_become 46 = .ok (.aload_n 1, 1) := by decide +kernel
theorem dX1_become_47 : decode cX1_become 47 = .ok (.getfield 27, 3) := by decide +kernel
theorem dX1_become_50 : decode cX1_become 50 = .ok (.putfield 27, 3) := by decide +kernel
theorem dX1_become_53 : decode cX1_become 53 = .ok (.return_, 1) := by decide +kernel
theorem dX1_isTaken_0 : decode cX1_isTaken 0 = .ok (.iconst 0, 1) := by decide +kernel
theorem dX1_isTaken_1 : decode cX1_isTaken 1 = .ok (.istore_n 2, 1) := by decide +kernel
theorem dX1_isTaken_2 : decode cX1_isTaken 2 = .ok (.iload_n 2, 1) := by decide +kernel
theorem dX1_isTaken_3 : decode cX1_isTaken 3 = .ok (.aload_n 0, 1) := by decide +kernel
theorem dX1_isTaken_4 : decode cX1_isTaken 4 = .ok (.getfield 27, 3) := by decide +kernel
theorem dX1_isTaken_7 : decode cX1_isTaken 7 = .ok (.if_icmp .ge 21, 3) := by decide +kernel
theorem dX1_isTaken_10 : decode cX1_isTaken 10 = .ok (.aload_n 0, 1) := by decide +kernel
theorem dX1_isTaken_11 : decode cX1_isTaken 11 = .ok (.getfield 9, 3) := by decide +kernel
theorem dX1_isTaken_14 : decode cX1_isTaken 14 = .ok (.iload_n 2, 1) := by decide +kernel
theorem dX1_isTaken_15 : decode cX1_isTaken 15 = .ok (.iaload, 1) := by decide +kernel
theorem dX1_isTaken_16 : decode cX1_isTaken 16 = .ok (.iload_n 1, 1) := by decide +kernel
theorem dX1_isTaken_17 : decode cX1_isTaken 17 = .ok (.if_icmp .ne 5, 3) := by decide +kernel
theorem dX1_isTaken_20 : decode cX1_isTaken 20 = .ok (.iconst 1, 1) := by decide +kernel
theorem dX1_isTaken_21 : decode cX1_isTaken 21 = .ok (.ireturn, 1) := by decide +kernel
theorem dX1_isTaken_22 : decode cX1_isTaken 22 = .ok (.iinc 2 1, 3) := by decide +kernel
theorem dX1_isTaken_25 : decode cX1_isTaken 25 = .ok (.goto (-23), 3) := by decide +kernel
theorem dX1_isTaken_28 : decode cX1_isTaken 28 = .ok (.iconst 0, 1) := by decide +kernel
theorem dX1_isTaken_29 : decode cX1_isTaken 29 = .ok (.ireturn, 1) := by decide +kernel
theorem dX1_admit_0 : decode cX1_admit 0 = .ok (.aload_n 0, 1) := by decide +kernel
theorem dX1_admit_1 : decode cX1_admit 1 = .ok (.getfield 27, 3) := by decide +kernel
theorem dX1_admit_4 : decode cX1_admit 4 = .ok (.bipush 12, 2) := by decide +kernel
theorem dX1_admit_6 : decode cX1_admit 6 = .ok (.if_icmp .ge 43, 3) := by decide +kernel
theorem dX1_admit_9 : decode cX1_admit 9 = .ok (.aload_n 0, 1) := by decide +kernel
theorem dX1_admit_10 : decode cX1_admit 10 = .ok (.getfield 9, 3) := by decide +kernel
theorem dX1_admit_13 : decode cX1_admit 13 = .ok (.aload_n 0, 1) := by decide +kernel
theorem dX1_admit_14 : decode cX1_admit 14 = .ok (.getfield 27, 3) := by decide +kernel
theorem dX1_admit_17 : decode cX1_admit 17 = .ok (.iload_n 1, 1) := by decide +kernel
theorem dX1_admit_18 : decode cX1_admit 18 = .ok (.iastore, 1) := by decide +kernel
theorem dX1_admit_19 : decode cX1_admit 19 = .ok (.aload_n 0, 1) := by decide +kernel
theorem dX1_admit_20 : decode cX1_admit 20 = .ok (.getfield 15, 3) := by decide +kernel
theorem dX1_admit_23 : decode cX1_admit 23 = .ok (.aload_n 0, 1) := by decide +kernel
theorem dX1_admit_24 : decode cX1_admit 24 = .ok (.getfield 27, 3) := by decide +kernel
theorem dX1_admit_27 : decode cX1_admit 27 = .ok (.iload_n 2, 1) := by decide +kernel
theorem dX1_admit_28 : decode cX1_admit 28 = .ok (.iastore, 1) := by decide +kernel
theorem dX1_admit_29 : decode cX1_admit 29 = .ok (.aload_n 0, 1) := by decide +kernel
theorem dX1_admit_30 : decode cX1_admit 30 = .ok (.getfield 18, 3) := by decide +kernel
theorem dX1_admit_33 : decode cX1_admit 33 = .ok (.aload_n 0, 1) := by decide +kernel
theorem dX1_admit_34 : decode cX1_admit 34 = .ok (.getfield 27, 3) := by decide +kernel
theorem dX1_admit_37 : decode cX1_admit 37 = .ok (.iconst 3, 1) := by decide +kernel
theorem dX1_admit_38 : decode cX1_admit 38 = .ok (.iastore, 1) := by decide +kernel
theorem dX1_admit_39 : decode cX1_admit 39 = .ok (.aload_n 0, 1) := by decide +kernel
theorem dX1_admit_40 : decode cX1_admit 40 = .ok (.dup, 1) := by decide +kernel
theorem dX1_admit_41 : decode cX1_admit 41 = .ok (.getfield 27, 3) := by decide +kernel
theorem dX1_admit_44 : decode cX1_admit 44 = .ok (.iconst 1, 1) := by decide +kernel
theorem dX1_admit_45 : decode cX1_admit 45 = .ok (.iadd, 1) := by decide +kernel
theorem dX1_admit_46 : decode cX1_admit 46 = .ok (.putfield 27, 3) := by decide +kernel
theorem dX1_admit_49 : decode cX1_admit 49 = .ok (.return_, 1) := by decide +kernel
theorem dX1_dismiss_0 : decode cX1_dismiss 0 = .ok (.iload_n 1, 1) := by decide +kernel
theorem dX1_dismiss_1 : decode cX1_dismiss 1 = .ok (.iconst 1, 1) := by decide +kernel
theorem dX1_dismiss_2 : decode cX1_dismiss 2 = .ok (.iadd, 1) := by decide +kernel
theorem dX1_dismiss_3 : decode cX1_dismiss 3 = .ok (.istore_n 2, 1) := by decide +kernel
theorem dX1_dismiss_4 : decode cX1_dismiss 4 = .ok (.iload_n 2, 1) := by decide +kernel
theorem dX1_dismiss_5 : decode cX1_dismiss 5 = .ok (.aload_n 0, 1) := by decide +kernel
theorem dX1_dismiss_6 : decode cX1_dismiss 6 = .ok (.getfield 27, 3) := by decide +kernel
theorem dX1_dismiss_9 : decode cX1_dismiss 9 = .ok (.if_icmp .ge 51, 3) := by decide +kernel
theorem dX1_dismiss_12 : decode cX1_dismiss 12 = .ok (.aload_n 0, 1) := by decide +kernel
theorem dX1_dismiss_13 : decode cX1_dismiss 13 = .ok (.getfield 9, 3) := by decide +kernel
theorem dX1_dismiss_16 : decode cX1_dismiss 16 = .ok (.iload_n 2, 1) := by decide +kernel
theorem dX1_dismiss_17 : decode cX1_dismiss 17 = .ok (.iconst 1, 1) := by decide +kernel
theorem dX1_dismiss_18 : decode cX1_dismiss 18 = .ok (.isub, 1) := by decide +kernel
theorem dX1_dismiss_19 : decode cX1_dismiss 19 = .ok (.aload_n 0, 1) := by decide +kernel
theorem dX1_dismiss_20 : decode cX1_dismiss 20 = .ok (.getfield 9, 3) := by decide +kernel
theorem dX1_dismiss_23 : decode cX1_dismiss 23 = .ok (.iload_n 2, 1) := by decide +kernel
theorem dX1_dismiss_24 : decode cX1_dismiss 24 = .ok (.iaload, 1) := by decide +kernel
theorem dX1_dismiss_25 : decode cX1_dismiss 25 = .ok (.iastore, 1) := by decide +kernel
theorem dX1_dismiss_26 : decode cX1_dismiss 26 = .ok (.aload_n 0, 1) := by decide +kernel
theorem dX1_dismiss_27 : decode cX1_dismiss 27 = .ok (.getfield 15, 3) := by decide +kernel
theorem dX1_dismiss_30 : decode cX1_dismiss 30 = .ok (.iload_n 2, 1) := by decide +kernel
theorem dX1_dismiss_31 : decode cX1_dismiss 31 = .ok (.iconst 1, 1) := by decide +kernel
theorem dX1_dismiss_32 : decode cX1_dismiss 32 = .ok (.isub, 1) := by decide +kernel
theorem dX1_dismiss_33 : decode cX1_dismiss 33 = .ok (.aload_n 0, 1) := by decide +kernel
theorem dX1_dismiss_34 : decode cX1_dismiss 34 = .ok (.getfield 15, 3) := by decide +kernel
theorem dX1_dismiss_37 : decode cX1_dismiss 37 = .ok (.iload_n 2, 1) := by decide +kernel
theorem dX1_dismiss_38 : decode cX1_dismiss 38 = .ok (.iaload, 1) := by decide +kernel
theorem dX1_dismiss_39 : decode cX1_dismiss 39 = .ok (.iastore, 1) := by decide +kernel
theorem dX1_dismiss_40 : decode cX1_dismiss 40 = .ok (.aload_n 0, 1) := by decide +kernel
theorem dX1_dismiss_41 : decode cX1_dismiss 41 = .ok (.getfield 18, 3) := by decide +kernel
theorem dX1_dismiss_44 : decode cX1_dismiss 44 = .ok (.iload_n 2, 1) := by decide +kernel
theorem dX1_dismiss_45 : decode cX1_dismiss 45 = .ok (.iconst 1, 1) := by decide +kernel
theorem dX1_dismiss_46 : decode cX1_dismiss 46 = .ok (.isub, 1) := by decide +kernel
theorem dX1_dismiss_47 : decode cX1_dismiss 47 = .ok (.aload_n 0, 1) := by decide +kernel
theorem dX1_dismiss_48 : decode cX1_dismiss 48 = .ok (.getfield 18, 3) := by decide +kernel
theorem dX1_dismiss_51 : decode cX1_dismiss 51 = .ok (.iload_n 2, 1) := by decide +kernel
theorem dX1_dismiss_52 : decode cX1_dismiss 52 = .ok (.iaload, 1) := by decide +kernel
theorem dX1_dismiss_53 : decode cX1_dismiss 53 = .ok (.iastore, 1) := by decide +kernel
theorem dX1_dismiss_54 : decode cX1_dismiss 54 = .ok (.iinc 2 1, 3) := by decide +kernel
theorem dX1_dismiss_57 : decode cX1_dismiss 57 = .ok (.goto (-53), 3) := by decide +kernel
theorem dX1_dismiss_60 : decode cX1_dismiss 60 = .ok (.aload_n 0, 1) := by decide +kernel
theorem dX1_dismiss_61 : decode cX1_dismiss 61 = .ok (.dup, 1) := by decide +kernel
theorem dX1_dismiss_62 : decode cX1_dismiss 62 = .ok (.getfield 27, 3) := by decide +kernel
theorem dX1_dismiss_65 : decode cX1_dismiss 65 = .ok (.iconst 1, 1) := by decide +kernel
theorem dX1_dismiss_66 : decode cX1_dismiss 66 = .ok (.isub, 1) := by decide +kernel
theorem dX1_dismiss_67 : decode cX1_dismiss 67 = .ok (.putfield 27, 3) := by decide +kernel
theorem dX1_dismiss_70 : decode cX1_dismiss 70 = .ok (.return_, 1) := by decide +kernel
theorem dX1_warnPlainOnes_0 : decode cX1_warnPlainOnes 0 = .ok (.iconst 0, 1) := by decide +kernel
theorem dX1_warnPlainOnes_1 : decode cX1_warnPlainOnes 1 = .ok (.istore_n 1, 1) := by decide +kernel
theorem dX1_warnPlainOnes_2 : decode cX1_warnPlainOnes 2 = .ok (.iload_n 1, 1) := by decide +kernel
theorem dX1_warnPlainOnes_3 : decode cX1_warnPlainOnes 3 = .ok (.aload_n 0, 1) := by decide +kernel
theorem dX1_warnPlainOnes_4 : decode cX1_warnPlainOnes 4 = .ok (.getfield 27, 3) := by decide +kernel
theorem dX1_warnPlainOnes_7 : decode cX1_warnPlainOnes 7 = .ok (.if_icmp .ge 32, 3) := by decide +kernel
theorem dX1_warnPlainOnes_10 : decode cX1_warnPlainOnes 10 = .ok (.aload_n 0, 1) := by decide +kernel
theorem dX1_warnPlainOnes_11 : decode cX1_warnPlainOnes 11 = .ok (.getfield 15, 3) := by decide +kernel
theorem dX1_warnPlainOnes_14 : decode cX1_warnPlainOnes 14 = .ok (.iload_n 1, 1) := by decide +kernel
theorem dX1_warnPlainOnes_15 : decode cX1_warnPlainOnes 15 = .ok (.iaload, 1) := by decide +kernel
theorem dX1_warnPlainOnes_16 : decode cX1_warnPlainOnes 16 = .ok (.ifCond .ne 17, 3) := by decide +kernel
theorem dX1_warnPlainOnes_19 : decode cX1_warnPlainOnes 19 = .ok (.aload_n 0, 1) := by decide +kernel
theorem dX1_warnPlainOnes_20 : decode cX1_warnPlainOnes 20 = .ok (.getfield 15, 3) := by decide +kernel
theorem dX1_warnPlainOnes_23 : decode cX1_warnPlainOnes 23 = .ok (.iload_n 1, 1) := by decide +kernel
theorem dX1_warnPlainOnes_24 : decode cX1_warnPlainOnes 24 = .ok (.iconst 1, 1) := by decide +kernel
theorem dX1_warnPlainOnes_25 : decode cX1_warnPlainOnes 25 = .ok (.iastore, 1) := by decide +kernel
theorem dX1_warnPlainOnes_26 : decode cX1_warnPlainOnes 26 = .ok (.aload_n 0, 1) := by decide +kernel
theorem dX1_warnPlainOnes_27 : decode cX1_warnPlainOnes 27 = .ok (.getfield 18, 3) := by decide +kernel
theorem dX1_warnPlainOnes_30 : decode cX1_warnPlainOnes 30 = .ok (.iload_n 1, 1) := by decide +kernel
theorem dX1_warnPlainOnes_31 : decode cX1_warnPlainOnes 31 = .ok (.iconst 3, 1) := by decide +kernel
theorem dX1_warnPlainOnes_32 : decode cX1_warnPlainOnes 32 = .ok (.iastore, 1) := by decide +kernel
theorem dX1_warnPlainOnes_33 : decode cX1_warnPlainOnes 33 = .ok (.iinc 1 1, 3) := by decide +kernel
theorem dX1_warnPlainOnes_36 : decode cX1_warnPlainOnes 36 = .ok (.goto (-34), 3) := by decide +kernel
theorem dX1_warnPlainOnes_39 : decode cX1_warnPlainOnes 39 = .ok (.return_, 1) := by decide +kernel
theorem dX2_init_0 : decode cX2_init 0 = .ok (.aload_n 0, 1) := by decide +kernel
theorem dX2_init_1 : decode cX2_init 1 = .ok (.invokespecial 3, 3) := by decide +kernel
theorem dX2_init_4 : decode cX2_init 4 = .ok (.aload_n 0, 1) := by decide +kernel
theorem dX2_init_5 : decode cX2_init 5 = .ok (.bipush 24, 2) := by decide +kernel
theorem dX2_init_7 : decode cX2_init 7 = .ok (.newarray .int, 2) := by decide +kernel
theorem dX2_init_9 : decode cX2_init 9 = .ok (.putfield 9, 3) := by decide +kernel
theorem dX2_init_12 : decode cX2_init 12 = .ok (.aload_n 0, 1) := by decide +kernel
theorem dX2_init_13 : decode cX2_init 13 = .ok (.bipush 24, 2) := by decide +kernel
theorem dX2_init_15 : decode cX2_init 15 = .ok (.newarray .int, 2) := by decide +kernel
theorem dX2_init_17 : decode cX2_init 17 = .ok (.putfield 15, 3) := by decide +kernel
theorem dX2_init_20 : decode cX2_init 20 = .ok (.return_, 1) := by decide +kernel
theorem dX2_become_0 : decode cX2_become 0 = .ok (.aload_n 1, 1) := by decide +kernel
theorem dX2_become_1 : decode cX2_become 1 = .ok (.getfield 9, 3) := by decide +kernel
theorem dX2_become_4 : decode cX2_become 4 = .ok (.iconst 0, 1) := by decide +kernel
theorem dX2_become_5 : decode cX2_become 5 = .ok (.aload_n 0, 1) := by decide +kernel
theorem dX2_become_6 : decode cX2_become 6 = .ok (.getfield 9, 3) := by decide +kernel
theorem dX2_become_9 : decode cX2_become 9 = .ok (.iconst 0, 1) := by decide +kernel
theorem dX2_become_10 : decode cX2_become 10 = .ok (.bipush 24, 2) := by decide +kernel
theorem dX2_become_12 : decode cX2_become 12 = .ok (.invokestatic 18, 3) := by decide +kernel
theorem dX2_become_15 : decode cX2_become 15 = .ok (.aload_n 1, 1) := by decide +kernel
theorem dX2_become_16 : decode cX2_become 16 = .ok (.getfield 15, 3) := by decide +kernel
theorem dX2_become_19 : decode cX2_become 19 = .ok (.iconst 0, 1) := by decide +kernel
theorem dX2_become_20 : decode cX2_become 20 = .ok (.aload_n 0, 1) := by decide +kernel
theorem dX2_become_21 : decode cX2_become 21 = .ok (.getfield 15, 3) := by decide +kernel
theorem dX2_become_24 : decode cX2_become 24 = .ok (.iconst 0, 1) := by decide +kernel
theorem dX2_become_25 : decode cX2_become 25 = .ok (.bipush 24, 2) := by decide +kernel
theorem dX2_become_27 : decode cX2_become 27 = .ok (.invokestatic 18, 3) := by decide +kernel
theorem dX2_become_30 : decode cX2_become 30 = .ok (.aload_n 0, 1) := by decide +kernel
theorem dX2_become_31 : decode cX2_become 31 = .ok (.aload_n 1, 1) := by decide +kernel
theorem dX2_become_32 : decode cX2_become 32 = .ok (.getfield 24, 3) := by decide +kernel
theorem dX2_become_35 : decode cX2_become 35 = .ok (.putfield 24, 3) := by decide +kernel
theorem dX2_become_38 : decode cX2_become 38 = .ok (.return_, 1) := by decide +kernel
theorem dX2_add_0 : decode cX2_add 0 = .ok (.aload_n 0, 1) := by decide +kernel
theorem dX2_add_1 : decode cX2_add 1 = .ok (.getfield 24, 3) := by decide +kernel
theorem dX2_add_4 : decode cX2_add 4 = .ok (.bipush 24, 2) := by decide +kernel
theorem dX2_add_6 : decode cX2_add 6 = .ok (.if_icmp .ge 33, 3) := by decide +kernel
theorem dX2_add_9 : decode cX2_add 9 = .ok (.aload_n 0, 1) := by decide +kernel
theorem dX2_add_10 : decode cX2_add 10 = .ok (.getfield 9, 3) := by decide +kernel
theorem dX2_add_13 : decode cX2_add 13 = .ok (.aload_n 0, 1) := by decide +kernel
theorem dX2_add_14 : decode cX2_add 14 = .ok (.getfield 24, 3) := by decide +kernel
theorem dX2_add_17 : decode cX2_add 17 = .ok (.iload_n 1, 1) := by decide +kernel
theorem dX2_add_18 : decode cX2_add 18 = .ok (.iastore, 1) := by decide +kernel
theorem dX2_add_19 : decode cX2_add 19 = .ok (.aload_n 0, 1) := by decide +kernel
theorem dX2_add_20 : decode cX2_add 20 = .ok (.getfield 15, 3) := by decide +kernel
theorem dX2_add_23 : decode cX2_add 23 = .ok (.aload_n 0, 1) := by decide +kernel
theorem dX2_add_24 : decode cX2_add 24 = .ok (.getfield 24, 3) := by decide +kernel
theorem dX2_add_27 : decode cX2_add 27 = .ok (.iload_n 2, 1) := by decide +kernel
theorem dX2_add_28 : decode cX2_add 28 = .ok (.iastore, 1) := by decide +kernel
theorem dX2_add_29 : decode cX2_add 29 = .ok (.aload_n 0, 1) := by decide +kernel
theorem dX2_add_30 : decode cX2_add 30 = .ok (.dup, 1) := by decide +kernel
theorem dX2_add_31 : decode cX2_add 31 = .ok (.getfield 24, 3) := by decide +kernel
theorem dX2_add_34 : decode cX2_add 34 = .ok (.iconst 1, 1) := by decide +kernel
theorem dX2_add_35 : decode cX2_add 35 = .ok (.iadd, 1) := by decide +kernel
theorem dX2_add_36 : decode cX2_add 36 = .ok (.putfield 24, 3) := by decide +kernel
theorem dX2_add_39 : decode cX2_add 39 = .ok (.return_, 1) := by decide +kernel
theorem dX3_init_0 : decode cX3_init 0 = .ok (.aload_n 0, 1) := by decide +kernel
theorem dX3_init_1 : decode cX3_init 1 = .ok (.invokespecial 3, 3) := by decide +kernel
theorem dX3_init_4 : decode cX3_init 4 = .ok (.aload_n 0, 1) := by decide +kernel
theorem dX3_init_5 : decode cX3_init 5 = .ok (.bipush 16, 2) := by decide +kernel
theorem dX3_init_7 : decode cX3_init 7 = .ok (.newarray .int, 2) := by decide +kernel
theorem dX3_init_9 : decode cX3_init 9 = .ok (.putfield 9, 3) := by decide +kernel
theorem dX3_init_12 : decode cX3_init 12 = .ok (.aload_n 0, 1) := by decide +kernel
theorem dX3_init_13 : decode cX3_init 13 = .ok (.bipush 16, 2) := by decide +kernel
theorem dX3_init_15 : decode cX3_init 15 = .ok (.newarray .int, 2) := by decide +kernel
theorem dX3_init_17 : decode cX3_init 17 = .ok (.putfield 15, 3) := by decide +kernel
theorem dX3_init_20 : decode cX3_init 20 = .ok (.aload_n 0, 1) := by decide +kernel
theorem dX3_init_21 : decode cX3_init 21 = .ok (.bipush 16, 2) := by decide +kernel
theorem dX3_init_23 : decode cX3_init 23 = .ok (.newarray .int, 2) := by decide +kernel
theorem dX3_init_25 : decode cX3_init 25 = .ok (.putfield 18, 3) := by decide +kernel
theorem dX3_init_28 : decode cX3_init 28 = .ok (.aload_n 0, 1) := by decide +kernel
theorem dX3_init_29 : decode cX3_init 29 = .ok (.bipush 16, 2) := by decide +kernel
theorem dX3_init_31 : decode cX3_init 31 = .ok (.newarray .int, 2) := by decide +kernel
theorem dX3_init_33 : decode cX3_init 33 = .ok (.putfield 21, 3) := by decide +kernel
theorem dX3_init_36 : decode cX3_init 36 = .ok (.aload_n 0, 1) := by decide +kernel
theorem dX3_init_37 : decode cX3_init 37 = .ok (.bipush 16, 2) := by decide +kernel
theorem dX3_init_39 : decode cX3_init 39 = .ok (.newarray .int, 2) := by decide +kernel
theorem dX3_init_41 : decode cX3_init 41 = .ok (.putfield 24, 3) := by decide +kernel
theorem dX3_init_44 : decode cX3_init 44 = .ok (.return_, 1) := by decide +kernel
theorem dX3_become_0 : decode cX3_become 0 = .ok (.aload_n 1, 1) := by decide +kernel
theorem dX3_become_1 : decode cX3_become 1 = .ok (.getfield 9, 3) := by decide +kernel
theorem dX3_become_4 : decode cX3_become 4 = .ok (.iconst 0, 1) := by decide +kernel
theorem dX3_become_5 : decode cX3_become 5 = .ok (.aload_n 0, 1) := by decide +kernel
theorem dX3_become_6 : decode cX3_become 6 = .ok (.getfield 9, 3) := by decide +kernel
theorem dX3_become_9 : decode cX3_become 9 = .ok (.iconst 0, 1) := by decide +kernel
theorem dX3_become_10 : decode cX3_become 10 = .ok (.bipush 16, 2) := by decide +kernel
theorem dX3_become_12 : decode cX3_become 12 = .ok (.invokestatic 27, 3) := by decide +kernel
theorem dX3_become_15 : decode cX3_become 15 = .ok (.aload_n 1, 1) := by decide +kernel
theorem dX3_become_16 : decode cX3_become 16 = .ok (.getfield 15, 3) := by decide +kernel
theorem dX3_become_19 : decode cX3_become 19 = .ok (.iconst 0, 1) := by decide +kernel
theorem dX3_become_20 : decode cX3_become 20 = .ok (.aload_n 0, 1) := by decide +kernel
theorem dX3_become_21 : decode cX3_become 21 = .ok (.getfield 15, 3) := by decide +kernel
theorem dX3_become_24 : decode cX3_become 24 = .ok (.iconst 0, 1) := by decide +kernel
theorem dX3_become_25 : decode cX3_become 25 = .ok (.bipush 16, 2) := by decide +kernel
theorem dX3_become_27 : decode cX3_become 27 = .ok (.invokestatic 27, 3) := by decide +kernel
theorem dX3_become_30 : decode cX3_become 30 = .ok (.aload_n 1, 1) := by decide +kernel
theorem dX3_become_31 : decode cX3_become 31 = .ok (.getfield 18, 3) := by decide +kernel
theorem dX3_become_34 : decode cX3_become 34 = .ok (.iconst 0, 1) := by decide +kernel
theorem dX3_become_35 : decode cX3_become 35 = .ok (.aload_n 0, 1) := by decide +kernel
theorem dX3_become_36 : decode cX3_become 36 = .ok (.getfield 18, 3) := by decide +kernel
theorem dX3_become_39 : decode cX3_become 39 = .ok (.iconst 0, 1) := by decide +kernel
theorem dX3_become_40 : decode cX3_become 40 = .ok (.bipush 16, 2) := by decide +kernel
theorem dX3_become_42 : decode cX3_become 42 = .ok (.invokestatic 27, 3) := by decide +kernel
theorem dX3_become_45 : decode cX3_become 45 = .ok (.aload_n 1, 1) := by decide +kernel
theorem dX3_become_46 : decode cX3_become 46 = .ok (.getfield 21, 3) := by decide +kernel
theorem dX3_become_49 : decode cX3_become 49 = .ok (.iconst 0, 1) := by decide +kernel
theorem dX3_become_50 : decode cX3_become 50 = .ok (.aload_n 0, 1) := by decide +kernel
theorem dX3_become_51 : decode cX3_become 51 = .ok (.getfield 21, 3) := by decide +kernel
theorem dX3_become_54 : decode cX3_become 54 = .ok (.iconst 0, 1) := by decide +kernel
theorem dX3_become_55 : decode cX3_become 55 = .ok (.bipush 16, 2) := by decide +kernel
theorem dX3_become_57 : decode cX3_become 57 = .ok (.invokestatic 27, 3) := by decide +kernel
theorem dX3_become_60 : decode cX3_become 60 = .ok (.aload_n 1, 1) := by decide +kernel
theorem dX3_become_61 : decode cX3_become 61 = .ok (.getfield 24, 3) := by decide +kernel
theorem dX3_become_64 : decode cX3_become 64 = .ok (.iconst 0, 1) := by decide +kernel
theorem dX3_become_65 : decode cX3_become 65 = .ok (.aload_n 0, 1) := by decide +kernel
theorem dX3_become_66 : decode cX3_become 66 = .ok (.getfield 24, 3) := by decide +kernel
theorem dX3_become_69 : decode cX3_become 69 = .ok (.iconst 0, 1) := by decide +kernel
theorem dX3_become_70 : decode cX3_become 70 = .ok (.bipush 16, 2) := by decide +kernel
theorem dX3_become_72 : decode cX3_become 72 = .ok (.invokestatic 27, 3) := by decide +kernel
theorem dX3_become_75 : decode cX3_become 75 = .ok (.return_, 1) := by decide +kernel
theorem dX3_heedIn_0 : decode cX3_heedIn 0 = .ok (.bipush 9, 2) := by decide +kernel
theorem dX3_heedIn_2 : decode cX3_heedIn 2 = .ok (.istore 4, 2) := by decide +kernel
theorem dX3_heedIn_4 : decode cX3_heedIn 4 = .ok (.iconst 0, 1) := by decide +kernel
theorem dX3_heedIn_5 : decode cX3_heedIn 5 = .ok (.istore 5, 2) := by decide +kernel
theorem dX3_heedIn_7 : decode cX3_heedIn 7 = .ok (.iload 5, 2) := by decide +kernel
theorem dX3_heedIn_9 : decode cX3_heedIn 9 = .ok (.iload_n 1, 1) := by decide +kernel
theorem dX3_heedIn_10 : decode cX3_heedIn 10 = .ok (.if_icmp .gt 67, 3) := by decide +kernel
theorem dX3_heedIn_13 : decode cX3_heedIn 13 = .ok (.iload 5, 2) := by decide +kernel
theorem dX3_heedIn_15 : decode cX3_heedIn 15 = .ok (.bipush 16, 2) := by decide +kernel
theorem dX3_heedIn_17 : decode cX3_heedIn 17 = .ok (.if_icmp .ge 60, 3) := by decide +kernel
theorem dX3_heedIn_20 : decode cX3_heedIn 20 = .ok (.aload_n 0, 1) := by decide +kernel
theorem dX3_heedIn_21 : decode cX3_heedIn 21 = .ok (.getfield 24, 3) := by decide +kernel
theorem dX3_heedIn_24 : decode cX3_heedIn 24 = .ok (.iload 5, 2) := by decide +kernel
theorem dX3_heedIn_26 : decode cX3_heedIn 26 = .ok (.iaload, 1) := by decide +kernel
theorem dX3_heedIn_27 : decode cX3_heedIn 27 = .ok (.ifCond .eq 9, 3) := by decide +kernel
theorem dX3_heedIn_30 : decode cX3_heedIn 30 = .ok (.iconst 0, 1) := by decide +kernel
theorem dX3_heedIn_31 : decode cX3_heedIn 31 = .ok (.istore 4, 2) := by decide +kernel
theorem dX3_heedIn_33 : decode cX3_heedIn 33 = .ok (.goto 38, 3) := by decide +kernel
theorem dX3_heedIn_36 : decode cX3_heedIn 36 = .ok (.bipush 9, 2) := by decide +kernel
theorem dX3_heedIn_38 : decode cX3_heedIn 38 = .ok (.iload 4, 2) := by decide +kernel
theorem dX3_heedIn_40 : decode cX3_heedIn 40 = .ok (.iload_n 3, 1) := by decide +kernel
theorem dX3_heedIn_41 : decode cX3_heedIn 41 = .ok (.iadd, 1) := by decide +kernel
theorem dX3_heedIn_42 : decode cX3_heedIn 42 = .ok (.invokestatic 33, 3) := by decide +kernel
theorem dX3_heedIn_45 : decode cX3_heedIn 45 = .ok (.istore 4, 2) := by decide +kernel
theorem dX3_heedIn_47 : decode cX3_heedIn 47 = .ok (.aload_n 0, 1) := by decide +kernel
theorem dX3_heedIn_48 : decode cX3_heedIn 48 = .ok (.getfield 21, 3) := by decide +kernel
theorem dX3_heedIn_51 : decode cX3_heedIn 51 = .ok (.iload 5, 2) := by decide +kernel
theorem dX3_heedIn_53 : decode cX3_heedIn 53 = .ok (.iaload, 1) := by decide +kernel
theorem dX3_heedIn_54 : decode cX3_heedIn 54 = .ok (.ifCond .eq 17, 3) := by decide +kernel
theorem dX3_heedIn_57 : decode cX3_heedIn 57 = .ok (.iload_n 2, 1) := by decide +kernel
theorem dX3_heedIn_58 : decode cX3_heedIn 58 = .ok (.ifCond .ne 13, 3) := by decide +kernel
theorem dX3_heedIn_61 : decode cX3_heedIn 61 = .ok (.iconst 0, 1) := by decide +kernel
theorem dX3_heedIn_62 : decode cX3_heedIn 62 = .ok (.iload 4, 2) := by decide +kernel
theorem dX3_heedIn_64 : decode cX3_heedIn 64 = .ok (.iconst 2, 1) := by decide +kernel
theorem dX3_heedIn_65 : decode cX3_heedIn 65 = .ok (.isub, 1) := by decide +kernel
theorem dX3_heedIn_66 : decode cX3_heedIn 66 = .ok (.invokestatic 39, 3) := by decide +kernel
theorem dX3_heedIn_69 : decode cX3_heedIn 69 = .ok (.istore 4, 2) := by decide +kernel
theorem dX3_heedIn_71 : decode cX3_heedIn 71 = .ok (.iinc 5 1, 3) := by decide +kernel
theorem dX3_heedIn_74 : decode cX3_heedIn 74 = .ok (.goto (-67), 3) := by decide +kernel
theorem dX3_heedIn_77 : decode cX3_heedIn 77 = .ok (.iload 4, 2) := by decide +kernel
theorem dX3_heedIn_79 : decode cX3_heedIn 79 = .ok (.ireturn, 1) := by decide +kernel
theorem dX3_lastSlip_0 : decode cX3_lastSlip 0 = .ok (.bipush 15, 2) := by decide +kernel
theorem dX3_lastSlip_2 : decode cX3_lastSlip 2 = .ok (.istore_n 1, 1) := by decide +kernel
theorem dX3_lastSlip_3 : decode cX3_lastSlip 3 = .ok (.iload_n 1, 1) := by decide +kernel
theorem dX3_lastSlip_4 : decode cX3_lastSlip 4 = .ok (.ifCond .lt 20, 3) := by decide +kernel
theorem dX3_lastSlip_7 : decode cX3_lastSlip 7 = .ok (.aload_n 0, 1) := by decide +kernel
theorem dX3_lastSlip_8 : decode cX3_lastSlip 8 = .ok (.getfield 15, 3) := by decide +kernel
theorem dX3_lastSlip_11 : decode cX3_lastSlip 11 = .ok (.iload_n 1, 1) := by decide +kernel
theorem dX3_lastSlip_12 : decode cX3_lastSlip 12 = .ok (.iaload, 1) := by decide +kernel
theorem dX3_lastSlip_13 : decode cX3_lastSlip 13 = .ok (.ifCond .eq 5, 3) := by decide +kernel
theorem dX3_lastSlip_16 : decode cX3_lastSlip 16 = .ok (.iload_n 1, 1) := by decide +kernel
theorem dX3_lastSlip_17 : decode cX3_lastSlip 17 = .ok (.ireturn, 1) := by decide +kernel
theorem dX3_lastSlip_18 : decode cX3_lastSlip 18 = .ok (.iinc 1 (-1), 3) := by decide +kernel
theorem dX3_lastSlip_21 : decode cX3_lastSlip 21 = .ok (.goto (-18), 3) := by decide +kernel
theorem dX3_lastSlip_24 : decode cX3_lastSlip 24 = .ok (.iconst (-1), 1) := by decide +kernel
theorem dX3_lastSlip_25 : decode cX3_lastSlip 25 = .ok (.ireturn, 1) := by decide +kernel
theorem dX4_init_0 : decode cX4_init 0 = .ok (.aload_n 0, 1) := by decide +kernel
theorem dX4_init_1 : decode cX4_init 1 = .ok (.invokespecial 3, 3) := by decide +kernel
theorem dX4_init_4 : decode cX4_init 4 = .ok (.aload_n 0, 1) := by decide +kernel
theorem dX4_init_5 : decode cX4_init 5 = .ok (.iconst 4, 1) := by decide +kernel
theorem dX4_init_6 : decode cX4_init 6 = .ok (.newarray .int, 2) := by decide +kernel
theorem dX4_init_8 : decode cX4_init 8 = .ok (.dup, 1) := by decide +kernel
theorem dX4_init_9 : decode cX4_init 9 = .ok (.iconst 0, 1) := by decide +kernel
theorem dX4_init_10 : decode cX4_init 10 = .ok (.iconst (-1), 1) := by decide +kernel
theorem dX4_init_11 : decode cX4_init 11 = .ok (.iastore, 1) := by decide +kernel
theorem dX4_init_12 : decode cX4_init 12 = .ok (.dup, 1) := by decide +kernel
theorem dX4_init_13 : decode cX4_init 13 = .ok (.iconst 1, 1) := by decide +kernel
theorem dX4_init_14 : decode cX4_init 14 = .ok (.iconst (-1), 1) := by decide +kernel
theorem dX4_init_15 : decode cX4_init 15 = .ok (.iastore, 1) := by decide +kernel
theorem dX4_init_16 : decode cX4_init 16 = .ok (.dup, 1) := by decide +kernel
theorem dX4_init_17 : decode cX4_init 17 = .ok (.iconst 2, 1) := by decide +kernel
theorem dX4_init_18 : decode cX4_init 18 = .ok (.iconst (-1), 1) := by decide +kernel
theorem dX4_init_19 : decode cX4_init 19 = .ok (.iastore, 1) := by decide +kernel
theorem dX4_init_20 : decode cX4_init 20 = .ok (.dup, 1) := by decide +kernel
theorem dX4_init_21 : decode cX4_init 21 = .ok (.iconst 3, 1) := by decide +kernel
theorem dX4_init_22 : decode cX4_init 22 = .ok (.iconst (-1), 1) := by decide +kernel
theorem dX4_init_23 : decode cX4_init 23 = .ok (.iastore, 1) := by decide +kernel
theorem dX4_init_24 : decode cX4_init 24 = .ok (.putfield 9, 3) := by decide +kernel
theorem dX4_init_27 : decode cX4_init 27 = .ok (.aload_n 0, 1) := by decide +kernel
theorem dX4_init_28 : decode cX4_init 28 = .ok (.iconst 4, 1) := by decide +kernel
theorem dX4_init_29 : decode cX4_init 29 = .ok (.newarray .int, 2) := by decide +kernel
theorem dX4_init_31 : decode cX4_init 31 = .ok (.putfield 15, 3) := by decide +kernel
theorem dX4_init_34 : decode cX4_init 34 = .ok (.aload_n 0, 1) := by decide +kernel
theorem dX4_init_35 : decode cX4_init 35 = .ok (.bipush 64, 2) := by decide +kernel
theorem dX4_init_37 : decode cX4_init 37 = .ok (.newarray .int, 2) := by decide +kernel
theorem dX4_init_39 : decode cX4_init 39 = .ok (.putfield 18, 3) := by decide +kernel
theorem dX4_init_42 : decode cX4_init 42 = .ok (.return_, 1) := by decide +kernel
theorem dX4_isMissing_0 : decode cX4_isMissing 0 = .ok (.aload_n 0, 1) := by decide +kernel
theorem dX4_isMissing_1 : decode cX4_isMissing 1 = .ok (.getfield 9, 3) := by decide +kernel
theorem dX4_isMissing_4 : decode cX4_isMissing 4 = .ok (.iload_n 1, 1) := by decide +kernel
theorem dX4_isMissing_5 : decode cX4_isMissing 5 = .ok (.iaload, 1) := by decide +kernel
theorem dX4_isMissing_6 : decode cX4_isMissing 6 = .ok (.iconst (-1), 1) := by decide +kernel
theorem dX4_isMissing_7 : decode cX4_isMissing 7 = .ok (.if_icmp .ne 7, 3) := by decide +kernel
theorem dX4_isMissing_10 : decode cX4_isMissing 10 = .ok (.iconst 1, 1) := by decide +kernel
theorem dX4_isMissing_11 : decode cX4_isMissing 11 = .ok (.goto 4, 3) := by decide +kernel
theorem dX4_isMissing_14 : decode cX4_isMissing 14 = .ok (.iconst 0, 1) := by decide +kernel
theorem dX4_isMissing_15 : decode cX4_isMissing 15 = .ok (.ireturn, 1) := by decide +kernel
theorem dX4_refusal_0 : decode cX4_refusal 0 = .ok (.aload_n 0, 1) := by decide +kernel
theorem dX4_refusal_1 : decode cX4_refusal 1 = .ok (.iload_n 1, 1) := by decide +kernel
theorem dX4_refusal_2 : decode cX4_refusal 2 = .ok (.invokevirtual 21, 3) := by decide +kernel
theorem dX4_refusal_5 : decode cX4_refusal 5 = .ok (.ifCond .eq 6, 3) := by decide +kernel
theorem dX4_refusal_8 : decode cX4_refusal 8 = .ok (.bipush (-11), 2) := by decide +kernel
theorem dX4_refusal_10 : decode cX4_refusal 10 = .ok (.ireturn, 1) := by decide +kernel
theorem dX4_refusal_11 : decode cX4_refusal 11 = .ok (.aload_n 0, 1) := by decide +kernel
theorem dX4_refusal_12 : decode cX4_refusal 12 = .ok (.getfield 9, 3) := by decide +kernel
theorem dX4_refusal_15 : decode cX4_refusal 15 = .ok (.iload_n 1, 1) := by decide +kernel
theorem dX4_refusal_16 : decode cX4_refusal 16 = .ok (.iaload, 1) := by decide +kernel
theorem dX4_refusal_17 : decode cX4_refusal 17 = .ok (.iload_n 2, 1) := by decide +kernel
theorem dX4_refusal_18 : decode cX4_refusal 18 = .ok (.if_icmp .ne 7, 3) := by decide +kernel
theorem dX4_refusal_21 : decode cX4_refusal 21 = .ok (.iconst 0, 1) := by decide +kernel
theorem dX4_refusal_22 : decode cX4_refusal 22 = .ok (.goto 5, 3) := by decide +kernel
theorem dX4_refusal_25 : decode cX4_refusal 25 = .ok (.bipush (-12), 2) := by decide +kernel
theorem dX4_refusal_27 : decode cX4_refusal 27 = .ok (.ireturn, 1) := by decide +kernel
theorem dX4_hasItems_0 : decode cX4_hasItems 0 = .ok (.iload_n 2, 1) := by decide +kernel
theorem dX4_hasItems_1 : decode cX4_hasItems 1 = .ok (.ifCond .lt 33, 3) := by decide +kernel
theorem dX4_hasItems_4 : decode cX4_hasItems 4 = .ok (.iload_n 3, 1) := by decide +kernel
theorem dX4_hasItems_5 : decode cX4_hasItems 5 = .ok (.ifCond .lt 29, 3) := by decide +kernel
theorem dX4_hasItems_8 : decode cX4_hasItems 8 = .ok (.iload_n 2, 1) := by decide +kernel
theorem dX4_hasItems_9 : decode cX4_hasItems 9 = .ok (.aload_n 0, 1) := by decide +kernel
theorem dX4_hasItems_10 : decode cX4_hasItems 10 = .ok (.getfield 15, 3) := by decide +kernel
theorem dX4_hasItems_13 : decode cX4_hasItems 13 = .ok (.iload_n 1, 1) := by decide +kernel
theorem dX4_hasItems_14 : decode cX4_hasItems 14 = .ok (.iaload, 1) := by decide +kernel
theorem dX4_hasItems_15 : decode cX4_hasItems 15 = .ok (.if_icmp .gt 19, 3) := by decide +kernel
theorem dX4_hasItems_18 : decode cX4_hasItems 18 = .ok (.iload_n 3, 1) := by decide +kernel
theorem dX4_hasItems_19 : decode cX4_hasItems 19 = .ok (.aload_n 0, 1) := by decide +kernel
theorem dX4_hasItems_20 : decode cX4_hasItems 20 = .ok (.getfield 15, 3) := by decide +kernel
theorem dX4_hasItems_23 : decode cX4_hasItems 23 = .ok (.iload_n 1, 1) := by decide +kernel
theorem dX4_hasItems_24 : decode cX4_hasItems 24 = .ok (.iaload, 1) := by decide +kernel
theorem dX4_hasItems_25 : decode cX4_hasItems 25 = .ok (.iload_n 2, 1) := by decide +kernel
theorem dX4_hasItems_26 : decode cX4_hasItems 26 = .ok (.isub, 1) := by decide +kernel
theorem dX4_hasItems_27 : decode cX4_hasItems 27 = .ok (.if_icmp .gt 7, 3) := by decide +kernel
theorem dX4_hasItems_30 : decode cX4_hasItems 30 = .ok (.iconst 1, 1) := by decide +kernel
theorem dX4_hasItems_31 : decode cX4_hasItems 31 = .ok (.goto 4, 3) := by decide +kernel
theorem dX4_hasItems_34 : decode cX4_hasItems 34 = .ok (.iconst 0, 1) := by decide +kernel
theorem dX4_hasItems_35 : decode cX4_hasItems 35 = .ok (.ireturn, 1) := by decide +kernel
theorem dX4_lay_0 : decode cX4_lay 0 = .ok (.aload_n 0, 1) := by decide +kernel
theorem dX4_lay_1 : decode cX4_lay 1 = .ok (.getfield 9, 3) := by decide +kernel
theorem dX4_lay_4 : decode cX4_lay 4 = .ok (.iload_n 1, 1) := by decide +kernel
theorem dX4_lay_5 : decode cX4_lay 5 = .ok (.iload_n 2, 1) := by decide +kernel
theorem dX4_lay_6 : decode cX4_lay 6 = .ok (.iastore, 1) := by decide +kernel
theorem dX4_lay_7 : decode cX4_lay 7 = .ok (.aload_n 0, 1) := by decide +kernel
theorem dX4_lay_8 : decode cX4_lay 8 = .ok (.getfield 15, 3) := by decide +kernel
theorem dX4_lay_11 : decode cX4_lay 11 = .ok (.iload_n 1, 1) := by decide +kernel
theorem dX4_lay_12 : decode cX4_lay 12 = .ok (.iload_n 3, 1) := by decide +kernel
theorem dX4_lay_13 : decode cX4_lay 13 = .ok (.iastore, 1) := by decide +kernel
theorem dX4_lay_14 : decode cX4_lay 14 = .ok (.iconst 0, 1) := by decide +kernel
theorem dX4_lay_15 : decode cX4_lay 15 = .ok (.istore 4, 2) := by decide +kernel
theorem dX4_lay_17 : decode cX4_lay 17 = .ok (.iload 4, 2) := by decide +kernel
theorem dX4_lay_19 : decode cX4_lay 19 = .ok (.iload_n 3, 1) := by decide +kernel
theorem dX4_lay_20 : decode cX4_lay 20 = .ok (.if_icmp .ge 22, 3) := by decide +kernel
theorem dX4_lay_23 : decode cX4_lay 23 = .ok (.aload_n 0, 1) := by decide +kernel
theorem dX4_lay_24 : decode cX4_lay 24 = .ok (.getfield 18, 3) := by decide +kernel
theorem dX4_lay_27 : decode cX4_lay 27 = .ok (.iload_n 1, 1) := by decide +kernel
theorem dX4_lay_28 : decode cX4_lay 28 = .ok (.bipush 16, 2) := by decide +kernel
theorem dX4_lay_30 : decode cX4_lay 30 = .ok (.imul, 1) := by decide +kernel
theorem dX4_lay_31 : decode cX4_lay 31 = .ok (.iload 4, 2) := by decide +kernel
theorem dX4_lay_33 : decode cX4_lay 33 = .ok (.iadd, 1) := by decide +kernel
theorem dX4_lay_34 : decode cX4_lay 34 = .ok (.iconst 0, 1) := by decide +kernel
theorem dX4_lay_35 : decode cX4_lay 35 = .ok (.iastore, 1) := by decide +kernel
theorem dX4_lay_36 : decode cX4_lay 36 = .ok (.iinc 4 1, 3) := by decide +kernel
theorem dX4_lay_39 : decode cX4_lay 39 = .ok (.goto (-22), 3) := by decide +kernel
theorem dX4_lay_42 : decode cX4_lay 42 = .ok (.return_, 1) := by decide +kernel
theorem dX4_itemAt_0 : decode cX4_itemAt 0 = .ok (.aload_n 0, 1) := by decide +kernel
theorem dX4_itemAt_1 : decode cX4_itemAt 1 = .ok (.getfield 18, 3) := by decide +kernel
theorem dX4_itemAt_4 : decode cX4_itemAt 4 = .ok (.iload_n 1, 1) := by decide +kernel
theorem dX4_itemAt_5 : decode cX4_itemAt 5 = .ok (.bipush 16, 2) := by decide +kernel
theorem dX4_itemAt_7 : decode cX4_itemAt 7 = .ok (.imul, 1) := by decide +kernel
theorem dX4_itemAt_8 : decode cX4_itemAt 8 = .ok (.iload_n 2, 1) := by decide +kernel
theorem dX4_itemAt_9 : decode cX4_itemAt 9 = .ok (.iadd, 1) := by decide +kernel
theorem dX4_itemAt_10 : decode cX4_itemAt 10 = .ok (.iaload, 1) := by decide +kernel
theorem dX4_itemAt_11 : decode cX4_itemAt 11 = .ok (.ireturn, 1) := by decide +kernel
theorem dX4_write_0 : decode cX4_write 0 = .ok (.aload_n 0, 1) := by decide +kernel
theorem dX4_write_1 : decode cX4_write 1 = .ok (.getfield 9, 3) := by decide +kernel
theorem dX4_write_4 : decode cX4_write 4 = .ok (.iload_n 1, 1) := by decide +kernel
theorem dX4_write_5 : decode cX4_write 5 = .ok (.iaload, 1) := by decide +kernel
theorem dX4_write_6 : decode cX4_write 6 = .ok (.istore 4, 2) := by decide +kernel
theorem dX4_write_8 : decode cX4_write 8 = .ok (.aload_n 0, 1) := by decide +kernel
theorem dX4_write_9 : decode cX4_write 9 = .ok (.getfield 18, 3) := by decide +kernel
theorem dX4_write_12 : decode cX4_write 12 = .ok (.iload_n 1, 1) := by decide +kernel
theorem dX4_write_13 : decode cX4_write 13 = .ok (.bipush 16, 2) := by decide +kernel
theorem dX4_write_15 : decode cX4_write 15 = .ok (.imul, 1) := by decide +kernel
theorem dX4_write_16 : decode cX4_write 16 = .ok (.iload_n 2, 1) := by decide +kernel
theorem dX4_write_17 : decode cX4_write 17 = .ok (.iadd, 1) := by decide +kernel
theorem dX4_write_18 : decode cX4_write 18 = .ok (.iload 4, 2) := by decide +kernel
theorem dX4_write_20 : decode cX4_write 20 = .ok (.ifCond .ne 8, 3) := by decide +kernel
theorem dX4_write_23 : decode cX4_write 23 = .ok (.iload_n 3, 1) := by decide +kernel
theorem dX4_write_24 : decode cX4_write 24 = .ok (.i2b, 1) := by decide +kernel
theorem dX4_write_25 : decode cX4_write 25 = .ok (.goto 15, 3) := by decide +kernel
theorem dX4_write_28 : decode cX4_write 28 = .ok (.iload 4, 2) := by decide +kernel
theorem dX4_write_30 : decode cX4_write 30 = .ok (.iconst 1, 1) := by decide +kernel
theorem dX4_write_31 : decode cX4_write 31 = .ok (.if_icmp .ne 8, 3) := by decide +kernel
theorem dX4_write_34 : decode cX4_write 34 = .ok (.iload_n 3, 1) := by decide +kernel
theorem dX4_write_35 : decode cX4_write 35 = .ok (.i2s, 1) := by decide +kernel
theorem dX4_write_36 : decode cX4_write 36 = .ok (.goto 4, 3) := by decide +kernel
theorem dX4_write_39 : decode cX4_write 39 = .ok (.iload_n 3, 1) := by decide +kernel
theorem dX4_write_40 : decode cX4_write 40 = .ok (.iastore, 1) := by decide +kernel
theorem dX4_write_41 : decode cX4_write 41 = .ok (.return_, 1) := by decide +kernel
theorem dX4_transfer_0 : decode cX4_transfer 0 = .ok (.aload_n 0, 1) := by decide +kernel
theorem dX4_transfer_1 : decode cX4_transfer 1 = .ok (.getfield 18, 3) := by decide +kernel
theorem dX4_transfer_4 : decode cX4_transfer 4 = .ok (.iload_n 1, 1) := by decide +kernel
theorem dX4_transfer_5 : decode cX4_transfer 5 = .ok (.bipush 16, 2) := by decide +kernel
theorem dX4_transfer_7 : decode cX4_transfer 7 = .ok (.imul, 1) := by decide +kernel
theorem dX4_transfer_8 : decode cX4_transfer 8 = .ok (.iload_n 2, 1) := by decide +kernel
theorem dX4_transfer_9 : decode cX4_transfer 9 = .ok (.iadd, 1) := by decide +kernel
theorem dX4_transfer_10 : decode cX4_transfer 10 = .ok (.aload_n 0, 1) := by decide +kernel
theorem dX4_transfer_11 : decode cX4_transfer 11 = .ok (.getfield 18, 3) := by decide +kernel
theorem dX4_transfer_14 : decode cX4_transfer 14 = .ok (.iload_n 3, 1) := by decide +kernel
theorem dX4_transfer_15 : decode cX4_transfer 15 = .ok (.bipush 16, 2) := by decide +kernel
theorem dX4_transfer_17 : decode cX4_transfer 17 = .ok (.imul, 1) := by decide +kernel
theorem dX4_transfer_18 : decode cX4_transfer 18 = .ok (.iload 4, 2) := by decide +kernel
theorem dX4_transfer_20 : decode cX4_transfer 20 = .ok (.iadd, 1) := by decide +kernel
theorem dX4_transfer_21 : decode cX4_transfer 21 = .ok (.iload 5, 2) := by decide +kernel
theorem dX4_transfer_23 : decode cX4_transfer 23 = .ok (.invokestatic 25, 3) := by decide +kernel
theorem dX4_transfer_26 : decode cX4_transfer 26 = .ok (.return_, 1) := by decide +kernel
theorem dX4_placesAmong_0 : decode cX4_placesAmong 0 = .ok (.iconst 0, 1) := by decide +kernel
theorem dX4_placesAmong_1 : decode cX4_placesAmong 1 = .ok (.istore 4, 2) := by decide +kernel
theorem dX4_placesAmong_3 : decode cX4_placesAmong 3 = .ok (.iload_n 2, 1) := by decide +kernel
theorem dX4_placesAmong_4 : decode cX4_placesAmong 4 = .ok (.istore 5, 2) := by decide +kernel
theorem dX4_placesAmong_6 : decode cX4_placesAmong 6 = .ok (.iload 5, 2) := by decide +kernel
theorem dX4_placesAmong_8 : decode cX4_placesAmong 8 = .ok (.iload_n 2, 1) := by decide +kernel
theorem dX4_placesAmong_9 : decode cX4_placesAmong 9 = .ok (.iload_n 3, 1) := by decide +kernel
theorem dX4_placesAmong_10 : decode cX4_placesAmong 10 = .ok (.iadd, 1) := by decide +kernel
theorem dX4_placesAmong_11 : decode cX4_placesAmong 11 = .ok (.if_icmp .ge 44, 3) := by decide +kernel
theorem dX4_placesAmong_14 : decode cX4_placesAmong 14 = .ok (.aload_n 0, 1) := by decide +kernel
theorem dX4_placesAmong_15 : decode cX4_placesAmong 15 = .ok (.iload_n 1, 1) := by decide +kernel
theorem dX4_placesAmong_16 : decode cX4_placesAmong 16 = .ok (.iload 5, 2) := by decide +kernel
theorem dX4_placesAmong_18 : decode cX4_placesAmong 18 = .ok (.invokevirtual 31, 3) := by decide +kernel
theorem dX4_placesAmong_21 : decode cX4_placesAmong 21 = .ok (.istore 6, 2) := by decide +kernel
theorem dX4_placesAmong_23 : decode cX4_placesAmong 23 = .ok (.iload 6, 2) := by decide +kernel
theorem dX4_placesAmong_25 : decode cX4_placesAmong 25 = .ok (.iconst (-1), 1) := by decide +kernel
theorem dX4_placesAmong_26 : decode cX4_placesAmong 26 = .ok (.if_icmp .eq 14, 3) := by decide +kernel
theorem dX4_placesAmong_29 : decode cX4_placesAmong 29 = .ok (.iload 6, 2) := by decide +kernel
theorem dX4_placesAmong_31 : decode cX4_placesAmong 31 = .ok (.iconst 4, 1) := by decide +kernel
theorem dX4_placesAmong_32 : decode cX4_placesAmong 32 = .ok (.invokestatic 35, 3) := by decide +kernel
theorem dX4_placesAmong_35 : decode cX4_placesAmong 35 = .ok (.ifCond .ne 5, 3) := by decide +kernel
theorem dX4_placesAmong_38 : decode cX4_placesAmong 38 = .ok (.iconst (-1), 1) := by decide +kernel
theorem dX4_placesAmong_39 : decode cX4_placesAmong 39 = .ok (.ireturn, 1) := by decide +kernel
theorem dX4_placesAmong_40 : decode cX4_placesAmong 40 = .ok (.iload 6, 2) := by decide +kernel
theorem dX4_placesAmong_42 : decode cX4_placesAmong 42 = .ok (.iconst (-1), 1) := by decide +kernel
theorem dX4_placesAmong_43 : decode cX4_placesAmong 43 = .ok (.if_icmp .eq 6, 3) := by decide +kernel
theorem dX4_placesAmong_46 : decode cX4_placesAmong 46 = .ok (.iinc 4 1, 3) := by decide +kernel
theorem dX4_placesAmong_49 : decode cX4_placesAmong 49 = .ok (.iinc 5 1, 3) := by decide +kernel
theorem dX4_placesAmong_52 : decode cX4_placesAmong 52 = .ok (.goto (-46), 3) := by decide +kernel
theorem dX4_placesAmong_55 : decode cX4_placesAmong 55 = .ok (.iload 4, 2) := by decide +kernel
theorem dX4_placesAmong_57 : decode cX4_placesAmong 57 = .ok (.ireturn, 1) := by decide +kernel
theorem dX5_init_0 : decode cX5_init 0 = .ok (.aload_n 0, 1) := by decide +kernel
theorem dX5_init_1 : decode cX5_init 1 = .ok (.invokespecial 3, 3) := by decide +kernel
theorem dX5_init_4 : decode cX5_init 4 = .ok (.aload_n 0, 1) := by decide +kernel
theorem dX5_init_5 : decode cX5_init 5 = .ok (.new 9, 3) := by decide +kernel
theorem dX5_init_8 : decode cX5_init 8 = .ok (.dup, 1) := by decide +kernel
theorem dX5_init_9 : decode cX5_init 9 = .ok (.invokespecial 11, 3) := by decide +kernel
theorem dX5_init_12 : decode cX5_init 12 = .ok (.putfield 12, 3) := by decide +kernel
theorem dX5_init_15 : decode cX5_init 15 = .ok (.aload_n 0, 1) := by decide +kernel
theorem dX5_init_16 : decode cX5_init 16 = .ok (.new 18, 3) := by decide +kernel
theorem dX5_init_19 : decode cX5_init 19 = .ok (.dup, 1) := by decide +kernel
theorem dX5_init_20 : decode cX5_init 20 = .ok (.invokespecial 20, 3) := by decide +kernel
theorem dX5_init_23 : decode cX5_init 23 = .ok (.putfield 21, 3) := by decide +kernel
theorem dX5_init_26 : decode cX5_init 26 = .ok (.aload_n 0, 1) := by decide +kernel
theorem dX5_init_27 : decode cX5_init 27 = .ok (.new 25, 3) := by decide +kernel
theorem dX5_init_30 : decode cX5_init 30 = .ok (.dup, 1) := by decide +kernel
theorem dX5_init_31 : decode cX5_init 31 = .ok (.invokespecial 27, 3) := by decide +kernel
theorem dX5_init_34 : decode cX5_init 34 = .ok (.putfield 28, 3) := by decide +kernel
theorem dX5_init_37 : decode cX5_init 37 = .ok (.aload_n 0, 1) := by decide +kernel
theorem dX5_init_38 : decode cX5_init 38 = .ok (.new 32, 3) := by decide +kernel
theorem dX5_init_41 : decode cX5_init 41 = .ok (.dup, 1) := by decide +kernel
theorem dX5_init_42 : decode cX5_init 42 = .ok (.invokespecial 34, 3) := by decide +kernel
theorem dX5_init_45 : decode cX5_init 45 = .ok (.putfield 35, 3) := by decide +kernel
theorem dX5_init_48 : decode cX5_init 48 = .ok (.aload_n 0, 1) := by decide +kernel
theorem dX5_init_49 : decode cX5_init 49 = .ok (.iconst 5, 1) := by decide +kernel
theorem dX5_init_50 : decode cX5_init 50 = .ok (.newarray .int, 2) := by decide +kernel
theorem dX5_init_52 : decode cX5_init 52 = .ok (.dup, 1) := by decide +kernel
theorem dX5_init_53 : decode cX5_init 53 = .ok (.iconst 0, 1) := by decide +kernel
theorem dX5_init_54 : decode cX5_init 54 = .ok (.iconst 4, 1) := by decide +kernel
theorem dX5_init_55 : decode cX5_init 55 = .ok (.iastore, 1) := by decide +kernel
theorem dX5_init_56 : decode cX5_init 56 = .ok (.dup, 1) := by decide +kernel
theorem dX5_init_57 : decode cX5_init 57 = .ok (.iconst 1, 1) := by decide +kernel
theorem dX5_init_58 : decode cX5_init 58 = .ok (.iconst 3, 1) := by decide +kernel
theorem dX5_init_59 : decode cX5_init 59 = .ok (.iastore, 1) := by decide +kernel
theorem dX5_init_60 : decode cX5_init 60 = .ok (.dup, 1) := by decide +kernel
theorem dX5_init_61 : decode cX5_init 61 = .ok (.iconst 2, 1) := by decide +kernel
theorem dX5_init_62 : decode cX5_init 62 = .ok (.iconst 3, 1) := by decide +kernel
theorem dX5_init_63 : decode cX5_init 63 = .ok (.iastore, 1) := by decide +kernel
theorem dX5_init_64 : decode cX5_init 64 = .ok (.dup, 1) := by decide +kernel
theorem dX5_init_65 : decode cX5_init 65 = .ok (.iconst 3, 1) := by decide +kernel
theorem dX5_init_66 : decode cX5_init 66 = .ok (.iconst 2, 1) := by decide +kernel
theorem dX5_init_67 : decode cX5_init 67 = .ok (.iastore, 1) := by decide +kernel
theorem dX5_init_68 : decode cX5_init 68 = .ok (.dup, 1) := by decide +kernel
theorem dX5_init_69 : decode cX5_init 69 = .ok (.iconst 4, 1) := by decide +kernel
theorem dX5_init_70 : decode cX5_init 70 = .ok (.iconst 2, 1) := by decide +kernel
theorem dX5_init_71 : decode cX5_init 71 = .ok (.iastore, 1) := by decide +kernel
theorem dX5_init_72 : decode cX5_init 72 = .ok (.putfield 39, 3) := by decide +kernel
theorem dX5_init_75 : decode cX5_init 75 = .ok (.aload_n 0, 1) := by decide +kernel
theorem dX5_init_76 : decode cX5_init 76 = .ok (.iconst 1, 1) := by decide +kernel
theorem dX5_init_77 : decode cX5_init 77 = .ok (.putfield 43, 3) := by decide +kernel
theorem dX5_init_80 : decode cX5_init 80 = .ok (.aload_n 0, 1) := by decide +kernel
theorem dX5_init_81 : decode cX5_init 81 = .ok (.iconst 4, 1) := by decide +kernel
theorem dX5_init_82 : decode cX5_init 82 = .ok (.newarray .int, 2) := by decide +kernel
theorem dX5_init_84 : decode cX5_init 84 = .ok (.putfield 47, 3) := by decide +kernel
theorem dX5_init_87 : decode cX5_init 87 = .ok (.aload_n 0, 1) := by decide +kernel
theorem dX5_init_88 : decode cX5_init 88 = .ok (.iconst 1, 1) := by decide +kernel
theorem dX5_init_89 : decode cX5_init 89 = .ok (.putfield 50, 3) := by decide +kernel
theorem dX5_init_92 : decode cX5_init 92 = .ok (.return_, 1) := by decide +kernel
theorem dX5_become_0 : decode cX5_become 0 = .ok (.aload_n 0, 1) := by decide +kernel
theorem dX5_become_1 : decode cX5_become 1 = .ok (.getfield 12, 3) := by decide +kernel
theorem dX5_become_4 : decode cX5_become 4 = .ok (.aload_n 1, 1) := by decide +kernel
theorem dX5_become_5 : decode cX5_become 5 = .ok (.getfield 12, 3) := by decide +kernel
theorem dX5_become_8 : decode cX5_become 8 = .ok (.invokevirtual 53, 3) := by decide +kernel
theorem dX5_become_11 : decode cX5_become 11 = .ok (.aload_n 0, 1) := by decide +kernel
theorem dX5_become_12 : decode cX5_become 12 = .ok (.getfield 21, 3) := by decide +kernel
theorem dX5_become_15 : decode cX5_become 15 = .ok (.aload_n 1, 1) := by decide +kernel
theorem dX5_become_16 : decode cX5_become 16 = .ok (.getfield 21, 3) := by decide +kernel
theorem dX5_become_19 : decode cX5_become 19 = .ok (.invokevirtual 57, 3) := by decide +kernel
theorem dX5_become_22 : decode cX5_become 22 = .ok (.aload_n 0, 1) := by decide +kernel
theorem dX5_become_23 : decode cX5_become 23 = .ok (.getfield 28, 3) := by decide +kernel
theorem dX5_become_26 : decode cX5_become 26 = .ok (.aload_n 1, 1) := by decide +kernel
theorem dX5_become_27 : decode cX5_become 27 = .ok (.getfield 28, 3) := by decide +kernel
theorem dX5_become_30 : decode cX5_become 30 = .ok (.invokevirtual 60, 3) := by decide +kernel
theorem dX5_become_33 : decode cX5_become 33 = .ok (.aload_n 0, 1) := by decide +kernel
theorem dX5_become_34 : decode cX5_become 34 = .ok (.getfield 35, 3) := by decide +kernel
theorem dX5_become_37 : decode cX5_become 37 = .ok (.aload_n 1, 1) := by decide +kernel
theorem dX5_become_38 : decode cX5_become 38 = .ok (.getfield 35, 3) := by decide +kernel
theorem dX5_become_41 : decode cX5_become 41 = .ok (.invokevirtual 63, 3) := by decide +kernel
theorem dX5_become_44 : decode cX5_become 44 = .ok (.aload_n 1, 1) := by decide +kernel
theorem dX5_become_45 : decode cX5_become 45 = .ok (.getfield 39, 3) := by decide +kernel
theorem dX5_become_48 : decode cX5_become 48 = .ok (.iconst 0, 1) := by decide +kernel
theorem dX5_become_49 : decode cX5_become 49 = .ok (.aload_n 0, 1) := by decide +kernel
theorem dX5_become_50 : decode cX5_become 50 = .ok (.getfield 39, 3) := by decide +kernel
theorem dX5_become_53 : decode cX5_become 53 = .ok (.iconst 0, 1) := by decide +kernel
theorem dX5_become_54 : decode cX5_become 54 = .ok (.iconst 5, 1) := by decide +kernel
theorem dX5_become_55 : decode cX5_become 55 = .ok (.invokestatic 66, 3) := by decide +kernel
theorem dX5_become_58 : decode cX5_become 58 = .ok (.aload_n 0, 1) := by decide +kernel
theorem dX5_become_59 : decode cX5_become 59 = .ok (.aload_n 1, 1) := by decide +kernel
theorem dX5_become_60 : decode cX5_become 60 = .ok (.getfield 43, 3) := by decide +kernel
theorem dX5_become_63 : decode cX5_become 63 = .ok (.putfield 43, 3) := by decide +kernel
theorem dX5_become_66 : decode cX5_become 66 = .ok (.return_, 1) := by decide +kernel
theorem dX5_drawPulls_0 : decode cX5_drawPulls 0 = .ok (.iconst 0, 1) := by decide +kernel
theorem dX5_drawPulls_1 : decode cX5_drawPulls 1 = .ok (.istore 5, 2) := by decide +kernel
theorem dX5_drawPulls_3 : decode cX5_drawPulls 3 = .ok (.iload 5, 2) := by decide +kernel
theorem dX5_drawPulls_5 : decode cX5_drawPulls 5 = .ok (.iconst 4, 1) := by decide +kernel
theorem dX5_drawPulls_6 : decode cX5_drawPulls 6 = .ok (.if_icmp .ge 17, 3) := by decide +kernel
theorem dX5_drawPulls_9 : decode cX5_drawPulls 9 = .ok (.aload_n 0, 1) := by decide +kernel
theorem dX5_drawPulls_10 : decode cX5_drawPulls 10 = .ok (.getfield 47, 3) := by decide +kernel
theorem dX5_drawPulls_13 : decode cX5_drawPulls 13 = .ok (.iload 5, 2) := by decide +kernel
theorem dX5_drawPulls_15 : decode cX5_drawPulls 15 = .ok (.iconst 1, 1) := by decide +kernel
theorem dX5_drawPulls_16 : decode cX5_drawPulls 16 = .ok (.iastore, 1) := by decide +kernel
theorem dX5_drawPulls_17 : decode cX5_drawPulls 17 = .ok (.iinc 5 1, 3) := by decide +kernel
theorem dX5_drawPulls_20 : decode cX5_drawPulls 20 = .ok (.goto (-17), 3) := by decide +kernel
theorem dX5_drawPulls_23 : decode cX5_drawPulls 23 = .ok (.aload_n 0, 1) := by decide +kernel
theorem dX5_drawPulls_24 : decode cX5_drawPulls 24 = .ok (.getfield 12, 3) := by decide +kernel
theorem dX5_drawPulls_27 : decode cX5_drawPulls 27 = .ok (.getfield 72, 3) := by decide +kernel
theorem dX5_drawPulls_30 : decode cX5_drawPulls 30 = .ok (.iload_n 3, 1) := by decide +kernel
theorem dX5_drawPulls_31 : decode cX5_drawPulls 31 = .ok (.iaload, 1) := by decide +kernel
theorem dX5_drawPulls_32 : decode cX5_drawPulls 32 = .ok (.iconst 1, 1) := by decide +kernel
theorem dX5_drawPulls_33 : decode cX5_drawPulls 33 = .ok (.isub, 1) := by decide +kernel
theorem dX5_drawPulls_34 : decode cX5_drawPulls 34 = .ok (.istore 5, 2) := by decide +kernel
theorem dX5_drawPulls_36 : decode cX5_drawPulls 36 = .ok (.iload 5, 2) := by decide +kernel
theorem dX5_drawPulls_38 : decode cX5_drawPulls 38 = .ok (.ifCond .lt 19, 3) := by decide +kernel
theorem dX5_drawPulls_41 : decode cX5_drawPulls 41 = .ok (.aload_n 0, 1) := by decide +kernel
theorem dX5_drawPulls_42 : decode cX5_drawPulls 42 = .ok (.getfield 47, 3) := by decide +kernel
theorem dX5_drawPulls_45 : decode cX5_drawPulls 45 = .ok (.iload 5, 2) := by decide +kernel
theorem dX5_drawPulls_47 : decode cX5_drawPulls 47 = .ok (.dup2, 1) := by decide +kernel
theorem dX5_drawPulls_48 : decode cX5_drawPulls 48 = .ok (.iaload, 1) := by decide +kernel
theorem dX5_drawPulls_49 : decode cX5_drawPulls 49 = .ok (.aload_n 0, 1) := by decide +kernel
theorem dX5_drawPulls_50 : decode cX5_drawPulls 50 = .ok (.getfield 39, 3) := by decide +kernel
theorem dX5_drawPulls_53 : decode cX5_drawPulls 53 = .ok (.iconst 0, 1) := by decide +kernel
theorem dX5_drawPulls_54 : decode cX5_drawPulls 54 = .ok (.iaload, 1) := by decide +kernel
theorem dX5_drawPulls_55 : decode cX5_drawPulls 55 = .ok (.iadd, 1) := by decide +kernel
theorem dX5_drawPulls_56 : decode cX5_drawPulls 56 = .ok (.iastore, 1) := by decide +kernel
theorem dX5_drawPulls_57 : decode cX5_drawPulls 57 = .ok (.aload_n 0, 1) := by decide +kernel
theorem dX5_drawPulls_58 : decode cX5_drawPulls 58 = .ok (.getfield 12, 3) := by decide +kernel
theorem dX5_drawPulls_61 : decode cX5_drawPulls 61 = .ok (.getfield 75, 3) := by decide +kernel
theorem dX5_drawPulls_64 : decode cX5_drawPulls 64 = .ok (.iload_n 3, 1) := by decide +kernel
theorem dX5_drawPulls_65 : decode cX5_drawPulls 65 = .ok (.iaload, 1) := by decide +kernel
theorem dX5_drawPulls_66 : decode cX5_drawPulls 66 = .ok (.iconst 1, 1) := by decide +kernel
theorem dX5_drawPulls_67 : decode cX5_drawPulls 67 = .ok (.isub, 1) := by decide +kernel
theorem dX5_drawPulls_68 : decode cX5_drawPulls 68 = .ok (.istore 6, 2) := by decide +kernel
theorem dX5_drawPulls_70 : decode cX5_drawPulls 70 = .ok (.iload 6, 2) := by decide +kernel
theorem dX5_drawPulls_72 : decode cX5_drawPulls 72 = .ok (.ifCond .lt 24, 3) := by decide +kernel
theorem dX5_drawPulls_75 : decode cX5_drawPulls 75 = .ok (.iload_n 1, 1) := by decide +kernel
theorem dX5_drawPulls_76 : decode cX5_drawPulls 76 = .ok (.iconst 2, 1) := by decide +kernel
theorem dX5_drawPulls_77 : decode cX5_drawPulls 77 = .ok (.if_icmp .eq 19, 3) := by decide +kernel
theorem dX5_drawPulls_80 : decode cX5_drawPulls 80 = .ok (.aload_n 0, 1) := by decide +kernel
theorem dX5_drawPulls_81 : decode cX5_drawPulls 81 = .ok (.getfield 47, 3) := by decide +kernel
theorem dX5_drawPulls_84 : decode cX5_drawPulls 84 = .ok (.iload 6, 2) := by decide +kernel
theorem dX5_drawPulls_86 : decode cX5_drawPulls 86 = .ok (.dup2, 1) := by decide +kernel
theorem dX5_drawPulls_87 : decode cX5_drawPulls 87 = .ok (.iaload, 1) := by decide +kernel
theorem dX5_drawPulls_88 : decode cX5_drawPulls 88 = .ok (.aload_n 0, 1) := by decide +kernel
theorem dX5_drawPulls_89 : decode cX5_drawPulls 89 = .ok (.getfield 39, 3) := by decide +kernel
theorem dX5_drawPulls_92 : decode cX5_drawPulls 92 = .ok (.iconst 1, 1) := by decide +kernel
theorem dX5_drawPulls_93 : decode cX5_drawPulls 93 = .ok (.iaload, 1) := by decide +kernel
theorem dX5_drawPulls_94 : decode cX5_drawPulls 94 = .ok (.iadd, 1) := by decide +kernel
theorem dX5_drawPulls_95 : decode cX5_drawPulls 95 = .ok (.iastore, 1) := by decide +kernel
theorem dX5_drawPulls_96 : decode cX5_drawPulls 96 = .ok (.aload_n 0, 1) := by decide +kernel
theorem dX5_drawPulls_97 : decode cX5_drawPulls 97 = .ok (.getfield 12, 3) := by decide +kernel
theorem dX5_drawPulls_100 : decode cX5_drawPulls 100 = .ok (.getfield 78, 3) := by decide +kernel
theorem dX5_drawPulls_103 : decode cX5_drawPulls 103 = .ok (.iload_n 3, 1) := by decide +kernel
theorem dX5_drawPulls_104 : decode cX5_drawPulls 104 = .ok (.iaload, 1) := by decide +kernel
theorem dX5_drawPulls_105 : decode cX5_drawPulls 105 = .ok (.istore 7, 2) := by decide +kernel
theorem dX5_drawPulls_107 : decode cX5_drawPulls 107 = .ok (.aload_n 0, 1) := by decide +kernel
theorem dX5_drawPulls_108 : decode cX5_drawPulls 108 = .ok (.getfield 47, 3) := by decide +kernel
theorem dX5_drawPulls_111 : decode cX5_drawPulls 111 = .ok (.iload 7, 2) := by decide +kernel
theorem dX5_drawPulls_113 : decode cX5_drawPulls 113 = .ok (.bipush 10, 2) := by decide +kernel
theorem dX5_drawPulls_115 : decode cX5_drawPulls 115 = .ok (.idiv, 1) := by decide +kernel
theorem dX5_drawPulls_116 : decode cX5_drawPulls 116 = .ok (.dup2, 1) := by decide +kernel
theorem dX5_drawPulls_117 : decode cX5_drawPulls 117 = .ok (.iaload, 1) := by decide +kernel
theorem dX5_drawPulls_118 : decode cX5_drawPulls 118 = .ok (.iload 7, 2) := by decide +kernel
theorem dX5_drawPulls_120 : decode cX5_drawPulls 120 = .ok (.bipush 10, 2) := by decide +kernel
theorem dX5_drawPulls_122 : decode cX5_drawPulls 122 = .ok (.irem, 1) := by decide +kernel
theorem dX5_drawPulls_123 : decode cX5_drawPulls 123 = .ok (.iadd, 1) := by decide +kernel
theorem dX5_drawPulls_124 : decode cX5_drawPulls 124 = .ok (.iastore, 1) := by decide +kernel
theorem dX5_drawPulls_125 : decode cX5_drawPulls 125 = .ok (.iload_n 1, 1) := by decide +kernel
theorem dX5_drawPulls_126 : decode cX5_drawPulls 126 = .ok (.iconst 1, 1) := by decide +kernel
theorem dX5_drawPulls_127 : decode cX5_drawPulls 127 = .ok (.if_icmp .ne 42, 3) := by decide +kernel
theorem dX5_drawPulls_130 : decode cX5_drawPulls 130 = .ok (.aload_n 0, 1) := by decide +kernel
theorem dX5_drawPulls_131 : decode cX5_drawPulls 131 = .ok (.getfield 47, 3) := by decide +kernel
theorem dX5_drawPulls_134 : decode cX5_drawPulls 134 = .ok (.iconst 0, 1) := by decide +kernel
theorem dX5_drawPulls_135 : decode cX5_drawPulls 135 = .ok (.dup2, 1) := by decide +kernel
theorem dX5_drawPulls_136 : decode cX5_drawPulls 136 = .ok (.iaload, 1) := by decide +kernel
theorem dX5_drawPulls_137 : decode cX5_drawPulls 137 = .ok (.iload 5, 2) := by decide +kernel
theorem dX5_drawPulls_139 : decode cX5_drawPulls 139 = .ok (.ifCond .ne 7, 3) := by decide +kernel
theorem dX5_drawPulls_142 : decode cX5_drawPulls 142 = .ok (.iconst 0, 1) := by decide +kernel
theorem dX5_drawPulls_143 : decode cX5_drawPulls 143 = .ok (.goto 4, 3) := by decide +kernel
theorem dX5_drawPulls_146 : decode cX5_drawPulls 146 = .ok (.iload_n 2, 1) := by decide +kernel
theorem dX5_drawPulls_147 : decode cX5_drawPulls 147 = .ok (.iadd, 1) := by decide +kernel
theorem dX5_drawPulls_148 : decode cX5_drawPulls 148 = .ok (.iastore, 1) := by decide +kernel
theorem dX5_drawPulls_149 : decode cX5_drawPulls 149 = .ok (.aload_n 0, 1) := by decide +kernel
theorem dX5_drawPulls_150 : decode cX5_drawPulls 150 = .ok (.getfield 47, 3) := by decide +kernel
theorem dX5_drawPulls_153 : decode cX5_drawPulls 153 = .ok (.iconst 1, 1) := by decide +kernel
theorem dX5_drawPulls_154 : decode cX5_drawPulls 154 = .ok (.dup2, 1) := by decide +kernel
theorem dX5_drawPulls_155 : decode cX5_drawPulls 155 = .ok (.iaload, 1) := by decide +kernel
theorem dX5_drawPulls_156 : decode cX5_drawPulls 156 = .ok (.iload 5, 2) := by decide +kernel
theorem dX5_drawPulls_158 : decode cX5_drawPulls 158 = .ok (.iconst 1, 1) := by decide +kernel
theorem dX5_drawPulls_159 : decode cX5_drawPulls 159 = .ok (.if_icmp .ne 7, 3) := by decide +kernel
theorem dX5_drawPulls_162 : decode cX5_drawPulls 162 = .ok (.iconst 0, 1) := by decide +kernel
theorem dX5_drawPulls_163 : decode cX5_drawPulls 163 = .ok (.goto 4, 3) := by decide +kernel
theorem dX5_drawPulls_166 : decode cX5_drawPulls 166 = .ok (.iload_n 2, 1) := by decide +kernel
theorem dX5_drawPulls_167 : decode cX5_drawPulls 167 = .ok (.iadd, 1) := by decide +kernel
theorem dX5_drawPulls_168 : decode cX5_drawPulls 168 = .ok (.iastore, 1) := by decide +kernel
theorem dX5_drawPulls_169 : decode cX5_drawPulls 169 = .ok (.iload_n 1, 1) := by decide +kernel
theorem dX5_drawPulls_170 : decode cX5_drawPulls 170 = .ok (.iconst 3, 1) := by decide +kernel
theorem dX5_drawPulls_171 : decode cX5_drawPulls 171 = .ok (.if_icmp .ne 31, 3) := by decide +kernel
theorem dX5_drawPulls_174 : decode cX5_drawPulls 174 = .ok (.aload_n 0, 1) := by decide +kernel
theorem dX5_drawPulls_175 : decode cX5_drawPulls 175 = .ok (.getfield 47, 3) := by decide +kernel
theorem dX5_drawPulls_178 : decode cX5_drawPulls 178 = .ok (.iconst 0, 1) := by decide +kernel
theorem dX5_drawPulls_179 : decode cX5_drawPulls 179 = .ok (.iaload, 1) := by decide +kernel
theorem dX5_drawPulls_180 : decode cX5_drawPulls 180 = .ok (.istore 8, 2) := by decide +kernel
theorem dX5_drawPulls_182 : decode cX5_drawPulls 182 = .ok (.aload_n 0, 1) := by decide +kernel
theorem dX5_drawPulls_183 : decode cX5_drawPulls 183 = .ok (.getfield 47, 3) := by decide +kernel
theorem dX5_drawPulls_186 : decode cX5_drawPulls 186 = .ok (.iconst 0, 1) := by decide +kernel
theorem dX5_drawPulls_187 : decode cX5_drawPulls 187 = .ok (.aload_n 0, 1) := by decide +kernel
theorem dX5_drawPulls_188 : decode cX5_drawPulls 188 = .ok (.getfield 47, 3) := by decide +kernel
theorem dX5_drawPulls_191 : decode cX5_drawPulls 191 = .ok (.iconst 1, 1) := by decide +kernel
theorem dX5_drawPulls_192 : decode cX5_drawPulls 192 = .ok (.iaload, 1) := by decide +kernel
theorem dX5_drawPulls_193 : decode cX5_drawPulls 193 = .ok (.iastore, 1) := by decide +kernel
theorem dX5_drawPulls_194 : decode cX5_drawPulls 194 = .ok (.aload_n 0, 1) := by decide +kernel
theorem dX5_drawPulls_195 : decode cX5_drawPulls 195 = .ok (.getfield 47, 3) := by decide +kernel
theorem dX5_drawPulls_198 : decode cX5_drawPulls 198 = .ok (.iconst 1, 1) := by decide +kernel
theorem dX5_drawPulls_199 : decode cX5_drawPulls 199 = .ok (.iload 8, 2) := by decide +kernel
theorem dX5_drawPulls_201 : decode cX5_drawPulls 201 = .ok (.iastore, 1) := by decide +kernel
theorem dX5_drawPulls_202 : decode cX5_drawPulls 202 = .ok (.aload_n 0, 1) := by decide +kernel
theorem dX5_drawPulls_203 : decode cX5_drawPulls 203 = .ok (.getfield 12, 3) := by decide +kernel
theorem dX5_drawPulls_206 : decode cX5_drawPulls 206 = .ok (.getfield 81, 3) := by decide +kernel
theorem dX5_drawPulls_209 : decode cX5_drawPulls 209 = .ok (.iload_n 3, 1) := by decide +kernel
theorem dX5_drawPulls_210 : decode cX5_drawPulls 210 = .ok (.iaload, 1) := by decide +kernel
theorem dX5_drawPulls_211 : decode cX5_drawPulls 211 = .ok (.istore 8, 2) := by decide +kernel
theorem dX5_drawPulls_213 : decode cX5_drawPulls 213 = .ok (.iload 8, 2) := by decide +kernel
theorem dX5_drawPulls_215 : decode cX5_drawPulls 215 = .ok (.ifCond .eq 27, 3) := by decide +kernel
theorem dX5_drawPulls_218 : decode cX5_drawPulls 218 = .ok (.aload_n 0, 1) := by decide +kernel
theorem dX5_drawPulls_219 : decode cX5_drawPulls 219 = .ok (.getfield 47, 3) := by decide +kernel
theorem dX5_drawPulls_222 : decode cX5_drawPulls 222 = .ok (.iload 8, 2) := by decide +kernel
theorem dX5_drawPulls_224 : decode cX5_drawPulls 224 = .ok (.bipush 10, 2) := by decide +kernel
theorem dX5_drawPulls_226 : decode cX5_drawPulls 226 = .ok (.idiv, 1) := by decide +kernel
theorem dX5_drawPulls_227 : decode cX5_drawPulls 227 = .ok (.dup2, 1) := by decide +kernel
theorem dX5_drawPulls_228 : decode cX5_drawPulls 228 = .ok (.iaload, 1) := by decide +kernel
theorem dX5_drawPulls_229 : decode cX5_drawPulls 229 = .ok (.aload_n 0, 1) := by decide +kernel
theorem dX5_drawPulls_230 : decode cX5_drawPulls 230 = .ok (.getfield 39, 3) := by decide +kernel
theorem dX5_drawPulls_233 : decode cX5_drawPulls 233 = .ok (.iconst 3, 1) := by decide +kernel
theorem dX5_drawPulls_234 : decode cX5_drawPulls 234 = .ok (.iaload, 1) := by decide +kernel
theorem dX5_drawPulls_235 : decode cX5_drawPulls 235 = .ok (.iload 4, 2) := by decide +kernel
theorem dX5_drawPulls_237 : decode cX5_drawPulls 237 = .ok (.iconst 1, 1) := by decide +kernel
theorem dX5_drawPulls_238 : decode cX5_drawPulls 238 = .ok (.isub, 1) := by decide +kernel
theorem dX5_drawPulls_239 : decode cX5_drawPulls 239 = .ok (.imul, 1) := by decide +kernel
theorem dX5_drawPulls_240 : decode cX5_drawPulls 240 = .ok (.iadd, 1) := by decide +kernel
theorem dX5_drawPulls_241 : decode cX5_drawPulls 241 = .ok (.iastore, 1) := by decide +kernel
theorem dX5_drawPulls_242 : decode cX5_drawPulls 242 = .ok (.return_, 1) := by decide +kernel
theorem dX5_weigh_0 : decode cX5_weigh 0 = .ok (.aload_n 0, 1) := by decide +kernel
theorem dX5_weigh_1 : decode cX5_weigh 1 = .ok (.aload_n 0, 1) := by decide +kernel
theorem dX5_weigh_2 : decode cX5_weigh 2 = .ok (.getfield 21, 3) := by decide +kernel
theorem dX5_weigh_5 : decode cX5_weigh 5 = .ok (.getfield 84, 3) := by decide +kernel
theorem dX5_weigh_8 : decode cX5_weigh 8 = .ok (.iload_n 1, 1) := by decide +kernel
theorem dX5_weigh_9 : decode cX5_weigh 9 = .ok (.iaload, 1) := by decide +kernel
theorem dX5_weigh_10 : decode cX5_weigh 10 = .ok (.aload_n 0, 1) := by decide +kernel
theorem dX5_weigh_11 : decode cX5_weigh 11 = .ok (.getfield 21, 3) := by decide +kernel
theorem dX5_weigh_14 : decode cX5_weigh 14 = .ok (.getfield 87, 3) := by decide +kernel
theorem dX5_weigh_17 : decode cX5_weigh 17 = .ok (.iload_n 1, 1) := by decide +kernel
theorem dX5_weigh_18 : decode cX5_weigh 18 = .ok (.iaload, 1) := by decide +kernel
theorem dX5_weigh_19 : decode cX5_weigh 19 = .ok (.iload_n 2, 1) := by decide +kernel
theorem dX5_weigh_20 : decode cX5_weigh 20 = .ok (.iload_n 3, 1) := by decide +kernel
theorem dX5_weigh_21 : decode cX5_weigh 21 = .ok (.invokevirtual 90, 3) := by decide +kernel
theorem dX5_weigh_24 : decode cX5_weigh 24 = .ok (.aload_n 0, 1) := by decide +kernel
theorem dX5_weigh_25 : decode cX5_weigh 25 = .ok (.getfield 12, 3) := by decide +kernel
theorem dX5_weigh_28 : decode cX5_weigh 28 = .ok (.getfield 81, 3) := by decide +kernel
theorem dX5_weigh_31 : decode cX5_weigh 31 = .ok (.iload_n 2, 1) := by decide +kernel
theorem dX5_weigh_32 : decode cX5_weigh 32 = .ok (.iaload, 1) := by decide +kernel
theorem dX5_weigh_33 : decode cX5_weigh 33 = .ok (.istore 5, 2) := by decide +kernel
theorem dX5_weigh_35 : decode cX5_weigh 35 = .ok (.aload_n 0, 1) := by decide +kernel
theorem dX5_weigh_36 : decode cX5_weigh 36 = .ok (.getfield 21, 3) := by decide +kernel
theorem dX5_weigh_39 : decode cX5_weigh 39 = .ok (.getfield 94, 3) := by decide +kernel
theorem dX5_weigh_42 : decode cX5_weigh 42 = .ok (.iload_n 1, 1) := by decide +kernel
theorem dX5_weigh_43 : decode cX5_weigh 43 = .ok (.iaload, 1) := by decide +kernel
theorem dX5_weigh_44 : decode cX5_weigh 44 = .ok (.istore 6, 2) := by decide +kernel
theorem dX5_weigh_46 : decode cX5_weigh 46 = .ok (.iconst 1, 1) := by decide +kernel
theorem dX5_weigh_47 : decode cX5_weigh 47 = .ok (.iload 5, 2) := by decide +kernel
theorem dX5_weigh_49 : decode cX5_weigh 49 = .ok (.bipush 10, 2) := by decide +kernel
theorem dX5_weigh_51 : decode cX5_weigh 51 = .ok (.irem, 1) := by decide +kernel
theorem dX5_weigh_52 : decode cX5_weigh 52 = .ok (.iload 6, 2) := by decide +kernel
theorem dX5_weigh_54 : decode cX5_weigh 54 = .ok (.iconst 4, 1) := by decide +kernel
theorem dX5_weigh_55 : decode cX5_weigh 55 = .ok (.idiv, 1) := by decide +kernel
theorem dX5_weigh_56 : decode cX5_weigh 56 = .ok (.isub, 1) := by decide +kernel
theorem dX5_weigh_57 : decode cX5_weigh 57 = .ok (.invokestatic 97, 3) := by decide +kernel
theorem dX5_weigh_60 : decode cX5_weigh 60 = .ok (.istore 7, 2) := by decide +kernel
theorem dX5_weigh_62 : decode cX5_weigh 62 = .ok (.aload_n 0, 1) := by decide +kernel
theorem dX5_weigh_63 : decode cX5_weigh 63 = .ok (.getfield 47, 3) := by decide +kernel
theorem dX5_weigh_66 : decode cX5_weigh 66 = .ok (.iload 5, 2) := by decide +kernel
theorem dX5_weigh_68 : decode cX5_weigh 68 = .ok (.bipush 10, 2) := by decide +kernel
theorem dX5_weigh_70 : decode cX5_weigh 70 = .ok (.idiv, 1) := by decide +kernel
theorem dX5_weigh_71 : decode cX5_weigh 71 = .ok (.iaload, 1) := by decide +kernel
theorem dX5_weigh_72 : decode cX5_weigh 72 = .ok (.istore 8, 2) := by decide +kernel
theorem dX5_weigh_74 : decode cX5_weigh 74 = .ok (.iload 8, 2) := by decide +kernel
theorem dX5_weigh_76 : decode cX5_weigh 76 = .ok (.ineg, 1) := by decide +kernel
theorem dX5_weigh_77 : decode cX5_weigh 77 = .ok (.istore 9, 2) := by decide +kernel
theorem dX5_weigh_79 : decode cX5_weigh 79 = .ok (.iconst 0, 1) := by decide +kernel
theorem dX5_weigh_80 : decode cX5_weigh 80 = .ok (.istore 10, 2) := by decide +kernel
theorem dX5_weigh_82 : decode cX5_weigh 82 = .ok (.iload 10, 2) := by decide +kernel
theorem dX5_weigh_84 : decode cX5_weigh 84 = .ok (.iconst 4, 1) := by decide +kernel
theorem dX5_weigh_85 : decode cX5_weigh 85 = .ok (.if_icmp .ge 21, 3) := by decide +kernel
theorem dX5_weigh_88 : decode cX5_weigh 88 = .ok (.iload 9, 2) := by decide +kernel
theorem dX5_weigh_90 : decode cX5_weigh 90 = .ok (.aload_n 0, 1) := by decide +kernel
theorem dX5_weigh_91 : decode cX5_weigh 91 = .ok (.getfield 47, 3) := by decide +kernel
theorem dX5_weigh_94 : decode cX5_weigh 94 = .ok (.iload 10, 2) := by decide +kernel
theorem dX5_weigh_96 : decode cX5_weigh 96 = .ok (.iaload, 1) := by decide +kernel
theorem dX5_weigh_97 : decode cX5_weigh 97 = .ok (.iadd, 1) := by decide +kernel
theorem dX5_weigh_98 : decode cX5_weigh 98 = .ok (.istore 9, 2) := by decide +kernel
theorem dX5_weigh_100 : decode cX5_weigh 100 = .ok (.iinc 10 1, 3) := by decide +kernel
theorem dX5_weigh_103 : decode cX5_weigh 103 = .ok (.goto (-21), 3) := by decide +kernel
theorem dX5_weigh_106 : decode cX5_weigh 106 = .ok (.aload_n 0, 1) := by decide +kernel
theorem dX5_weigh_107 : decode cX5_weigh 107 = .ok (.bipush 81, 2) := by decide +kernel
theorem dX5_weigh_109 : decode cX5_weigh 109 = .ok (.iload 8, 2) := by decide +kernel
theorem dX5_weigh_111 : decode cX5_weigh 111 = .ok (.iload 9, 2) := by decide +kernel
theorem dX5_weigh_113 : decode cX5_weigh 113 = .ok (.iadd, 1) := by decide +kernel
theorem dX5_weigh_114 : decode cX5_weigh 114 = .ok (.imul, 1) := by decide +kernel
theorem dX5_weigh_115 : decode cX5_weigh 115 = .ok (.putfield 50, 3) := by decide +kernel
theorem dX5_weigh_118 : decode cX5_weigh 118 = .ok (.aload_n 0, 1) := by decide +kernel
theorem dX5_weigh_119 : decode cX5_weigh 119 = .ok (.iload 6, 2) := by decide +kernel
theorem dX5_weigh_121 : decode cX5_weigh 121 = .ok (.iload 5, 2) := by decide +kernel
theorem dX5_weigh_123 : decode cX5_weigh 123 = .ok (.bipush 10, 2) := by decide +kernel
theorem dX5_weigh_125 : decode cX5_weigh 125 = .ok (.idiv, 1) := by decide +kernel
theorem dX5_weigh_126 : decode cX5_weigh 126 = .ok (.aload_n 0, 1) := by decide +kernel
theorem dX5_weigh_127 : decode cX5_weigh 127 = .ok (.getfield 43, 3) := by decide +kernel
theorem dX5_weigh_130 : decode cX5_weigh 130 = .ok (.invokestatic 103, 3) := by decide +kernel
theorem dX5_weigh_133 : decode cX5_weigh 133 = .ok (.ifCond .eq 27, 3) := by decide +kernel
theorem dX5_weigh_136 : decode cX5_weigh 136 = .ok (.iload 4, 2) := by decide +kernel
theorem dX5_weigh_138 : decode cX5_weigh 138 = .ok (.iload 8, 2) := by decide +kernel
theorem dX5_weigh_140 : decode cX5_weigh 140 = .ok (.iload 7, 2) := by decide +kernel
theorem dX5_weigh_142 : decode cX5_weigh 142 = .ok (.imul, 1) := by decide +kernel
theorem dX5_weigh_143 : decode cX5_weigh 143 = .ok (.iload 9, 2) := by decide +kernel
theorem dX5_weigh_145 : decode cX5_weigh 145 = .ok (.iconst 0, 1) := by decide +kernel
theorem dX5_weigh_146 : decode cX5_weigh 146 = .ok (.iload 7, 2) := by decide +kernel
theorem dX5_weigh_148 : decode cX5_weigh 148 = .ok (.bipush 6, 2) := by decide +kernel
theorem dX5_weigh_150 : decode cX5_weigh 150 = .ok (.isub, 1) := by decide +kernel
theorem dX5_weigh_151 : decode cX5_weigh 151 = .ok (.invokestatic 97, 3) := by decide +kernel
theorem dX5_weigh_154 : decode cX5_weigh 154 = .ok (.imul, 1) := by decide +kernel
theorem dX5_weigh_155 : decode cX5_weigh 155 = .ok (.iadd, 1) := by decide +kernel
theorem dX5_weigh_156 : decode cX5_weigh 156 = .ok (.imul, 1) := by decide +kernel
theorem dX5_weigh_157 : decode cX5_weigh 157 = .ok (.goto 4, 3) := by decide +kernel
theorem dX5_weigh_160 : decode cX5_weigh 160 = .ok (.iconst 0, 1) := by decide +kernel
theorem dX5_weigh_161 : decode cX5_weigh 161 = .ok (.putfield 107, 3) := by decide +kernel
theorem dX5_weigh_164 : decode cX5_weigh 164 = .ok (.return_, 1) := by decide +kernel
theorem dX5_seesOfSlip_0 : decode cX5_seesOfSlip 0 = .ok (.aload_n 0, 1) := by decide +kernel
theorem dX5_seesOfSlip_1 : decode cX5_seesOfSlip 1 = .ok (.getfield 12, 3) := by decide +kernel
theorem dX5_seesOfSlip_4 : decode cX5_seesOfSlip 4 = .ok (.iload_n 1, 1) := by decide +kernel
theorem dX5_seesOfSlip_5 : decode cX5_seesOfSlip 5 = .ok (.iconst 0, 1) := by decide +kernel
theorem dX5_seesOfSlip_6 : decode cX5_seesOfSlip 6 = .ok (.aload_n 0, 1) := by decide +kernel
theorem dX5_seesOfSlip_7 : decode cX5_seesOfSlip 7 = .ok (.getfield 39, 3) := by decide +kernel
theorem dX5_seesOfSlip_10 : decode cX5_seesOfSlip 10 = .ok (.iconst 2, 1) := by decide +kernel
theorem dX5_seesOfSlip_11 : decode cX5_seesOfSlip 11 = .ok (.iaload, 1) := by decide +kernel
theorem dX5_seesOfSlip_12 : decode cX5_seesOfSlip 12 = .ok (.invokevirtual 110, 3) := by decide +kernel
theorem dX5_seesOfSlip_15 : decode cX5_seesOfSlip 15 = .ok (.istore_n 3, 1) := by decide +kernel
theorem dX5_seesOfSlip_16 : decode cX5_seesOfSlip 16 = .ok (.aload_n 0, 1) := by decide +kernel
theorem dX5_seesOfSlip_17 : decode cX5_seesOfSlip 17 = .ok (.getfield 12, 3) := by decide +kernel
theorem dX5_seesOfSlip_20 : decode cX5_seesOfSlip 20 = .ok (.iload_n 1, 1) := by decide +kernel
theorem dX5_seesOfSlip_21 : decode cX5_seesOfSlip 21 = .ok (.iconst 1, 1) := by decide +kernel
theorem dX5_seesOfSlip_22 : decode cX5_seesOfSlip 22 = .ok (.aload_n 0, 1) := by decide +kernel
theorem dX5_seesOfSlip_23 : decode cX5_seesOfSlip 23 = .ok (.getfield 39, 3) := by decide +kernel
theorem dX5_seesOfSlip_26 : decode cX5_seesOfSlip 26 = .ok (.iconst 2, 1) := by decide +kernel
theorem dX5_seesOfSlip_27 : decode cX5_seesOfSlip 27 = .ok (.iaload, 1) := by decide +kernel
theorem dX5_seesOfSlip_28 : decode cX5_seesOfSlip 28 = .ok (.invokevirtual 110, 3) := by decide +kernel
theorem dX5_seesOfSlip_31 : decode cX5_seesOfSlip 31 = .ok (.istore 4, 2) := by decide +kernel
theorem dX5_seesOfSlip_33 : decode cX5_seesOfSlip 33 = .ok (.iconst 0, 1) := by decide +kernel
theorem dX5_seesOfSlip_34 : decode cX5_seesOfSlip 34 = .ok (.istore 5, 2) := by decide +kernel
theorem dX5_seesOfSlip_36 : decode cX5_seesOfSlip 36 = .ok (.iconst 0, 1) := by decide +kernel
theorem dX5_seesOfSlip_37 : decode cX5_seesOfSlip 37 = .ok (.istore 6, 2) := by decide +kernel
theorem dX5_seesOfSlip_39 : decode cX5_seesOfSlip 39 = .ok (.iload 6, 2) := by decide +kernel
theorem dX5_seesOfSlip_41 : decode cX5_seesOfSlip 41 = .ok (.aload_n 0, 1) := by decide +kernel
theorem dX5_seesOfSlip_42 : decode cX5_seesOfSlip 42 = .ok (.getfield 21, 3) := by decide +kernel
theorem dX5_seesOfSlip_45 : decode cX5_seesOfSlip 45 = .ok (.getfield 114, 3) := by decide +kernel
theorem dX5_seesOfSlip_48 : decode cX5_seesOfSlip 48 = .ok (.if_icmp .ge 53, 3) := by decide +kernel
theorem dX5_seesOfSlip_51 : decode cX5_seesOfSlip 51 = .ok (.aload_n 0, 1) := by decide +kernel
theorem dX5_seesOfSlip_52 : decode cX5_seesOfSlip 52 = .ok (.iload 6, 2) := by decide +kernel
theorem dX5_seesOfSlip_54 : decode cX5_seesOfSlip 54 = .ok (.iload_n 1, 1) := by decide +kernel
theorem dX5_seesOfSlip_55 : decode cX5_seesOfSlip 55 = .ok (.iload_n 2, 1) := by decide +kernel
theorem dX5_seesOfSlip_56 : decode cX5_seesOfSlip 56 = .ok (.aload_n 0, 1) := by decide +kernel
theorem dX5_seesOfSlip_57 : decode cX5_seesOfSlip 57 = .ok (.getfield 21, 3) := by decide +kernel
theorem dX5_seesOfSlip_60 : decode cX5_seesOfSlip 60 = .ok (.getfield 84, 3) := by decide +kernel
theorem dX5_seesOfSlip_63 : decode cX5_seesOfSlip 63 = .ok (.iload 6, 2) := by decide +kernel
theorem dX5_seesOfSlip_65 : decode cX5_seesOfSlip 65 = .ok (.iaload, 1) := by decide +kernel
theorem dX5_seesOfSlip_66 : decode cX5_seesOfSlip 66 = .ok (.iconst 2, 1) := by decide +kernel
theorem dX5_seesOfSlip_67 : decode cX5_seesOfSlip 67 = .ok (.if_icmp .ne 8, 3) := by decide +kernel
theorem dX5_seesOfSlip_70 : decode cX5_seesOfSlip 70 = .ok (.iload 4, 2) := by decide +kernel
theorem dX5_seesOfSlip_72 : decode cX5_seesOfSlip 72 = .ok (.goto 4, 3) := by decide +kernel
theorem dX5_seesOfSlip_75 : decode cX5_seesOfSlip 75 = .ok (.iload_n 3, 1) := by decide +kernel
theorem dX5_seesOfSlip_76 : decode cX5_seesOfSlip 76 = .ok (.invokevirtual 117, 3) := by decide +kernel
theorem dX5_seesOfSlip_79 : decode cX5_seesOfSlip 79 = .ok (.iload 5, 2) := by decide +kernel
theorem dX5_seesOfSlip_81 : decode cX5_seesOfSlip 81 = .ok (.aload_n 0, 1) := by decide +kernel
theorem dX5_seesOfSlip_82 : decode cX5_seesOfSlip 82 = .ok (.getfield 107, 3) := by decide +kernel
theorem dX5_seesOfSlip_85 : decode cX5_seesOfSlip 85 = .ok (.aload_n 0, 1) := by decide +kernel
theorem dX5_seesOfSlip_86 : decode cX5_seesOfSlip 86 = .ok (.getfield 50, 3) := by decide +kernel
theorem dX5_seesOfSlip_89 : decode cX5_seesOfSlip 89 = .ok (.invokestatic 120, 3) := by decide +kernel
theorem dX5_seesOfSlip_92 : decode cX5_seesOfSlip 92 = .ok (.iadd, 1) := by decide +kernel
theorem dX5_seesOfSlip_93 : decode cX5_seesOfSlip 93 = .ok (.istore 5, 2) := by decide +kernel
theorem dX5_seesOfSlip_95 : decode cX5_seesOfSlip 95 = .ok (.iinc 6 1, 3) := by decide +kernel
theorem dX5_seesOfSlip_98 : decode cX5_seesOfSlip 98 = .ok (.goto (-59), 3) := by decide +kernel
theorem dX5_seesOfSlip_101 : decode cX5_seesOfSlip 101 = .ok (.iload 5, 2) := by decide +kernel
theorem dX5_seesOfSlip_103 : decode cX5_seesOfSlip 103 = .ok (.ireturn, 1) := by decide +kernel
theorem dX5_seesOfAll_0 : decode cX5_seesOfAll 0 = .ok (.iconst 0, 1) := by decide +kernel
theorem dX5_seesOfAll_1 : decode cX5_seesOfAll 1 = .ok (.istore_n 2, 1) := by decide +kernel
theorem dX5_seesOfAll_2 : decode cX5_seesOfAll 2 = .ok (.iconst 0, 1) := by decide +kernel
theorem dX5_seesOfAll_3 : decode cX5_seesOfAll 3 = .ok (.istore_n 3, 1) := by decide +kernel
theorem dX5_seesOfAll_4 : decode cX5_seesOfAll 4 = .ok (.iload_n 3, 1) := by decide +kernel
theorem dX5_seesOfAll_5 : decode cX5_seesOfAll 5 = .ok (.bipush 16, 2) := by decide +kernel
theorem dX5_seesOfAll_7 : decode cX5_seesOfAll 7 = .ok (.if_icmp .ge 30, 3) := by decide +kernel
theorem dX5_seesOfAll_10 : decode cX5_seesOfAll 10 = .ok (.aload_n 0, 1) := by decide +kernel
theorem dX5_seesOfAll_11 : decode cX5_seesOfAll 11 = .ok (.getfield 12, 3) := by decide +kernel
theorem dX5_seesOfAll_14 : decode cX5_seesOfAll 14 = .ok (.getfield 81, 3) := by decide +kernel
theorem dX5_seesOfAll_17 : decode cX5_seesOfAll 17 = .ok (.iload_n 3, 1) := by decide +kernel
theorem dX5_seesOfAll_18 : decode cX5_seesOfAll 18 = .ok (.iaload, 1) := by decide +kernel
theorem dX5_seesOfAll_19 : decode cX5_seesOfAll 19 = .ok (.ifCond .eq 12, 3) := by decide +kernel
theorem dX5_seesOfAll_22 : decode cX5_seesOfAll 22 = .ok (.iload_n 2, 1) := by decide +kernel
theorem dX5_seesOfAll_23 : decode cX5_seesOfAll 23 = .ok (.aload_n 0, 1) := by decide +kernel
theorem dX5_seesOfAll_24 : decode cX5_seesOfAll 24 = .ok (.iload_n 3, 1) := by decide +kernel
theorem dX5_seesOfAll_25 : decode cX5_seesOfAll 25 = .ok (.iload_n 1, 1) := by decide +kernel
theorem dX5_seesOfAll_26 : decode cX5_seesOfAll 26 = .ok (.invokevirtual 123, 3) := by decide +kernel
theorem dX5_seesOfAll_29 : decode cX5_seesOfAll 29 = .ok (.iadd, 1) := by decide +kernel
theorem dX5_seesOfAll_30 : decode cX5_seesOfAll 30 = .ok (.istore_n 2, 1) := by decide +kernel
theorem dX5_seesOfAll_31 : decode cX5_seesOfAll 31 = .ok (.iinc 3 1, 3) := by decide +kernel
theorem dX5_seesOfAll_34 : decode cX5_seesOfAll 34 = .ok (.goto (-30), 3) := by decide +kernel
theorem dX5_seesOfAll_37 : decode cX5_seesOfAll 37 = .ok (.iload_n 2, 1) := by decide +kernel
theorem dX5_seesOfAll_38 : decode cX5_seesOfAll 38 = .ok (.ireturn, 1) := by decide +kernel
theorem dX5_someoneCanSeeFrom_0 : decode cX5_someoneCanSeeFrom 0 = .ok (.iconst 0, 1) := by decide +kernel
theorem dX5_someoneCanSeeFrom_1 : decode cX5_someoneCanSeeFrom 1 = .ok (.istore_n 2, 1) := by decide +kernel
theorem dX5_someoneCanSeeFrom_2 : decode cX5_someoneCanSeeFrom 2 = .ok (.iload_n 2, 1) := by decide +kernel
theorem dX5_someoneCanSeeFrom_3 : decode cX5_someoneCanSeeFrom 3 = .ok (.bipush 16, 2) := by decide +kernel
theorem dX5_someoneCanSeeFrom_5 : decode cX5_someoneCanSeeFrom 5 = .ok (.if_icmp .ge 70, 3) := by decide +kernel
theorem dX5_someoneCanSeeFrom_8 : decode cX5_someoneCanSeeFrom 8 = .ok (.iconst 0, 1) := by decide +kernel
theorem dX5_someoneCanSeeFrom_9 : decode cX5_someoneCanSeeFrom 9 = .ok (.istore_n 3, 1) := by decide +kernel
theorem dX5_someoneCanSeeFrom_10 : decode cX5_someoneCanSeeFrom 10 = .ok (.iload_n 3, 1) := by decide +kernel
theorem dX5_someoneCanSeeFrom_11 : decode cX5_someoneCanSeeFrom 11 = .ok (.aload_n 0, 1) := by decide +kernel
theorem dX5_someoneCanSeeFrom_12 : decode cX5_someoneCanSeeFrom 12 = .ok (.getfield 21, 3) := by decide +kernel
theorem dX5_someoneCanSeeFrom_15 : decode cX5_someoneCanSeeFrom 15 = .ok (.getfield 114, 3) := by decide +kernel
theorem dX5_someoneCanSeeFrom_18 : decode cX5_someoneCanSeeFrom 18 = .ok (.if_icmp .ge 51, 3) := by decide +kernel
theorem dX5_someoneCanSeeFrom_21 : decode cX5_someoneCanSeeFrom 21 = .ok (.aload_n 0, 1) := by decide +kernel
theorem dX5_someoneCanSeeFrom_22 : decode cX5_someoneCanSeeFrom 22 = .ok (.getfield 12, 3) := by decide +kernel
theorem dX5_someoneCanSeeFrom_25 : decode cX5_someoneCanSeeFrom 25 = .ok (.getfield 81, 3) := by decide +kernel
theorem dX5_someoneCanSeeFrom_28 : decode cX5_someoneCanSeeFrom 28 = .ok (.iload_n 2, 1) := by decide +kernel
theorem dX5_someoneCanSeeFrom_29 : decode cX5_someoneCanSeeFrom 29 = .ok (.iaload, 1) := by decide +kernel
theorem dX5_someoneCanSeeFrom_30 : decode cX5_someoneCanSeeFrom 30 = .ok (.ifCond .eq 39, 3) := by decide +kernel
theorem dX5_someoneCanSeeFrom_33 : decode cX5_someoneCanSeeFrom 33 = .ok (.aload_n 0, 1) := by decide +kernel
theorem dX5_someoneCanSeeFrom_34 : decode cX5_someoneCanSeeFrom 34 = .ok (.getfield 21, 3) := by decide +kernel
theorem dX5_someoneCanSeeFrom_37 : decode cX5_someoneCanSeeFrom 37 = .ok (.getfield 94, 3) := by decide +kernel
theorem dX5_someoneCanSeeFrom_40 : decode cX5_someoneCanSeeFrom 40 = .ok (.iload_n 3, 1) := by decide +kernel
theorem dX5_someoneCanSeeFrom_41 : decode cX5_someoneCanSeeFrom 41 = .ok (.iaload, 1) := by decide +kernel
theorem dX5_someoneCanSeeFrom_42 : decode cX5_someoneCanSeeFrom 42 = .ok (.aload_n 0, 1) := by decide +kernel
theorem dX5_someoneCanSeeFrom_43 : decode cX5_someoneCanSeeFrom 43 = .ok (.getfield 12, 3) := by decide +kernel
theorem dX5_someoneCanSeeFrom_46 : decode cX5_someoneCanSeeFrom 46 = .ok (.getfield 81, 3) := by decide +kernel
theorem dX5_someoneCanSeeFrom_49 : decode cX5_someoneCanSeeFrom 49 = .ok (.iload_n 2, 1) := by decide +kernel
theorem dX5_someoneCanSeeFrom_50 : decode cX5_someoneCanSeeFrom 50 = .ok (.iaload, 1) := by decide +kernel
theorem dX5_someoneCanSeeFrom_51 : decode cX5_someoneCanSeeFrom 51 = .ok (.bipush 10, 2) := by decide +kernel
theorem dX5_someoneCanSeeFrom_53 : decode cX5_someoneCanSeeFrom 53 = .ok (.idiv, 1) := by decide +kernel
theorem dX5_someoneCanSeeFrom_54 : decode cX5_someoneCanSeeFrom 54 = .ok (.iload_n 1, 1) := by decide +kernel
theorem dX5_someoneCanSeeFrom_55 : decode cX5_someoneCanSeeFrom 55 = .ok (.invokestatic 103, 3) := by decide +kernel
theorem dX5_someoneCanSeeFrom_58 : decode cX5_someoneCanSeeFrom 58 = .ok (.ifCond .eq 5, 3) := by decide +kernel
theorem dX5_someoneCanSeeFrom_61 : decode cX5_someoneCanSeeFrom 61 = .ok (.iconst 1, 1) := by decide +kernel
theorem dX5_someoneCanSeeFrom_62 : decode cX5_someoneCanSeeFrom 62 = .ok (.ireturn, 1) := by decide +kernel
theorem dX5_someoneCanSeeFrom_63 : decode cX5_someoneCanSeeFrom 63 = .ok (.iinc 3 1, 3) := by decide +kernel
theorem dX5_someoneCanSeeFrom_66 : decode cX5_someoneCanSeeFrom 66 = .ok (.goto (-56), 3) := by decide +kernel
theorem dX5_someoneCanSeeFrom_69 : decode cX5_someoneCanSeeFrom 69 = .ok (.iinc 2 1, 3) := by decide +kernel
theorem dX5_someoneCanSeeFrom_72 : decode cX5_someoneCanSeeFrom 72 = .ok (.goto (-70), 3) := by decide +kernel
theorem dX5_someoneCanSeeFrom_75 : decode cX5_someoneCanSeeFrom 75 = .ok (.iconst 0, 1) := by decide +kernel
theorem dX5_someoneCanSeeFrom_76 : decode cX5_someoneCanSeeFrom 76 = .ok (.ireturn, 1) := by decide +kernel
theorem dX5_leftAt_0 : decode cX5_leftAt 0 = .ok (.iconst 0, 1) := by decide +kernel
theorem dX5_leftAt_1 : decode cX5_leftAt 1 = .ok (.istore_n 2, 1) := by decide +kernel
theorem dX5_leftAt_2 : decode cX5_leftAt 2 = .ok (.iconst 0, 1) := by decide +kernel
theorem dX5_leftAt_3 : decode cX5_leftAt 3 = .ok (.istore_n 3, 1) := by decide +kernel
theorem dX5_leftAt_4 : decode cX5_leftAt 4 = .ok (.iload_n 3, 1) := by decide +kernel
theorem dX5_leftAt_5 : decode cX5_leftAt 5 = .ok (.iload_n 1, 1) := by decide +kernel
theorem dX5_leftAt_6 : decode cX5_leftAt 6 = .ok (.if_icmp .ge 66, 3) := by decide +kernel
theorem dX5_leftAt_9 : decode cX5_leftAt 9 = .ok (.iload_n 3, 1) := by decide +kernel
theorem dX5_leftAt_10 : decode cX5_leftAt 10 = .ok (.bipush 16, 2) := by decide +kernel
theorem dX5_leftAt_12 : decode cX5_leftAt 12 = .ok (.if_icmp .ge 60, 3) := by decide +kernel
theorem dX5_leftAt_15 : decode cX5_leftAt 15 = .ok (.iconst 0, 1) := by decide +kernel
theorem dX5_leftAt_16 : decode cX5_leftAt 16 = .ok (.bipush 10, 2) := by decide +kernel
theorem dX5_leftAt_18 : decode cX5_leftAt 18 = .ok (.aload_n 0, 1) := by decide +kernel
theorem dX5_leftAt_19 : decode cX5_leftAt 19 = .ok (.getfield 39, 3) := by decide +kernel
theorem dX5_leftAt_22 : decode cX5_leftAt 22 = .ok (.iconst 4, 1) := by decide +kernel
theorem dX5_leftAt_23 : decode cX5_leftAt 23 = .ok (.iaload, 1) := by decide +kernel
theorem dX5_leftAt_24 : decode cX5_leftAt 24 = .ok (.iload_n 1, 1) := by decide +kernel
theorem dX5_leftAt_25 : decode cX5_leftAt 25 = .ok (.iload_n 3, 1) := by decide +kernel
theorem dX5_leftAt_26 : decode cX5_leftAt 26 = .ok (.isub, 1) := by decide +kernel
theorem dX5_leftAt_27 : decode cX5_leftAt 27 = .ok (.imul, 1) := by decide +kernel
theorem dX5_leftAt_28 : decode cX5_leftAt 28 = .ok (.isub, 1) := by decide +kernel
theorem dX5_leftAt_29 : decode cX5_leftAt 29 = .ok (.invokestatic 97, 3) := by decide +kernel
theorem dX5_leftAt_32 : decode cX5_leftAt 32 = .ok (.istore 4, 2) := by decide +kernel
theorem dX5_leftAt_34 : decode cX5_leftAt 34 = .ok (.aload_n 0, 1) := by decide +kernel
theorem dX5_leftAt_35 : decode cX5_leftAt 35 = .ok (.getfield 12, 3) := by decide +kernel
theorem dX5_leftAt_38 : decode cX5_leftAt 38 = .ok (.getfield 81, 3) := by decide +kernel
theorem dX5_leftAt_41 : decode cX5_leftAt 41 = .ok (.iload_n 3, 1) := by decide +kernel
theorem dX5_leftAt_42 : decode cX5_leftAt 42 = .ok (.iaload, 1) := by decide +kernel
theorem dX5_leftAt_43 : decode cX5_leftAt 43 = .ok (.ifCond .eq 23, 3) := by decide +kernel
theorem dX5_leftAt_46 : decode cX5_leftAt 46 = .ok (.iload 4, 2) := by decide +kernel
theorem dX5_leftAt_48 : decode cX5_leftAt 48 = .ok (.ifCond .eq 18, 3) := by decide +kernel
theorem dX5_leftAt_51 : decode cX5_leftAt 51 = .ok (.iload_n 2, 1) := by decide +kernel
theorem dX5_leftAt_52 : decode cX5_leftAt 52 = .ok (.aload_n 0, 1) := by decide +kernel
theorem dX5_leftAt_53 : decode cX5_leftAt 53 = .ok (.iload_n 3, 1) := by decide +kernel
theorem dX5_leftAt_54 : decode cX5_leftAt 54 = .ok (.iconst 1, 1) := by decide +kernel
theorem dX5_leftAt_55 : decode cX5_leftAt 55 = .ok (.invokevirtual 123, 3) := by decide +kernel
theorem dX5_leftAt_58 : decode cX5_leftAt 58 = .ok (.iload 4, 2) := by decide +kernel
theorem dX5_leftAt_60 : decode cX5_leftAt 60 = .ok (.imul, 1) := by decide +kernel
theorem dX5_leftAt_61 : decode cX5_leftAt 61 = .ok (.bipush 10, 2) := by decide +kernel
theorem dX5_leftAt_63 : decode cX5_leftAt 63 = .ok (.idiv, 1) := by decide +kernel
theorem dX5_leftAt_64 : decode cX5_leftAt 64 = .ok (.iadd, 1) := by decide +kernel
theorem dX5_leftAt_65 : decode cX5_leftAt 65 = .ok (.istore_n 2, 1) := by decide +kernel
theorem dX5_leftAt_66 : decode cX5_leftAt 66 = .ok (.iinc 3 1, 3) := by decide +kernel
theorem dX5_leftAt_69 : decode cX5_leftAt 69 = .ok (.goto (-65), 3) := by decide +kernel
theorem dX5_leftAt_72 : decode cX5_leftAt 72 = .ok (.iload_n 2, 1) := by decide +kernel
theorem dX5_leftAt_73 : decode cX5_leftAt 73 = .ok (.ireturn, 1) := by decide +kernel
theorem dX5_bestShown_0 : decode cX5_bestShown 0 = .ok (.aload_n 0, 1) := by decide +kernel
theorem dX5_bestShown_1 : decode cX5_bestShown 1 = .ok (.getfield 12, 3) := by decide +kernel
theorem dX5_bestShown_4 : decode cX5_bestShown 4 = .ok (.invokevirtual 126, 3) := by decide +kernel
theorem dX5_bestShown_7 : decode cX5_bestShown 7 = .ok (.istore_n 1, 1) := by decide +kernel
theorem dX5_bestShown_8 : decode cX5_bestShown 8 = .ok (.iload_n 1, 1) := by decide +kernel
theorem dX5_bestShown_9 : decode cX5_bestShown 9 = .ok (.iconst (-1), 1) := by decide +kernel
theorem dX5_bestShown_10 : decode cX5_bestShown 10 = .ok (.if_icmp .eq 9, 3) := by decide +kernel
theorem dX5_bestShown_13 : decode cX5_bestShown 13 = .ok (.iload_n 1, 1) := by decide +kernel
theorem dX5_bestShown_14 : decode cX5_bestShown 14 = .ok (.bipush 15, 2) := by decide +kernel
theorem dX5_bestShown_16 : decode cX5_bestShown 16 = .ok (.if_icmp .ne 6, 3) := by decide +kernel
theorem dX5_bestShown_19 : decode cX5_bestShown 19 = .ok (.bipush (-4), 2) := by decide +kernel
theorem dX5_bestShown_21 : decode cX5_bestShown 21 = .ok (.ireturn, 1) := by decide +kernel
theorem dX5_bestShown_22 : decode cX5_bestShown 22 = .ok (.iload_n 1, 1) := by decide +kernel
theorem dX5_bestShown_23 : decode cX5_bestShown 23 = .ok (.iconst 1, 1) := by decide +kernel
theorem dX5_bestShown_24 : decode cX5_bestShown 24 = .ok (.iadd, 1) := by decide +kernel
theorem dX5_bestShown_25 : decode cX5_bestShown 25 = .ok (.istore_n 2, 1) := by decide +kernel
theorem dX5_bestShown_26 : decode cX5_bestShown 26 = .ok (.aload_n 0, 1) := by decide +kernel
theorem dX5_bestShown_27 : decode cX5_bestShown 27 = .ok (.iload_n 2, 1) := by decide +kernel
theorem dX5_bestShown_28 : decode cX5_bestShown 28 = .ok (.invokevirtual 130, 3) := by decide +kernel
theorem dX5_bestShown_31 : decode cX5_bestShown 31 = .ok (.istore_n 3, 1) := by decide +kernel
theorem dX5_bestShown_32 : decode cX5_bestShown 32 = .ok (.iload_n 1, 1) := by decide +kernel
theorem dX5_bestShown_33 : decode cX5_bestShown 33 = .ok (.iconst 2, 1) := by decide +kernel
theorem dX5_bestShown_34 : decode cX5_bestShown 34 = .ok (.iadd, 1) := by decide +kernel
theorem dX5_bestShown_35 : decode cX5_bestShown 35 = .ok (.istore 4, 2) := by decide +kernel
theorem dX5_bestShown_37 : decode cX5_bestShown 37 = .ok (.iload 4, 2) := by decide +kernel
theorem dX5_bestShown_39 : decode cX5_bestShown 39 = .ok (.bipush 16, 2) := by decide +kernel
theorem dX5_bestShown_41 : decode cX5_bestShown 41 = .ok (.if_icmp .ge 29, 3) := by decide +kernel
theorem dX5_bestShown_44 : decode cX5_bestShown 44 = .ok (.aload_n 0, 1) := by decide +kernel
theorem dX5_bestShown_45 : decode cX5_bestShown 45 = .ok (.iload 4, 2) := by decide +kernel
theorem dX5_bestShown_47 : decode cX5_bestShown 47 = .ok (.invokevirtual 130, 3) := by decide +kernel
theorem dX5_bestShown_50 : decode cX5_bestShown 50 = .ok (.istore 5, 2) := by decide +kernel
theorem dX5_bestShown_52 : decode cX5_bestShown 52 = .ok (.iload 5, 2) := by decide +kernel
theorem dX5_bestShown_54 : decode cX5_bestShown 54 = .ok (.iload_n 3, 1) := by decide +kernel
theorem dX5_bestShown_55 : decode cX5_bestShown 55 = .ok (.if_icmp .ge 9, 3) := by decide +kernel
theorem dX5_bestShown_58 : decode cX5_bestShown 58 = .ok (.iload 5, 2) := by decide +kernel
theorem dX5_bestShown_60 : decode cX5_bestShown 60 = .ok (.istore_n 3, 1) := by decide +kernel
theorem dX5_bestShown_61 : decode cX5_bestShown 61 = .ok (.iload 4, 2) := by decide +kernel
theorem dX5_bestShown_63 : decode cX5_bestShown 63 = .ok (.istore_n 2, 1) := by decide +kernel
theorem dX5_bestShown_64 : decode cX5_bestShown 64 = .ok (.iinc 4 1, 3) := by decide +kernel
theorem dX5_bestShown_67 : decode cX5_bestShown 67 = .ok (.goto (-30), 3) := by decide +kernel
theorem dX5_bestShown_70 : decode cX5_bestShown 70 = .ok (.iload_n 2, 1) := by decide +kernel
theorem dX5_bestShown_71 : decode cX5_bestShown 71 = .ok (.ireturn, 1) := by decide +kernel
theorem dX5_pointsWhereDrawnMost_0 : decode cX5_pointsWhereDrawnMost 0 = .ok (.iconst 0, 1) := by decide +kernel
theorem dX5_pointsWhereDrawnMost_1 : decode cX5_pointsWhereDrawnMost 1 = .ok (.istore_n 1, 1) := by decide +kernel
theorem dX5_pointsWhereDrawnMost_2 : decode cX5_pointsWhereDrawnMost 2 = .ok (.iconst 0, 1) := by decide +kernel
theorem dX5_pointsWhereDrawnMost_3 : decode cX5_pointsWhereDrawnMost 3 = .ok (.istore_n 2, 1) := by decide +kernel
theorem dX5_pointsWhereDrawnMost_4 : decode cX5_pointsWhereDrawnMost 4 = .ok (.iload_n 2, 1) := by decide +kernel
theorem dX5_pointsWhereDrawnMost_5 : decode cX5_pointsWhereDrawnMost 5 = .ok (.aload_n 0, 1) := by decide +kernel
theorem dX5_pointsWhereDrawnMost_6 : decode cX5_pointsWhereDrawnMost 6 = .ok (.getfield 35, 3) := by decide +kernel
theorem dX5_pointsWhereDrawnMost_9 : decode cX5_pointsWhereDrawnMost 9 = .ok (.getfield 134, 3) := by decide +kernel
theorem dX5_pointsWhereDrawnMost_12 : decode cX5_pointsWhereDrawnMost 12 = .ok (.if_icmp .ge 75, 3) := by decide +kernel
theorem dX5_pointsWhereDrawnMost_15 : decode cX5_pointsWhereDrawnMost 15 = .ok (.aload_n 0, 1) := by decide +kernel
theorem dX5_pointsWhereDrawnMost_16 : decode cX5_pointsWhereDrawnMost 16 = .ok (.iconst 0, 1) := by decide +kernel
theorem dX5_pointsWhereDrawnMost_17 : decode cX5_pointsWhereDrawnMost 17 = .ok (.iconst 0, 1) := by decide +kernel
theorem dX5_pointsWhereDrawnMost_18 : decode cX5_pointsWhereDrawnMost 18 = .ok (.aload_n 0, 1) := by decide +kernel
theorem dX5_pointsWhereDrawnMost_19 : decode cX5_pointsWhereDrawnMost 19 = .ok (.getfield 35, 3) := by decide +kernel
theorem dX5_pointsWhereDrawnMost_22 : decode cX5_pointsWhereDrawnMost 22 = .ok (.getfield 135, 3) := by decide +kernel
theorem dX5_pointsWhereDrawnMost_25 : decode cX5_pointsWhereDrawnMost 25 = .ok (.iload_n 2, 1) := by decide +kernel
theorem dX5_pointsWhereDrawnMost_26 : decode cX5_pointsWhereDrawnMost 26 = .ok (.iaload, 1) := by decide +kernel
theorem dX5_pointsWhereDrawnMost_27 : decode cX5_pointsWhereDrawnMost 27 = .ok (.iconst 1, 1) := by decide +kernel
theorem dX5_pointsWhereDrawnMost_28 : decode cX5_pointsWhereDrawnMost 28 = .ok (.invokevirtual 90, 3) := by decide +kernel
theorem dX5_pointsWhereDrawnMost_31 : decode cX5_pointsWhereDrawnMost 31 = .ok (.iconst 0, 1) := by decide +kernel
theorem dX5_pointsWhereDrawnMost_32 : decode cX5_pointsWhereDrawnMost 32 = .ok (.istore_n 3, 1) := by decide +kernel
theorem dX5_pointsWhereDrawnMost_33 : decode cX5_pointsWhereDrawnMost 33 = .ok (.iconst 0, 1) := by decide +kernel
theorem dX5_pointsWhereDrawnMost_34 : decode cX5_pointsWhereDrawnMost 34 = .ok (.istore 4, 2) := by decide +kernel
theorem dX5_pointsWhereDrawnMost_36 : decode cX5_pointsWhereDrawnMost 36 = .ok (.iload 4, 2) := by decide +kernel
theorem dX5_pointsWhereDrawnMost_38 : decode cX5_pointsWhereDrawnMost 38 = .ok (.iconst 4, 1) := by decide +kernel
theorem dX5_pointsWhereDrawnMost_39 : decode cX5_pointsWhereDrawnMost 39 = .ok (.if_icmp .ge 21, 3) := by decide +kernel
theorem dX5_pointsWhereDrawnMost_42 : decode cX5_pointsWhereDrawnMost 42 = .ok (.iload_n 3, 1) := by decide +kernel
theorem dX5_pointsWhereDrawnMost_43 : decode cX5_pointsWhereDrawnMost 43 = .ok (.aload_n 0, 1) := by decide +kernel
theorem dX5_pointsWhereDrawnMost_44 : decode cX5_pointsWhereDrawnMost 44 = .ok (.getfield 47, 3) := by decide +kernel
theorem dX5_pointsWhereDrawnMost_47 : decode cX5_pointsWhereDrawnMost 47 = .ok (.iload 4, 2) := by decide +kernel
theorem dX5_pointsWhereDrawnMost_49 : decode cX5_pointsWhereDrawnMost 49 = .ok (.iaload, 1) := by decide +kernel
theorem dX5_pointsWhereDrawnMost_50 : decode cX5_pointsWhereDrawnMost 50 = .ok (.invokestatic 97, 3) := by decide +kernel
theorem dX5_pointsWhereDrawnMost_53 : decode cX5_pointsWhereDrawnMost 53 = .ok (.istore_n 3, 1) := by decide +kernel
theorem dX5_pointsWhereDrawnMost_54 : decode cX5_pointsWhereDrawnMost 54 = .ok (.iinc 4 1, 3) := by decide +kernel
theorem dX5_pointsWhereDrawnMost_57 : decode cX5_pointsWhereDrawnMost 57 = .ok (.goto (-21), 3) := by decide +kernel
theorem dX5_pointsWhereDrawnMost_60 : decode cX5_pointsWhereDrawnMost 60 = .ok (.aload_n 0, 1) := by decide +kernel
theorem dX5_pointsWhereDrawnMost_61 : decode cX5_pointsWhereDrawnMost 61 = .ok (.getfield 47, 3) := by decide +kernel
theorem dX5_pointsWhereDrawnMost_64 : decode cX5_pointsWhereDrawnMost 64 = .ok (.aload_n 0, 1) := by decide +kernel
theorem dX5_pointsWhereDrawnMost_65 : decode cX5_pointsWhereDrawnMost 65 = .ok (.getfield 35, 3) := by decide +kernel
theorem dX5_pointsWhereDrawnMost_68 : decode cX5_pointsWhereDrawnMost 68 = .ok (.getfield 138, 3) := by decide +kernel
theorem dX5_pointsWhereDrawnMost_71 : decode cX5_pointsWhereDrawnMost 71 = .ok (.iload_n 2, 1) := by decide +kernel
theorem dX5_pointsWhereDrawnMost_72 : decode cX5_pointsWhereDrawnMost 72 = .ok (.iaload, 1) := by decide +kernel
theorem dX5_pointsWhereDrawnMost_73 : decode cX5_pointsWhereDrawnMost 73 = .ok (.iaload, 1) := by decide +kernel
theorem dX5_pointsWhereDrawnMost_74 : decode cX5_pointsWhereDrawnMost 74 = .ok (.iload_n 3, 1) := by decide +kernel
theorem dX5_pointsWhereDrawnMost_75 : decode cX5_pointsWhereDrawnMost 75 = .ok (.if_icmp .ne 6, 3) := by decide +kernel
theorem dX5_pointsWhereDrawnMost_78 : decode cX5_pointsWhereDrawnMost 78 = .ok (.iinc 1 1, 3) := by decide +kernel
theorem dX5_pointsWhereDrawnMost_81 : decode cX5_pointsWhereDrawnMost 81 = .ok (.iinc 2 1, 3) := by decide +kernel
theorem dX5_pointsWhereDrawnMost_84 : decode cX5_pointsWhereDrawnMost 84 = .ok (.goto (-80), 3) := by decide +kernel
theorem dX5_pointsWhereDrawnMost_87 : decode cX5_pointsWhereDrawnMost 87 = .ok (.iload_n 1, 1) := by decide +kernel
theorem dX5_pointsWhereDrawnMost_88 : decode cX5_pointsWhereDrawnMost 88 = .ok (.ireturn, 1) := by decide +kernel
theorem dX6_init_0 : decode cX6_init 0 = .ok (.aload_n 0, 1) := by decide +kernel
theorem dX6_init_1 : decode cX6_init 1 = .ok (.invokespecial 3, 3) := by decide +kernel
theorem dX6_init_4 : decode cX6_init 4 = .ok (.aload_n 0, 1) := by decide +kernel
theorem dX6_init_5 : decode cX6_init 5 = .ok (.bipush 100, 2) := by decide +kernel
theorem dX6_init_7 : decode cX6_init 7 = .ok (.newarray .int, 2) := by decide +kernel
theorem dX6_init_9 : decode cX6_init 9 = .ok (.putfield 9, 3) := by decide +kernel
theorem dX6_init_12 : decode cX6_init 12 = .ok (.return_, 1) := by decide +kernel
theorem dX6_isWritable_0 : decode cX6_isWritable 0 = .ok (.iconst 0, 1) := by decide +kernel
theorem dX6_isWritable_1 : decode cX6_isWritable 1 = .ok (.istore_n 3, 1) := by decide +kernel
theorem dX6_isWritable_2 : decode cX6_isWritable 2 = .ok (.iload_n 3, 1) := by decide +kernel
theorem dX6_isWritable_3 : decode cX6_isWritable 3 = .ok (.iload_n 2, 1) := by decide +kernel
theorem dX6_isWritable_4 : decode cX6_isWritable 4 = .ok (.if_icmp .ge 32, 3) := by decide +kernel
theorem dX6_isWritable_7 : decode cX6_isWritable 7 = .ok (.lload_n 0, 1) := by decide +kernel
theorem dX6_isWritable_8 : decode cX6_isWritable 8 = .ok (.iload_n 3, 1) := by decide +kernel
theorem dX6_isWritable_9 : decode cX6_isWritable 9 = .ok (.invokestatic 15, 3) := by decide +kernel
theorem dX6_isWritable_12 : decode cX6_isWritable 12 = .ok (.istore 4, 2) := by decide +kernel
theorem dX6_isWritable_14 : decode cX6_isWritable 14 = .ok (.iload 4, 2) := by decide +kernel
theorem dX6_isWritable_16 : decode cX6_isWritable 16 = .ok (.bipush 32, 2) := by decide +kernel
theorem dX6_isWritable_18 : decode cX6_isWritable 18 = .ok (.if_icmp .lt 10, 3) := by decide +kernel
theorem dX6_isWritable_21 : decode cX6_isWritable 21 = .ok (.iload 4, 2) := by decide +kernel
theorem dX6_isWritable_23 : decode cX6_isWritable 23 = .ok (.bipush 126, 2) := by decide +kernel
theorem dX6_isWritable_25 : decode cX6_isWritable 25 = .ok (.if_icmp .le 5, 3) := by decide +kernel
theorem dX6_isWritable_28 : decode cX6_isWritable 28 = .ok (.iconst 0, 1) := by decide +kernel
theorem dX6_isWritable_29 : decode cX6_isWritable 29 = .ok (.ireturn, 1) := by decide +kernel
theorem dX6_isWritable_30 : decode cX6_isWritable 30 = .ok (.iinc 3 1, 3) := by decide +kernel
theorem dX6_isWritable_33 : decode cX6_isWritable 33 = .ok (.goto (-31), 3) := by decide +kernel
theorem dX6_isWritable_36 : decode cX6_isWritable 36 = .ok (.iconst 1, 1) := by decide +kernel
theorem dX6_isWritable_37 : decode cX6_isWritable 37 = .ok (.ireturn, 1) := by decide +kernel
theorem dX6_byteOf_0 : decode cX6_byteOf 0 = .ok (.lload_n 0, 1) := by decide +kernel
theorem dX6_byteOf_1 : decode cX6_byteOf 1 = .ok (.bipush 8, 2) := by decide +kernel
theorem dX6_byteOf_3 : decode cX6_byteOf 3 = .ok (.iload_n 2, 1) := by decide +kernel
theorem dX6_byteOf_4 : decode cX6_byteOf 4 = .ok (.imul, 1) := by decide +kernel
theorem dX6_byteOf_5 : decode cX6_byteOf 5 = .ok (.lshr, 1) := by decide +kernel
theorem dX6_byteOf_6 : decode cX6_byteOf 6 = .ok (.ldc2_w 19, 3) := by decide +kernel
theorem dX6_byteOf_9 : decode cX6_byteOf 9 = .ok (.land, 1) := by decide +kernel
theorem dX6_byteOf_10 : decode cX6_byteOf 10 = .ok (.l2i, 1) := by decide +kernel
theorem dX6_byteOf_11 : decode cX6_byteOf 11 = .ok (.ireturn, 1) := by decide +kernel
theorem dX6_write_0 : decode cX6_write 0 = .ok (.iload_n 3, 1) := by decide +kernel
theorem dX6_write_1 : decode cX6_write 1 = .ok (.iconst 1, 1) := by decide +kernel
theorem dX6_write_2 : decode cX6_write 2 = .ok (.isub, 1) := by decide +kernel
theorem dX6_write_3 : decode cX6_write 3 = .ok (.istore 4, 2) := by decide +kernel
theorem dX6_write_5 : decode cX6_write 5 = .ok (.iload 4, 2) := by decide +kernel
theorem dX6_write_7 : decode cX6_write 7 = .ok (.ifCond .lt 43, 3) := by decide +kernel
theorem dX6_write_10 : decode cX6_write 10 = .ok (.aload_n 0, 1) := by decide +kernel
theorem dX6_write_11 : decode cX6_write 11 = .ok (.getfield 21, 3) := by decide +kernel
theorem dX6_write_14 : decode cX6_write 14 = .ok (.bipush 100, 2) := by decide +kernel
theorem dX6_write_16 : decode cX6_write 16 = .ok (.if_icmp .ge 34, 3) := by decide +kernel
theorem dX6_write_19 : decode cX6_write 19 = .ok (.aload_n 0, 1) := by decide +kernel
theorem dX6_write_20 : decode cX6_write 20 = .ok (.getfield 9, 3) := by decide +kernel
theorem dX6_write_23 : decode cX6_write 23 = .ok (.aload_n 0, 1) := by decide +kernel
theorem dX6_write_24 : decode cX6_write 24 = .ok (.getfield 21, 3) := by decide +kernel
theorem dX6_write_27 : decode cX6_write 27 = .ok (.lload_n 1, 1) := by decide +kernel
theorem dX6_write_28 : decode cX6_write 28 = .ok (.iload 4, 2) := by decide +kernel
theorem dX6_write_30 : decode cX6_write 30 = .ok (.invokestatic 15, 3) := by decide +kernel
theorem dX6_write_33 : decode cX6_write 33 = .ok (.iastore, 1) := by decide +kernel
theorem dX6_write_34 : decode cX6_write 34 = .ok (.aload_n 0, 1) := by decide +kernel
theorem dX6_write_35 : decode cX6_write 35 = .ok (.dup, 1) := by decide +kernel
theorem dX6_write_36 : decode cX6_write 36 = .ok (.getfield 21, 3) := by decide +kernel
theorem dX6_write_39 : decode cX6_write 39 = .ok (.iconst 1, 1) := by decide +kernel
theorem dX6_write_40 : decode cX6_write 40 = .ok (.iadd, 1) := by decide +kernel
theorem dX6_write_41 : decode cX6_write 41 = .ok (.putfield 21, 3) := by decide +kernel
theorem dX6_write_44 : decode cX6_write 44 = .ok (.iinc 4 (-1), 3) := by decide +kernel
theorem dX6_write_47 : decode cX6_write 47 = .ok (.goto (-42), 3) := by decide +kernel
theorem dX6_write_50 : decode cX6_write 50 = .ok (.return_, 1) := by decide +kernel
theorem dX6_readRoutine_0 : decode cX6_readRoutine 0 = .ok (.aload_n 0, 1) := by decide +kernel
theorem dX6_readRoutine_1 : decode cX6_readRoutine 1 = .ok (.invokevirtual 25, 3) := by decide +kernel
theorem dX6_readRoutine_4 : decode cX6_readRoutine 4 = .ok (.iconst 0, 1) := by decide +kernel
theorem dX6_readRoutine_5 : decode cX6_readRoutine 5 = .ok (.istore_n 2, 1) := by decide +kernel
theorem dX6_readRoutine_6 : decode cX6_readRoutine 6 = .ok (.aload_n 0, 1) := by decide +kernel
theorem dX6_readRoutine_7 : decode cX6_readRoutine 7 = .ok (.aload_n 1, 1) := by decide +kernel
theorem dX6_readRoutine_8 : decode cX6_readRoutine 8 = .ok (.invokevirtual 28, 3) := by decide +kernel
theorem dX6_readRoutine_11 : decode cX6_readRoutine 11 = .ok (.iinc 2 1, 3) := by decide +kernel
theorem dX6_readRoutine_14 : decode cX6_readRoutine 14 = .ok (.iload_n 2, 1) := by decide +kernel
theorem dX6_readRoutine_15 : decode cX6_readRoutine 15 = .ok (.bipush 8, 2) := by decide +kernel
theorem dX6_readRoutine_17 : decode cX6_readRoutine 17 = .ok (.if_icmp .ge 12, 3) := by decide +kernel
theorem dX6_readRoutine_20 : decode cX6_readRoutine 20 = .ok (.aload_n 0, 1) := by decide +kernel
theorem dX6_readRoutine_21 : decode cX6_readRoutine 21 = .ok (.bipush 59, 2) := by decide +kernel
theorem dX6_readRoutine_23 : decode cX6_readRoutine 23 = .ok (.invokevirtual 32, 3) := by decide +kernel
theorem dX6_readRoutine_26 : decode cX6_readRoutine 26 = .ok (.ifCond .ne (-20), 3) := by decide +kernel
theorem dX6_readRoutine_29 : decode cX6_readRoutine 29 = .ok (.aload_n 0, 1) := by decide +kernel
theorem dX6_readRoutine_30 : decode cX6_readRoutine 30 = .ok (.iload_n 2, 1) := by decide +kernel
theorem dX6_readRoutine_31 : decode cX6_readRoutine 31 = .ok (.invokevirtual 36, 3) := by decide +kernel
theorem dX6_readRoutine_34 : decode cX6_readRoutine 34 = .ok (.ireturn, 1) := by decide +kernel
theorem dX6_readHouse_0 : decode cX6_readHouse 0 = .ok (.aload_n 0, 1) := by decide +kernel
theorem dX6_readHouse_1 : decode cX6_readHouse 1 = .ok (.invokevirtual 25, 3) := by decide +kernel
theorem dX6_readHouse_4 : decode cX6_readHouse 4 = .ok (.iconst 0, 1) := by decide +kernel
theorem dX6_readHouse_5 : decode cX6_readHouse 5 = .ok (.istore_n 2, 1) := by decide +kernel
theorem dX6_readHouse_6 : decode cX6_readHouse 6 = .ok (.aload_n 0, 1) := by decide +kernel
theorem dX6_readHouse_7 : decode cX6_readHouse 7 = .ok (.aload_n 1, 1) := by decide +kernel
theorem dX6_readHouse_8 : decode cX6_readHouse 8 = .ok (.invokevirtual 40, 3) := by decide +kernel
theorem dX6_readHouse_11 : decode cX6_readHouse 11 = .ok (.iinc 2 1, 3) := by decide +kernel
theorem dX6_readHouse_14 : decode cX6_readHouse 14 = .ok (.iload_n 2, 1) := by decide +kernel
theorem dX6_readHouse_15 : decode cX6_readHouse 15 = .ok (.bipush 8, 2) := by decide +kernel
theorem dX6_readHouse_17 : decode cX6_readHouse 17 = .ok (.if_icmp .ge 12, 3) := by decide +kernel
theorem dX6_readHouse_20 : decode cX6_readHouse 20 = .ok (.aload_n 0, 1) := by decide +kernel
theorem dX6_readHouse_21 : decode cX6_readHouse 21 = .ok (.bipush 59, 2) := by decide +kernel
theorem dX6_readHouse_23 : decode cX6_readHouse 23 = .ok (.invokevirtual 32, 3) := by decide +kernel
theorem dX6_readHouse_26 : decode cX6_readHouse 26 = .ok (.ifCond .ne (-20), 3) := by decide +kernel
theorem dX6_readHouse_29 : decode cX6_readHouse 29 = .ok (.aload_n 0, 1) := by decide +kernel
theorem dX6_readHouse_30 : decode cX6_readHouse 30 = .ok (.iload_n 2, 1) := by decide +kernel
theorem dX6_readHouse_31 : decode cX6_readHouse 31 = .ok (.invokevirtual 36, 3) := by decide +kernel
theorem dX6_readHouse_34 : decode cX6_readHouse 34 = .ok (.ireturn, 1) := by decide +kernel
theorem dX6_rewind_0 : decode cX6_rewind 0 = .ok (.aload_n 0, 1) := by decide +kernel
theorem dX6_rewind_1 : decode cX6_rewind 1 = .ok (.iconst 0, 1) := by decide +kernel
theorem dX6_rewind_2 : decode cX6_rewind 2 = .ok (.putfield 44, 3) := by decide +kernel
theorem dX6_rewind_5 : decode cX6_rewind 5 = .ok (.aload_n 0, 1) := by decide +kernel
theorem dX6_rewind_6 : decode cX6_rewind 6 = .ok (.iconst 0, 1) := by decide +kernel
theorem dX6_rewind_7 : decode cX6_rewind 7 = .ok (.putfield 47, 3) := by decide +kernel
theorem dX6_rewind_10 : decode cX6_rewind 10 = .ok (.return_, 1) := by decide +kernel
theorem dX6_answer_0 : decode cX6_answer 0 = .ok (.aload_n 0, 1) := by decide +kernel
theorem dX6_answer_1 : decode cX6_answer 1 = .ok (.getfield 47, 3) := by decide +kernel
theorem dX6_answer_4 : decode cX6_answer 4 = .ok (.ifCond .ne 15, 3) := by decide +kernel
theorem dX6_answer_7 : decode cX6_answer 7 = .ok (.aload_n 0, 1) := by decide +kernel
theorem dX6_answer_8 : decode cX6_answer 8 = .ok (.invokevirtual 51, 3) := by decide +kernel
theorem dX6_answer_11 : decode cX6_answer 11 = .ok (.iconst (-1), 1) := by decide +kernel
theorem dX6_answer_12 : decode cX6_answer 12 = .ok (.if_icmp .ne 7, 3) := by decide +kernel
theorem dX6_answer_15 : decode cX6_answer 15 = .ok (.iload_n 1, 1) := by decide +kernel
theorem dX6_answer_16 : decode cX6_answer 16 = .ok (.goto 10, 3) := by decide +kernel
theorem dX6_answer_19 : decode cX6_answer 19 = .ok (.bipush (-20), 2) := by decide +kernel
theorem dX6_answer_21 : decode cX6_answer 21 = .ok (.aload_n 0, 1) := by decide +kernel
theorem dX6_answer_22 : decode cX6_answer 22 = .ok (.getfield 44, 3) := by decide +kernel
theorem dX6_answer_25 : decode cX6_answer 25 = .ok (.isub, 1) := by decide +kernel
theorem dX6_answer_26 : decode cX6_answer 26 = .ok (.ireturn, 1) := by decide +kernel
theorem dX6_readClause_0 : decode cX6_readClause 0 = .ok (.aload_n 0, 1) := by decide +kernel
theorem dX6_readClause_1 : decode cX6_readClause 1 = .ok (.bipush 16, 2) := by decide +kernel
theorem dX6_readClause_3 : decode cX6_readClause 3 = .ok (.invokevirtual 55, 3) := by decide +kernel
theorem dX6_readClause_6 : decode cX6_readClause 6 = .ok (.istore_n 2, 1) := by decide +kernel
theorem dX6_readClause_7 : decode cX6_readClause 7 = .ok (.aload_n 0, 1) := by decide +kernel
theorem dX6_readClause_8 : decode cX6_readClause 8 = .ok (.bipush 58, 2) := by decide +kernel
theorem dX6_readClause_10 : decode cX6_readClause 10 = .ok (.invokevirtual 32, 3) := by decide +kernel
theorem dX6_readClause_13 : decode cX6_readClause 13 = .ok (.ifCond .ne 9, 3) := by decide +kernel
theorem dX6_readClause_16 : decode cX6_readClause 16 = .ok (.aload_n 0, 1) := by decide +kernel
theorem dX6_readClause_17 : decode cX6_readClause 17 = .ok (.iconst 1, 1) := by decide +kernel
theorem dX6_readClause_18 : decode cX6_readClause 18 = .ok (.putfield 47, 3) := by decide +kernel
theorem dX6_readClause_21 : decode cX6_readClause 21 = .ok (.return_, 1) := by decide +kernel
theorem dX6_readClause_22 : decode cX6_readClause 22 = .ok (.aload_n 1, 1) := by decide +kernel
theorem dX6_readClause_23 : decode cX6_readClause 23 = .ok (.getfield 58, 3) := by decide +kernel
theorem dX6_readClause_26 : decode cX6_readClause 26 = .ok (.iload_n 2, 1) := by decide +kernel
theorem dX6_readClause_27 : decode cX6_readClause 27 = .ok (.aload_n 0, 1) := by decide +kernel
theorem dX6_readClause_28 : decode cX6_readClause 28 = .ok (.bipush 109, 2) := by decide +kernel
theorem dX6_readClause_30 : decode cX6_readClause 30 = .ok (.invokevirtual 32, 3) := by decide +kernel
theorem dX6_readClause_33 : decode cX6_readClause 33 = .ok (.ifCond .eq 10, 3) := by decide +kernel
theorem dX6_readClause_36 : decode cX6_readClause 36 = .ok (.aload_n 0, 1) := by decide +kernel
theorem dX6_readClause_37 : decode cX6_readClause 37 = .ok (.invokevirtual 63, 3) := by decide +kernel
theorem dX6_readClause_40 : decode cX6_readClause 40 = .ok (.goto 4, 3) := by decide +kernel
theorem dX6_readClause_43 : decode cX6_readClause 43 = .ok (.iconst 0, 1) := by decide +kernel
theorem dX6_readClause_44 : decode cX6_readClause 44 = .ok (.iastore, 1) := by decide +kernel
theorem dX6_readClause_45 : decode cX6_readClause 45 = .ok (.aload_n 1, 1) := by decide +kernel
theorem dX6_readClause_46 : decode cX6_readClause 46 = .ok (.getfield 66, 3) := by decide +kernel
theorem dX6_readClause_49 : decode cX6_readClause 49 = .ok (.iload_n 2, 1) := by decide +kernel
theorem dX6_readClause_50 : decode cX6_readClause 50 = .ok (.aload_n 0, 1) := by decide +kernel
theorem dX6_readClause_51 : decode cX6_readClause 51 = .ok (.bipush 108, 2) := by decide +kernel
theorem dX6_readClause_53 : decode cX6_readClause 53 = .ok (.invokevirtual 32, 3) := by decide +kernel
theorem dX6_readClause_56 : decode cX6_readClause 56 = .ok (.ifCond .eq 14, 3) := by decide +kernel
theorem dX6_readClause_59 : decode cX6_readClause 59 = .ok (.iconst 1, 1) := by decide +kernel
theorem dX6_readClause_60 : decode cX6_readClause 60 = .ok (.aload_n 0, 1) := by decide +kernel
theorem dX6_readClause_61 : decode cX6_readClause 61 = .ok (.iconst 0, 1) := by decide +kernel
theorem dX6_readClause_62 : decode cX6_readClause 62 = .ok (.iconst 4, 1) := by decide +kernel
theorem dX6_readClause_63 : decode cX6_readClause 63 = .ok (.invokevirtual 69, 3) := by decide +kernel
theorem dX6_readClause_66 : decode cX6_readClause 66 = .ok (.iadd, 1) := by decide +kernel
theorem dX6_readClause_67 : decode cX6_readClause 67 = .ok (.goto 4, 3) := by decide +kernel
theorem dX6_readClause_70 : decode cX6_readClause 70 = .ok (.iconst 0, 1) := by decide +kernel
theorem dX6_readClause_71 : decode cX6_readClause 71 = .ok (.iastore, 1) := by decide +kernel
theorem dX6_readClause_72 : decode cX6_readClause 72 = .ok (.aload_n 1, 1) := by decide +kernel
theorem dX6_readClause_73 : decode cX6_readClause 73 = .ok (.getfield 73, 3) := by decide +kernel
theorem dX6_readClause_76 : decode cX6_readClause 76 = .ok (.iload_n 2, 1) := by decide +kernel
theorem dX6_readClause_77 : decode cX6_readClause 77 = .ok (.aload_n 0, 1) := by decide +kernel
theorem dX6_readClause_78 : decode cX6_readClause 78 = .ok (.bipush 110, 2) := by decide +kernel
theorem dX6_readClause_80 : decode cX6_readClause 80 = .ok (.invokevirtual 32, 3) := by decide +kernel
theorem dX6_readClause_83 : decode cX6_readClause 83 = .ok (.ifCond .eq 14, 3) := by decide +kernel
theorem dX6_readClause_86 : decode cX6_readClause 86 = .ok (.iconst 1, 1) := by decide +kernel
theorem dX6_readClause_87 : decode cX6_readClause 87 = .ok (.aload_n 0, 1) := by decide +kernel
theorem dX6_readClause_88 : decode cX6_readClause 88 = .ok (.iconst 0, 1) := by decide +kernel
theorem dX6_readClause_89 : decode cX6_readClause 89 = .ok (.iconst 4, 1) := by decide +kernel
theorem dX6_readClause_90 : decode cX6_readClause 90 = .ok (.invokevirtual 69, 3) := by decide +kernel
theorem dX6_readClause_93 : decode cX6_readClause 93 = .ok (.iadd, 1) := by decide +kernel
theorem dX6_readClause_94 : decode cX6_readClause 94 = .ok (.goto 4, 3) := by decide +kernel
theorem dX6_readClause_97 : decode cX6_readClause 97 = .ok (.iconst 0, 1) := by decide +kernel
theorem dX6_readClause_98 : decode cX6_readClause 98 = .ok (.iastore, 1) := by decide +kernel
theorem dX6_readClause_99 : decode cX6_readClause 99 = .ok (.aload_n 1, 1) := by decide +kernel
theorem dX6_readClause_100 : decode cX6_readClause 100 = .ok (.getfield 76, 3) := by decide +kernel
theorem dX6_readClause_103 : decode cX6_readClause 103 = .ok (.iload_n 2, 1) := by decide +kernel
theorem dX6_readClause_104 : decode cX6_readClause 104 = .ok (.aload_n 0, 1) := by decide +kernel
theorem dX6_readClause_105 : decode cX6_readClause 105 = .ok (.bipush 106, 2) := by decide +kernel
theorem dX6_readClause_107 : decode cX6_readClause 107 = .ok (.invokevirtual 32, 3) := by decide +kernel
theorem dX6_readClause_110 : decode cX6_readClause 110 = .ok (.ifCond .eq 7, 3) := by decide +kernel
theorem dX6_readClause_113 : decode cX6_readClause 113 = .ok (.iconst 1, 1) := by decide +kernel
theorem dX6_readClause_114 : decode cX6_readClause 114 = .ok (.goto 4, 3) := by decide +kernel
theorem dX6_readClause_117 : decode cX6_readClause 117 = .ok (.iconst 0, 1) := by decide +kernel
theorem dX6_readClause_118 : decode cX6_readClause 118 = .ok (.iastore, 1) := by decide +kernel
theorem dX6_readClause_119 : decode cX6_readClause 119 = .ok (.aload_n 1, 1) := by decide +kernel
theorem dX6_readClause_120 : decode cX6_readClause 120 = .ok (.getfield 79, 3) := by decide +kernel
theorem dX6_readClause_123 : decode cX6_readClause 123 = .ok (.iload_n 2, 1) := by decide +kernel
theorem dX6_readClause_124 : decode cX6_readClause 124 = .ok (.aload_n 0, 1) := by decide +kernel
theorem dX6_readClause_125 : decode cX6_readClause 125 = .ok (.bipush 120, 2) := by decide +kernel
theorem dX6_readClause_127 : decode cX6_readClause 127 = .ok (.invokevirtual 32, 3) := by decide +kernel
theorem dX6_readClause_130 : decode cX6_readClause 130 = .ok (.ifCond .eq 10, 3) := by decide +kernel
theorem dX6_readClause_133 : decode cX6_readClause 133 = .ok (.aload_n 0, 1) := by decide +kernel
theorem dX6_readClause_134 : decode cX6_readClause 134 = .ok (.invokevirtual 63, 3) := by decide +kernel
theorem dX6_readClause_137 : decode cX6_readClause 137 = .ok (.goto 4, 3) := by decide +kernel
theorem dX6_readClause_140 : decode cX6_readClause 140 = .ok (.iconst 0, 1) := by decide +kernel
theorem dX6_readClause_141 : decode cX6_readClause 141 = .ok (.iastore, 1) := by decide +kernel
theorem dX6_readClause_142 : decode cX6_readClause 142 = .ok (.return_, 1) := by decide +kernel
theorem dX6_readWatcher_0 : decode cX6_readWatcher 0 = .ok (.aload_n 0, 1) := by decide +kernel
theorem dX6_readWatcher_1 : decode cX6_readWatcher 1 = .ok (.invokevirtual 51, 3) := by decide +kernel
theorem dX6_readWatcher_4 : decode cX6_readWatcher 4 = .ok (.pop, 1) := by decide +kernel
theorem dX6_readWatcher_5 : decode cX6_readWatcher 5 = .ok (.aload_n 0, 1) := by decide +kernel
theorem dX6_readWatcher_6 : decode cX6_readWatcher 6 = .ok (.getfield 44, 3) := by decide +kernel
theorem dX6_readWatcher_9 : decode cX6_readWatcher 9 = .ok (.istore_n 2, 1) := by decide +kernel
theorem dX6_readWatcher_10 : decode cX6_readWatcher 10 = .ok (.aload_n 0, 1) := by decide +kernel
theorem dX6_readWatcher_11 : decode cX6_readWatcher 11 = .ok (.bipush 12, 2) := by decide +kernel
theorem dX6_readWatcher_13 : decode cX6_readWatcher 13 = .ok (.invokevirtual 55, 3) := by decide +kernel
theorem dX6_readWatcher_16 : decode cX6_readWatcher 16 = .ok (.istore_n 3, 1) := by decide +kernel
theorem dX6_readWatcher_17 : decode cX6_readWatcher 17 = .ok (.aload_n 0, 1) := by decide +kernel
theorem dX6_readWatcher_18 : decode cX6_readWatcher 18 = .ok (.getfield 47, 3) := by decide +kernel
theorem dX6_readWatcher_21 : decode cX6_readWatcher 21 = .ok (.ifCond .ne 21, 3) := by decide +kernel
theorem dX6_readWatcher_24 : decode cX6_readWatcher 24 = .ok (.aload_n 1, 1) := by decide +kernel
theorem dX6_readWatcher_25 : decode cX6_readWatcher 25 = .ok (.iload_n 3, 1) := by decide +kernel
theorem dX6_readWatcher_26 : decode cX6_readWatcher 26 = .ok (.invokevirtual 82, 3) := by decide +kernel
theorem dX6_readWatcher_29 : decode cX6_readWatcher 29 = .ok (.ifCond .eq 13, 3) := by decide +kernel
theorem dX6_readWatcher_32 : decode cX6_readWatcher 32 = .ok (.aload_n 0, 1) := by decide +kernel
theorem dX6_readWatcher_33 : decode cX6_readWatcher 33 = .ok (.iload_n 2, 1) := by decide +kernel
theorem dX6_readWatcher_34 : decode cX6_readWatcher 34 = .ok (.putfield 44, 3) := by decide +kernel
theorem dX6_readWatcher_37 : decode cX6_readWatcher 37 = .ok (.aload_n 0, 1) := by decide +kernel
theorem dX6_readWatcher_38 : decode cX6_readWatcher 38 = .ok (.iconst 1, 1) := by decide +kernel
theorem dX6_readWatcher_39 : decode cX6_readWatcher 39 = .ok (.putfield 47, 3) := by decide +kernel
theorem dX6_readWatcher_42 : decode cX6_readWatcher 42 = .ok (.iconst 0, 1) := by decide +kernel
theorem dX6_readWatcher_43 : decode cX6_readWatcher 43 = .ok (.istore 4, 2) := by decide +kernel
theorem dX6_readWatcher_45 : decode cX6_readWatcher 45 = .ok (.iload 4, 2) := by decide +kernel
theorem dX6_readWatcher_47 : decode cX6_readWatcher 47 = .ok (.iconst 4, 1) := by decide +kernel
theorem dX6_readWatcher_48 : decode cX6_readWatcher 48 = .ok (.if_icmp .ge 30, 3) := by decide +kernel
theorem dX6_readWatcher_51 : decode cX6_readWatcher 51 = .ok (.aload_n 0, 1) := by decide +kernel
theorem dX6_readWatcher_52 : decode cX6_readWatcher 52 = .ok (.getstatic 88, 3) := by decide +kernel
theorem dX6_readWatcher_55 : decode cX6_readWatcher 55 = .ok (.iload 4, 2) := by decide +kernel
theorem dX6_readWatcher_57 : decode cX6_readWatcher 57 = .ok (.caload, 1) := by decide +kernel
theorem dX6_readWatcher_58 : decode cX6_readWatcher 58 = .ok (.invokevirtual 32, 3) := by decide +kernel
theorem dX6_readWatcher_61 : decode cX6_readWatcher 61 = .ok (.ifCond .eq 11, 3) := by decide +kernel
theorem dX6_readWatcher_64 : decode cX6_readWatcher 64 = .ok (.aload_n 1, 1) := by decide +kernel
theorem dX6_readWatcher_65 : decode cX6_readWatcher 65 = .ok (.iload_n 3, 1) := by decide +kernel
theorem dX6_readWatcher_66 : decode cX6_readWatcher 66 = .ok (.iload 4, 2) := by decide +kernel
theorem dX6_readWatcher_68 : decode cX6_readWatcher 68 = .ok (.invokevirtual 92, 3) := by decide +kernel
theorem dX6_readWatcher_71 : decode cX6_readWatcher 71 = .ok (.return_, 1) := by decide +kernel
theorem dX6_readWatcher_72 : decode cX6_readWatcher 72 = .ok (.iinc 4 1, 3) := by decide +kernel
theorem dX6_readWatcher_75 : decode cX6_readWatcher 75 = .ok (.goto (-30), 3) := by decide +kernel
theorem dX6_readWatcher_78 : decode cX6_readWatcher 78 = .ok (.aload_n 0, 1) := by decide +kernel
theorem dX6_readWatcher_79 : decode cX6_readWatcher 79 = .ok (.iconst 1, 1) := by decide +kernel
theorem dX6_readWatcher_80 : decode cX6_readWatcher 80 = .ok (.putfield 47, 3) := by decide +kernel
theorem dX6_readWatcher_83 : decode cX6_readWatcher 83 = .ok (.return_, 1) := by decide +kernel
theorem dX6_placeAndSize_0 : decode cX6_placeAndSize 0 = .ok (.aload_n 0, 1) := by decide +kernel
theorem dX6_placeAndSize_1 : decode cX6_placeAndSize 1 = .ok (.iconst 0, 1) := by decide +kernel
theorem dX6_placeAndSize_2 : decode cX6_placeAndSize 2 = .ok (.iconst 4, 1) := by decide +kernel
theorem dX6_placeAndSize_3 : decode cX6_placeAndSize 3 = .ok (.invokevirtual 69, 3) := by decide +kernel
theorem dX6_placeAndSize_6 : decode cX6_placeAndSize 6 = .ok (.istore_n 1, 1) := by decide +kernel
theorem dX6_placeAndSize_7 : decode cX6_placeAndSize 7 = .ok (.bipush 10, 2) := by decide +kernel
theorem dX6_placeAndSize_9 : decode cX6_placeAndSize 9 = .ok (.iload_n 1, 1) := by decide +kernel
theorem dX6_placeAndSize_10 : decode cX6_placeAndSize 10 = .ok (.imul, 1) := by decide +kernel
theorem dX6_placeAndSize_11 : decode cX6_placeAndSize 11 = .ok (.aload_n 0, 1) := by decide +kernel
theorem dX6_placeAndSize_12 : decode cX6_placeAndSize 12 = .ok (.iconst 1, 1) := by decide +kernel
theorem dX6_placeAndSize_13 : decode cX6_placeAndSize 13 = .ok (.bipush 10, 2) := by decide +kernel
theorem dX6_placeAndSize_15 : decode cX6_placeAndSize 15 = .ok (.invokevirtual 69, 3) := by decide +kernel
theorem dX6_placeAndSize_18 : decode cX6_placeAndSize 18 = .ok (.iadd, 1) := by decide +kernel
theorem dX6_placeAndSize_19 : decode cX6_placeAndSize 19 = .ok (.ireturn, 1) := by decide +kernel
theorem dX6_next_0 : decode cX6_next 0 = .ok (.aload_n 0, 1) := by decide +kernel
theorem dX6_next_1 : decode cX6_next 1 = .ok (.getfield 44, 3) := by decide +kernel
theorem dX6_next_4 : decode cX6_next 4 = .ok (.aload_n 0, 1) := by decide +kernel
theorem dX6_next_5 : decode cX6_next 5 = .ok (.getfield 21, 3) := by decide +kernel
theorem dX6_next_8 : decode cX6_next 8 = .ok (.if_icmp .ge 30, 3) := by decide +kernel
theorem dX6_next_11 : decode cX6_next 11 = .ok (.aload_n 0, 1) := by decide +kernel
theorem dX6_next_12 : decode cX6_next 12 = .ok (.getfield 9, 3) := by decide +kernel
theorem dX6_next_15 : decode cX6_next 15 = .ok (.aload_n 0, 1) := by decide +kernel
theorem dX6_next_16 : decode cX6_next 16 = .ok (.getfield 44, 3) := by decide +kernel
theorem dX6_next_19 : decode cX6_next 19 = .ok (.iaload, 1) := by decide +kernel
theorem dX6_next_20 : decode cX6_next 20 = .ok (.bipush 32, 2) := by decide +kernel
theorem dX6_next_22 : decode cX6_next 22 = .ok (.if_icmp .ne 16, 3) := by decide +kernel
theorem dX6_next_25 : decode cX6_next 25 = .ok (.aload_n 0, 1) := by decide +kernel
theorem dX6_next_26 : decode cX6_next 26 = .ok (.dup, 1) := by decide +kernel
theorem dX6_next_27 : decode cX6_next 27 = .ok (.getfield 44, 3) := by decide +kernel
theorem dX6_next_30 : decode cX6_next 30 = .ok (.iconst 1, 1) := by decide +kernel
theorem dX6_next_31 : decode cX6_next 31 = .ok (.iadd, 1) := by decide +kernel
theorem dX6_next_32 : decode cX6_next 32 = .ok (.putfield 44, 3) := by decide +kernel
theorem dX6_next_35 : decode cX6_next 35 = .ok (.goto (-35), 3) := by decide +kernel
theorem dX6_next_38 : decode cX6_next 38 = .ok (.aload_n 0, 1) := by decide +kernel
theorem dX6_next_39 : decode cX6_next 39 = .ok (.getfield 44, 3) := by decide +kernel
theorem dX6_next_42 : decode cX6_next 42 = .ok (.aload_n 0, 1) := by decide +kernel
theorem dX6_next_43 : decode cX6_next 43 = .ok (.getfield 21, 3) := by decide +kernel
theorem dX6_next_46 : decode cX6_next 46 = .ok (.if_icmp .ge 15, 3) := by decide +kernel
theorem dX6_next_49 : decode cX6_next 49 = .ok (.aload_n 0, 1) := by decide +kernel
theorem dX6_next_50 : decode cX6_next 50 = .ok (.getfield 9, 3) := by decide +kernel
theorem dX6_next_53 : decode cX6_next 53 = .ok (.aload_n 0, 1) := by decide +kernel
theorem dX6_next_54 : decode cX6_next 54 = .ok (.getfield 44, 3) := by decide +kernel
theorem dX6_next_57 : decode cX6_next 57 = .ok (.iaload, 1) := by decide +kernel
theorem dX6_next_58 : decode cX6_next 58 = .ok (.goto 4, 3) := by decide +kernel
theorem dX6_next_61 : decode cX6_next 61 = .ok (.iconst (-1), 1) := by decide +kernel
theorem dX6_next_62 : decode cX6_next 62 = .ok (.ireturn, 1) := by decide +kernel
theorem dX6_accepts_0 : decode cX6_accepts 0 = .ok (.aload_n 0, 1) := by decide +kernel
theorem dX6_accepts_1 : decode cX6_accepts 1 = .ok (.getfield 47, 3) := by decide +kernel
theorem dX6_accepts_4 : decode cX6_accepts 4 = .ok (.ifCond .ne 11, 3) := by decide +kernel
theorem dX6_accepts_7 : decode cX6_accepts 7 = .ok (.aload_n 0, 1) := by decide +kernel
theorem dX6_accepts_8 : decode cX6_accepts 8 = .ok (.invokevirtual 51, 3) := by decide +kernel
theorem dX6_accepts_11 : decode cX6_accepts 11 = .ok (.iload_n 1, 1) := by decide +kernel
theorem dX6_accepts_12 : decode cX6_accepts 12 = .ok (.if_icmp .eq 5, 3) := by decide +kernel
theorem dX6_accepts_15 : decode cX6_accepts 15 = .ok (.iconst 0, 1) := by decide +kernel
theorem dX6_accepts_16 : decode cX6_accepts 16 = .ok (.ireturn, 1) := by decide +kernel
theorem dX6_accepts_17 : decode cX6_accepts 17 = .ok (.aload_n 0, 1) := by decide +kernel
theorem dX6_accepts_18 : decode cX6_accepts 18 = .ok (.dup, 1) := by decide +kernel
theorem dX6_accepts_19 : decode cX6_accepts 19 = .ok (.getfield 44, 3) := by decide +kernel
theorem dX6_accepts_22 : decode cX6_accepts 22 = .ok (.iconst 1, 1) := by decide +kernel
theorem dX6_accepts_23 : decode cX6_accepts 23 = .ok (.iadd, 1) := by decide +kernel
theorem dX6_accepts_24 : decode cX6_accepts 24 = .ok (.putfield 44, 3) := by decide +kernel
theorem dX6_accepts_27 : decode cX6_accepts 27 = .ok (.iconst 1, 1) := by decide +kernel
theorem dX6_accepts_28 : decode cX6_accepts 28 = .ok (.ireturn, 1) := by decide +kernel
theorem dX6_digit_0 : decode cX6_digit 0 = .ok (.aload_n 0, 1) := by decide +kernel
theorem dX6_digit_1 : decode cX6_digit 1 = .ok (.invokevirtual 51, 3) := by decide +kernel
theorem dX6_digit_4 : decode cX6_digit 4 = .ok (.bipush 48, 2) := by decide +kernel
theorem dX6_digit_6 : decode cX6_digit 6 = .ok (.isub, 1) := by decide +kernel
theorem dX6_digit_7 : decode cX6_digit 7 = .ok (.istore_n 3, 1) := by decide +kernel
theorem dX6_digit_8 : decode cX6_digit 8 = .ok (.aload_n 0, 1) := by decide +kernel
theorem dX6_digit_9 : decode cX6_digit 9 = .ok (.getfield 47, 3) := by decide +kernel
theorem dX6_digit_12 : decode cX6_digit 12 = .ok (.ifCond .ne 13, 3) := by decide +kernel
theorem dX6_digit_15 : decode cX6_digit 15 = .ok (.iload_n 3, 1) := by decide +kernel
theorem dX6_digit_16 : decode cX6_digit 16 = .ok (.iload_n 1, 1) := by decide +kernel
theorem dX6_digit_17 : decode cX6_digit 17 = .ok (.if_icmp .lt 8, 3) := by decide +kernel
theorem dX6_digit_20 : decode cX6_digit 20 = .ok (.iload_n 3, 1) := by decide +kernel
theorem dX6_digit_21 : decode cX6_digit 21 = .ok (.iload_n 2, 1) := by decide +kernel
theorem dX6_digit_22 : decode cX6_digit 22 = .ok (.if_icmp .lt 10, 3) := by decide +kernel
theorem dX6_digit_25 : decode cX6_digit 25 = .ok (.aload_n 0, 1) := by decide +kernel
theorem dX6_digit_26 : decode cX6_digit 26 = .ok (.iconst 1, 1) := by decide +kernel
theorem dX6_digit_27 : decode cX6_digit 27 = .ok (.putfield 47, 3) := by decide +kernel
theorem dX6_digit_30 : decode cX6_digit 30 = .ok (.iconst 0, 1) := by decide +kernel
theorem dX6_digit_31 : decode cX6_digit 31 = .ok (.ireturn, 1) := by decide +kernel
theorem dX6_digit_32 : decode cX6_digit 32 = .ok (.aload_n 0, 1) := by decide +kernel
theorem dX6_digit_33 : decode cX6_digit 33 = .ok (.dup, 1) := by decide +kernel
theorem dX6_digit_34 : decode cX6_digit 34 = .ok (.getfield 44, 3) := by decide +kernel
theorem dX6_digit_37 : decode cX6_digit 37 = .ok (.iconst 1, 1) := by decide +kernel
theorem dX6_digit_38 : decode cX6_digit 38 = .ok (.iadd, 1) := by decide +kernel
theorem dX6_digit_39 : decode cX6_digit 39 = .ok (.putfield 44, 3) := by decide +kernel
theorem dX6_digit_42 : decode cX6_digit 42 = .ok (.iload_n 3, 1) := by decide +kernel
theorem dX6_digit_43 : decode cX6_digit 43 = .ok (.ireturn, 1) := by decide +kernel
theorem dX6_number_0 : decode cX6_number 0 = .ok (.aload_n 0, 1) := by decide +kernel
theorem dX6_number_1 : decode cX6_number 1 = .ok (.invokevirtual 51, 3) := by decide +kernel
theorem dX6_number_4 : decode cX6_number 4 = .ok (.pop, 1) := by decide +kernel
theorem dX6_number_5 : decode cX6_number 5 = .ok (.aload_n 0, 1) := by decide +kernel
theorem dX6_number_6 : decode cX6_number 6 = .ok (.getfield 44, 3) := by decide +kernel
theorem dX6_number_9 : decode cX6_number 9 = .ok (.istore_n 2, 1) := by decide +kernel
theorem dX6_number_10 : decode cX6_number 10 = .ok (.aload_n 0, 1) := by decide +kernel
theorem dX6_number_11 : decode cX6_number 11 = .ok (.iconst 0, 1) := by decide +kernel
theorem dX6_number_12 : decode cX6_number 12 = .ok (.bipush 10, 2) := by decide +kernel
theorem dX6_number_14 : decode cX6_number 14 = .ok (.invokevirtual 69, 3) := by decide +kernel
theorem dX6_number_17 : decode cX6_number 17 = .ok (.istore_n 3, 1) := by decide +kernel
theorem dX6_number_18 : decode cX6_number 18 = .ok (.aload_n 0, 1) := by decide +kernel
theorem dX6_number_19 : decode cX6_number 19 = .ok (.getfield 47, 3) := by decide +kernel
theorem dX6_number_22 : decode cX6_number 22 = .ok (.ifCond .ne 77, 3) := by decide +kernel
theorem dX6_number_25 : decode cX6_number 25 = .ok (.aload_n 0, 1) := by decide +kernel
theorem dX6_number_26 : decode cX6_number 26 = .ok (.getfield 44, 3) := by decide +kernel
theorem dX6_number_29 : decode cX6_number 29 = .ok (.aload_n 0, 1) := by decide +kernel
theorem dX6_number_30 : decode cX6_number 30 = .ok (.getfield 21, 3) := by decide +kernel
theorem dX6_number_33 : decode cX6_number 33 = .ok (.if_icmp .ge 66, 3) := by decide +kernel
theorem dX6_number_36 : decode cX6_number 36 = .ok (.aload_n 0, 1) := by decide +kernel
theorem dX6_number_37 : decode cX6_number 37 = .ok (.getfield 9, 3) := by decide +kernel
theorem dX6_number_40 : decode cX6_number 40 = .ok (.aload_n 0, 1) := by decide +kernel
theorem dX6_number_41 : decode cX6_number 41 = .ok (.getfield 44, 3) := by decide +kernel
theorem dX6_number_44 : decode cX6_number 44 = .ok (.iaload, 1) := by decide +kernel
theorem dX6_number_45 : decode cX6_number 45 = .ok (.bipush 48, 2) := by decide +kernel
theorem dX6_number_47 : decode cX6_number 47 = .ok (.if_icmp .lt 52, 3) := by decide +kernel
theorem dX6_number_50 : decode cX6_number 50 = .ok (.aload_n 0, 1) := by decide +kernel
theorem dX6_number_51 : decode cX6_number 51 = .ok (.getfield 9, 3) := by decide +kernel
theorem dX6_number_54 : decode cX6_number 54 = .ok (.aload_n 0, 1) := by decide +kernel
theorem dX6_number_55 : decode cX6_number 55 = .ok (.getfield 44, 3) := by decide +kernel
theorem dX6_number_58 : decode cX6_number 58 = .ok (.iaload, 1) := by decide +kernel
theorem dX6_number_59 : decode cX6_number 59 = .ok (.bipush 57, 2) := by decide +kernel
theorem dX6_number_61 : decode cX6_number 61 = .ok (.if_icmp .gt 38, 3) := by decide +kernel
theorem dX6_number_64 : decode cX6_number 64 = .ok (.iload_n 1, 1) := by decide +kernel
theorem dX6_number_65 : decode cX6_number 65 = .ok (.bipush 10, 2) := by decide +kernel
theorem dX6_number_67 : decode cX6_number 67 = .ok (.iload_n 3, 1) := by decide +kernel
theorem dX6_number_68 : decode cX6_number 68 = .ok (.imul, 1) := by decide +kernel
theorem dX6_number_69 : decode cX6_number 69 = .ok (.aload_n 0, 1) := by decide +kernel
theorem dX6_number_70 : decode cX6_number 70 = .ok (.getfield 9, 3) := by decide +kernel
theorem dX6_number_73 : decode cX6_number 73 = .ok (.aload_n 0, 1) := by decide +kernel
theorem dX6_number_74 : decode cX6_number 74 = .ok (.getfield 44, 3) := by decide +kernel
theorem dX6_number_77 : decode cX6_number 77 = .ok (.iaload, 1) := by decide +kernel
theorem dX6_number_78 : decode cX6_number 78 = .ok (.iadd, 1) := by decide +kernel
theorem dX6_number_79 : decode cX6_number 79 = .ok (.bipush 48, 2) := by decide +kernel
theorem dX6_number_81 : decode cX6_number 81 = .ok (.isub, 1) := by decide +kernel
theorem dX6_number_82 : decode cX6_number 82 = .ok (.invokestatic 96, 3) := by decide +kernel
theorem dX6_number_85 : decode cX6_number 85 = .ok (.istore_n 3, 1) := by decide +kernel
theorem dX6_number_86 : decode cX6_number 86 = .ok (.aload_n 0, 1) := by decide +kernel
theorem dX6_number_87 : decode cX6_number 87 = .ok (.dup, 1) := by decide +kernel
theorem dX6_number_88 : decode cX6_number 88 = .ok (.getfield 44, 3) := by decide +kernel
theorem dX6_number_91 : decode cX6_number 91 = .ok (.iconst 1, 1) := by decide +kernel
theorem dX6_number_92 : decode cX6_number 92 = .ok (.iadd, 1) := by decide +kernel
theorem dX6_number_93 : decode cX6_number 93 = .ok (.putfield 44, 3) := by decide +kernel
theorem dX6_number_96 : decode cX6_number 96 = .ok (.goto (-78), 3) := by decide +kernel
theorem dX6_number_99 : decode cX6_number 99 = .ok (.iload_n 3, 1) := by decide +kernel
theorem dX6_number_100 : decode cX6_number 100 = .ok (.iload_n 1, 1) := by decide +kernel
theorem dX6_number_101 : decode cX6_number 101 = .ok (.if_icmp .lt 13, 3) := by decide +kernel
theorem dX6_number_104 : decode cX6_number 104 = .ok (.aload_n 0, 1) := by decide +kernel
theorem dX6_number_105 : decode cX6_number 105 = .ok (.iload_n 2, 1) := by decide +kernel
theorem dX6_number_106 : decode cX6_number 106 = .ok (.putfield 44, 3) := by decide +kernel
theorem dX6_number_109 : decode cX6_number 109 = .ok (.aload_n 0, 1) := by decide +kernel
theorem dX6_number_110 : decode cX6_number 110 = .ok (.iconst 1, 1) := by decide +kernel
theorem dX6_number_111 : decode cX6_number 111 = .ok (.putfield 47, 3) := by decide +kernel
theorem dX6_number_114 : decode cX6_number 114 = .ok (.aload_n 0, 1) := by decide +kernel
theorem dX6_number_115 : decode cX6_number 115 = .ok (.getfield 47, 3) := by decide +kernel
theorem dX6_number_118 : decode cX6_number 118 = .ok (.ifCond .eq 7, 3) := by decide +kernel
theorem dX6_number_121 : decode cX6_number 121 = .ok (.iconst 0, 1) := by decide +kernel
theorem dX6_number_122 : decode cX6_number 122 = .ok (.goto 4, 3) := by decide +kernel
theorem dX6_number_125 : decode cX6_number 125 = .ok (.iload_n 3, 1) := by decide +kernel
theorem dX6_number_126 : decode cX6_number 126 = .ok (.ireturn, 1) := by decide +kernel
theorem dX7_init_0 : decode cX7_init 0 = .ok (.aload_n 0, 1) := by decide +kernel
theorem dX7_init_1 : decode cX7_init 1 = .ok (.invokespecial 3, 3) := by decide +kernel
theorem dX7_init_4 : decode cX7_init 4 = .ok (.aload_n 0, 1) := by decide +kernel
theorem dX7_init_5 : decode cX7_init 5 = .ok (.new 9, 3) := by decide +kernel
theorem dX7_init_8 : decode cX7_init 8 = .ok (.dup, 1) := by decide +kernel
theorem dX7_init_9 : decode cX7_init 9 = .ok (.invokespecial 11, 3) := by decide +kernel
theorem dX7_init_12 : decode cX7_init 12 = .ok (.putfield 12, 3) := by decide +kernel
theorem dX7_init_15 : decode cX7_init 15 = .ok (.return_, 1) := by decide +kernel
theorem dX7_seesMoved_0 : decode cX7_seesMoved 0 = .ok (.aload_n 0, 1) := by decide +kernel
theorem dX7_seesMoved_1 : decode cX7_seesMoved 1 = .ok (.getfield 12, 3) := by decide +kernel
theorem dX7_seesMoved_4 : decode cX7_seesMoved 4 = .ok (.aload_n 1, 1) := by decide +kernel
theorem dX7_seesMoved_5 : decode cX7_seesMoved 5 = .ok (.invokevirtual 18, 3) := by decide +kernel
theorem dX7_seesMoved_8 : decode cX7_seesMoved 8 = .ok (.aload_n 0, 1) := by decide +kernel
theorem dX7_seesMoved_9 : decode cX7_seesMoved 9 = .ok (.getfield 12, 3) := by decide +kernel
theorem dX7_seesMoved_12 : decode cX7_seesMoved 12 = .ok (.getfield 22, 3) := by decide +kernel
theorem dX7_seesMoved_15 : decode cX7_seesMoved 15 = .ok (.getfield 26, 3) := by decide +kernel
theorem dX7_seesMoved_18 : decode cX7_seesMoved 18 = .ok (.iload_n 2, 1) := by decide +kernel
theorem dX7_seesMoved_19 : decode cX7_seesMoved 19 = .ok (.iconst 0, 1) := by decide +kernel
theorem dX7_seesMoved_20 : decode cX7_seesMoved 20 = .ok (.iastore, 1) := by decide +kernel
theorem dX7_seesMoved_21 : decode cX7_seesMoved 21 = .ok (.aload_n 0, 1) := by decide +kernel
theorem dX7_seesMoved_22 : decode cX7_seesMoved 22 = .ok (.getfield 12, 3) := by decide +kernel
theorem dX7_seesMoved_25 : decode cX7_seesMoved 25 = .ok (.getfield 22, 3) := by decide +kernel
theorem dX7_seesMoved_28 : decode cX7_seesMoved 28 = .ok (.getfield 26, 3) := by decide +kernel
theorem dX7_seesMoved_31 : decode cX7_seesMoved 31 = .ok (.iload_n 3, 1) := by decide +kernel
theorem dX7_seesMoved_32 : decode cX7_seesMoved 32 = .ok (.aload_n 1, 1) := by decide +kernel
theorem dX7_seesMoved_33 : decode cX7_seesMoved 33 = .ok (.getfield 22, 3) := by decide +kernel
theorem dX7_seesMoved_36 : decode cX7_seesMoved 36 = .ok (.getfield 26, 3) := by decide +kernel
theorem dX7_seesMoved_39 : decode cX7_seesMoved 39 = .ok (.iload_n 2, 1) := by decide +kernel
theorem dX7_seesMoved_40 : decode cX7_seesMoved 40 = .ok (.iaload, 1) := by decide +kernel
theorem dX7_seesMoved_41 : decode cX7_seesMoved 41 = .ok (.iastore, 1) := by decide +kernel
theorem dX7_seesMoved_42 : decode cX7_seesMoved 42 = .ok (.aload_n 0, 1) := by decide +kernel
theorem dX7_seesMoved_43 : decode cX7_seesMoved 43 = .ok (.getfield 12, 3) := by decide +kernel
theorem dX7_seesMoved_46 : decode cX7_seesMoved 46 = .ok (.iload_n 3, 1) := by decide +kernel
theorem dX7_seesMoved_47 : decode cX7_seesMoved 47 = .ok (.iconst 1, 1) := by decide +kernel
theorem dX7_seesMoved_48 : decode cX7_seesMoved 48 = .ok (.invokevirtual 32, 3) := by decide +kernel
theorem dX7_seesMoved_51 : decode cX7_seesMoved 51 = .ok (.ireturn, 1) := by decide +kernel
theorem dX7_quietestBeat_0 : decode cX7_quietestBeat 0 = .ok (.iconst (-1), 1) := by decide +kernel
theorem dX7_quietestBeat_1 : decode cX7_quietestBeat 1 = .ok (.istore_n 3, 1) := by decide +kernel
theorem dX7_quietestBeat_2 : decode cX7_quietestBeat 2 = .ok (.iconst 0, 1) := by decide +kernel
theorem dX7_quietestBeat_3 : decode cX7_quietestBeat 3 = .ok (.istore 4, 2) := by decide +kernel
theorem dX7_quietestBeat_5 : decode cX7_quietestBeat 5 = .ok (.iconst 0, 1) := by decide +kernel
theorem dX7_quietestBeat_6 : decode cX7_quietestBeat 6 = .ok (.istore 5, 2) := by decide +kernel
theorem dX7_quietestBeat_8 : decode cX7_quietestBeat 8 = .ok (.iload 5, 2) := by decide +kernel
theorem dX7_quietestBeat_10 : decode cX7_quietestBeat 10 = .ok (.bipush 16, 2) := by decide +kernel
theorem dX7_quietestBeat_12 : decode cX7_quietestBeat 12 = .ok (.if_icmp .ge 60, 3) := by decide +kernel
theorem dX7_quietestBeat_15 : decode cX7_quietestBeat 15 = .ok (.iload 5, 2) := by decide +kernel
theorem dX7_quietestBeat_17 : decode cX7_quietestBeat 17 = .ok (.iload_n 2, 1) := by decide +kernel
theorem dX7_quietestBeat_18 : decode cX7_quietestBeat 18 = .ok (.if_icmp .eq 19, 3) := by decide +kernel
theorem dX7_quietestBeat_21 : decode cX7_quietestBeat 21 = .ok (.aload_n 1, 1) := by decide +kernel
theorem dX7_quietestBeat_22 : decode cX7_quietestBeat 22 = .ok (.getfield 22, 3) := by decide +kernel
theorem dX7_quietestBeat_25 : decode cX7_quietestBeat 25 = .ok (.getfield 26, 3) := by decide +kernel
theorem dX7_quietestBeat_28 : decode cX7_quietestBeat 28 = .ok (.iload 5, 2) := by decide +kernel
theorem dX7_quietestBeat_30 : decode cX7_quietestBeat 30 = .ok (.iaload, 1) := by decide +kernel
theorem dX7_quietestBeat_31 : decode cX7_quietestBeat 31 = .ok (.ifCond .eq 6, 3) := by decide +kernel
theorem dX7_quietestBeat_34 : decode cX7_quietestBeat 34 = .ok (.goto 32, 3) := by decide +kernel
theorem dX7_quietestBeat_37 : decode cX7_quietestBeat 37 = .ok (.aload_n 0, 1) := by decide +kernel
theorem dX7_quietestBeat_38 : decode cX7_quietestBeat 38 = .ok (.aload_n 1, 1) := by decide +kernel
theorem dX7_quietestBeat_39 : decode cX7_quietestBeat 39 = .ok (.iload_n 2, 1) := by decide +kernel
theorem dX7_quietestBeat_40 : decode cX7_quietestBeat 40 = .ok (.iload 5, 2) := by decide +kernel
theorem dX7_quietestBeat_42 : decode cX7_quietestBeat 42 = .ok (.invokevirtual 36, 3) := by decide +kernel
theorem dX7_quietestBeat_45 : decode cX7_quietestBeat 45 = .ok (.istore 6, 2) := by decide +kernel
theorem dX7_quietestBeat_47 : decode cX7_quietestBeat 47 = .ok (.iload_n 3, 1) := by decide +kernel
theorem dX7_quietestBeat_48 : decode cX7_quietestBeat 48 = .ok (.iconst (-1), 1) := by decide +kernel
theorem dX7_quietestBeat_49 : decode cX7_quietestBeat 49 = .ok (.if_icmp .eq 10, 3) := by decide +kernel
theorem dX7_quietestBeat_52 : decode cX7_quietestBeat 52 = .ok (.iload 6, 2) := by decide +kernel
theorem dX7_quietestBeat_54 : decode cX7_quietestBeat 54 = .ok (.iload 4, 2) := by decide +kernel
theorem dX7_quietestBeat_56 : decode cX7_quietestBeat 56 = .ok (.if_icmp .ge 10, 3) := by decide +kernel
theorem dX7_quietestBeat_59 : decode cX7_quietestBeat 59 = .ok (.iload 5, 2) := by decide +kernel
theorem dX7_quietestBeat_61 : decode cX7_quietestBeat 61 = .ok (.istore_n 3, 1) := by decide +kernel
theorem dX7_quietestBeat_62 : decode cX7_quietestBeat 62 = .ok (.iload 6, 2) := by decide +kernel
theorem dX7_quietestBeat_64 : decode cX7_quietestBeat 64 = .ok (.istore 4, 2) := by decide +kernel
theorem dX7_quietestBeat_66 : decode cX7_quietestBeat 66 = .ok (.iinc 5 1, 3) := by decide +kernel
theorem dX7_quietestBeat_69 : decode cX7_quietestBeat 69 = .ok (.goto (-61), 3) := by decide +kernel
theorem dX7_quietestBeat_72 : decode cX7_quietestBeat 72 = .ok (.iload_n 3, 1) := by decide +kernel
theorem dX7_quietestBeat_73 : decode cX7_quietestBeat 73 = .ok (.ireturn, 1) := by decide +kernel
theorem dX7_seesCovered_0 : decode cX7_seesCovered 0 = .ok (.aload_n 0, 1) := by decide +kernel
theorem dX7_seesCovered_1 : decode cX7_seesCovered 1 = .ok (.getfield 12, 3) := by decide +kernel
theorem dX7_seesCovered_4 : decode cX7_seesCovered 4 = .ok (.aload_n 1, 1) := by decide +kernel
theorem dX7_seesCovered_5 : decode cX7_seesCovered 5 = .ok (.invokevirtual 18, 3) := by decide +kernel
theorem dX7_seesCovered_8 : decode cX7_seesCovered 8 = .ok (.aload_n 1, 1) := by decide +kernel
theorem dX7_seesCovered_9 : decode cX7_seesCovered 9 = .ok (.getfield 40, 3) := by decide +kernel
theorem dX7_seesCovered_12 : decode cX7_seesCovered 12 = .ok (.aload_n 0, 1) := by decide +kernel
theorem dX7_seesCovered_13 : decode cX7_seesCovered 13 = .ok (.getfield 12, 3) := by decide +kernel
theorem dX7_seesCovered_16 : decode cX7_seesCovered 16 = .ok (.getfield 22, 3) := by decide +kernel
theorem dX7_seesCovered_19 : decode cX7_seesCovered 19 = .ok (.iload_n 2, 1) := by decide +kernel
end
section
theorem dX7_seesCovered_20 : decode cX7_seesCovered 20 = .ok (.invokevirtual 44, 3) := by decide +kernel
theorem dX7_seesCovered_23 : decode cX7_seesCovered 23 = .ok (.aload_n 0, 1) := by decide +kernel
theorem dX7_seesCovered_24 : decode cX7_seesCovered 24 = .ok (.getfield 12, 3) := by decide +kernel
theorem dX7_seesCovered_27 : decode cX7_seesCovered 27 = .ok (.iconst 1, 1) := by decide +kernel
theorem dX7_seesCovered_28 : decode cX7_seesCovered 28 = .ok (.invokevirtual 50, 3) := by decide +kernel
theorem dX7_seesCovered_31 : decode cX7_seesCovered 31 = .ok (.ireturn, 1) := by decide +kernel
theorem dX7_bestCovers_0 : decode cX7_bestCovers 0 = .ok (.iconst 0, 1) := by decide +kernel
theorem dX7_bestCovers_1 : decode cX7_bestCovers 1 = .ok (.istore_n 3, 1) := by decide +kernel
theorem dX7_bestCovers_2 : decode cX7_bestCovers 2 = .ok (.aload_n 1, 1) := by decide +kernel
theorem dX7_bestCovers_3 : decode cX7_bestCovers 3 = .ok (.iconst 1, 1) := by decide +kernel
theorem dX7_bestCovers_4 : decode cX7_bestCovers 4 = .ok (.invokevirtual 50, 3) := by decide +kernel
theorem dX7_bestCovers_7 : decode cX7_bestCovers 7 = .ok (.istore 4, 2) := by decide +kernel
theorem dX7_bestCovers_9 : decode cX7_bestCovers 9 = .ok (.iconst 0, 1) := by decide +kernel
theorem dX7_bestCovers_10 : decode cX7_bestCovers 10 = .ok (.istore 5, 2) := by decide +kernel
theorem dX7_bestCovers_12 : decode cX7_bestCovers 12 = .ok (.iconst 1, 1) := by decide +kernel
theorem dX7_bestCovers_13 : decode cX7_bestCovers 13 = .ok (.istore 6, 2) := by decide +kernel
theorem dX7_bestCovers_15 : decode cX7_bestCovers 15 = .ok (.iload 6, 2) := by decide +kernel
theorem dX7_bestCovers_17 : decode cX7_bestCovers 17 = .ok (.iconst 1, 1) := by decide +kernel
theorem dX7_bestCovers_18 : decode cX7_bestCovers 18 = .ok (.aload_n 1, 1) := by decide +kernel
theorem dX7_bestCovers_19 : decode cX7_bestCovers 19 = .ok (.getfield 40, 3) := by decide +kernel
theorem dX7_bestCovers_22 : decode cX7_bestCovers 22 = .ok (.getfield 54, 3) := by decide +kernel
theorem dX7_bestCovers_25 : decode cX7_bestCovers 25 = .ok (.ishl, 1) := by decide +kernel
theorem dX7_bestCovers_26 : decode cX7_bestCovers 26 = .ok (.if_icmp .ge 70, 3) := by decide +kernel
theorem dX7_bestCovers_29 : decode cX7_bestCovers 29 = .ok (.aload_n 1, 1) := by decide +kernel
theorem dX7_bestCovers_30 : decode cX7_bestCovers 30 = .ok (.getfield 40, 3) := by decide +kernel
theorem dX7_bestCovers_33 : decode cX7_bestCovers 33 = .ok (.iload 6, 2) := by decide +kernel
theorem dX7_bestCovers_35 : decode cX7_bestCovers 35 = .ok (.invokevirtual 58, 3) := by decide +kernel
theorem dX7_bestCovers_38 : decode cX7_bestCovers 38 = .ok (.istore 7, 2) := by decide +kernel
theorem dX7_bestCovers_40 : decode cX7_bestCovers 40 = .ok (.iload 7, 2) := by decide +kernel
theorem dX7_bestCovers_42 : decode cX7_bestCovers 42 = .ok (.iload_n 2, 1) := by decide +kernel
theorem dX7_bestCovers_43 : decode cX7_bestCovers 43 = .ok (.if_icmp .le 6, 3) := by decide +kernel
theorem dX7_bestCovers_46 : decode cX7_bestCovers 46 = .ok (.goto 44, 3) := by decide +kernel
theorem dX7_bestCovers_49 : decode cX7_bestCovers 49 = .ok (.aload_n 0, 1) := by decide +kernel
theorem dX7_bestCovers_50 : decode cX7_bestCovers 50 = .ok (.aload_n 1, 1) := by decide +kernel
theorem dX7_bestCovers_51 : decode cX7_bestCovers 51 = .ok (.iload 6, 2) := by decide +kernel
theorem dX7_bestCovers_53 : decode cX7_bestCovers 53 = .ok (.invokevirtual 61, 3) := by decide +kernel
theorem dX7_bestCovers_56 : decode cX7_bestCovers 56 = .ok (.istore 8, 2) := by decide +kernel
theorem dX7_bestCovers_58 : decode cX7_bestCovers 58 = .ok (.iload 8, 2) := by decide +kernel
theorem dX7_bestCovers_60 : decode cX7_bestCovers 60 = .ok (.iload 4, 2) := by decide +kernel
theorem dX7_bestCovers_62 : decode cX7_bestCovers 62 = .ok (.if_icmp .lt 17, 3) := by decide +kernel
theorem dX7_bestCovers_65 : decode cX7_bestCovers 65 = .ok (.iload 8, 2) := by decide +kernel
theorem dX7_bestCovers_67 : decode cX7_bestCovers 67 = .ok (.iload 4, 2) := by decide +kernel
theorem dX7_bestCovers_69 : decode cX7_bestCovers 69 = .ok (.if_icmp .ne 21, 3) := by decide +kernel
theorem dX7_bestCovers_72 : decode cX7_bestCovers 72 = .ok (.iload 7, 2) := by decide +kernel
theorem dX7_bestCovers_74 : decode cX7_bestCovers 74 = .ok (.iload 5, 2) := by decide +kernel
theorem dX7_bestCovers_76 : decode cX7_bestCovers 76 = .ok (.if_icmp .ge 14, 3) := by decide +kernel
theorem dX7_bestCovers_79 : decode cX7_bestCovers 79 = .ok (.iload 6, 2) := by decide +kernel
theorem dX7_bestCovers_81 : decode cX7_bestCovers 81 = .ok (.istore_n 3, 1) := by decide +kernel
theorem dX7_bestCovers_82 : decode cX7_bestCovers 82 = .ok (.iload 8, 2) := by decide +kernel
theorem dX7_bestCovers_84 : decode cX7_bestCovers 84 = .ok (.istore 4, 2) := by decide +kernel
theorem dX7_bestCovers_86 : decode cX7_bestCovers 86 = .ok (.iload 7, 2) := by decide +kernel
theorem dX7_bestCovers_88 : decode cX7_bestCovers 88 = .ok (.istore 5, 2) := by decide +kernel
theorem dX7_bestCovers_90 : decode cX7_bestCovers 90 = .ok (.iinc 6 1, 3) := by decide +kernel
theorem dX7_bestCovers_93 : decode cX7_bestCovers 93 = .ok (.goto (-78), 3) := by decide +kernel
theorem dX7_bestCovers_96 : decode cX7_bestCovers 96 = .ok (.iload_n 3, 1) := by decide +kernel
theorem dX7_bestCovers_97 : decode cX7_bestCovers 97 = .ok (.ireturn, 1) := by decide +kernel
theorem dX7_seesWarned_0 : decode cX7_seesWarned 0 = .ok (.aload_n 0, 1) := by decide +kernel
theorem dX7_seesWarned_1 : decode cX7_seesWarned 1 = .ok (.getfield 12, 3) := by decide +kernel
theorem dX7_seesWarned_4 : decode cX7_seesWarned 4 = .ok (.aload_n 1, 1) := by decide +kernel
theorem dX7_seesWarned_5 : decode cX7_seesWarned 5 = .ok (.invokevirtual 18, 3) := by decide +kernel
theorem dX7_seesWarned_8 : decode cX7_seesWarned 8 = .ok (.aload_n 0, 1) := by decide +kernel
theorem dX7_seesWarned_9 : decode cX7_seesWarned 9 = .ok (.getfield 12, 3) := by decide +kernel
theorem dX7_seesWarned_12 : decode cX7_seesWarned 12 = .ok (.getfield 65, 3) := by decide +kernel
theorem dX7_seesWarned_15 : decode cX7_seesWarned 15 = .ok (.invokevirtual 69, 3) := by decide +kernel
theorem dX7_seesWarned_18 : decode cX7_seesWarned 18 = .ok (.aload_n 0, 1) := by decide +kernel
theorem dX7_seesWarned_19 : decode cX7_seesWarned 19 = .ok (.getfield 12, 3) := by decide +kernel
theorem dX7_seesWarned_22 : decode cX7_seesWarned 22 = .ok (.iconst 1, 1) := by decide +kernel
theorem dX7_seesWarned_23 : decode cX7_seesWarned 23 = .ok (.invokevirtual 50, 3) := by decide +kernel
theorem dX7_seesWarned_26 : decode cX7_seesWarned 26 = .ok (.ireturn, 1) := by decide +kernel
theorem dX7_fittingPoints_0 : decode cX7_fittingPoints 0 = .ok (.aload_n 0, 1) := by decide +kernel
theorem dX7_fittingPoints_1 : decode cX7_fittingPoints 1 = .ok (.getfield 12, 3) := by decide +kernel
theorem dX7_fittingPoints_4 : decode cX7_fittingPoints 4 = .ok (.aload_n 1, 1) := by decide +kernel
theorem dX7_fittingPoints_5 : decode cX7_fittingPoints 5 = .ok (.invokevirtual 18, 3) := by decide +kernel
theorem dX7_fittingPoints_8 : decode cX7_fittingPoints 8 = .ok (.aload_n 0, 1) := by decide +kernel
theorem dX7_fittingPoints_9 : decode cX7_fittingPoints 9 = .ok (.getfield 12, 3) := by decide +kernel
theorem dX7_fittingPoints_12 : decode cX7_fittingPoints 12 = .ok (.getfield 74, 3) := by decide +kernel
theorem dX7_fittingPoints_15 : decode cX7_fittingPoints 15 = .ok (.iconst 0, 1) := by decide +kernel
theorem dX7_fittingPoints_16 : decode cX7_fittingPoints 16 = .ok (.iload_n 2, 1) := by decide +kernel
theorem dX7_fittingPoints_17 : decode cX7_fittingPoints 17 = .ok (.iastore, 1) := by decide +kernel
theorem dX7_fittingPoints_18 : decode cX7_fittingPoints 18 = .ok (.aload_n 0, 1) := by decide +kernel
theorem dX7_fittingPoints_19 : decode cX7_fittingPoints 19 = .ok (.getfield 12, 3) := by decide +kernel
theorem dX7_fittingPoints_22 : decode cX7_fittingPoints 22 = .ok (.invokevirtual 77, 3) := by decide +kernel
theorem dX7_fittingPoints_25 : decode cX7_fittingPoints 25 = .ok (.ireturn, 1) := by decide +kernel
theorem dX7_lookThatFits_0 : decode cX7_lookThatFits 0 = .ok (.iconst 0, 1) := by decide +kernel
theorem dX7_lookThatFits_1 : decode cX7_lookThatFits 1 = .ok (.istore_n 2, 1) := by decide +kernel
theorem dX7_lookThatFits_2 : decode cX7_lookThatFits 2 = .ok (.aload_n 0, 1) := by decide +kernel
theorem dX7_lookThatFits_3 : decode cX7_lookThatFits 3 = .ok (.aload_n 1, 1) := by decide +kernel
theorem dX7_lookThatFits_4 : decode cX7_lookThatFits 4 = .ok (.iconst 0, 1) := by decide +kernel
theorem dX7_lookThatFits_5 : decode cX7_lookThatFits 5 = .ok (.invokevirtual 81, 3) := by decide +kernel
theorem dX7_lookThatFits_8 : decode cX7_lookThatFits 8 = .ok (.istore_n 3, 1) := by decide +kernel
theorem dX7_lookThatFits_9 : decode cX7_lookThatFits 9 = .ok (.iconst 1, 1) := by decide +kernel
theorem dX7_lookThatFits_10 : decode cX7_lookThatFits 10 = .ok (.istore 4, 2) := by decide +kernel
theorem dX7_lookThatFits_12 : decode cX7_lookThatFits 12 = .ok (.iload 4, 2) := by decide +kernel
theorem dX7_lookThatFits_14 : decode cX7_lookThatFits 14 = .ok (.getstatic 84, 3) := by decide +kernel
theorem dX7_lookThatFits_17 : decode cX7_lookThatFits 17 = .ok (.iconst 0, 1) := by decide +kernel
theorem dX7_lookThatFits_18 : decode cX7_lookThatFits 18 = .ok (.iaload, 1) := by decide +kernel
theorem dX7_lookThatFits_19 : decode cX7_lookThatFits 19 = .ok (.if_icmp .gt 30, 3) := by decide +kernel
theorem dX7_lookThatFits_22 : decode cX7_lookThatFits 22 = .ok (.aload_n 0, 1) := by decide +kernel
theorem dX7_lookThatFits_23 : decode cX7_lookThatFits 23 = .ok (.aload_n 1, 1) := by decide +kernel
theorem dX7_lookThatFits_24 : decode cX7_lookThatFits 24 = .ok (.iload 4, 2) := by decide +kernel
theorem dX7_lookThatFits_26 : decode cX7_lookThatFits 26 = .ok (.invokevirtual 81, 3) := by decide +kernel
theorem dX7_lookThatFits_29 : decode cX7_lookThatFits 29 = .ok (.istore 5, 2) := by decide +kernel
theorem dX7_lookThatFits_31 : decode cX7_lookThatFits 31 = .ok (.iload 5, 2) := by decide +kernel
theorem dX7_lookThatFits_33 : decode cX7_lookThatFits 33 = .ok (.iload_n 3, 1) := by decide +kernel
theorem dX7_lookThatFits_34 : decode cX7_lookThatFits 34 = .ok (.if_icmp .le 9, 3) := by decide +kernel
theorem dX7_lookThatFits_37 : decode cX7_lookThatFits 37 = .ok (.iload 5, 2) := by decide +kernel
theorem dX7_lookThatFits_39 : decode cX7_lookThatFits 39 = .ok (.istore_n 3, 1) := by decide +kernel
theorem dX7_lookThatFits_40 : decode cX7_lookThatFits 40 = .ok (.iload 4, 2) := by decide +kernel
theorem dX7_lookThatFits_42 : decode cX7_lookThatFits 42 = .ok (.istore_n 2, 1) := by decide +kernel
theorem dX7_lookThatFits_43 : decode cX7_lookThatFits 43 = .ok (.iinc 4 1, 3) := by decide +kernel
theorem dX7_lookThatFits_46 : decode cX7_lookThatFits 46 = .ok (.goto (-34), 3) := by decide +kernel
theorem dX7_lookThatFits_49 : decode cX7_lookThatFits 49 = .ok (.iload_n 2, 1) := by decide +kernel
theorem dX7_lookThatFits_50 : decode cX7_lookThatFits 50 = .ok (.ireturn, 1) := by decide +kernel
end
section
theorem dX8_init_0 : decode cX8_init 0 = .ok (.aload_n 0, 1) := by decide +kernel
theorem dX8_init_1 : decode cX8_init 1 = .ok (.invokespecial 1, 3) := by decide +kernel
theorem dX8_init_4 : decode cX8_init 4 = .ok (.aload_n 0, 1) := by decide +kernel
theorem dX8_init_5 : decode cX8_init 5 = .ok (.new 7, 3) := by decide +kernel
theorem dX8_init_8 : decode cX8_init 8 = .ok (.dup, 1) := by decide +kernel
theorem dX8_init_9 : decode cX8_init 9 = .ok (.invokespecial 9, 3) := by decide +kernel
theorem dX8_init_12 : decode cX8_init 12 = .ok (.putfield 10, 3) := by decide +kernel
theorem dX8_init_15 : decode cX8_init 15 = .ok (.aload_n 0, 1) := by decide +kernel
theorem dX8_init_16 : decode cX8_init 16 = .ok (.new 7, 3) := by decide +kernel
theorem dX8_init_19 : decode cX8_init 19 = .ok (.dup, 1) := by decide +kernel
theorem dX8_init_20 : decode cX8_init 20 = .ok (.invokespecial 9, 3) := by decide +kernel
theorem dX8_init_23 : decode cX8_init 23 = .ok (.putfield 16, 3) := by decide +kernel
theorem dX8_init_26 : decode cX8_init 26 = .ok (.aload_n 0, 1) := by decide +kernel
theorem dX8_init_27 : decode cX8_init 27 = .ok (.new 19, 3) := by decide +kernel
theorem dX8_init_30 : decode cX8_init 30 = .ok (.dup, 1) := by decide +kernel
theorem dX8_init_31 : decode cX8_init 31 = .ok (.invokespecial 21, 3) := by decide +kernel
theorem dX8_init_34 : decode cX8_init 34 = .ok (.putfield 22, 3) := by decide +kernel
theorem dX8_init_37 : decode cX8_init 37 = .ok (.aload_n 0, 1) := by decide +kernel
theorem dX8_init_38 : decode cX8_init 38 = .ok (.new 26, 3) := by decide +kernel
theorem dX8_init_41 : decode cX8_init 41 = .ok (.dup, 1) := by decide +kernel
theorem dX8_init_42 : decode cX8_init 42 = .ok (.invokespecial 28, 3) := by decide +kernel
theorem dX8_init_45 : decode cX8_init 45 = .ok (.putfield 29, 3) := by decide +kernel
theorem dX8_init_48 : decode cX8_init 48 = .ok (.aload_n 0, 1) := by decide +kernel
theorem dX8_init_49 : decode cX8_init 49 = .ok (.new 33, 3) := by decide +kernel
theorem dX8_init_52 : decode cX8_init 52 = .ok (.dup, 1) := by decide +kernel
theorem dX8_init_53 : decode cX8_init 53 = .ok (.invokespecial 35, 3) := by decide +kernel
theorem dX8_init_56 : decode cX8_init 56 = .ok (.putfield 36, 3) := by decide +kernel
theorem dX8_init_59 : decode cX8_init 59 = .ok (.return_, 1) := by decide +kernel
theorem dX8_act_0 : decode cX8_act 0 = .ok (.iload_n 1, 1) := by decide +kernel
theorem dX8_act_1 : decode cX8_act 1 = .ok (.bipush 16, 2) := by decide +kernel
theorem dX8_act_3 : decode cX8_act 3 = .ok (.invokestatic 40, 3) := by decide +kernel
theorem dX8_act_6 : decode cX8_act 6 = .ok (.ifCond .eq 29, 3) := by decide +kernel
theorem dX8_act_9 : decode cX8_act 9 = .ok (.iload_n 2, 1) := by decide +kernel
theorem dX8_act_10 : decode cX8_act 10 = .ok (.iconst 2, 1) := by decide +kernel
theorem dX8_act_11 : decode cX8_act 11 = .ok (.invokestatic 40, 3) := by decide +kernel
theorem dX8_act_14 : decode cX8_act 14 = .ok (.ifCond .eq 21, 3) := by decide +kernel
theorem dX8_act_17 : decode cX8_act 17 = .ok (.iload_n 3, 1) := by decide +kernel
theorem dX8_act_18 : decode cX8_act 18 = .ok (.iconst 4, 1) := by decide +kernel
theorem dX8_act_19 : decode cX8_act 19 = .ok (.invokestatic 40, 3) := by decide +kernel
theorem dX8_act_22 : decode cX8_act 22 = .ok (.ifCond .eq 13, 3) := by decide +kernel
theorem dX8_act_25 : decode cX8_act 25 = .ok (.iload 4, 2) := by decide +kernel
theorem dX8_act_27 : decode cX8_act 27 = .ok (.bipush 10, 2) := by decide +kernel
theorem dX8_act_29 : decode cX8_act 29 = .ok (.invokestatic 40, 3) := by decide +kernel
theorem dX8_act_32 : decode cX8_act 32 = .ok (.ifCond .ne 5, 3) := by decide +kernel
theorem dX8_act_35 : decode cX8_act 35 = .ok (.iconst (-1), 1) := by decide +kernel
theorem dX8_act_36 : decode cX8_act 36 = .ok (.ireturn, 1) := by decide +kernel
theorem dX8_act_37 : decode cX8_act 37 = .ok (.iload 4, 2) := by decide +kernel
theorem dX8_act_39 : decode cX8_act 39 = .ok (.ifCond .ne 7, 3) := by decide +kernel
theorem dX8_act_42 : decode cX8_act 42 = .ok (.iconst 0, 1) := by decide +kernel
theorem dX8_act_43 : decode cX8_act 43 = .ok (.goto 10, 3) := by decide +kernel
theorem dX8_act_46 : decode cX8_act 46 = .ok (.bipush 10, 2) := by decide +kernel
theorem dX8_act_48 : decode cX8_act 48 = .ok (.iload_n 3, 1) := by decide +kernel
theorem dX8_act_49 : decode cX8_act 49 = .ok (.imul, 1) := by decide +kernel
theorem dX8_act_50 : decode cX8_act 50 = .ok (.iload 4, 2) := by decide +kernel
theorem dX8_act_52 : decode cX8_act 52 = .ok (.iadd, 1) := by decide +kernel
theorem dX8_act_53 : decode cX8_act 53 = .ok (.istore 5, 2) := by decide +kernel
theorem dX8_act_55 : decode cX8_act 55 = .ok (.iload_n 2, 1) := by decide +kernel
theorem dX8_act_56 : decode cX8_act 56 = .ok (.ifCond .ne 16, 3) := by decide +kernel
theorem dX8_act_59 : decode cX8_act 59 = .ok (.aload_n 0, 1) := by decide +kernel
theorem dX8_act_60 : decode cX8_act 60 = .ok (.getfield 10, 3) := by decide +kernel
theorem dX8_act_63 : decode cX8_act 63 = .ok (.getfield 44, 3) := by decide +kernel
theorem dX8_act_66 : decode cX8_act 66 = .ok (.getfield 48, 3) := by decide +kernel
theorem dX8_act_69 : decode cX8_act 69 = .ok (.goto 13, 3) := by decide +kernel
theorem dX8_act_72 : decode cX8_act 72 = .ok (.aload_n 0, 1) := by decide +kernel
theorem dX8_act_73 : decode cX8_act 73 = .ok (.getfield 10, 3) := by decide +kernel
theorem dX8_act_76 : decode cX8_act 76 = .ok (.getfield 44, 3) := by decide +kernel
theorem dX8_act_79 : decode cX8_act 79 = .ok (.getfield 54, 3) := by decide +kernel
theorem dX8_act_82 : decode cX8_act 82 = .ok (.iload_n 1, 1) := by decide +kernel
theorem dX8_act_83 : decode cX8_act 83 = .ok (.iload 5, 2) := by decide +kernel
theorem dX8_act_85 : decode cX8_act 85 = .ok (.invokestatic 57, 3) := by decide +kernel
theorem dX8_act_88 : decode cX8_act 88 = .ok (.ireturn, 1) := by decide +kernel
theorem dX8_cue_0 : decode cX8_cue 0 = .ok (.iload_n 1, 1) := by decide +kernel
theorem dX8_cue_1 : decode cX8_cue 1 = .ok (.bipush 16, 2) := by decide +kernel
theorem dX8_cue_3 : decode cX8_cue 3 = .ok (.invokestatic 40, 3) := by decide +kernel
theorem dX8_cue_6 : decode cX8_cue 6 = .ok (.ifCond .eq 11, 3) := by decide +kernel
theorem dX8_cue_9 : decode cX8_cue 9 = .ok (.iload_n 2, 1) := by decide +kernel
theorem dX8_cue_10 : decode cX8_cue 10 = .ok (.iconst 3, 1) := by decide +kernel
theorem dX8_cue_11 : decode cX8_cue 11 = .ok (.invokestatic 40, 3) := by decide +kernel
theorem dX8_cue_14 : decode cX8_cue 14 = .ok (.ifCond .ne 5, 3) := by decide +kernel
theorem dX8_cue_17 : decode cX8_cue 17 = .ok (.iconst (-1), 1) := by decide +kernel
theorem dX8_cue_18 : decode cX8_cue 18 = .ok (.ireturn, 1) := by decide +kernel
theorem dX8_cue_19 : decode cX8_cue 19 = .ok (.iload_n 2, 1) := by decide +kernel
theorem dX8_cue_20 : decode cX8_cue 20 = .ok (.iconst 2, 1) := by decide +kernel
theorem dX8_cue_21 : decode cX8_cue 21 = .ok (.if_icmp .ne 33, 3) := by decide +kernel
theorem dX8_cue_24 : decode cX8_cue 24 = .ok (.iload_n 3, 1) := by decide +kernel
theorem dX8_cue_25 : decode cX8_cue 25 = .ok (.iconst 2, 1) := by decide +kernel
theorem dX8_cue_26 : decode cX8_cue 26 = .ok (.invokestatic 40, 3) := by decide +kernel
theorem dX8_cue_29 : decode cX8_cue 29 = .ok (.ifCond .eq 23, 3) := by decide +kernel
theorem dX8_cue_32 : decode cX8_cue 32 = .ok (.iconst 1, 1) := by decide +kernel
theorem dX8_cue_33 : decode cX8_cue 33 = .ok (.aload_n 0, 1) := by decide +kernel
theorem dX8_cue_34 : decode cX8_cue 34 = .ok (.getfield 10, 3) := by decide +kernel
theorem dX8_cue_37 : decode cX8_cue 37 = .ok (.getfield 44, 3) := by decide +kernel
theorem dX8_cue_40 : decode cX8_cue 40 = .ok (.getfield 61, 3) := by decide +kernel
theorem dX8_cue_43 : decode cX8_cue 43 = .ok (.iload_n 1, 1) := by decide +kernel
theorem dX8_cue_44 : decode cX8_cue 44 = .ok (.iload_n 3, 1) := by decide +kernel
theorem dX8_cue_45 : decode cX8_cue 45 = .ok (.invokestatic 57, 3) := by decide +kernel
theorem dX8_cue_48 : decode cX8_cue 48 = .ok (.iadd, 1) := by decide +kernel
theorem dX8_cue_49 : decode cX8_cue 49 = .ok (.goto 4, 3) := by decide +kernel
theorem dX8_cue_52 : decode cX8_cue 52 = .ok (.iconst (-1), 1) := by decide +kernel
theorem dX8_cue_53 : decode cX8_cue 53 = .ok (.ireturn, 1) := by decide +kernel
theorem dX8_cue_54 : decode cX8_cue 54 = .ok (.iload_n 3, 1) := by decide +kernel
theorem dX8_cue_55 : decode cX8_cue 55 = .ok (.iconst (-1), 1) := by decide +kernel
theorem dX8_cue_56 : decode cX8_cue 56 = .ok (.if_icmp .lt 8, 3) := by decide +kernel
theorem dX8_cue_59 : decode cX8_cue 59 = .ok (.iload_n 3, 1) := by decide +kernel
theorem dX8_cue_60 : decode cX8_cue 60 = .ok (.iconst 4, 1) := by decide +kernel
theorem dX8_cue_61 : decode cX8_cue 61 = .ok (.if_icmp .lt 5, 3) := by decide +kernel
theorem dX8_cue_64 : decode cX8_cue 64 = .ok (.iconst (-1), 1) := by decide +kernel
theorem dX8_cue_65 : decode cX8_cue 65 = .ok (.ireturn, 1) := by decide +kernel
theorem dX8_cue_66 : decode cX8_cue 66 = .ok (.iload_n 2, 1) := by decide +kernel
theorem dX8_cue_67 : decode cX8_cue 67 = .ok (.ifCond .ne 16, 3) := by decide +kernel
theorem dX8_cue_70 : decode cX8_cue 70 = .ok (.aload_n 0, 1) := by decide +kernel
theorem dX8_cue_71 : decode cX8_cue 71 = .ok (.getfield 10, 3) := by decide +kernel
theorem dX8_cue_74 : decode cX8_cue 74 = .ok (.getfield 44, 3) := by decide +kernel
theorem dX8_cue_77 : decode cX8_cue 77 = .ok (.getfield 64, 3) := by decide +kernel
theorem dX8_cue_80 : decode cX8_cue 80 = .ok (.goto 13, 3) := by decide +kernel
theorem dX8_cue_83 : decode cX8_cue 83 = .ok (.aload_n 0, 1) := by decide +kernel
theorem dX8_cue_84 : decode cX8_cue 84 = .ok (.getfield 10, 3) := by decide +kernel
theorem dX8_cue_87 : decode cX8_cue 87 = .ok (.getfield 44, 3) := by decide +kernel
theorem dX8_cue_90 : decode cX8_cue 90 = .ok (.getfield 67, 3) := by decide +kernel
theorem dX8_cue_93 : decode cX8_cue 93 = .ok (.iload_n 1, 1) := by decide +kernel
theorem dX8_cue_94 : decode cX8_cue 94 = .ok (.iconst 1, 1) := by decide +kernel
theorem dX8_cue_95 : decode cX8_cue 95 = .ok (.iload_n 3, 1) := by decide +kernel
theorem dX8_cue_96 : decode cX8_cue 96 = .ok (.iadd, 1) := by decide +kernel
theorem dX8_cue_97 : decode cX8_cue 97 = .ok (.invokestatic 57, 3) := by decide +kernel
theorem dX8_cue_100 : decode cX8_cue 100 = .ok (.ireturn, 1) := by decide +kernel
theorem dX8_stand_0 : decode cX8_stand 0 = .ok (.iload_n 1, 1) := by decide +kernel
theorem dX8_stand_1 : decode cX8_stand 1 = .ok (.iconst 4, 1) := by decide +kernel
theorem dX8_stand_2 : decode cX8_stand 2 = .ok (.invokestatic 40, 3) := by decide +kernel
theorem dX8_stand_5 : decode cX8_stand 5 = .ok (.ifCond .ne 5, 3) := by decide +kernel
theorem dX8_stand_8 : decode cX8_stand 8 = .ok (.iconst (-1), 1) := by decide +kernel
theorem dX8_stand_9 : decode cX8_stand 9 = .ok (.ireturn, 1) := by decide +kernel
theorem dX8_stand_10 : decode cX8_stand 10 = .ok (.aload_n 0, 1) := by decide +kernel
theorem dX8_stand_11 : decode cX8_stand 11 = .ok (.getfield 10, 3) := by decide +kernel
theorem dX8_stand_14 : decode cX8_stand 14 = .ok (.getfield 70, 3) := by decide +kernel
theorem dX8_stand_17 : decode cX8_stand 17 = .ok (.istore_n 2, 1) := by decide +kernel
theorem dX8_stand_18 : decode cX8_stand 18 = .ok (.aload_n 0, 1) := by decide +kernel
theorem dX8_stand_19 : decode cX8_stand 19 = .ok (.getfield 10, 3) := by decide +kernel
theorem dX8_stand_22 : decode cX8_stand 22 = .ok (.iload_n 1, 1) := by decide +kernel
theorem dX8_stand_23 : decode cX8_stand 23 = .ok (.putfield 70, 3) := by decide +kernel
theorem dX8_stand_26 : decode cX8_stand 26 = .ok (.iload_n 2, 1) := by decide +kernel
theorem dX8_stand_27 : decode cX8_stand 27 = .ok (.ireturn, 1) := by decide +kernel
theorem dX8_habit_0 : decode cX8_habit 0 = .ok (.iload_n 1, 1) := by decide +kernel
theorem dX8_habit_1 : decode cX8_habit 1 = .ok (.iconst 5, 1) := by decide +kernel
theorem dX8_habit_2 : decode cX8_habit 2 = .ok (.invokestatic 40, 3) := by decide +kernel
theorem dX8_habit_5 : decode cX8_habit 5 = .ok (.ifCond .eq 16, 3) := by decide +kernel
theorem dX8_habit_8 : decode cX8_habit 8 = .ok (.iload_n 2, 1) := by decide +kernel
theorem dX8_habit_9 : decode cX8_habit 9 = .ok (.ifCond .lt 12, 3) := by decide +kernel
theorem dX8_habit_12 : decode cX8_habit 12 = .ok (.iload_n 2, 1) := by decide +kernel
theorem dX8_habit_13 : decode cX8_habit 13 = .ok (.getstatic 74, 3) := by decide +kernel
theorem dX8_habit_16 : decode cX8_habit 16 = .ok (.iload_n 1, 1) := by decide +kernel
theorem dX8_habit_17 : decode cX8_habit 17 = .ok (.iaload, 1) := by decide +kernel
theorem dX8_habit_18 : decode cX8_habit 18 = .ok (.if_icmp .le 5, 3) := by decide +kernel
theorem dX8_habit_21 : decode cX8_habit 21 = .ok (.iconst (-1), 1) := by decide +kernel
theorem dX8_habit_22 : decode cX8_habit 22 = .ok (.ireturn, 1) := by decide +kernel
theorem dX8_habit_23 : decode cX8_habit 23 = .ok (.aload_n 0, 1) := by decide +kernel
theorem dX8_habit_24 : decode cX8_habit 24 = .ok (.getfield 10, 3) := by decide +kernel
theorem dX8_habit_27 : decode cX8_habit 27 = .ok (.getfield 77, 3) := by decide +kernel
theorem dX8_habit_30 : decode cX8_habit 30 = .ok (.iload_n 1, 1) := by decide +kernel
theorem dX8_habit_31 : decode cX8_habit 31 = .ok (.iload_n 2, 1) := by decide +kernel
theorem dX8_habit_32 : decode cX8_habit 32 = .ok (.invokestatic 57, 3) := by decide +kernel
theorem dX8_habit_35 : decode cX8_habit 35 = .ok (.ireturn, 1) := by decide +kernel
theorem dX8_watcher_0 : decode cX8_watcher 0 = .ok (.iload_n 1, 1) := by decide +kernel
theorem dX8_watcher_1 : decode cX8_watcher 1 = .ok (.bipush 12, 2) := by decide +kernel
theorem dX8_watcher_3 : decode cX8_watcher 3 = .ok (.invokestatic 40, 3) := by decide +kernel
theorem dX8_watcher_6 : decode cX8_watcher 6 = .ok (.ifCond .eq 11, 3) := by decide +kernel
theorem dX8_watcher_9 : decode cX8_watcher 9 = .ok (.iload_n 2, 1) := by decide +kernel
theorem dX8_watcher_10 : decode cX8_watcher 10 = .ok (.iconst 4, 1) := by decide +kernel
theorem dX8_watcher_11 : decode cX8_watcher 11 = .ok (.invokestatic 40, 3) := by decide +kernel
theorem dX8_watcher_14 : decode cX8_watcher 14 = .ok (.ifCond .ne 5, 3) := by decide +kernel
theorem dX8_watcher_17 : decode cX8_watcher 17 = .ok (.iconst (-1), 1) := by decide +kernel
theorem dX8_watcher_18 : decode cX8_watcher 18 = .ok (.ireturn, 1) := by decide +kernel
theorem dX8_watcher_19 : decode cX8_watcher 19 = .ok (.aload_n 0, 1) := by decide +kernel
theorem dX8_watcher_20 : decode cX8_watcher 20 = .ok (.getfield 10, 3) := by decide +kernel
theorem dX8_watcher_23 : decode cX8_watcher 23 = .ok (.getfield 80, 3) := by decide +kernel
theorem dX8_watcher_26 : decode cX8_watcher 26 = .ok (.iload_n 1, 1) := by decide +kernel
theorem dX8_watcher_27 : decode cX8_watcher 27 = .ok (.invokevirtual 84, 3) := by decide +kernel
theorem dX8_watcher_30 : decode cX8_watcher 30 = .ok (.ifCond .eq 6, 3) := by decide +kernel
theorem dX8_watcher_33 : decode cX8_watcher 33 = .ok (.bipush (-2), 2) := by decide +kernel
theorem dX8_watcher_35 : decode cX8_watcher 35 = .ok (.ireturn, 1) := by decide +kernel
theorem dX8_watcher_36 : decode cX8_watcher 36 = .ok (.aload_n 0, 1) := by decide +kernel
theorem dX8_watcher_37 : decode cX8_watcher 37 = .ok (.getfield 10, 3) := by decide +kernel
theorem dX8_watcher_40 : decode cX8_watcher 40 = .ok (.getfield 80, 3) := by decide +kernel
theorem dX8_watcher_43 : decode cX8_watcher 43 = .ok (.getfield 90, 3) := by decide +kernel
theorem dX8_watcher_46 : decode cX8_watcher 46 = .ok (.bipush 8, 2) := by decide +kernel
theorem dX8_watcher_48 : decode cX8_watcher 48 = .ok (.if_icmp .lt 6, 3) := by decide +kernel
theorem dX8_watcher_51 : decode cX8_watcher 51 = .ok (.bipush (-3), 2) := by decide +kernel
theorem dX8_watcher_53 : decode cX8_watcher 53 = .ok (.ireturn, 1) := by decide +kernel
theorem dX8_watcher_54 : decode cX8_watcher 54 = .ok (.aload_n 0, 1) := by decide +kernel
theorem dX8_watcher_55 : decode cX8_watcher 55 = .ok (.getfield 10, 3) := by decide +kernel
theorem dX8_watcher_58 : decode cX8_watcher 58 = .ok (.getfield 80, 3) := by decide +kernel
theorem dX8_watcher_61 : decode cX8_watcher 61 = .ok (.iload_n 1, 1) := by decide +kernel
theorem dX8_watcher_62 : decode cX8_watcher 62 = .ok (.iload_n 2, 1) := by decide +kernel
theorem dX8_watcher_63 : decode cX8_watcher 63 = .ok (.invokevirtual 93, 3) := by decide +kernel
theorem dX8_watcher_66 : decode cX8_watcher 66 = .ok (.aload_n 0, 1) := by decide +kernel
theorem dX8_watcher_67 : decode cX8_watcher 67 = .ok (.getfield 10, 3) := by decide +kernel
theorem dX8_watcher_70 : decode cX8_watcher 70 = .ok (.getfield 80, 3) := by decide +kernel
theorem dX8_watcher_73 : decode cX8_watcher 73 = .ok (.getfield 90, 3) := by decide +kernel
theorem dX8_watcher_76 : decode cX8_watcher 76 = .ok (.iconst 1, 1) := by decide +kernel
theorem dX8_watcher_77 : decode cX8_watcher 77 = .ok (.isub, 1) := by decide +kernel
theorem dX8_watcher_78 : decode cX8_watcher 78 = .ok (.ireturn, 1) := by decide +kernel
theorem dX8_doubt_0 : decode cX8_doubt 0 = .ok (.iload_n 1, 1) := by decide +kernel
theorem dX8_doubt_1 : decode cX8_doubt 1 = .ok (.aload_n 0, 1) := by decide +kernel
theorem dX8_doubt_2 : decode cX8_doubt 2 = .ok (.getfield 10, 3) := by decide +kernel
theorem dX8_doubt_5 : decode cX8_doubt 5 = .ok (.getfield 80, 3) := by decide +kernel
theorem dX8_doubt_8 : decode cX8_doubt 8 = .ok (.getfield 90, 3) := by decide +kernel
theorem dX8_doubt_11 : decode cX8_doubt 11 = .ok (.invokestatic 40, 3) := by decide +kernel
theorem dX8_doubt_14 : decode cX8_doubt 14 = .ok (.ifCond .eq 12, 3) := by decide +kernel
theorem dX8_doubt_17 : decode cX8_doubt 17 = .ok (.iload_n 2, 1) := by decide +kernel
theorem dX8_doubt_18 : decode cX8_doubt 18 = .ok (.bipush 10, 2) := by decide +kernel
theorem dX8_doubt_20 : decode cX8_doubt 20 = .ok (.invokestatic 40, 3) := by decide +kernel
theorem dX8_doubt_23 : decode cX8_doubt 23 = .ok (.ifCond .ne 5, 3) := by decide +kernel
theorem dX8_doubt_26 : decode cX8_doubt 26 = .ok (.iconst (-1), 1) := by decide +kernel
theorem dX8_doubt_27 : decode cX8_doubt 27 = .ok (.ireturn, 1) := by decide +kernel
theorem dX8_doubt_28 : decode cX8_doubt 28 = .ok (.aload_n 0, 1) := by decide +kernel
theorem dX8_doubt_29 : decode cX8_doubt 29 = .ok (.getfield 10, 3) := by decide +kernel
theorem dX8_doubt_32 : decode cX8_doubt 32 = .ok (.getfield 80, 3) := by decide +kernel
theorem dX8_doubt_35 : decode cX8_doubt 35 = .ok (.getfield 97, 3) := by decide +kernel
theorem dX8_doubt_38 : decode cX8_doubt 38 = .ok (.iload_n 1, 1) := by decide +kernel
theorem dX8_doubt_39 : decode cX8_doubt 39 = .ok (.iaload, 1) := by decide +kernel
theorem dX8_doubt_40 : decode cX8_doubt 40 = .ok (.iconst 1, 1) := by decide +kernel
theorem dX8_doubt_41 : decode cX8_doubt 41 = .ok (.if_icmp .eq 6, 3) := by decide +kernel
theorem dX8_doubt_44 : decode cX8_doubt 44 = .ok (.bipush (-12), 2) := by decide +kernel
theorem dX8_doubt_46 : decode cX8_doubt 46 = .ok (.ireturn, 1) := by decide +kernel
theorem dX8_doubt_47 : decode cX8_doubt 47 = .ok (.aload_n 0, 1) := by decide +kernel
theorem dX8_doubt_48 : decode cX8_doubt 48 = .ok (.getfield 10, 3) := by decide +kernel
theorem dX8_doubt_51 : decode cX8_doubt 51 = .ok (.getfield 80, 3) := by decide +kernel
theorem dX8_doubt_54 : decode cX8_doubt 54 = .ok (.getfield 100, 3) := by decide +kernel
theorem dX8_doubt_57 : decode cX8_doubt 57 = .ok (.iload_n 1, 1) := by decide +kernel
theorem dX8_doubt_58 : decode cX8_doubt 58 = .ok (.iload_n 2, 1) := by decide +kernel
theorem dX8_doubt_59 : decode cX8_doubt 59 = .ok (.invokestatic 57, 3) := by decide +kernel
theorem dX8_doubt_62 : decode cX8_doubt 62 = .ok (.ireturn, 1) := by decide +kernel
theorem dX8_told_0 : decode cX8_told 0 = .ok (.iload_n 1, 1) := by decide +kernel
theorem dX8_told_1 : decode cX8_told 1 = .ok (.aload_n 0, 1) := by decide +kernel
theorem dX8_told_2 : decode cX8_told 2 = .ok (.getfield 10, 3) := by decide +kernel
theorem dX8_told_5 : decode cX8_told 5 = .ok (.getfield 80, 3) := by decide +kernel
theorem dX8_told_8 : decode cX8_told 8 = .ok (.getfield 90, 3) := by decide +kernel
theorem dX8_told_11 : decode cX8_told 11 = .ok (.invokestatic 40, 3) := by decide +kernel
theorem dX8_told_14 : decode cX8_told 14 = .ok (.ifCond .eq 11, 3) := by decide +kernel
theorem dX8_told_17 : decode cX8_told 17 = .ok (.iload_n 2, 1) := by decide +kernel
theorem dX8_told_18 : decode cX8_told 18 = .ok (.iconst 3, 1) := by decide +kernel
theorem dX8_told_19 : decode cX8_told 19 = .ok (.invokestatic 40, 3) := by decide +kernel
theorem dX8_told_22 : decode cX8_told 22 = .ok (.ifCond .ne 5, 3) := by decide +kernel
theorem dX8_told_25 : decode cX8_told 25 = .ok (.iconst (-1), 1) := by decide +kernel
theorem dX8_told_26 : decode cX8_told 26 = .ok (.ireturn, 1) := by decide +kernel
theorem dX8_told_27 : decode cX8_told 27 = .ok (.iload_n 2, 1) := by decide +kernel
theorem dX8_told_28 : decode cX8_told 28 = .ok (.ifCond .ne 16, 3) := by decide +kernel
theorem dX8_told_31 : decode cX8_told 31 = .ok (.aload_n 0, 1) := by decide +kernel
theorem dX8_told_32 : decode cX8_told 32 = .ok (.getfield 10, 3) := by decide +kernel
theorem dX8_told_35 : decode cX8_told 35 = .ok (.getfield 80, 3) := by decide +kernel
theorem dX8_told_38 : decode cX8_told 38 = .ok (.getfield 103, 3) := by decide +kernel
theorem dX8_told_41 : decode cX8_told 41 = .ok (.iload_n 1, 1) := by decide +kernel
theorem dX8_told_42 : decode cX8_told 42 = .ok (.iaload, 1) := by decide +kernel
theorem dX8_told_43 : decode cX8_told 43 = .ok (.ireturn, 1) := by decide +kernel
theorem dX8_told_44 : decode cX8_told 44 = .ok (.aload_n 0, 1) := by decide +kernel
theorem dX8_told_45 : decode cX8_told 45 = .ok (.getfield 10, 3) := by decide +kernel
theorem dX8_told_48 : decode cX8_told 48 = .ok (.getfield 80, 3) := by decide +kernel
theorem dX8_told_51 : decode cX8_told 51 = .ok (.getfield 97, 3) := by decide +kernel
theorem dX8_told_54 : decode cX8_told 54 = .ok (.iload_n 1, 1) := by decide +kernel
theorem dX8_told_55 : decode cX8_told 55 = .ok (.iaload, 1) := by decide +kernel
theorem dX8_told_56 : decode cX8_told 56 = .ok (.istore_n 3, 1) := by decide +kernel
theorem dX8_told_57 : decode cX8_told 57 = .ok (.iload_n 2, 1) := by decide +kernel
theorem dX8_told_58 : decode cX8_told 58 = .ok (.iconst 1, 1) := by decide +kernel
theorem dX8_told_59 : decode cX8_told 59 = .ok (.if_icmp .ne 7, 3) := by decide +kernel
theorem dX8_told_62 : decode cX8_told 62 = .ok (.iload_n 3, 1) := by decide +kernel
theorem dX8_told_63 : decode cX8_told 63 = .ok (.goto 34, 3) := by decide +kernel
theorem dX8_told_66 : decode cX8_told 66 = .ok (.aload_n 0, 1) := by decide +kernel
theorem dX8_told_67 : decode cX8_told 67 = .ok (.getfield 10, 3) := by decide +kernel
theorem dX8_told_70 : decode cX8_told 70 = .ok (.getfield 44, 3) := by decide +kernel
theorem dX8_told_73 : decode cX8_told 73 = .ok (.bipush 15, 2) := by decide +kernel
theorem dX8_told_75 : decode cX8_told 75 = .ok (.iload_n 3, 1) := by decide +kernel
theorem dX8_told_76 : decode cX8_told 76 = .ok (.iconst 2, 1) := by decide +kernel
theorem dX8_told_77 : decode cX8_told 77 = .ok (.if_icmp .ne 7, 3) := by decide +kernel
theorem dX8_told_80 : decode cX8_told 80 = .ok (.iconst 1, 1) := by decide +kernel
theorem dX8_told_81 : decode cX8_told 81 = .ok (.goto 4, 3) := by decide +kernel
theorem dX8_told_84 : decode cX8_told 84 = .ok (.iconst 0, 1) := by decide +kernel
theorem dX8_told_85 : decode cX8_told 85 = .ok (.aload_n 0, 1) := by decide +kernel
theorem dX8_told_86 : decode cX8_told 86 = .ok (.getfield 10, 3) := by decide +kernel
theorem dX8_told_89 : decode cX8_told 89 = .ok (.getfield 77, 3) := by decide +kernel
theorem dX8_told_92 : decode cX8_told 92 = .ok (.iconst 2, 1) := by decide +kernel
theorem dX8_told_93 : decode cX8_told 93 = .ok (.iaload, 1) := by decide +kernel
theorem dX8_told_94 : decode cX8_told 94 = .ok (.invokevirtual 106, 3) := by decide +kernel
theorem dX8_told_97 : decode cX8_told 97 = .ok (.ireturn, 1) := by decide +kernel
theorem dX8_leave_0 : decode cX8_leave 0 = .ok (.iload_n 1, 1) := by decide +kernel
theorem dX8_leave_1 : decode cX8_leave 1 = .ok (.aload_n 0, 1) := by decide +kernel
theorem dX8_leave_2 : decode cX8_leave 2 = .ok (.getfield 10, 3) := by decide +kernel
theorem dX8_leave_5 : decode cX8_leave 5 = .ok (.getfield 80, 3) := by decide +kernel
theorem dX8_leave_8 : decode cX8_leave 8 = .ok (.getfield 90, 3) := by decide +kernel
theorem dX8_leave_11 : decode cX8_leave 11 = .ok (.invokestatic 40, 3) := by decide +kernel
theorem dX8_leave_14 : decode cX8_leave 14 = .ok (.ifCond .ne 5, 3) := by decide +kernel
theorem dX8_leave_17 : decode cX8_leave 17 = .ok (.iconst (-1), 1) := by decide +kernel
theorem dX8_leave_18 : decode cX8_leave 18 = .ok (.ireturn, 1) := by decide +kernel
theorem dX8_leave_19 : decode cX8_leave 19 = .ok (.aload_n 0, 1) := by decide +kernel
theorem dX8_leave_20 : decode cX8_leave 20 = .ok (.getfield 10, 3) := by decide +kernel
theorem dX8_leave_23 : decode cX8_leave 23 = .ok (.getfield 80, 3) := by decide +kernel
theorem dX8_leave_26 : decode cX8_leave 26 = .ok (.iload_n 1, 1) := by decide +kernel
theorem dX8_leave_27 : decode cX8_leave 27 = .ok (.invokevirtual 110, 3) := by decide +kernel
theorem dX8_leave_30 : decode cX8_leave 30 = .ok (.aload_n 0, 1) := by decide +kernel
theorem dX8_leave_31 : decode cX8_leave 31 = .ok (.getfield 10, 3) := by decide +kernel
theorem dX8_leave_34 : decode cX8_leave 34 = .ok (.getfield 80, 3) := by decide +kernel
theorem dX8_leave_37 : decode cX8_leave 37 = .ok (.getfield 90, 3) := by decide +kernel
theorem dX8_leave_40 : decode cX8_leave 40 = .ok (.ireturn, 1) := by decide +kernel
theorem dX8_type_0 : decode cX8_type 0 = .ok (.iload_n 3, 1) := by decide +kernel
theorem dX8_type_1 : decode cX8_type 1 = .ok (.iconst 1, 1) := by decide +kernel
theorem dX8_type_2 : decode cX8_type 2 = .ok (.if_icmp .lt 17, 3) := by decide +kernel
theorem dX8_type_5 : decode cX8_type 5 = .ok (.iload_n 3, 1) := by decide +kernel
theorem dX8_type_6 : decode cX8_type 6 = .ok (.bipush 8, 2) := by decide +kernel
theorem dX8_type_8 : decode cX8_type 8 = .ok (.if_icmp .gt 11, 3) := by decide +kernel
theorem dX8_type_11 : decode cX8_type 11 = .ok (.lload_n 1, 1) := by decide +kernel
theorem dX8_type_12 : decode cX8_type 12 = .ok (.iload_n 3, 1) := by decide +kernel
theorem dX8_type_13 : decode cX8_type 13 = .ok (.invokestatic 114, 3) := by decide +kernel
theorem dX8_type_16 : decode cX8_type 16 = .ok (.ifCond .ne 5, 3) := by decide +kernel
theorem dX8_type_19 : decode cX8_type 19 = .ok (.iconst (-1), 1) := by decide +kernel
theorem dX8_type_20 : decode cX8_type 20 = .ok (.ireturn, 1) := by decide +kernel
theorem dX8_type_21 : decode cX8_type 21 = .ok (.aload_n 0, 1) := by decide +kernel
theorem dX8_type_22 : decode cX8_type 22 = .ok (.getfield 29, 3) := by decide +kernel
theorem dX8_type_25 : decode cX8_type 25 = .ok (.getfield 118, 3) := by decide +kernel
theorem dX8_type_28 : decode cX8_type 28 = .ok (.iload_n 3, 1) := by decide +kernel
theorem dX8_type_29 : decode cX8_type 29 = .ok (.iadd, 1) := by decide +kernel
theorem dX8_type_30 : decode cX8_type 30 = .ok (.bipush 100, 2) := by decide +kernel
theorem dX8_type_32 : decode cX8_type 32 = .ok (.if_icmp .le 6, 3) := by decide +kernel
theorem dX8_type_35 : decode cX8_type 35 = .ok (.bipush (-3), 2) := by decide +kernel
theorem dX8_type_37 : decode cX8_type 37 = .ok (.ireturn, 1) := by decide +kernel
theorem dX8_type_38 : decode cX8_type 38 = .ok (.aload_n 0, 1) := by decide +kernel
theorem dX8_type_39 : decode cX8_type 39 = .ok (.getfield 29, 3) := by decide +kernel
theorem dX8_type_42 : decode cX8_type 42 = .ok (.lload_n 1, 1) := by decide +kernel
theorem dX8_type_43 : decode cX8_type 43 = .ok (.iload_n 3, 1) := by decide +kernel
theorem dX8_type_44 : decode cX8_type 44 = .ok (.invokevirtual 121, 3) := by decide +kernel
theorem dX8_type_47 : decode cX8_type 47 = .ok (.aload_n 0, 1) := by decide +kernel
theorem dX8_type_48 : decode cX8_type 48 = .ok (.getfield 29, 3) := by decide +kernel
theorem dX8_type_51 : decode cX8_type 51 = .ok (.getfield 118, 3) := by decide +kernel
theorem dX8_type_54 : decode cX8_type 54 = .ok (.ireturn, 1) := by decide +kernel
theorem dX8_routine_0 : decode cX8_routine 0 = .ok (.aload_n 0, 1) := by decide +kernel
theorem dX8_routine_1 : decode cX8_routine 1 = .ok (.getfield 22, 3) := by decide +kernel
theorem dX8_routine_4 : decode cX8_routine 4 = .ok (.getfield 125, 3) := by decide +kernel
theorem dX8_routine_7 : decode cX8_routine 7 = .ok (.getfield 44, 3) := by decide +kernel
theorem dX8_routine_10 : decode cX8_routine 10 = .ok (.astore_n 1, 1) := by decide +kernel
theorem dX8_routine_11 : decode cX8_routine 11 = .ok (.aload_n 1, 1) := by decide +kernel
theorem dX8_routine_12 : decode cX8_routine 12 = .ok (.aload_n 0, 1) := by decide +kernel
theorem dX8_routine_13 : decode cX8_routine 13 = .ok (.getfield 10, 3) := by decide +kernel
theorem dX8_routine_16 : decode cX8_routine 16 = .ok (.getfield 44, 3) := by decide +kernel
theorem dX8_routine_19 : decode cX8_routine 19 = .ok (.invokevirtual 128, 3) := by decide +kernel
theorem dX8_routine_22 : decode cX8_routine 22 = .ok (.aload_n 0, 1) := by decide +kernel
theorem dX8_routine_23 : decode cX8_routine 23 = .ok (.getfield 29, 3) := by decide +kernel
theorem dX8_routine_26 : decode cX8_routine 26 = .ok (.aload_n 1, 1) := by decide +kernel
theorem dX8_routine_27 : decode cX8_routine 27 = .ok (.invokevirtual 132, 3) := by decide +kernel
theorem dX8_routine_30 : decode cX8_routine 30 = .ok (.istore_n 2, 1) := by decide +kernel
theorem dX8_routine_31 : decode cX8_routine 31 = .ok (.aload_n 0, 1) := by decide +kernel
theorem dX8_routine_32 : decode cX8_routine 32 = .ok (.getfield 29, 3) := by decide +kernel
theorem dX8_routine_35 : decode cX8_routine 35 = .ok (.iconst 0, 1) := by decide +kernel
theorem dX8_routine_36 : decode cX8_routine 36 = .ok (.putfield 118, 3) := by decide +kernel
theorem dX8_routine_39 : decode cX8_routine 39 = .ok (.iload_n 2, 1) := by decide +kernel
theorem dX8_routine_40 : decode cX8_routine 40 = .ok (.ifCond .le 14, 3) := by decide +kernel
theorem dX8_routine_43 : decode cX8_routine 43 = .ok (.aload_n 0, 1) := by decide +kernel
theorem dX8_routine_44 : decode cX8_routine 44 = .ok (.getfield 10, 3) := by decide +kernel
theorem dX8_routine_47 : decode cX8_routine 47 = .ok (.getfield 44, 3) := by decide +kernel
theorem dX8_routine_50 : decode cX8_routine 50 = .ok (.aload_n 1, 1) := by decide +kernel
theorem dX8_routine_51 : decode cX8_routine 51 = .ok (.invokevirtual 128, 3) := by decide +kernel
theorem dX8_routine_54 : decode cX8_routine 54 = .ok (.iload_n 2, 1) := by decide +kernel
theorem dX8_routine_55 : decode cX8_routine 55 = .ok (.ireturn, 1) := by decide +kernel
theorem dX8_house_0 : decode cX8_house 0 = .ok (.aload_n 0, 1) := by decide +kernel
theorem dX8_house_1 : decode cX8_house 1 = .ok (.getfield 22, 3) := by decide +kernel
theorem dX8_house_4 : decode cX8_house 4 = .ok (.getfield 125, 3) := by decide +kernel
theorem dX8_house_7 : decode cX8_house 7 = .ok (.getfield 80, 3) := by decide +kernel
theorem dX8_house_10 : decode cX8_house 10 = .ok (.astore_n 1, 1) := by decide +kernel
theorem dX8_house_11 : decode cX8_house 11 = .ok (.aload_n 1, 1) := by decide +kernel
theorem dX8_house_12 : decode cX8_house 12 = .ok (.aload_n 0, 1) := by decide +kernel
theorem dX8_house_13 : decode cX8_house 13 = .ok (.getfield 10, 3) := by decide +kernel
theorem dX8_house_16 : decode cX8_house 16 = .ok (.getfield 80, 3) := by decide +kernel
theorem dX8_house_19 : decode cX8_house 19 = .ok (.invokevirtual 136, 3) := by decide +kernel
theorem dX8_house_22 : decode cX8_house 22 = .ok (.aload_n 0, 1) := by decide +kernel
theorem dX8_house_23 : decode cX8_house 23 = .ok (.getfield 29, 3) := by decide +kernel
theorem dX8_house_26 : decode cX8_house 26 = .ok (.aload_n 1, 1) := by decide +kernel
theorem dX8_house_27 : decode cX8_house 27 = .ok (.invokevirtual 139, 3) := by decide +kernel
theorem dX8_house_30 : decode cX8_house 30 = .ok (.istore_n 2, 1) := by decide +kernel
theorem dX8_house_31 : decode cX8_house 31 = .ok (.aload_n 0, 1) := by decide +kernel
theorem dX8_house_32 : decode cX8_house 32 = .ok (.getfield 29, 3) := by decide +kernel
theorem dX8_house_35 : decode cX8_house 35 = .ok (.iconst 0, 1) := by decide +kernel
theorem dX8_house_36 : decode cX8_house 36 = .ok (.putfield 118, 3) := by decide +kernel
theorem dX8_house_39 : decode cX8_house 39 = .ok (.iload_n 2, 1) := by decide +kernel
theorem dX8_house_40 : decode cX8_house 40 = .ok (.ifCond .le 15, 3) := by decide +kernel
theorem dX8_house_43 : decode cX8_house 43 = .ok (.aload_n 1, 1) := by decide +kernel
theorem dX8_house_44 : decode cX8_house 44 = .ok (.getfield 90, 3) := by decide +kernel
theorem dX8_house_47 : decode cX8_house 47 = .ok (.bipush 8, 2) := by decide +kernel
theorem dX8_house_49 : decode cX8_house 49 = .ok (.if_icmp .le 6, 3) := by decide +kernel
theorem dX8_house_52 : decode cX8_house 52 = .ok (.bipush (-3), 2) := by decide +kernel
theorem dX8_house_54 : decode cX8_house 54 = .ok (.ireturn, 1) := by decide +kernel
theorem dX8_house_55 : decode cX8_house 55 = .ok (.iload_n 2, 1) := by decide +kernel
theorem dX8_house_56 : decode cX8_house 56 = .ok (.ifCond .le 14, 3) := by decide +kernel
theorem dX8_house_59 : decode cX8_house 59 = .ok (.aload_n 0, 1) := by decide +kernel
theorem dX8_house_60 : decode cX8_house 60 = .ok (.getfield 10, 3) := by decide +kernel
theorem dX8_house_63 : decode cX8_house 63 = .ok (.getfield 80, 3) := by decide +kernel
theorem dX8_house_66 : decode cX8_house 66 = .ok (.aload_n 1, 1) := by decide +kernel
theorem dX8_house_67 : decode cX8_house 67 = .ok (.invokevirtual 136, 3) := by decide +kernel
theorem dX8_house_70 : decode cX8_house 70 = .ok (.iload_n 2, 1) := by decide +kernel
theorem dX8_house_71 : decode cX8_house 71 = .ok (.ireturn, 1) := by decide +kernel
theorem dX8_count_0 : decode cX8_count 0 = .ok (.iload_n 1, 1) := by decide +kernel
theorem dX8_count_1 : decode cX8_count 1 = .ok (.tableswitch 114 0 5 #[39, 50, 64, 78, 92, 103], 39) := by decide +kernel
theorem dX8_count_40 : decode cX8_count 40 = .ok (.aload_n 0, 1) := by decide +kernel
theorem dX8_count_41 : decode cX8_count 41 = .ok (.getfield 10, 3) := by decide +kernel
theorem dX8_count_44 : decode cX8_count 44 = .ok (.getfield 80, 3) := by decide +kernel
theorem dX8_count_47 : decode cX8_count 47 = .ok (.getfield 90, 3) := by decide +kernel
theorem dX8_count_50 : decode cX8_count 50 = .ok (.ireturn, 1) := by decide +kernel
theorem dX8_count_51 : decode cX8_count 51 = .ok (.aload_n 0, 1) := by decide +kernel
theorem dX8_count_52 : decode cX8_count 52 = .ok (.getfield 10, 3) := by decide +kernel
theorem dX8_count_55 : decode cX8_count 55 = .ok (.getfield 44, 3) := by decide +kernel
theorem dX8_count_58 : decode cX8_count 58 = .ok (.getfield 54, 3) := by decide +kernel
theorem dX8_count_61 : decode cX8_count 61 = .ok (.invokestatic 143, 3) := by decide +kernel
theorem dX8_count_64 : decode cX8_count 64 = .ok (.ireturn, 1) := by decide +kernel
theorem dX8_count_65 : decode cX8_count 65 = .ok (.aload_n 0, 1) := by decide +kernel
theorem dX8_count_66 : decode cX8_count 66 = .ok (.getfield 10, 3) := by decide +kernel
theorem dX8_count_69 : decode cX8_count 69 = .ok (.getfield 44, 3) := by decide +kernel
theorem dX8_count_72 : decode cX8_count 72 = .ok (.getfield 48, 3) := by decide +kernel
theorem dX8_count_75 : decode cX8_count 75 = .ok (.invokestatic 143, 3) := by decide +kernel
theorem dX8_count_78 : decode cX8_count 78 = .ok (.ireturn, 1) := by decide +kernel
theorem dX8_count_79 : decode cX8_count 79 = .ok (.aload_n 0, 1) := by decide +kernel
theorem dX8_count_80 : decode cX8_count 80 = .ok (.getfield 10, 3) := by decide +kernel
theorem dX8_count_83 : decode cX8_count 83 = .ok (.getfield 44, 3) := by decide +kernel
theorem dX8_count_86 : decode cX8_count 86 = .ok (.getfield 61, 3) := by decide +kernel
theorem dX8_count_89 : decode cX8_count 89 = .ok (.invokestatic 143, 3) := by decide +kernel
theorem dX8_count_92 : decode cX8_count 92 = .ok (.ireturn, 1) := by decide +kernel
theorem dX8_count_93 : decode cX8_count 93 = .ok (.aload_n 0, 1) := by decide +kernel
theorem dX8_count_94 : decode cX8_count 94 = .ok (.getfield 10, 3) := by decide +kernel
theorem dX8_count_97 : decode cX8_count 97 = .ok (.getfield 147, 3) := by decide +kernel
theorem dX8_count_100 : decode cX8_count 100 = .ok (.getfield 151, 3) := by decide +kernel
theorem dX8_count_103 : decode cX8_count 103 = .ok (.ireturn, 1) := by decide +kernel
theorem dX8_count_104 : decode cX8_count 104 = .ok (.aload_n 0, 1) := by decide +kernel
theorem dX8_count_105 : decode cX8_count 105 = .ok (.getfield 10, 3) := by decide +kernel
theorem dX8_count_108 : decode cX8_count 108 = .ok (.getfield 154, 3) := by decide +kernel
theorem dX8_count_111 : decode cX8_count 111 = .ok (.getfield 158, 3) := by decide +kernel
theorem dX8_count_114 : decode cX8_count 114 = .ok (.ireturn, 1) := by decide +kernel
theorem dX8_count_115 : decode cX8_count 115 = .ok (.iconst (-1), 1) := by decide +kernel
theorem dX8_count_116 : decode cX8_count 116 = .ok (.ireturn, 1) := by decide +kernel
theorem dX8_pull_0 : decode cX8_pull 0 = .ok (.iload_n 1, 1) := by decide +kernel
theorem dX8_pull_1 : decode cX8_pull 1 = .ok (.aload_n 0, 1) := by decide +kernel
theorem dX8_pull_2 : decode cX8_pull 2 = .ok (.getfield 10, 3) := by decide +kernel
theorem dX8_pull_5 : decode cX8_pull 5 = .ok (.getfield 80, 3) := by decide +kernel
theorem dX8_pull_8 : decode cX8_pull 8 = .ok (.getfield 90, 3) := by decide +kernel
theorem dX8_pull_11 : decode cX8_pull 11 = .ok (.invokestatic 40, 3) := by decide +kernel
theorem dX8_pull_14 : decode cX8_pull 14 = .ok (.ifCond .eq 28, 3) := by decide +kernel
theorem dX8_pull_17 : decode cX8_pull 17 = .ok (.iload_n 2, 1) := by decide +kernel
theorem dX8_pull_18 : decode cX8_pull 18 = .ok (.bipush 16, 2) := by decide +kernel
theorem dX8_pull_20 : decode cX8_pull 20 = .ok (.invokestatic 40, 3) := by decide +kernel
theorem dX8_pull_23 : decode cX8_pull 23 = .ok (.ifCond .eq 19, 3) := by decide +kernel
theorem dX8_pull_26 : decode cX8_pull 26 = .ok (.iload_n 3, 1) := by decide +kernel
theorem dX8_pull_27 : decode cX8_pull 27 = .ok (.iconst 4, 1) := by decide +kernel
theorem dX8_pull_28 : decode cX8_pull 28 = .ok (.invokestatic 40, 3) := by decide +kernel
theorem dX8_pull_31 : decode cX8_pull 31 = .ok (.ifCond .eq 11, 3) := by decide +kernel
theorem dX8_pull_34 : decode cX8_pull 34 = .ok (.iload 4, 2) := by decide +kernel
theorem dX8_pull_36 : decode cX8_pull 36 = .ok (.invokestatic 161, 3) := by decide +kernel
theorem dX8_pull_39 : decode cX8_pull 39 = .ok (.ifCond .ne 5, 3) := by decide +kernel
theorem dX8_pull_42 : decode cX8_pull 42 = .ok (.iconst (-1), 1) := by decide +kernel
theorem dX8_pull_43 : decode cX8_pull 43 = .ok (.ireturn, 1) := by decide +kernel
theorem dX8_pull_44 : decode cX8_pull 44 = .ok (.aload_n 0, 1) := by decide +kernel
theorem dX8_pull_45 : decode cX8_pull 45 = .ok (.getfield 10, 3) := by decide +kernel
theorem dX8_pull_48 : decode cX8_pull 48 = .ok (.aload_n 0, 1) := by decide +kernel
theorem dX8_pull_49 : decode cX8_pull 49 = .ok (.getfield 10, 3) := by decide +kernel
theorem dX8_pull_52 : decode cX8_pull 52 = .ok (.getfield 80, 3) := by decide +kernel
theorem dX8_pull_55 : decode cX8_pull 55 = .ok (.getfield 97, 3) := by decide +kernel
theorem dX8_pull_58 : decode cX8_pull 58 = .ok (.iload_n 1, 1) := by decide +kernel
theorem dX8_pull_59 : decode cX8_pull 59 = .ok (.iaload, 1) := by decide +kernel
theorem dX8_pull_60 : decode cX8_pull 60 = .ok (.aload_n 0, 1) := by decide +kernel
theorem dX8_pull_61 : decode cX8_pull 61 = .ok (.getfield 10, 3) := by decide +kernel
theorem dX8_pull_64 : decode cX8_pull 64 = .ok (.getfield 80, 3) := by decide +kernel
theorem dX8_pull_67 : decode cX8_pull 67 = .ok (.getfield 100, 3) := by decide +kernel
theorem dX8_pull_70 : decode cX8_pull 70 = .ok (.iload_n 1, 1) := by decide +kernel
theorem dX8_pull_71 : decode cX8_pull 71 = .ok (.iaload, 1) := by decide +kernel
theorem dX8_pull_72 : decode cX8_pull 72 = .ok (.iload_n 2, 1) := by decide +kernel
theorem dX8_pull_73 : decode cX8_pull 73 = .ok (.iload 4, 2) := by decide +kernel
theorem dX8_pull_75 : decode cX8_pull 75 = .ok (.invokevirtual 164, 3) := by decide +kernel
theorem dX8_pull_78 : decode cX8_pull 78 = .ok (.aload_n 0, 1) := by decide +kernel
theorem dX8_pull_79 : decode cX8_pull 79 = .ok (.getfield 10, 3) := by decide +kernel
theorem dX8_pull_82 : decode cX8_pull 82 = .ok (.getfield 168, 3) := by decide +kernel
theorem dX8_pull_85 : decode cX8_pull 85 = .ok (.iload_n 3, 1) := by decide +kernel
theorem dX8_pull_86 : decode cX8_pull 86 = .ok (.iaload, 1) := by decide +kernel
theorem dX8_pull_87 : decode cX8_pull 87 = .ok (.ireturn, 1) := by decide +kernel
theorem dX8_heed_0 : decode cX8_heed 0 = .ok (.iload_n 1, 1) := by decide +kernel
theorem dX8_heed_1 : decode cX8_heed 1 = .ok (.aload_n 0, 1) := by decide +kernel
theorem dX8_heed_2 : decode cX8_heed 2 = .ok (.getfield 10, 3) := by decide +kernel
theorem dX8_heed_5 : decode cX8_heed 5 = .ok (.getfield 80, 3) := by decide +kernel
theorem dX8_heed_8 : decode cX8_heed 8 = .ok (.getfield 90, 3) := by decide +kernel
theorem dX8_heed_11 : decode cX8_heed 11 = .ok (.invokestatic 40, 3) := by decide +kernel
theorem dX8_heed_14 : decode cX8_heed 14 = .ok (.ifCond .eq 12, 3) := by decide +kernel
theorem dX8_heed_17 : decode cX8_heed 17 = .ok (.iload_n 2, 1) := by decide +kernel
theorem dX8_heed_18 : decode cX8_heed 18 = .ok (.bipush 16, 2) := by decide +kernel
theorem dX8_heed_20 : decode cX8_heed 20 = .ok (.invokestatic 40, 3) := by decide +kernel
theorem dX8_heed_23 : decode cX8_heed 23 = .ok (.ifCond .ne 5, 3) := by decide +kernel
theorem dX8_heed_26 : decode cX8_heed 26 = .ok (.iconst (-1), 1) := by decide +kernel
theorem dX8_heed_27 : decode cX8_heed 27 = .ok (.ireturn, 1) := by decide +kernel
theorem dX8_heed_28 : decode cX8_heed 28 = .ok (.aload_n 0, 1) := by decide +kernel
theorem dX8_heed_29 : decode cX8_heed 29 = .ok (.getfield 10, 3) := by decide +kernel
theorem dX8_heed_32 : decode cX8_heed 32 = .ok (.getfield 44, 3) := by decide +kernel
theorem dX8_heed_35 : decode cX8_heed 35 = .ok (.iload_n 2, 1) := by decide +kernel
theorem dX8_heed_36 : decode cX8_heed 36 = .ok (.aload_n 0, 1) := by decide +kernel
theorem dX8_heed_37 : decode cX8_heed 37 = .ok (.getfield 10, 3) := by decide +kernel
theorem dX8_heed_40 : decode cX8_heed 40 = .ok (.getfield 80, 3) := by decide +kernel
theorem dX8_heed_43 : decode cX8_heed 43 = .ok (.getfield 97, 3) := by decide +kernel
theorem dX8_heed_46 : decode cX8_heed 46 = .ok (.iload_n 1, 1) := by decide +kernel
theorem dX8_heed_47 : decode cX8_heed 47 = .ok (.iaload, 1) := by decide +kernel
theorem dX8_heed_48 : decode cX8_heed 48 = .ok (.iconst 2, 1) := by decide +kernel
theorem dX8_heed_49 : decode cX8_heed 49 = .ok (.if_icmp .ne 7, 3) := by decide +kernel
theorem dX8_heed_52 : decode cX8_heed 52 = .ok (.iconst 1, 1) := by decide +kernel
theorem dX8_heed_53 : decode cX8_heed 53 = .ok (.goto 4, 3) := by decide +kernel
theorem dX8_heed_56 : decode cX8_heed 56 = .ok (.iconst 0, 1) := by decide +kernel
theorem dX8_heed_57 : decode cX8_heed 57 = .ok (.aload_n 0, 1) := by decide +kernel
theorem dX8_heed_58 : decode cX8_heed 58 = .ok (.getfield 10, 3) := by decide +kernel
theorem dX8_heed_61 : decode cX8_heed 61 = .ok (.getfield 77, 3) := by decide +kernel
theorem dX8_heed_64 : decode cX8_heed 64 = .ok (.iconst 2, 1) := by decide +kernel
theorem dX8_heed_65 : decode cX8_heed 65 = .ok (.iaload, 1) := by decide +kernel
theorem dX8_heed_66 : decode cX8_heed 66 = .ok (.invokevirtual 106, 3) := by decide +kernel
theorem dX8_heed_69 : decode cX8_heed 69 = .ok (.ireturn, 1) := by decide +kernel
theorem dX8_can_0 : decode cX8_can 0 = .ok (.iload_n 1, 1) := by decide +kernel
theorem dX8_can_1 : decode cX8_can 1 = .ok (.bipush 12, 2) := by decide +kernel
theorem dX8_can_3 : decode cX8_can 3 = .ok (.invokestatic 40, 3) := by decide +kernel
theorem dX8_can_6 : decode cX8_can 6 = .ok (.ifCond .eq 11, 3) := by decide +kernel
theorem dX8_can_9 : decode cX8_can 9 = .ok (.iload_n 2, 1) := by decide +kernel
theorem dX8_can_10 : decode cX8_can 10 = .ok (.iconst 4, 1) := by decide +kernel
theorem dX8_can_11 : decode cX8_can 11 = .ok (.invokestatic 40, 3) := by decide +kernel
theorem dX8_can_14 : decode cX8_can 14 = .ok (.ifCond .ne 5, 3) := by decide +kernel
theorem dX8_can_17 : decode cX8_can 17 = .ok (.iconst (-1), 1) := by decide +kernel
theorem dX8_can_18 : decode cX8_can 18 = .ok (.ireturn, 1) := by decide +kernel
theorem dX8_can_19 : decode cX8_can 19 = .ok (.iload_n 1, 1) := by decide +kernel
theorem dX8_can_20 : decode cX8_can 20 = .ok (.iload_n 2, 1) := by decide +kernel
theorem dX8_can_21 : decode cX8_can 21 = .ok (.aload_n 0, 1) := by decide +kernel
theorem dX8_can_22 : decode cX8_can 22 = .ok (.getfield 10, 3) := by decide +kernel
theorem dX8_can_25 : decode cX8_can 25 = .ok (.getfield 70, 3) := by decide +kernel
theorem dX8_can_28 : decode cX8_can 28 = .ok (.invokestatic 171, 3) := by decide +kernel
theorem dX8_can_31 : decode cX8_can 31 = .ok (.ifCond .eq 7, 3) := by decide +kernel
theorem dX8_can_34 : decode cX8_can 34 = .ok (.iconst 1, 1) := by decide +kernel
theorem dX8_can_35 : decode cX8_can 35 = .ok (.goto 4, 3) := by decide +kernel
theorem dX8_can_38 : decode cX8_can 38 = .ok (.iconst 0, 1) := by decide +kernel
theorem dX8_can_39 : decode cX8_can 39 = .ok (.ireturn, 1) := by decide +kernel
theorem dX8_odds_0 : decode cX8_odds 0 = .ok (.iload_n 1, 1) := by decide +kernel
theorem dX8_odds_1 : decode cX8_odds 1 = .ok (.aload_n 0, 1) := by decide +kernel
theorem dX8_odds_2 : decode cX8_odds 2 = .ok (.getfield 10, 3) := by decide +kernel
theorem dX8_odds_5 : decode cX8_odds 5 = .ok (.getfield 80, 3) := by decide +kernel
theorem dX8_odds_8 : decode cX8_odds 8 = .ok (.getfield 90, 3) := by decide +kernel
theorem dX8_odds_11 : decode cX8_odds 11 = .ok (.invokestatic 40, 3) := by decide +kernel
theorem dX8_odds_14 : decode cX8_odds 14 = .ok (.ifCond .eq 28, 3) := by decide +kernel
theorem dX8_odds_17 : decode cX8_odds 17 = .ok (.iload_n 2, 1) := by decide +kernel
theorem dX8_odds_18 : decode cX8_odds 18 = .ok (.bipush 16, 2) := by decide +kernel
theorem dX8_odds_20 : decode cX8_odds 20 = .ok (.invokestatic 40, 3) := by decide +kernel
theorem dX8_odds_23 : decode cX8_odds 23 = .ok (.ifCond .eq 19, 3) := by decide +kernel
theorem dX8_odds_26 : decode cX8_odds 26 = .ok (.iload_n 3, 1) := by decide +kernel
theorem dX8_odds_27 : decode cX8_odds 27 = .ok (.invokestatic 161, 3) := by decide +kernel
theorem dX8_odds_30 : decode cX8_odds 30 = .ok (.ifCond .eq 12, 3) := by decide +kernel
theorem dX8_odds_33 : decode cX8_odds 33 = .ok (.iload 4, 2) := by decide +kernel
theorem dX8_odds_35 : decode cX8_odds 35 = .ok (.iconst 2, 1) := by decide +kernel
theorem dX8_odds_36 : decode cX8_odds 36 = .ok (.invokestatic 40, 3) := by decide +kernel
theorem dX8_odds_39 : decode cX8_odds 39 = .ok (.ifCond .ne 5, 3) := by decide +kernel
theorem dX8_odds_42 : decode cX8_odds 42 = .ok (.iconst (-1), 1) := by decide +kernel
theorem dX8_odds_43 : decode cX8_odds 43 = .ok (.ireturn, 1) := by decide +kernel
theorem dX8_odds_44 : decode cX8_odds 44 = .ok (.aload_n 0, 1) := by decide +kernel
theorem dX8_odds_45 : decode cX8_odds 45 = .ok (.getfield 10, 3) := by decide +kernel
theorem dX8_odds_48 : decode cX8_odds 48 = .ok (.getfield 44, 3) := by decide +kernel
theorem dX8_odds_51 : decode cX8_odds 51 = .ok (.getfield 54, 3) := by decide +kernel
theorem dX8_odds_54 : decode cX8_odds 54 = .ok (.iload_n 2, 1) := by decide +kernel
theorem dX8_odds_55 : decode cX8_odds 55 = .ok (.iaload, 1) := by decide +kernel
theorem dX8_odds_56 : decode cX8_odds 56 = .ok (.ifCond .ne 6, 3) := by decide +kernel
theorem dX8_odds_59 : decode cX8_odds 59 = .ok (.bipush (-2), 2) := by decide +kernel
theorem dX8_odds_61 : decode cX8_odds 61 = .ok (.ireturn, 1) := by decide +kernel
theorem dX8_odds_62 : decode cX8_odds 62 = .ok (.aload_n 0, 1) := by decide +kernel
theorem dX8_odds_63 : decode cX8_odds 63 = .ok (.getfield 10, 3) := by decide +kernel
theorem dX8_odds_66 : decode cX8_odds 66 = .ok (.iload_n 1, 1) := by decide +kernel
theorem dX8_odds_67 : decode cX8_odds 67 = .ok (.iload_n 2, 1) := by decide +kernel
theorem dX8_odds_68 : decode cX8_odds 68 = .ok (.iload_n 3, 1) := by decide +kernel
theorem dX8_odds_69 : decode cX8_odds 69 = .ok (.aload_n 0, 1) := by decide +kernel
theorem dX8_odds_70 : decode cX8_odds 70 = .ok (.getfield 10, 3) := by decide +kernel
theorem dX8_odds_73 : decode cX8_odds 73 = .ok (.getfield 44, 3) := by decide +kernel
theorem dX8_odds_76 : decode cX8_odds 76 = .ok (.iload_n 2, 1) := by decide +kernel
theorem dX8_odds_77 : decode cX8_odds 77 = .ok (.aload_n 0, 1) := by decide +kernel
theorem dX8_odds_78 : decode cX8_odds 78 = .ok (.getfield 10, 3) := by decide +kernel
theorem dX8_odds_81 : decode cX8_odds 81 = .ok (.getfield 80, 3) := by decide +kernel
theorem dX8_odds_84 : decode cX8_odds 84 = .ok (.getfield 97, 3) := by decide +kernel
theorem dX8_odds_87 : decode cX8_odds 87 = .ok (.iload_n 1, 1) := by decide +kernel
theorem dX8_odds_88 : decode cX8_odds 88 = .ok (.iaload, 1) := by decide +kernel
theorem dX8_odds_89 : decode cX8_odds 89 = .ok (.iconst 2, 1) := by decide +kernel
theorem dX8_odds_90 : decode cX8_odds 90 = .ok (.if_icmp .ne 7, 3) := by decide +kernel
theorem dX8_odds_93 : decode cX8_odds 93 = .ok (.iconst 1, 1) := by decide +kernel
theorem dX8_odds_94 : decode cX8_odds 94 = .ok (.goto 4, 3) := by decide +kernel
theorem dX8_odds_97 : decode cX8_odds 97 = .ok (.iconst 0, 1) := by decide +kernel
theorem dX8_odds_98 : decode cX8_odds 98 = .ok (.aload_n 0, 1) := by decide +kernel
theorem dX8_odds_99 : decode cX8_odds 99 = .ok (.getfield 10, 3) := by decide +kernel
theorem dX8_odds_102 : decode cX8_odds 102 = .ok (.getfield 77, 3) := by decide +kernel
theorem dX8_odds_105 : decode cX8_odds 105 = .ok (.iconst 2, 1) := by decide +kernel
theorem dX8_odds_106 : decode cX8_odds 106 = .ok (.iaload, 1) := by decide +kernel
theorem dX8_odds_107 : decode cX8_odds 107 = .ok (.invokevirtual 106, 3) := by decide +kernel
theorem dX8_odds_110 : decode cX8_odds 110 = .ok (.invokevirtual 175, 3) := by decide +kernel
theorem dX8_odds_113 : decode cX8_odds 113 = .ok (.aload_n 0, 1) := by decide +kernel
theorem dX8_odds_114 : decode cX8_odds 114 = .ok (.getfield 10, 3) := by decide +kernel
theorem dX8_odds_117 : decode cX8_odds 117 = .ok (.getfield 178, 3) := by decide +kernel
theorem dX8_odds_120 : decode cX8_odds 120 = .ok (.aload_n 0, 1) := by decide +kernel
theorem dX8_odds_121 : decode cX8_odds 121 = .ok (.getfield 10, 3) := by decide +kernel
theorem dX8_odds_124 : decode cX8_odds 124 = .ok (.getfield 181, 3) := by decide +kernel
theorem dX8_odds_127 : decode cX8_odds 127 = .ok (.invokestatic 184, 3) := by decide +kernel
theorem dX8_odds_130 : decode cX8_odds 130 = .ok (.istore 5, 2) := by decide +kernel
theorem dX8_odds_132 : decode cX8_odds 132 = .ok (.iload 4, 2) := by decide +kernel
theorem dX8_odds_134 : decode cX8_odds 134 = .ok (.ifCond .ne 13, 3) := by decide +kernel
theorem dX8_odds_137 : decode cX8_odds 137 = .ok (.aload_n 0, 1) := by decide +kernel
theorem dX8_odds_138 : decode cX8_odds 138 = .ok (.getfield 10, 3) := by decide +kernel
theorem dX8_odds_141 : decode cX8_odds 141 = .ok (.getfield 178, 3) := by decide +kernel
theorem dX8_odds_144 : decode cX8_odds 144 = .ok (.goto 10, 3) := by decide +kernel
theorem dX8_odds_147 : decode cX8_odds 147 = .ok (.aload_n 0, 1) := by decide +kernel
theorem dX8_odds_148 : decode cX8_odds 148 = .ok (.getfield 10, 3) := by decide +kernel
theorem dX8_odds_151 : decode cX8_odds 151 = .ok (.getfield 181, 3) := by decide +kernel
theorem dX8_odds_154 : decode cX8_odds 154 = .ok (.iload 5, 2) := by decide +kernel
theorem dX8_odds_156 : decode cX8_odds 156 = .ok (.ifCond .ne 7, 3) := by decide +kernel
theorem dX8_odds_159 : decode cX8_odds 159 = .ok (.iconst 1, 1) := by decide +kernel
theorem dX8_odds_160 : decode cX8_odds 160 = .ok (.goto 5, 3) := by decide +kernel
theorem dX8_odds_163 : decode cX8_odds 163 = .ok (.iload 5, 2) := by decide +kernel
theorem dX8_odds_165 : decode cX8_odds 165 = .ok (.idiv, 1) := by decide +kernel
theorem dX8_odds_166 : decode cX8_odds 166 = .ok (.ireturn, 1) := by decide +kernel
theorem dX8_sees_0 : decode cX8_sees 0 = .ok (.iload_n 1, 1) := by decide +kernel
theorem dX8_sees_1 : decode cX8_sees 1 = .ok (.iconst (-1), 1) := by decide +kernel
theorem dX8_sees_2 : decode cX8_sees 2 = .ok (.if_icmp .lt 16, 3) := by decide +kernel
theorem dX8_sees_5 : decode cX8_sees 5 = .ok (.iload_n 1, 1) := by decide +kernel
theorem dX8_sees_6 : decode cX8_sees 6 = .ok (.bipush 16, 2) := by decide +kernel
theorem dX8_sees_8 : decode cX8_sees 8 = .ok (.if_icmp .ge 10, 3) := by decide +kernel
theorem dX8_sees_11 : decode cX8_sees 11 = .ok (.iload_n 2, 1) := by decide +kernel
theorem dX8_sees_12 : decode cX8_sees 12 = .ok (.invokestatic 161, 3) := by decide +kernel
theorem dX8_sees_15 : decode cX8_sees 15 = .ok (.ifCond .ne 5, 3) := by decide +kernel
theorem dX8_sees_18 : decode cX8_sees 18 = .ok (.iconst (-1), 1) := by decide +kernel
theorem dX8_sees_19 : decode cX8_sees 19 = .ok (.ireturn, 1) := by decide +kernel
theorem dX8_sees_20 : decode cX8_sees 20 = .ok (.iload_n 1, 1) := by decide +kernel
theorem dX8_sees_21 : decode cX8_sees 21 = .ok (.iconst (-1), 1) := by decide +kernel
theorem dX8_sees_22 : decode cX8_sees 22 = .ok (.if_icmp .ne 12, 3) := by decide +kernel
theorem dX8_sees_25 : decode cX8_sees 25 = .ok (.aload_n 0, 1) := by decide +kernel
theorem dX8_sees_26 : decode cX8_sees 26 = .ok (.getfield 10, 3) := by decide +kernel
theorem dX8_sees_29 : decode cX8_sees 29 = .ok (.iload_n 2, 1) := by decide +kernel
theorem dX8_sees_30 : decode cX8_sees 30 = .ok (.invokevirtual 188, 3) := by decide +kernel
theorem dX8_sees_33 : decode cX8_sees 33 = .ok (.ireturn, 1) := by decide +kernel
theorem dX8_sees_34 : decode cX8_sees 34 = .ok (.aload_n 0, 1) := by decide +kernel
theorem dX8_sees_35 : decode cX8_sees 35 = .ok (.getfield 10, 3) := by decide +kernel
theorem dX8_sees_38 : decode cX8_sees 38 = .ok (.getfield 44, 3) := by decide +kernel
theorem dX8_sees_41 : decode cX8_sees 41 = .ok (.getfield 54, 3) := by decide +kernel
theorem dX8_sees_44 : decode cX8_sees 44 = .ok (.iload_n 1, 1) := by decide +kernel
theorem dX8_sees_45 : decode cX8_sees 45 = .ok (.iaload, 1) := by decide +kernel
theorem dX8_sees_46 : decode cX8_sees 46 = .ok (.ifCond .ne 8, 3) := by decide +kernel
theorem dX8_sees_49 : decode cX8_sees 49 = .ok (.bipush (-2), 2) := by decide +kernel
theorem dX8_sees_51 : decode cX8_sees 51 = .ok (.goto 12, 3) := by decide +kernel
theorem dX8_sees_54 : decode cX8_sees 54 = .ok (.aload_n 0, 1) := by decide +kernel
theorem dX8_sees_55 : decode cX8_sees 55 = .ok (.getfield 10, 3) := by decide +kernel
theorem dX8_sees_58 : decode cX8_sees 58 = .ok (.iload_n 1, 1) := by decide +kernel
theorem dX8_sees_59 : decode cX8_sees 59 = .ok (.iload_n 2, 1) := by decide +kernel
theorem dX8_sees_60 : decode cX8_sees 60 = .ok (.invokevirtual 192, 3) := by decide +kernel
theorem dX8_sees_63 : decode cX8_sees 63 = .ok (.ireturn, 1) := by decide +kernel
theorem dX8_quiet_0 : decode cX8_quiet 0 = .ok (.iload_n 1, 1) := by decide +kernel
theorem dX8_quiet_1 : decode cX8_quiet 1 = .ok (.bipush 16, 2) := by decide +kernel
theorem dX8_quiet_3 : decode cX8_quiet 3 = .ok (.invokestatic 40, 3) := by decide +kernel
theorem dX8_quiet_6 : decode cX8_quiet 6 = .ok (.ifCond .eq 11, 3) := by decide +kernel
theorem dX8_quiet_9 : decode cX8_quiet 9 = .ok (.iload_n 2, 1) := by decide +kernel
theorem dX8_quiet_10 : decode cX8_quiet 10 = .ok (.iconst 2, 1) := by decide +kernel
theorem dX8_quiet_11 : decode cX8_quiet 11 = .ok (.invokestatic 40, 3) := by decide +kernel
theorem dX8_quiet_14 : decode cX8_quiet 14 = .ok (.ifCond .ne 5, 3) := by decide +kernel
theorem dX8_quiet_17 : decode cX8_quiet 17 = .ok (.iconst (-1), 1) := by decide +kernel
theorem dX8_quiet_18 : decode cX8_quiet 18 = .ok (.ireturn, 1) := by decide +kernel
theorem dX8_quiet_19 : decode cX8_quiet 19 = .ok (.aload_n 0, 1) := by decide +kernel
theorem dX8_quiet_20 : decode cX8_quiet 20 = .ok (.getfield 10, 3) := by decide +kernel
theorem dX8_quiet_23 : decode cX8_quiet 23 = .ok (.getfield 44, 3) := by decide +kernel
theorem dX8_quiet_26 : decode cX8_quiet 26 = .ok (.getfield 54, 3) := by decide +kernel
theorem dX8_quiet_29 : decode cX8_quiet 29 = .ok (.iload_n 1, 1) := by decide +kernel
theorem dX8_quiet_30 : decode cX8_quiet 30 = .ok (.iaload, 1) := by decide +kernel
theorem dX8_quiet_31 : decode cX8_quiet 31 = .ok (.ifCond .ne 6, 3) := by decide +kernel
theorem dX8_quiet_34 : decode cX8_quiet 34 = .ok (.bipush (-2), 2) := by decide +kernel
theorem dX8_quiet_36 : decode cX8_quiet 36 = .ok (.ireturn, 1) := by decide +kernel
theorem dX8_quiet_37 : decode cX8_quiet 37 = .ok (.aload_n 0, 1) := by decide +kernel
theorem dX8_quiet_38 : decode cX8_quiet 38 = .ok (.getfield 22, 3) := by decide +kernel
theorem dX8_quiet_41 : decode cX8_quiet 41 = .ok (.aload_n 0, 1) := by decide +kernel
theorem dX8_quiet_42 : decode cX8_quiet 42 = .ok (.getfield 10, 3) := by decide +kernel
theorem dX8_quiet_45 : decode cX8_quiet 45 = .ok (.iload_n 1, 1) := by decide +kernel
theorem dX8_quiet_46 : decode cX8_quiet 46 = .ok (.invokevirtual 195, 3) := by decide +kernel
theorem dX8_quiet_49 : decode cX8_quiet 49 = .ok (.istore_n 3, 1) := by decide +kernel
theorem dX8_quiet_50 : decode cX8_quiet 50 = .ok (.iload_n 2, 1) := by decide +kernel
theorem dX8_quiet_51 : decode cX8_quiet 51 = .ok (.ifCond .ne 7, 3) := by decide +kernel
theorem dX8_quiet_54 : decode cX8_quiet 54 = .ok (.iload_n 3, 1) := by decide +kernel
theorem dX8_quiet_55 : decode cX8_quiet 55 = .ok (.goto 16, 3) := by decide +kernel
theorem dX8_quiet_58 : decode cX8_quiet 58 = .ok (.aload_n 0, 1) := by decide +kernel
theorem dX8_quiet_59 : decode cX8_quiet 59 = .ok (.getfield 22, 3) := by decide +kernel
theorem dX8_quiet_62 : decode cX8_quiet 62 = .ok (.aload_n 0, 1) := by decide +kernel
theorem dX8_quiet_63 : decode cX8_quiet 63 = .ok (.getfield 10, 3) := by decide +kernel
theorem dX8_quiet_66 : decode cX8_quiet 66 = .ok (.iload_n 1, 1) := by decide +kernel
theorem dX8_quiet_67 : decode cX8_quiet 67 = .ok (.iload_n 3, 1) := by decide +kernel
theorem dX8_quiet_68 : decode cX8_quiet 68 = .ok (.invokevirtual 199, 3) := by decide +kernel
theorem dX8_quiet_71 : decode cX8_quiet 71 = .ok (.ireturn, 1) := by decide +kernel
theorem dX8_cover_0 : decode cX8_cover 0 = .ok (.iload_n 1, 1) := by decide +kernel
theorem dX8_cover_1 : decode cX8_cover 1 = .ok (.bipush 16, 2) := by decide +kernel
theorem dX8_cover_3 : decode cX8_cover 3 = .ok (.invokestatic 40, 3) := by decide +kernel
theorem dX8_cover_6 : decode cX8_cover 6 = .ok (.ifCond .eq 38, 3) := by decide +kernel
theorem dX8_cover_9 : decode cX8_cover 9 = .ok (.iload_n 2, 1) := by decide +kernel
theorem dX8_cover_10 : decode cX8_cover 10 = .ok (.iconst 4, 1) := by decide +kernel
theorem dX8_cover_11 : decode cX8_cover 11 = .ok (.invokestatic 40, 3) := by decide +kernel
theorem dX8_cover_14 : decode cX8_cover 14 = .ok (.ifCond .eq 30, 3) := by decide +kernel
theorem dX8_cover_17 : decode cX8_cover 17 = .ok (.iload_n 3, 1) := by decide +kernel
theorem dX8_cover_18 : decode cX8_cover 18 = .ok (.iload_n 2, 1) := by decide +kernel
theorem dX8_cover_19 : decode cX8_cover 19 = .ok (.iconst 3, 1) := by decide +kernel
theorem dX8_cover_20 : decode cX8_cover 20 = .ok (.if_icmp .ne 7, 3) := by decide +kernel
theorem dX8_cover_23 : decode cX8_cover 23 = .ok (.iconst 1, 1) := by decide +kernel
theorem dX8_cover_24 : decode cX8_cover 24 = .ok (.goto 4, 3) := by decide +kernel
theorem dX8_cover_27 : decode cX8_cover 27 = .ok (.iconst 4, 1) := by decide +kernel
theorem dX8_cover_28 : decode cX8_cover 28 = .ok (.invokestatic 40, 3) := by decide +kernel
theorem dX8_cover_31 : decode cX8_cover 31 = .ok (.ifCond .eq 13, 3) := by decide +kernel
theorem dX8_cover_34 : decode cX8_cover 34 = .ok (.iload 4, 2) := by decide +kernel
theorem dX8_cover_36 : decode cX8_cover 36 = .ok (.bipush 100, 2) := by decide +kernel
theorem dX8_cover_38 : decode cX8_cover 38 = .ok (.invokestatic 40, 3) := by decide +kernel
theorem dX8_cover_41 : decode cX8_cover 41 = .ok (.ifCond .ne 5, 3) := by decide +kernel
theorem dX8_cover_44 : decode cX8_cover 44 = .ok (.iconst (-1), 1) := by decide +kernel
theorem dX8_cover_45 : decode cX8_cover 45 = .ok (.ireturn, 1) := by decide +kernel
theorem dX8_cover_46 : decode cX8_cover 46 = .ok (.aload_n 0, 1) := by decide +kernel
theorem dX8_cover_47 : decode cX8_cover 47 = .ok (.getfield 10, 3) := by decide +kernel
theorem dX8_cover_50 : decode cX8_cover 50 = .ok (.getfield 147, 3) := by decide +kernel
theorem dX8_cover_53 : decode cX8_cover 53 = .ok (.getfield 151, 3) := by decide +kernel
theorem dX8_cover_56 : decode cX8_cover 56 = .ok (.bipush 8, 2) := by decide +kernel
theorem dX8_cover_58 : decode cX8_cover 58 = .ok (.if_icmp .lt 6, 3) := by decide +kernel
theorem dX8_cover_61 : decode cX8_cover 61 = .ok (.bipush (-3), 2) := by decide +kernel
theorem dX8_cover_63 : decode cX8_cover 63 = .ok (.ireturn, 1) := by decide +kernel
theorem dX8_cover_64 : decode cX8_cover 64 = .ok (.aload_n 0, 1) := by decide +kernel
theorem dX8_cover_65 : decode cX8_cover 65 = .ok (.getfield 10, 3) := by decide +kernel
theorem dX8_cover_68 : decode cX8_cover 68 = .ok (.getfield 147, 3) := by decide +kernel
theorem dX8_cover_71 : decode cX8_cover 71 = .ok (.iload_n 1, 1) := by decide +kernel
theorem dX8_cover_72 : decode cX8_cover 72 = .ok (.iload_n 2, 1) := by decide +kernel
theorem dX8_cover_73 : decode cX8_cover 73 = .ok (.iload_n 3, 1) := by decide +kernel
theorem dX8_cover_74 : decode cX8_cover 74 = .ok (.iload 4, 2) := by decide +kernel
theorem dX8_cover_76 : decode cX8_cover 76 = .ok (.invokevirtual 203, 3) := by decide +kernel
theorem dX8_cover_79 : decode cX8_cover 79 = .ok (.aload_n 0, 1) := by decide +kernel
theorem dX8_cover_80 : decode cX8_cover 80 = .ok (.getfield 10, 3) := by decide +kernel
theorem dX8_cover_83 : decode cX8_cover 83 = .ok (.getfield 147, 3) := by decide +kernel
theorem dX8_cover_86 : decode cX8_cover 86 = .ok (.getfield 151, 3) := by decide +kernel
theorem dX8_cover_89 : decode cX8_cover 89 = .ok (.iconst 1, 1) := by decide +kernel
theorem dX8_cover_90 : decode cX8_cover 90 = .ok (.isub, 1) := by decide +kernel
theorem dX8_cover_91 : decode cX8_cover 91 = .ok (.ireturn, 1) := by decide +kernel
theorem dX8_does_0 : decode cX8_does 0 = .ok (.iload_n 1, 1) := by decide +kernel
theorem dX8_does_1 : decode cX8_does 1 = .ok (.aload_n 0, 1) := by decide +kernel
theorem dX8_does_2 : decode cX8_does 2 = .ok (.getfield 10, 3) := by decide +kernel
theorem dX8_does_5 : decode cX8_does 5 = .ok (.getfield 147, 3) := by decide +kernel
theorem dX8_does_8 : decode cX8_does 8 = .ok (.getfield 151, 3) := by decide +kernel
theorem dX8_does_11 : decode cX8_does 11 = .ok (.invokestatic 40, 3) := by decide +kernel
theorem dX8_does_14 : decode cX8_does 14 = .ok (.ifCond .eq 11, 3) := by decide +kernel
theorem dX8_does_17 : decode cX8_does 17 = .ok (.iload_n 2, 1) := by decide +kernel
theorem dX8_does_18 : decode cX8_does 18 = .ok (.iconst 2, 1) := by decide +kernel
theorem dX8_does_19 : decode cX8_does 19 = .ok (.invokestatic 40, 3) := by decide +kernel
theorem dX8_does_22 : decode cX8_does 22 = .ok (.ifCond .ne 6, 3) := by decide +kernel
theorem dX8_does_25 : decode cX8_does 25 = .ok (.ldc 206, 2) := by decide +kernel
theorem dX8_does_27 : decode cX8_does 27 = .ok (.ireturn, 1) := by decide +kernel
theorem dX8_does_28 : decode cX8_does 28 = .ok (.iconst 1, 1) := by decide +kernel
theorem dX8_does_29 : decode cX8_does 29 = .ok (.iload_n 1, 1) := by decide +kernel
theorem dX8_does_30 : decode cX8_does 30 = .ok (.ishl, 1) := by decide +kernel
theorem dX8_does_31 : decode cX8_does 31 = .ok (.istore_n 3, 1) := by decide +kernel
theorem dX8_does_32 : decode cX8_does 32 = .ok (.iload_n 2, 1) := by decide +kernel
theorem dX8_does_33 : decode cX8_does 33 = .ok (.ifCond .ne 25, 3) := by decide +kernel
theorem dX8_does_36 : decode cX8_does 36 = .ok (.aload_n 0, 1) := by decide +kernel
theorem dX8_does_37 : decode cX8_does 37 = .ok (.getfield 10, 3) := by decide +kernel
theorem dX8_does_40 : decode cX8_does 40 = .ok (.iconst 1, 1) := by decide +kernel
theorem dX8_does_41 : decode cX8_does 41 = .ok (.invokevirtual 188, 3) := by decide +kernel
theorem dX8_does_44 : decode cX8_does 44 = .ok (.aload_n 0, 1) := by decide +kernel
theorem dX8_does_45 : decode cX8_does 45 = .ok (.getfield 22, 3) := by decide +kernel
theorem dX8_does_48 : decode cX8_does 48 = .ok (.aload_n 0, 1) := by decide +kernel
theorem dX8_does_49 : decode cX8_does 49 = .ok (.getfield 10, 3) := by decide +kernel
theorem dX8_does_52 : decode cX8_does 52 = .ok (.iload_n 3, 1) := by decide +kernel
theorem dX8_does_53 : decode cX8_does 53 = .ok (.invokevirtual 207, 3) := by decide +kernel
theorem dX8_does_56 : decode cX8_does 56 = .ok (.isub, 1) := by decide +kernel
theorem dX8_does_57 : decode cX8_does 57 = .ok (.ireturn, 1) := by decide +kernel
theorem dX8_does_58 : decode cX8_does 58 = .ok (.iconst 1, 1) := by decide +kernel
theorem dX8_does_59 : decode cX8_does 59 = .ok (.aload_n 0, 1) := by decide +kernel
theorem dX8_does_60 : decode cX8_does 60 = .ok (.getfield 10, 3) := by decide +kernel
theorem dX8_does_63 : decode cX8_does 63 = .ok (.getfield 147, 3) := by decide +kernel
theorem dX8_does_66 : decode cX8_does 66 = .ok (.getfield 151, 3) := by decide +kernel
theorem dX8_does_69 : decode cX8_does 69 = .ok (.ishl, 1) := by decide +kernel
theorem dX8_does_70 : decode cX8_does 70 = .ok (.iconst 1, 1) := by decide +kernel
theorem dX8_does_71 : decode cX8_does 71 = .ok (.isub, 1) := by decide +kernel
theorem dX8_does_72 : decode cX8_does 72 = .ok (.istore 4, 2) := by decide +kernel
theorem dX8_does_74 : decode cX8_does 74 = .ok (.aload_n 0, 1) := by decide +kernel
theorem dX8_does_75 : decode cX8_does 75 = .ok (.getfield 22, 3) := by decide +kernel
theorem dX8_does_78 : decode cX8_does 78 = .ok (.aload_n 0, 1) := by decide +kernel
theorem dX8_does_79 : decode cX8_does 79 = .ok (.getfield 10, 3) := by decide +kernel
theorem dX8_does_82 : decode cX8_does 82 = .ok (.iload 4, 2) := by decide +kernel
theorem dX8_does_84 : decode cX8_does 84 = .ok (.iload_n 3, 1) := by decide +kernel
theorem dX8_does_85 : decode cX8_does 85 = .ok (.isub, 1) := by decide +kernel
theorem dX8_does_86 : decode cX8_does 86 = .ok (.invokevirtual 207, 3) := by decide +kernel
theorem dX8_does_89 : decode cX8_does 89 = .ok (.aload_n 0, 1) := by decide +kernel
theorem dX8_does_90 : decode cX8_does 90 = .ok (.getfield 22, 3) := by decide +kernel
theorem dX8_does_93 : decode cX8_does 93 = .ok (.aload_n 0, 1) := by decide +kernel
theorem dX8_does_94 : decode cX8_does 94 = .ok (.getfield 10, 3) := by decide +kernel
theorem dX8_does_97 : decode cX8_does 97 = .ok (.iload 4, 2) := by decide +kernel
theorem dX8_does_99 : decode cX8_does 99 = .ok (.invokevirtual 207, 3) := by decide +kernel
theorem dX8_does_102 : decode cX8_does 102 = .ok (.isub, 1) := by decide +kernel
theorem dX8_does_103 : decode cX8_does 103 = .ok (.ireturn, 1) := by decide +kernel
theorem dX8_bought_0 : decode cX8_bought 0 = .ok (.iload_n 1, 1) := by decide +kernel
theorem dX8_bought_1 : decode cX8_bought 1 = .ok (.sipush 1000, 3) := by decide +kernel
theorem dX8_bought_4 : decode cX8_bought 4 = .ok (.invokestatic 40, 3) := by decide +kernel
theorem dX8_bought_7 : decode cX8_bought 7 = .ok (.ifCond .eq 11, 3) := by decide +kernel
theorem dX8_bought_10 : decode cX8_bought 10 = .ok (.iload_n 2, 1) := by decide +kernel
theorem dX8_bought_11 : decode cX8_bought 11 = .ok (.iconst 3, 1) := by decide +kernel
theorem dX8_bought_12 : decode cX8_bought 12 = .ok (.invokestatic 40, 3) := by decide +kernel
theorem dX8_bought_15 : decode cX8_bought 15 = .ok (.ifCond .ne 5, 3) := by decide +kernel
theorem dX8_bought_18 : decode cX8_bought 18 = .ok (.iconst (-1), 1) := by decide +kernel
theorem dX8_bought_19 : decode cX8_bought 19 = .ok (.ireturn, 1) := by decide +kernel
theorem dX8_bought_20 : decode cX8_bought 20 = .ok (.aload_n 0, 1) := by decide +kernel
theorem dX8_bought_21 : decode cX8_bought 21 = .ok (.getfield 22, 3) := by decide +kernel
theorem dX8_bought_24 : decode cX8_bought 24 = .ok (.aload_n 0, 1) := by decide +kernel
theorem dX8_bought_25 : decode cX8_bought 25 = .ok (.getfield 10, 3) := by decide +kernel
theorem dX8_bought_28 : decode cX8_bought 28 = .ok (.iload_n 1, 1) := by decide +kernel
theorem dX8_bought_29 : decode cX8_bought 29 = .ok (.invokevirtual 210, 3) := by decide +kernel
theorem dX8_bought_32 : decode cX8_bought 32 = .ok (.istore_n 3, 1) := by decide +kernel
theorem dX8_bought_33 : decode cX8_bought 33 = .ok (.iload_n 2, 1) := by decide +kernel
theorem dX8_bought_34 : decode cX8_bought 34 = .ok (.ifCond .ne 5, 3) := by decide +kernel
theorem dX8_bought_37 : decode cX8_bought 37 = .ok (.iload_n 3, 1) := by decide +kernel
theorem dX8_bought_38 : decode cX8_bought 38 = .ok (.ireturn, 1) := by decide +kernel
theorem dX8_bought_39 : decode cX8_bought 39 = .ok (.iload_n 2, 1) := by decide +kernel
theorem dX8_bought_40 : decode cX8_bought 40 = .ok (.iconst 1, 1) := by decide +kernel
theorem dX8_bought_41 : decode cX8_bought 41 = .ok (.if_icmp .ne 18, 3) := by decide +kernel
theorem dX8_bought_44 : decode cX8_bought 44 = .ok (.aload_n 0, 1) := by decide +kernel
theorem dX8_bought_45 : decode cX8_bought 45 = .ok (.getfield 22, 3) := by decide +kernel
theorem dX8_bought_48 : decode cX8_bought 48 = .ok (.aload_n 0, 1) := by decide +kernel
theorem dX8_bought_49 : decode cX8_bought 49 = .ok (.getfield 10, 3) := by decide +kernel
theorem dX8_bought_52 : decode cX8_bought 52 = .ok (.iload_n 3, 1) := by decide +kernel
theorem dX8_bought_53 : decode cX8_bought 53 = .ok (.invokevirtual 207, 3) := by decide +kernel
theorem dX8_bought_56 : decode cX8_bought 56 = .ok (.goto 14, 3) := by decide +kernel
theorem dX8_bought_59 : decode cX8_bought 59 = .ok (.aload_n 0, 1) := by decide +kernel
theorem dX8_bought_60 : decode cX8_bought 60 = .ok (.getfield 10, 3) := by decide +kernel
theorem dX8_bought_63 : decode cX8_bought 63 = .ok (.getfield 147, 3) := by decide +kernel
theorem dX8_bought_66 : decode cX8_bought 66 = .ok (.iload_n 3, 1) := by decide +kernel
theorem dX8_bought_67 : decode cX8_bought 67 = .ok (.invokevirtual 213, 3) := by decide +kernel
theorem dX8_bought_70 : decode cX8_bought 70 = .ok (.ireturn, 1) := by decide +kernel
theorem dX8_stances_0 : decode cX8_stances 0 = .ok (.iconst 0, 1) := by decide +kernel
theorem dX8_stances_1 : decode cX8_stances 1 = .ok (.istore_n 1, 1) := by decide +kernel
theorem dX8_stances_2 : decode cX8_stances 2 = .ok (.iconst 0, 1) := by decide +kernel
theorem dX8_stances_3 : decode cX8_stances 3 = .ok (.istore_n 2, 1) := by decide +kernel
theorem dX8_stances_4 : decode cX8_stances 4 = .ok (.iload_n 2, 1) := by decide +kernel
theorem dX8_stances_5 : decode cX8_stances 5 = .ok (.iconst 4, 1) := by decide +kernel
theorem dX8_stances_6 : decode cX8_stances 6 = .ok (.if_icmp .ge 26, 3) := by decide +kernel
theorem dX8_stances_9 : decode cX8_stances 9 = .ok (.aload_n 0, 1) := by decide +kernel
theorem dX8_stances_10 : decode cX8_stances 10 = .ok (.getfield 10, 3) := by decide +kernel
theorem dX8_stances_13 : decode cX8_stances 13 = .ok (.iload_n 2, 1) := by decide +kernel
theorem dX8_stances_14 : decode cX8_stances 14 = .ok (.invokevirtual 216, 3) := by decide +kernel
theorem dX8_stances_17 : decode cX8_stances 17 = .ok (.ifCond .ne 9, 3) := by decide +kernel
theorem dX8_stances_20 : decode cX8_stances 20 = .ok (.iload_n 1, 1) := by decide +kernel
theorem dX8_stances_21 : decode cX8_stances 21 = .ok (.iconst 1, 1) := by decide +kernel
theorem dX8_stances_22 : decode cX8_stances 22 = .ok (.iload_n 2, 1) := by decide +kernel
theorem dX8_stances_23 : decode cX8_stances 23 = .ok (.ishl, 1) := by decide +kernel
theorem dX8_stances_24 : decode cX8_stances 24 = .ok (.ior, 1) := by decide +kernel
theorem dX8_stances_25 : decode cX8_stances 25 = .ok (.istore_n 1, 1) := by decide +kernel
theorem dX8_stances_26 : decode cX8_stances 26 = .ok (.iinc 2 1, 3) := by decide +kernel
theorem dX8_stances_29 : decode cX8_stances 29 = .ok (.goto (-25), 3) := by decide +kernel
theorem dX8_stances_32 : decode cX8_stances 32 = .ok (.iload_n 1, 1) := by decide +kernel
theorem dX8_stances_33 : decode cX8_stances 33 = .ok (.ireturn, 1) := by decide +kernel
theorem dX8_often_0 : decode cX8_often 0 = .ok (.iload_n 1, 1) := by decide +kernel
theorem dX8_often_1 : decode cX8_often 1 = .ok (.ifCond .lt 9, 3) := by decide +kernel
theorem dX8_often_4 : decode cX8_often 4 = .ok (.iload_n 1, 1) := by decide +kernel
theorem dX8_often_5 : decode cX8_often 5 = .ok (.ldc 219, 2) := by decide +kernel
theorem dX8_often_7 : decode cX8_often 7 = .ok (.if_icmp .le 5, 3) := by decide +kernel
theorem dX8_often_10 : decode cX8_often 10 = .ok (.iconst (-1), 1) := by decide +kernel
theorem dX8_often_11 : decode cX8_often 11 = .ok (.ireturn, 1) := by decide +kernel
theorem dX8_often_12 : decode cX8_often 12 = .ok (.bipush 9, 2) := by decide +kernel
theorem dX8_often_14 : decode cX8_often 14 = .ok (.istore_n 2, 1) := by decide +kernel
theorem dX8_often_15 : decode cX8_often 15 = .ok (.iload_n 2, 1) := by decide +kernel
theorem dX8_often_16 : decode cX8_often 16 = .ok (.iconst 1, 1) := by decide +kernel
theorem dX8_often_17 : decode cX8_often 17 = .ok (.if_icmp .lt 23, 3) := by decide +kernel
theorem dX8_often_20 : decode cX8_often 20 = .ok (.aload_n 0, 1) := by decide +kernel
theorem dX8_often_21 : decode cX8_often 21 = .ok (.getfield 10, 3) := by decide +kernel
theorem dX8_often_24 : decode cX8_often 24 = .ok (.iload_n 2, 1) := by decide +kernel
theorem dX8_often_25 : decode cX8_often 25 = .ok (.invokevirtual 188, 3) := by decide +kernel
theorem dX8_often_28 : decode cX8_often 28 = .ok (.iload_n 1, 1) := by decide +kernel
theorem dX8_often_29 : decode cX8_often 29 = .ok (.if_icmp .gt 5, 3) := by decide +kernel
theorem dX8_often_32 : decode cX8_often 32 = .ok (.iload_n 2, 1) := by decide +kernel
theorem dX8_often_33 : decode cX8_often 33 = .ok (.ireturn, 1) := by decide +kernel
theorem dX8_often_34 : decode cX8_often 34 = .ok (.iinc 2 (-1), 3) := by decide +kernel
theorem dX8_often_37 : decode cX8_often 37 = .ok (.goto (-22), 3) := by decide +kernel
theorem dX8_often_40 : decode cX8_often 40 = .ok (.iconst 0, 1) := by decide +kernel
theorem dX8_often_41 : decode cX8_often 41 = .ok (.ireturn, 1) := by decide +kernel
theorem dX8_warning_0 : decode cX8_warning 0 = .ok (.aload_n 0, 1) := by decide +kernel
theorem dX8_warning_1 : decode cX8_warning 1 = .ok (.getfield 22, 3) := by decide +kernel
theorem dX8_warning_4 : decode cX8_warning 4 = .ok (.aload_n 0, 1) := by decide +kernel
theorem dX8_warning_5 : decode cX8_warning 5 = .ok (.getfield 10, 3) := by decide +kernel
theorem dX8_warning_8 : decode cX8_warning 8 = .ok (.invokevirtual 220, 3) := by decide +kernel
theorem dX8_warning_11 : decode cX8_warning 11 = .ok (.aload_n 0, 1) := by decide +kernel
theorem dX8_warning_12 : decode cX8_warning 12 = .ok (.getfield 10, 3) := by decide +kernel
theorem dX8_warning_15 : decode cX8_warning 15 = .ok (.iconst 1, 1) := by decide +kernel
theorem dX8_warning_16 : decode cX8_warning 16 = .ok (.invokevirtual 188, 3) := by decide +kernel
theorem dX8_warning_19 : decode cX8_warning 19 = .ok (.isub, 1) := by decide +kernel
theorem dX8_warning_20 : decode cX8_warning 20 = .ok (.ireturn, 1) := by decide +kernel
theorem dX8_shown_0 : decode cX8_shown 0 = .ok (.iload_n 1, 1) := by decide +kernel
theorem dX8_shown_1 : decode cX8_shown 1 = .ok (.iconst (-1), 1) := by decide +kernel
theorem dX8_shown_2 : decode cX8_shown 2 = .ok (.if_icmp .lt 9, 3) := by decide +kernel
theorem dX8_shown_5 : decode cX8_shown 5 = .ok (.iload_n 1, 1) := by decide +kernel
theorem dX8_shown_6 : decode cX8_shown 6 = .ok (.bipush 16, 2) := by decide +kernel
theorem dX8_shown_8 : decode cX8_shown 8 = .ok (.if_icmp .lt 5, 3) := by decide +kernel
theorem dX8_shown_11 : decode cX8_shown 11 = .ok (.iconst (-1), 1) := by decide +kernel
theorem dX8_shown_12 : decode cX8_shown 12 = .ok (.ireturn, 1) := by decide +kernel
theorem dX8_shown_13 : decode cX8_shown 13 = .ok (.iload_n 1, 1) := by decide +kernel
theorem dX8_shown_14 : decode cX8_shown 14 = .ok (.iconst (-1), 1) := by decide +kernel
theorem dX8_shown_15 : decode cX8_shown 15 = .ok (.if_icmp .ne 13, 3) := by decide +kernel
theorem dX8_shown_18 : decode cX8_shown 18 = .ok (.aload_n 0, 1) := by decide +kernel
theorem dX8_shown_19 : decode cX8_shown 19 = .ok (.getfield 10, 3) := by decide +kernel
theorem dX8_shown_22 : decode cX8_shown 22 = .ok (.invokevirtual 224, 3) := by decide +kernel
theorem dX8_shown_25 : decode cX8_shown 25 = .ok (.goto 11, 3) := by decide +kernel
theorem dX8_shown_28 : decode cX8_shown 28 = .ok (.aload_n 0, 1) := by decide +kernel
theorem dX8_shown_29 : decode cX8_shown 29 = .ok (.getfield 10, 3) := by decide +kernel
theorem dX8_shown_32 : decode cX8_shown 32 = .ok (.iload_n 1, 1) := by decide +kernel
theorem dX8_shown_33 : decode cX8_shown 33 = .ok (.invokevirtual 228, 3) := by decide +kernel
theorem dX8_shown_36 : decode cX8_shown 36 = .ok (.ireturn, 1) := by decide +kernel
theorem dX8_point_0 : decode cX8_point 0 = .ok (.iload_n 1, 1) := by decide +kernel
theorem dX8_point_1 : decode cX8_point 1 = .ok (.bipush 16, 2) := by decide +kernel
theorem dX8_point_3 : decode cX8_point 3 = .ok (.invokestatic 40, 3) := by decide +kernel
theorem dX8_point_6 : decode cX8_point 6 = .ok (.ifCond .eq 11, 3) := by decide +kernel
theorem dX8_point_9 : decode cX8_point 9 = .ok (.iload_n 2, 1) := by decide +kernel
theorem dX8_point_10 : decode cX8_point 10 = .ok (.iconst 4, 1) := by decide +kernel
theorem dX8_point_11 : decode cX8_point 11 = .ok (.invokestatic 40, 3) := by decide +kernel
theorem dX8_point_14 : decode cX8_point 14 = .ok (.ifCond .ne 5, 3) := by decide +kernel
theorem dX8_point_17 : decode cX8_point 17 = .ok (.iconst (-1), 1) := by decide +kernel
theorem dX8_point_18 : decode cX8_point 18 = .ok (.ireturn, 1) := by decide +kernel
theorem dX8_point_19 : decode cX8_point 19 = .ok (.aload_n 0, 1) := by decide +kernel
theorem dX8_point_20 : decode cX8_point 20 = .ok (.getfield 10, 3) := by decide +kernel
theorem dX8_point_23 : decode cX8_point 23 = .ok (.getfield 154, 3) := by decide +kernel
theorem dX8_point_26 : decode cX8_point 26 = .ok (.getfield 158, 3) := by decide +kernel
theorem dX8_point_29 : decode cX8_point 29 = .ok (.bipush 24, 2) := by decide +kernel
theorem dX8_point_31 : decode cX8_point 31 = .ok (.if_icmp .lt 6, 3) := by decide +kernel
theorem dX8_point_34 : decode cX8_point 34 = .ok (.bipush (-3), 2) := by decide +kernel
theorem dX8_point_36 : decode cX8_point 36 = .ok (.ireturn, 1) := by decide +kernel
theorem dX8_point_37 : decode cX8_point 37 = .ok (.aload_n 0, 1) := by decide +kernel
theorem dX8_point_38 : decode cX8_point 38 = .ok (.getfield 10, 3) := by decide +kernel
theorem dX8_point_41 : decode cX8_point 41 = .ok (.getfield 154, 3) := by decide +kernel
theorem dX8_point_44 : decode cX8_point 44 = .ok (.iload_n 1, 1) := by decide +kernel
theorem dX8_point_45 : decode cX8_point 45 = .ok (.iload_n 2, 1) := by decide +kernel
theorem dX8_point_46 : decode cX8_point 46 = .ok (.invokevirtual 231, 3) := by decide +kernel
theorem dX8_point_49 : decode cX8_point 49 = .ok (.aload_n 0, 1) := by decide +kernel
theorem dX8_point_50 : decode cX8_point 50 = .ok (.getfield 10, 3) := by decide +kernel
theorem dX8_point_53 : decode cX8_point 53 = .ok (.getfield 154, 3) := by decide +kernel
theorem dX8_point_56 : decode cX8_point 56 = .ok (.getfield 158, 3) := by decide +kernel
theorem dX8_point_59 : decode cX8_point 59 = .ok (.ireturn, 1) := by decide +kernel
theorem dX8_fits_0 : decode cX8_fits 0 = .ok (.iload_n 1, 1) := by decide +kernel
theorem dX8_fits_1 : decode cX8_fits 1 = .ok (.iconst 2, 1) := by decide +kernel
theorem dX8_fits_2 : decode cX8_fits 2 = .ok (.invokestatic 40, 3) := by decide +kernel
theorem dX8_fits_5 : decode cX8_fits 5 = .ok (.ifCond .ne 5, 3) := by decide +kernel
theorem dX8_fits_8 : decode cX8_fits 8 = .ok (.iconst (-1), 1) := by decide +kernel
theorem dX8_fits_9 : decode cX8_fits 9 = .ok (.ireturn, 1) := by decide +kernel
theorem dX8_fits_10 : decode cX8_fits 10 = .ok (.aload_n 0, 1) := by decide +kernel
theorem dX8_fits_11 : decode cX8_fits 11 = .ok (.getfield 10, 3) := by decide +kernel
theorem dX8_fits_14 : decode cX8_fits 14 = .ok (.getfield 154, 3) := by decide +kernel
theorem dX8_fits_17 : decode cX8_fits 17 = .ok (.getfield 158, 3) := by decide +kernel
theorem dX8_fits_20 : decode cX8_fits 20 = .ok (.ifCond .ne 6, 3) := by decide +kernel
theorem dX8_fits_23 : decode cX8_fits 23 = .ok (.bipush (-2), 2) := by decide +kernel
theorem dX8_fits_25 : decode cX8_fits 25 = .ok (.ireturn, 1) := by decide +kernel
theorem dX8_fits_26 : decode cX8_fits 26 = .ok (.aload_n 0, 1) := by decide +kernel
theorem dX8_fits_27 : decode cX8_fits 27 = .ok (.getfield 22, 3) := by decide +kernel
theorem dX8_fits_30 : decode cX8_fits 30 = .ok (.aload_n 0, 1) := by decide +kernel
theorem dX8_fits_31 : decode cX8_fits 31 = .ok (.getfield 10, 3) := by decide +kernel
theorem dX8_fits_34 : decode cX8_fits 34 = .ok (.invokevirtual 233, 3) := by decide +kernel
theorem dX8_fits_37 : decode cX8_fits 37 = .ok (.istore_n 2, 1) := by decide +kernel
theorem dX8_fits_38 : decode cX8_fits 38 = .ok (.iload_n 1, 1) := by decide +kernel
theorem dX8_fits_39 : decode cX8_fits 39 = .ok (.ifCond .ne 7, 3) := by decide +kernel
theorem dX8_fits_42 : decode cX8_fits 42 = .ok (.iload_n 2, 1) := by decide +kernel
theorem dX8_fits_43 : decode cX8_fits 43 = .ok (.goto 15, 3) := by decide +kernel
theorem dX8_fits_46 : decode cX8_fits 46 = .ok (.aload_n 0, 1) := by decide +kernel
theorem dX8_fits_47 : decode cX8_fits 47 = .ok (.getfield 22, 3) := by decide +kernel
theorem dX8_fits_50 : decode cX8_fits 50 = .ok (.aload_n 0, 1) := by decide +kernel
theorem dX8_fits_51 : decode cX8_fits 51 = .ok (.getfield 10, 3) := by decide +kernel
theorem dX8_fits_54 : decode cX8_fits 54 = .ok (.iload_n 2, 1) := by decide +kernel
theorem dX8_fits_55 : decode cX8_fits 55 = .ok (.invokevirtual 236, 3) := by decide +kernel
theorem dX8_fits_58 : decode cX8_fits 58 = .ok (.ireturn, 1) := by decide +kernel
theorem dX8_apart_0 : decode cX8_apart 0 = .ok (.iload_n 1, 1) := by decide +kernel
theorem dX8_apart_1 : decode cX8_apart 1 = .ok (.sipush 1000, 3) := by decide +kernel
theorem dX8_apart_4 : decode cX8_apart 4 = .ok (.invokestatic 40, 3) := by decide +kernel
theorem dX8_apart_7 : decode cX8_apart 7 = .ok (.ifCond .eq 34, 3) := by decide +kernel
theorem dX8_apart_10 : decode cX8_apart 10 = .ok (.iload_n 2, 1) := by decide +kernel
theorem dX8_apart_11 : decode cX8_apart 11 = .ok (.sipush 1000, 3) := by decide +kernel
theorem dX8_apart_14 : decode cX8_apart 14 = .ok (.invokestatic 40, 3) := by decide +kernel
theorem dX8_apart_17 : decode cX8_apart 17 = .ok (.ifCond .eq 24, 3) := by decide +kernel
theorem dX8_apart_20 : decode cX8_apart 20 = .ok (.iload_n 3, 1) := by decide +kernel
theorem dX8_apart_21 : decode cX8_apart 21 = .ok (.sipush 1000, 3) := by decide +kernel
theorem dX8_apart_24 : decode cX8_apart 24 = .ok (.invokestatic 40, 3) := by decide +kernel
theorem dX8_apart_27 : decode cX8_apart 27 = .ok (.ifCond .eq 14, 3) := by decide +kernel
theorem dX8_apart_30 : decode cX8_apart 30 = .ok (.iload 4, 2) := by decide +kernel
theorem dX8_apart_32 : decode cX8_apart 32 = .ok (.sipush 1000, 3) := by decide +kernel
theorem dX8_apart_35 : decode cX8_apart 35 = .ok (.invokestatic 40, 3) := by decide +kernel
theorem dX8_apart_38 : decode cX8_apart 38 = .ok (.ifCond .ne 6, 3) := by decide +kernel
theorem dX8_apart_41 : decode cX8_apart 41 = .ok (.ldc 206, 2) := by decide +kernel
theorem dX8_apart_43 : decode cX8_apart 43 = .ok (.ireturn, 1) := by decide +kernel
theorem dX8_apart_44 : decode cX8_apart 44 = .ok (.iload_n 1, 1) := by decide +kernel
theorem dX8_apart_45 : decode cX8_apart 45 = .ok (.iload_n 1, 1) := by decide +kernel
theorem dX8_apart_46 : decode cX8_apart 46 = .ok (.iload_n 2, 1) := by decide +kernel
theorem dX8_apart_47 : decode cX8_apart 47 = .ok (.iadd, 1) := by decide +kernel
theorem dX8_apart_48 : decode cX8_apart 48 = .ok (.invokestatic 239, 3) := by decide +kernel
theorem dX8_apart_51 : decode cX8_apart 51 = .ok (.iload_n 3, 1) := by decide +kernel
theorem dX8_apart_52 : decode cX8_apart 52 = .ok (.iload_n 3, 1) := by decide +kernel
theorem dX8_apart_53 : decode cX8_apart 53 = .ok (.iload 4, 2) := by decide +kernel
theorem dX8_apart_55 : decode cX8_apart 55 = .ok (.iadd, 1) := by decide +kernel
theorem dX8_apart_56 : decode cX8_apart 56 = .ok (.invokestatic 239, 3) := by decide +kernel
theorem dX8_apart_59 : decode cX8_apart 59 = .ok (.isub, 1) := by decide +kernel
theorem dX8_apart_60 : decode cX8_apart 60 = .ok (.ireturn, 1) := by decide +kernel
theorem dX8_clear_0 : decode cX8_clear 0 = .ok (.aload_n 0, 1) := by decide +kernel
theorem dX8_clear_1 : decode cX8_clear 1 = .ok (.getfield 10, 3) := by decide +kernel
theorem dX8_clear_4 : decode cX8_clear 4 = .ok (.getfield 147, 3) := by decide +kernel
theorem dX8_clear_7 : decode cX8_clear 7 = .ok (.getfield 151, 3) := by decide +kernel
theorem dX8_clear_10 : decode cX8_clear 10 = .ok (.aload_n 0, 1) := by decide +kernel
theorem dX8_clear_11 : decode cX8_clear 11 = .ok (.getfield 10, 3) := by decide +kernel
theorem dX8_clear_14 : decode cX8_clear 14 = .ok (.getfield 154, 3) := by decide +kernel
theorem dX8_clear_17 : decode cX8_clear 17 = .ok (.getfield 158, 3) := by decide +kernel
theorem dX8_clear_20 : decode cX8_clear 20 = .ok (.iadd, 1) := by decide +kernel
theorem dX8_clear_21 : decode cX8_clear 21 = .ok (.istore_n 1, 1) := by decide +kernel
theorem dX8_clear_22 : decode cX8_clear 22 = .ok (.aload_n 0, 1) := by decide +kernel
theorem dX8_clear_23 : decode cX8_clear 23 = .ok (.getfield 10, 3) := by decide +kernel
theorem dX8_clear_26 : decode cX8_clear 26 = .ok (.getfield 147, 3) := by decide +kernel
theorem dX8_clear_29 : decode cX8_clear 29 = .ok (.iconst 0, 1) := by decide +kernel
theorem dX8_clear_30 : decode cX8_clear 30 = .ok (.putfield 151, 3) := by decide +kernel
theorem dX8_clear_33 : decode cX8_clear 33 = .ok (.aload_n 0, 1) := by decide +kernel
theorem dX8_clear_34 : decode cX8_clear 34 = .ok (.getfield 10, 3) := by decide +kernel
theorem dX8_clear_37 : decode cX8_clear 37 = .ok (.getfield 154, 3) := by decide +kernel
theorem dX8_clear_40 : decode cX8_clear 40 = .ok (.iconst 0, 1) := by decide +kernel
theorem dX8_clear_41 : decode cX8_clear 41 = .ok (.putfield 158, 3) := by decide +kernel
theorem dX8_clear_44 : decode cX8_clear 44 = .ok (.iload_n 1, 1) := by decide +kernel
theorem dX8_clear_45 : decode cX8_clear 45 = .ok (.ireturn, 1) := by decide +kernel
theorem dX8_image_0 : decode cX8_image 0 = .ok (.aload_n 0, 1) := by decide +kernel
theorem dX8_image_1 : decode cX8_image 1 = .ok (.getfield 16, 3) := by decide +kernel
theorem dX8_image_4 : decode cX8_image 4 = .ok (.aload_n 0, 1) := by decide +kernel
theorem dX8_image_5 : decode cX8_image 5 = .ok (.getfield 10, 3) := by decide +kernel
theorem dX8_image_8 : decode cX8_image 8 = .ok (.invokevirtual 242, 3) := by decide +kernel
theorem dX8_image_11 : decode cX8_image 11 = .ok (.aload_n 0, 1) := by decide +kernel
theorem dX8_image_12 : decode cX8_image 12 = .ok (.iconst 1, 1) := by decide +kernel
theorem dX8_image_13 : decode cX8_image 13 = .ok (.putfield 245, 3) := by decide +kernel
theorem dX8_image_16 : decode cX8_image 16 = .ok (.iconst 1, 1) := by decide +kernel
theorem dX8_image_17 : decode cX8_image 17 = .ok (.ireturn, 1) := by decide +kernel
theorem dX8_restore_0 : decode cX8_restore 0 = .ok (.aload_n 0, 1) := by decide +kernel
theorem dX8_restore_1 : decode cX8_restore 1 = .ok (.getfield 245, 3) := by decide +kernel
theorem dX8_restore_4 : decode cX8_restore 4 = .ok (.ifCond .ne 6, 3) := by decide +kernel
theorem dX8_restore_7 : decode cX8_restore 7 = .ok (.bipush (-4), 2) := by decide +kernel
theorem dX8_restore_9 : decode cX8_restore 9 = .ok (.ireturn, 1) := by decide +kernel
theorem dX8_restore_10 : decode cX8_restore 10 = .ok (.aload_n 0, 1) := by decide +kernel
theorem dX8_restore_11 : decode cX8_restore 11 = .ok (.getfield 10, 3) := by decide +kernel
theorem dX8_restore_14 : decode cX8_restore 14 = .ok (.aload_n 0, 1) := by decide +kernel
theorem dX8_restore_15 : decode cX8_restore 15 = .ok (.getfield 16, 3) := by decide +kernel
theorem dX8_restore_18 : decode cX8_restore 18 = .ok (.invokevirtual 242, 3) := by decide +kernel
theorem dX8_restore_21 : decode cX8_restore 21 = .ok (.iconst 1, 1) := by decide +kernel
theorem dX8_restore_22 : decode cX8_restore 22 = .ok (.ireturn, 1) := by decide +kernel
theorem dX8_eyes_0 : decode cX8_eyes 0 = .ok (.iload_n 1, 1) := by decide +kernel
theorem dX8_eyes_1 : decode cX8_eyes 1 = .ok (.bipush 16, 2) := by decide +kernel
theorem dX8_eyes_3 : decode cX8_eyes 3 = .ok (.invokestatic 40, 3) := by decide +kernel
theorem dX8_eyes_6 : decode cX8_eyes 6 = .ok (.ifCond .eq 34, 3) := by decide +kernel
theorem dX8_eyes_9 : decode cX8_eyes 9 = .ok (.iload_n 2, 1) := by decide +kernel
theorem dX8_eyes_10 : decode cX8_eyes 10 = .ok (.iconst 4, 1) := by decide +kernel
theorem dX8_eyes_11 : decode cX8_eyes 11 = .ok (.invokestatic 40, 3) := by decide +kernel
theorem dX8_eyes_14 : decode cX8_eyes 14 = .ok (.ifCond .eq 26, 3) := by decide +kernel
theorem dX8_eyes_17 : decode cX8_eyes 17 = .ok (.iload_n 3, 1) := by decide +kernel
theorem dX8_eyes_18 : decode cX8_eyes 18 = .ok (.iconst 3, 1) := by decide +kernel
theorem dX8_eyes_19 : decode cX8_eyes 19 = .ok (.invokestatic 40, 3) := by decide +kernel
theorem dX8_eyes_22 : decode cX8_eyes 22 = .ok (.ifCond .eq 18, 3) := by decide +kernel
theorem dX8_eyes_25 : decode cX8_eyes 25 = .ok (.iload 5, 2) := by decide +kernel
theorem dX8_eyes_27 : decode cX8_eyes 27 = .ok (.iconst 1, 1) := by decide +kernel
theorem dX8_eyes_28 : decode cX8_eyes 28 = .ok (.if_icmp .lt 12, 3) := by decide +kernel
theorem dX8_eyes_31 : decode cX8_eyes 31 = .ok (.iload 5, 2) := by decide +kernel
theorem dX8_eyes_33 : decode cX8_eyes 33 = .ok (.bipush 16, 2) := by decide +kernel
theorem dX8_eyes_35 : decode cX8_eyes 35 = .ok (.iload_n 1, 1) := by decide +kernel
theorem dX8_eyes_36 : decode cX8_eyes 36 = .ok (.isub, 1) := by decide +kernel
theorem dX8_eyes_37 : decode cX8_eyes 37 = .ok (.if_icmp .le 5, 3) := by decide +kernel
theorem dX8_eyes_40 : decode cX8_eyes 40 = .ok (.iconst (-1), 1) := by decide +kernel
theorem dX8_eyes_41 : decode cX8_eyes 41 = .ok (.ireturn, 1) := by decide +kernel
theorem dX8_eyes_42 : decode cX8_eyes 42 = .ok (.aload_n 0, 1) := by decide +kernel
theorem dX8_eyes_43 : decode cX8_eyes 43 = .ok (.getfield 36, 3) := by decide +kernel
theorem dX8_eyes_46 : decode cX8_eyes 46 = .ok (.iload_n 2, 1) := by decide +kernel
theorem dX8_eyes_47 : decode cX8_eyes 47 = .ok (.iload_n 3, 1) := by decide +kernel
theorem dX8_eyes_48 : decode cX8_eyes 48 = .ok (.invokevirtual 249, 3) := by decide +kernel
theorem dX8_eyes_51 : decode cX8_eyes 51 = .ok (.istore 6, 2) := by decide +kernel
theorem dX8_eyes_53 : decode cX8_eyes 53 = .ok (.iload 6, 2) := by decide +kernel
theorem dX8_eyes_55 : decode cX8_eyes 55 = .ok (.ifCond .eq 6, 3) := by decide +kernel
theorem dX8_eyes_58 : decode cX8_eyes 58 = .ok (.iload 6, 2) := by decide +kernel
theorem dX8_eyes_60 : decode cX8_eyes 60 = .ok (.ireturn, 1) := by decide +kernel
theorem dX8_eyes_61 : decode cX8_eyes 61 = .ok (.aload_n 0, 1) := by decide +kernel
theorem dX8_eyes_62 : decode cX8_eyes 62 = .ok (.getfield 36, 3) := by decide +kernel
theorem dX8_eyes_65 : decode cX8_eyes 65 = .ok (.iload_n 2, 1) := by decide +kernel
theorem dX8_eyes_66 : decode cX8_eyes 66 = .ok (.iload 4, 2) := by decide +kernel
theorem dX8_eyes_68 : decode cX8_eyes 68 = .ok (.iload 5, 2) := by decide +kernel
theorem dX8_eyes_70 : decode cX8_eyes 70 = .ok (.invokevirtual 252, 3) := by decide +kernel
theorem dX8_eyes_73 : decode cX8_eyes 73 = .ok (.ifCond .ne 6, 3) := by decide +kernel
theorem dX8_eyes_76 : decode cX8_eyes 76 = .ok (.bipush (-13), 2) := by decide +kernel
theorem dX8_eyes_78 : decode cX8_eyes 78 = .ok (.ireturn, 1) := by decide +kernel
theorem dX8_eyes_79 : decode cX8_eyes 79 = .ok (.aload_n 0, 1) := by decide +kernel
theorem dX8_eyes_80 : decode cX8_eyes 80 = .ok (.getfield 36, 3) := by decide +kernel
theorem dX8_eyes_83 : decode cX8_eyes 83 = .ok (.iload_n 2, 1) := by decide +kernel
theorem dX8_eyes_84 : decode cX8_eyes 84 = .ok (.iload 4, 2) := by decide +kernel
theorem dX8_eyes_86 : decode cX8_eyes 86 = .ok (.iload 5, 2) := by decide +kernel
theorem dX8_eyes_88 : decode cX8_eyes 88 = .ok (.invokevirtual 255, 3) := by decide +kernel
theorem dX8_eyes_91 : decode cX8_eyes 91 = .ok (.istore 7, 2) := by decide +kernel
theorem dX8_eyes_93 : decode cX8_eyes 93 = .ok (.iload 7, 2) := by decide +kernel
theorem dX8_eyes_95 : decode cX8_eyes 95 = .ok (.iconst (-1), 1) := by decide +kernel
theorem dX8_eyes_96 : decode cX8_eyes 96 = .ok (.if_icmp .ne 6, 3) := by decide +kernel
theorem dX8_eyes_99 : decode cX8_eyes 99 = .ok (.bipush (-2), 2) := by decide +kernel
theorem dX8_eyes_101 : decode cX8_eyes 101 = .ok (.ireturn, 1) := by decide +kernel
theorem dX8_eyes_102 : decode cX8_eyes 102 = .ok (.aload_n 0, 1) := by decide +kernel
theorem dX8_eyes_103 : decode cX8_eyes 103 = .ok (.getfield 10, 3) := by decide +kernel
theorem dX8_eyes_106 : decode cX8_eyes 106 = .ok (.getfield 154, 3) := by decide +kernel
theorem dX8_eyes_109 : decode cX8_eyes 109 = .ok (.getfield 158, 3) := by decide +kernel
theorem dX8_eyes_112 : decode cX8_eyes 112 = .ok (.iload 7, 2) := by decide +kernel
theorem dX8_eyes_114 : decode cX8_eyes 114 = .ok (.iadd, 1) := by decide +kernel
theorem dX8_eyes_115 : decode cX8_eyes 115 = .ok (.bipush 24, 2) := by decide +kernel
theorem dX8_eyes_117 : decode cX8_eyes 117 = .ok (.if_icmp .le 6, 3) := by decide +kernel
theorem dX8_eyes_120 : decode cX8_eyes 120 = .ok (.bipush (-3), 2) := by decide +kernel
theorem dX8_eyes_122 : decode cX8_eyes 122 = .ok (.ireturn, 1) := by decide +kernel
theorem dX8_eyes_123 : decode cX8_eyes 123 = .ok (.iconst 0, 1) := by decide +kernel
theorem dX8_eyes_124 : decode cX8_eyes 124 = .ok (.istore 8, 2) := by decide +kernel
theorem dX8_eyes_126 : decode cX8_eyes 126 = .ok (.iload 8, 2) := by decide +kernel
theorem dX8_eyes_128 : decode cX8_eyes 128 = .ok (.iload 5, 2) := by decide +kernel
theorem dX8_eyes_130 : decode cX8_eyes 130 = .ok (.if_icmp .ge 46, 3) := by decide +kernel
theorem dX8_eyes_133 : decode cX8_eyes 133 = .ok (.aload_n 0, 1) := by decide +kernel
theorem dX8_eyes_134 : decode cX8_eyes 134 = .ok (.getfield 36, 3) := by decide +kernel
theorem dX8_eyes_137 : decode cX8_eyes 137 = .ok (.iload_n 2, 1) := by decide +kernel
theorem dX8_eyes_138 : decode cX8_eyes 138 = .ok (.iload 4, 2) := by decide +kernel
theorem dX8_eyes_140 : decode cX8_eyes 140 = .ok (.iload 8, 2) := by decide +kernel
theorem dX8_eyes_142 : decode cX8_eyes 142 = .ok (.iadd, 1) := by decide +kernel
theorem dX8_eyes_143 : decode cX8_eyes 143 = .ok (.invokevirtual 259, 3) := by decide +kernel
theorem dX8_eyes_146 : decode cX8_eyes 146 = .ok (.istore 9, 2) := by decide +kernel
theorem dX8_eyes_148 : decode cX8_eyes 148 = .ok (.iload 9, 2) := by decide +kernel
theorem dX8_eyes_150 : decode cX8_eyes 150 = .ok (.iconst (-1), 1) := by decide +kernel
theorem dX8_eyes_151 : decode cX8_eyes 151 = .ok (.if_icmp .eq 19, 3) := by decide +kernel
theorem dX8_eyes_154 : decode cX8_eyes 154 = .ok (.aload_n 0, 1) := by decide +kernel
theorem dX8_eyes_155 : decode cX8_eyes 155 = .ok (.getfield 10, 3) := by decide +kernel
theorem dX8_eyes_158 : decode cX8_eyes 158 = .ok (.getfield 154, 3) := by decide +kernel
theorem dX8_eyes_161 : decode cX8_eyes 161 = .ok (.iload_n 1, 1) := by decide +kernel
theorem dX8_eyes_162 : decode cX8_eyes 162 = .ok (.iload 8, 2) := by decide +kernel
theorem dX8_eyes_164 : decode cX8_eyes 164 = .ok (.iadd, 1) := by decide +kernel
theorem dX8_eyes_165 : decode cX8_eyes 165 = .ok (.iload 9, 2) := by decide +kernel
theorem dX8_eyes_167 : decode cX8_eyes 167 = .ok (.invokevirtual 231, 3) := by decide +kernel
theorem dX8_eyes_170 : decode cX8_eyes 170 = .ok (.iinc 8 1, 3) := by decide +kernel
theorem dX8_eyes_173 : decode cX8_eyes 173 = .ok (.goto (-47), 3) := by decide +kernel
theorem dX8_eyes_176 : decode cX8_eyes 176 = .ok (.iload 7, 2) := by decide +kernel
theorem dX8_eyes_178 : decode cX8_eyes 178 = .ok (.ireturn, 1) := by decide +kernel
theorem dX8_sheet_0 : decode cX8_sheet 0 = .ok (.iload_n 1, 1) := by decide +kernel
theorem dX8_sheet_1 : decode cX8_sheet 1 = .ok (.iconst 4, 1) := by decide +kernel
theorem dX8_sheet_2 : decode cX8_sheet 2 = .ok (.invokestatic 40, 3) := by decide +kernel
theorem dX8_sheet_5 : decode cX8_sheet 5 = .ok (.ifCond .eq 17, 3) := by decide +kernel
theorem dX8_sheet_8 : decode cX8_sheet 8 = .ok (.iload_n 2, 1) := by decide +kernel
theorem dX8_sheet_9 : decode cX8_sheet 9 = .ok (.iconst 3, 1) := by decide +kernel
theorem dX8_sheet_10 : decode cX8_sheet 10 = .ok (.invokestatic 40, 3) := by decide +kernel
theorem dX8_sheet_13 : decode cX8_sheet 13 = .ok (.ifCond .eq 9, 3) := by decide +kernel
theorem dX8_sheet_16 : decode cX8_sheet 16 = .ok (.iload_n 3, 1) := by decide +kernel
theorem dX8_sheet_17 : decode cX8_sheet 17 = .ok (.bipush 16, 2) := by decide +kernel
theorem dX8_sheet_19 : decode cX8_sheet 19 = .ok (.if_icmp .le 5, 3) := by decide +kernel
theorem dX8_sheet_22 : decode cX8_sheet 22 = .ok (.iconst (-1), 1) := by decide +kernel
theorem dX8_sheet_23 : decode cX8_sheet 23 = .ok (.ireturn, 1) := by decide +kernel
theorem dX8_sheet_24 : decode cX8_sheet 24 = .ok (.iload_n 3, 1) := by decide +kernel
theorem dX8_sheet_25 : decode cX8_sheet 25 = .ok (.ifCond .ge 6, 3) := by decide +kernel
theorem dX8_sheet_28 : decode cX8_sheet 28 = .ok (.bipush (-14), 2) := by decide +kernel
theorem dX8_sheet_30 : decode cX8_sheet 30 = .ok (.ireturn, 1) := by decide +kernel
theorem dX8_sheet_31 : decode cX8_sheet 31 = .ok (.aload_n 0, 1) := by decide +kernel
theorem dX8_sheet_32 : decode cX8_sheet 32 = .ok (.getfield 36, 3) := by decide +kernel
theorem dX8_sheet_35 : decode cX8_sheet 35 = .ok (.iload_n 1, 1) := by decide +kernel
theorem dX8_sheet_36 : decode cX8_sheet 36 = .ok (.iload_n 2, 1) := by decide +kernel
theorem dX8_sheet_37 : decode cX8_sheet 37 = .ok (.iload_n 3, 1) := by decide +kernel
theorem dX8_sheet_38 : decode cX8_sheet 38 = .ok (.invokevirtual 262, 3) := by decide +kernel
theorem dX8_sheet_41 : decode cX8_sheet 41 = .ok (.iload_n 3, 1) := by decide +kernel
theorem dX8_sheet_42 : decode cX8_sheet 42 = .ok (.ireturn, 1) := by decide +kernel
theorem dX8_drop_0 : decode cX8_drop 0 = .ok (.iload_n 1, 1) := by decide +kernel
theorem dX8_drop_1 : decode cX8_drop 1 = .ok (.iconst 4, 1) := by decide +kernel
theorem dX8_drop_2 : decode cX8_drop 2 = .ok (.invokestatic 40, 3) := by decide +kernel
theorem dX8_drop_5 : decode cX8_drop 5 = .ok (.ifCond .ne 5, 3) := by decide +kernel
theorem dX8_drop_8 : decode cX8_drop 8 = .ok (.iconst (-1), 1) := by decide +kernel
theorem dX8_drop_9 : decode cX8_drop 9 = .ok (.ireturn, 1) := by decide +kernel
theorem dX8_drop_10 : decode cX8_drop 10 = .ok (.aload_n 0, 1) := by decide +kernel
theorem dX8_drop_11 : decode cX8_drop 11 = .ok (.getfield 36, 3) := by decide +kernel
theorem dX8_drop_14 : decode cX8_drop 14 = .ok (.iload_n 1, 1) := by decide +kernel
theorem dX8_drop_15 : decode cX8_drop 15 = .ok (.invokevirtual 266, 3) := by decide +kernel
theorem dX8_drop_18 : decode cX8_drop 18 = .ok (.ifCond .eq 6, 3) := by decide +kernel
theorem dX8_drop_21 : decode cX8_drop 21 = .ok (.bipush (-11), 2) := by decide +kernel
theorem dX8_drop_23 : decode cX8_drop 23 = .ok (.ireturn, 1) := by decide +kernel
theorem dX8_drop_24 : decode cX8_drop 24 = .ok (.aload_n 0, 1) := by decide +kernel
theorem dX8_drop_25 : decode cX8_drop 25 = .ok (.getfield 36, 3) := by decide +kernel
theorem dX8_drop_28 : decode cX8_drop 28 = .ok (.getfield 269, 3) := by decide +kernel
theorem dX8_drop_31 : decode cX8_drop 31 = .ok (.iload_n 1, 1) := by decide +kernel
theorem dX8_drop_32 : decode cX8_drop 32 = .ok (.iconst (-1), 1) := by decide +kernel
theorem dX8_drop_33 : decode cX8_drop 33 = .ok (.iastore, 1) := by decide +kernel
theorem dX8_drop_34 : decode cX8_drop 34 = .ok (.aload_n 0, 1) := by decide +kernel
theorem dX8_drop_35 : decode cX8_drop 35 = .ok (.getfield 36, 3) := by decide +kernel
theorem dX8_drop_38 : decode cX8_drop 38 = .ok (.getfield 272, 3) := by decide +kernel
theorem dX8_drop_41 : decode cX8_drop 41 = .ok (.iload_n 1, 1) := by decide +kernel
theorem dX8_drop_42 : decode cX8_drop 42 = .ok (.iaload, 1) := by decide +kernel
theorem dX8_drop_43 : decode cX8_drop 43 = .ok (.ireturn, 1) := by decide +kernel
theorem dX8_item_0 : decode cX8_item 0 = .ok (.iload_n 1, 1) := by decide +kernel
theorem dX8_item_1 : decode cX8_item 1 = .ok (.iconst 4, 1) := by decide +kernel
theorem dX8_item_2 : decode cX8_item 2 = .ok (.invokestatic 40, 3) := by decide +kernel
theorem dX8_item_5 : decode cX8_item 5 = .ok (.ifCond .eq 11, 3) := by decide +kernel
theorem dX8_item_8 : decode cX8_item 8 = .ok (.iload_n 2, 1) := by decide +kernel
theorem dX8_item_9 : decode cX8_item 9 = .ok (.iconst 3, 1) := by decide +kernel
theorem dX8_item_10 : decode cX8_item 10 = .ok (.invokestatic 40, 3) := by decide +kernel
theorem dX8_item_13 : decode cX8_item 13 = .ok (.ifCond .ne 5, 3) := by decide +kernel
theorem dX8_item_16 : decode cX8_item 16 = .ok (.iconst (-1), 1) := by decide +kernel
theorem dX8_item_17 : decode cX8_item 17 = .ok (.ireturn, 1) := by decide +kernel
theorem dX8_item_18 : decode cX8_item 18 = .ok (.aload_n 0, 1) := by decide +kernel
theorem dX8_item_19 : decode cX8_item 19 = .ok (.getfield 36, 3) := by decide +kernel
theorem dX8_item_22 : decode cX8_item 22 = .ok (.iload_n 1, 1) := by decide +kernel
theorem dX8_item_23 : decode cX8_item 23 = .ok (.iload_n 2, 1) := by decide +kernel
theorem dX8_item_24 : decode cX8_item 24 = .ok (.invokevirtual 249, 3) := by decide +kernel
theorem dX8_item_27 : decode cX8_item 27 = .ok (.istore 5, 2) := by decide +kernel
theorem dX8_item_29 : decode cX8_item 29 = .ok (.iload 5, 2) := by decide +kernel
theorem dX8_item_31 : decode cX8_item 31 = .ok (.ifCond .eq 6, 3) := by decide +kernel
theorem dX8_item_34 : decode cX8_item 34 = .ok (.iload 5, 2) := by decide +kernel
theorem dX8_item_36 : decode cX8_item 36 = .ok (.ireturn, 1) := by decide +kernel
theorem dX8_item_37 : decode cX8_item 37 = .ok (.aload_n 0, 1) := by decide +kernel
theorem dX8_item_38 : decode cX8_item 38 = .ok (.getfield 36, 3) := by decide +kernel
theorem dX8_item_41 : decode cX8_item 41 = .ok (.iload_n 1, 1) := by decide +kernel
theorem dX8_item_42 : decode cX8_item 42 = .ok (.iload_n 3, 1) := by decide +kernel
theorem dX8_item_43 : decode cX8_item 43 = .ok (.iconst 1, 1) := by decide +kernel
theorem dX8_item_44 : decode cX8_item 44 = .ok (.invokevirtual 252, 3) := by decide +kernel
theorem dX8_item_47 : decode cX8_item 47 = .ok (.ifCond .ne 6, 3) := by decide +kernel
theorem dX8_item_50 : decode cX8_item 50 = .ok (.bipush (-13), 2) := by decide +kernel
theorem dX8_item_52 : decode cX8_item 52 = .ok (.ireturn, 1) := by decide +kernel
theorem dX8_item_53 : decode cX8_item 53 = .ok (.aload_n 0, 1) := by decide +kernel
theorem dX8_item_54 : decode cX8_item 54 = .ok (.getfield 36, 3) := by decide +kernel
theorem dX8_item_57 : decode cX8_item 57 = .ok (.iload_n 1, 1) := by decide +kernel
theorem dX8_item_58 : decode cX8_item 58 = .ok (.iload_n 3, 1) := by decide +kernel
theorem dX8_item_59 : decode cX8_item 59 = .ok (.iload 4, 2) := by decide +kernel
theorem dX8_item_61 : decode cX8_item 61 = .ok (.invokevirtual 275, 3) := by decide +kernel
theorem dX8_item_64 : decode cX8_item 64 = .ok (.iconst 1, 1) := by decide +kernel
theorem dX8_item_65 : decode cX8_item 65 = .ok (.ireturn, 1) := by decide +kernel
theorem dX8_copy_0 : decode cX8_copy 0 = .ok (.iload_n 1, 1) := by decide +kernel
theorem dX8_copy_1 : decode cX8_copy 1 = .ok (.iconst 4, 1) := by decide +kernel
theorem dX8_copy_2 : decode cX8_copy 2 = .ok (.invokestatic 40, 3) := by decide +kernel
theorem dX8_copy_5 : decode cX8_copy 5 = .ok (.ifCond .eq 11, 3) := by decide +kernel
theorem dX8_copy_8 : decode cX8_copy 8 = .ok (.iload_n 3, 1) := by decide +kernel
theorem dX8_copy_9 : decode cX8_copy 9 = .ok (.iconst 4, 1) := by decide +kernel
theorem dX8_copy_10 : decode cX8_copy 10 = .ok (.invokestatic 40, 3) := by decide +kernel
theorem dX8_copy_13 : decode cX8_copy 13 = .ok (.ifCond .ne 5, 3) := by decide +kernel
theorem dX8_copy_16 : decode cX8_copy 16 = .ok (.iconst (-1), 1) := by decide +kernel
theorem dX8_copy_17 : decode cX8_copy 17 = .ok (.ireturn, 1) := by decide +kernel
theorem dX8_copy_18 : decode cX8_copy 18 = .ok (.aload_n 0, 1) := by decide +kernel
theorem dX8_copy_19 : decode cX8_copy 19 = .ok (.getfield 36, 3) := by decide +kernel
theorem dX8_copy_22 : decode cX8_copy 22 = .ok (.iload_n 1, 1) := by decide +kernel
theorem dX8_copy_23 : decode cX8_copy 23 = .ok (.invokevirtual 266, 3) := by decide +kernel
theorem dX8_copy_26 : decode cX8_copy 26 = .ok (.ifCond .ne 14, 3) := by decide +kernel
theorem dX8_copy_29 : decode cX8_copy 29 = .ok (.aload_n 0, 1) := by decide +kernel
theorem dX8_copy_30 : decode cX8_copy 30 = .ok (.getfield 36, 3) := by decide +kernel
theorem dX8_copy_33 : decode cX8_copy 33 = .ok (.iload_n 3, 1) := by decide +kernel
theorem dX8_copy_34 : decode cX8_copy 34 = .ok (.invokevirtual 266, 3) := by decide +kernel
theorem dX8_copy_37 : decode cX8_copy 37 = .ok (.ifCond .eq 6, 3) := by decide +kernel
theorem dX8_copy_40 : decode cX8_copy 40 = .ok (.bipush (-11), 2) := by decide +kernel
theorem dX8_copy_42 : decode cX8_copy 42 = .ok (.ireturn, 1) := by decide +kernel
theorem dX8_copy_43 : decode cX8_copy 43 = .ok (.aload_n 0, 1) := by decide +kernel
theorem dX8_copy_44 : decode cX8_copy 44 = .ok (.getfield 36, 3) := by decide +kernel
theorem dX8_copy_47 : decode cX8_copy 47 = .ok (.getfield 269, 3) := by decide +kernel
theorem dX8_copy_50 : decode cX8_copy 50 = .ok (.iload_n 1, 1) := by decide +kernel
theorem dX8_copy_51 : decode cX8_copy 51 = .ok (.iaload, 1) := by decide +kernel
theorem dX8_copy_52 : decode cX8_copy 52 = .ok (.aload_n 0, 1) := by decide +kernel
theorem dX8_copy_53 : decode cX8_copy 53 = .ok (.getfield 36, 3) := by decide +kernel
theorem dX8_copy_56 : decode cX8_copy 56 = .ok (.getfield 269, 3) := by decide +kernel
theorem dX8_copy_59 : decode cX8_copy 59 = .ok (.iload_n 3, 1) := by decide +kernel
theorem dX8_copy_60 : decode cX8_copy 60 = .ok (.iaload, 1) := by decide +kernel
theorem dX8_copy_61 : decode cX8_copy 61 = .ok (.if_icmp .eq 6, 3) := by decide +kernel
theorem dX8_copy_64 : decode cX8_copy 64 = .ok (.bipush (-12), 2) := by decide +kernel
theorem dX8_copy_66 : decode cX8_copy 66 = .ok (.ireturn, 1) := by decide +kernel
theorem dX8_copy_67 : decode cX8_copy 67 = .ok (.aload_n 0, 1) := by decide +kernel
theorem dX8_copy_68 : decode cX8_copy 68 = .ok (.getfield 36, 3) := by decide +kernel
theorem dX8_copy_71 : decode cX8_copy 71 = .ok (.iload_n 1, 1) := by decide +kernel
theorem dX8_copy_72 : decode cX8_copy 72 = .ok (.iload_n 2, 1) := by decide +kernel
theorem dX8_copy_73 : decode cX8_copy 73 = .ok (.iload 5, 2) := by decide +kernel
theorem dX8_copy_75 : decode cX8_copy 75 = .ok (.invokevirtual 252, 3) := by decide +kernel
theorem dX8_copy_78 : decode cX8_copy 78 = .ok (.ifCond .eq 18, 3) := by decide +kernel
theorem dX8_copy_81 : decode cX8_copy 81 = .ok (.aload_n 0, 1) := by decide +kernel
theorem dX8_copy_82 : decode cX8_copy 82 = .ok (.getfield 36, 3) := by decide +kernel
theorem dX8_copy_85 : decode cX8_copy 85 = .ok (.iload_n 3, 1) := by decide +kernel
theorem dX8_copy_86 : decode cX8_copy 86 = .ok (.iload 4, 2) := by decide +kernel
theorem dX8_copy_88 : decode cX8_copy 88 = .ok (.iload 5, 2) := by decide +kernel
theorem dX8_copy_90 : decode cX8_copy 90 = .ok (.invokevirtual 252, 3) := by decide +kernel
theorem dX8_copy_93 : decode cX8_copy 93 = .ok (.ifCond .ne 6, 3) := by decide +kernel
theorem dX8_copy_96 : decode cX8_copy 96 = .ok (.bipush (-13), 2) := by decide +kernel
theorem dX8_copy_98 : decode cX8_copy 98 = .ok (.ireturn, 1) := by decide +kernel
theorem dX8_copy_99 : decode cX8_copy 99 = .ok (.aload_n 0, 1) := by decide +kernel
theorem dX8_copy_100 : decode cX8_copy 100 = .ok (.getfield 36, 3) := by decide +kernel
theorem dX8_copy_103 : decode cX8_copy 103 = .ok (.iload_n 1, 1) := by decide +kernel
theorem dX8_copy_104 : decode cX8_copy 104 = .ok (.iload_n 2, 1) := by decide +kernel
theorem dX8_copy_105 : decode cX8_copy 105 = .ok (.iload_n 3, 1) := by decide +kernel
theorem dX8_copy_106 : decode cX8_copy 106 = .ok (.iload 4, 2) := by decide +kernel
theorem dX8_copy_108 : decode cX8_copy 108 = .ok (.iload 5, 2) := by decide +kernel
theorem dX8_copy_110 : decode cX8_copy 110 = .ok (.invokevirtual 277, 3) := by decide +kernel
theorem dX8_copy_113 : decode cX8_copy 113 = .ok (.iload 5, 2) := by decide +kernel
theorem dX8_copy_115 : decode cX8_copy 115 = .ok (.ireturn, 1) := by decide +kernel
theorem dX8_isBelow_0 : decode cX8_isBelow 0 = .ok (.iload_n 0, 1) := by decide +kernel
theorem dX8_isBelow_1 : decode cX8_isBelow 1 = .ok (.ifCond .lt 12, 3) := by decide +kernel
theorem dX8_isBelow_4 : decode cX8_isBelow 4 = .ok (.iload_n 0, 1) := by decide +kernel
theorem dX8_isBelow_5 : decode cX8_isBelow 5 = .ok (.iload_n 1, 1) := by decide +kernel
theorem dX8_isBelow_6 : decode cX8_isBelow 6 = .ok (.if_icmp .ge 7, 3) := by decide +kernel
theorem dX8_isBelow_9 : decode cX8_isBelow 9 = .ok (.iconst 1, 1) := by decide +kernel
theorem dX8_isBelow_10 : decode cX8_isBelow 10 = .ok (.goto 4, 3) := by decide +kernel
theorem dX8_isBelow_13 : decode cX8_isBelow 13 = .ok (.iconst 0, 1) := by decide +kernel
theorem dX8_isBelow_14 : decode cX8_isBelow 14 = .ok (.ireturn, 1) := by decide +kernel
theorem dX8_isShowing_0 : decode cX8_isShowing 0 = .ok (.iload_n 0, 1) := by decide +kernel
theorem dX8_isShowing_1 : decode cX8_isShowing 1 = .ok (.iconst 1, 1) := by decide +kernel
theorem dX8_isShowing_2 : decode cX8_isShowing 2 = .ok (.if_icmp .lt 13, 3) := by decide +kernel
theorem dX8_isShowing_5 : decode cX8_isShowing 5 = .ok (.iload_n 0, 1) := by decide +kernel
theorem dX8_isShowing_6 : decode cX8_isShowing 6 = .ok (.bipush 9, 2) := by decide +kernel
theorem dX8_isShowing_8 : decode cX8_isShowing 8 = .ok (.if_icmp .gt 7, 3) := by decide +kernel
theorem dX8_isShowing_11 : decode cX8_isShowing 11 = .ok (.iconst 1, 1) := by decide +kernel
theorem dX8_isShowing_12 : decode cX8_isShowing 12 = .ok (.goto 4, 3) := by decide +kernel
theorem dX8_isShowing_15 : decode cX8_isShowing 15 = .ok (.iconst 0, 1) := by decide +kernel
theorem dX8_isShowing_16 : decode cX8_isShowing 16 = .ok (.ireturn, 1) := by decide +kernel
theorem dX8_exchange_0 : decode cX8_exchange 0 = .ok (.aload_n 0, 1) := by decide +kernel
theorem dX8_exchange_1 : decode cX8_exchange 1 = .ok (.iload_n 1, 1) := by decide +kernel
theorem dX8_exchange_2 : decode cX8_exchange 2 = .ok (.iaload, 1) := by decide +kernel
theorem dX8_exchange_3 : decode cX8_exchange 3 = .ok (.istore_n 3, 1) := by decide +kernel
theorem dX8_exchange_4 : decode cX8_exchange 4 = .ok (.aload_n 0, 1) := by decide +kernel
theorem dX8_exchange_5 : decode cX8_exchange 5 = .ok (.iload_n 1, 1) := by decide +kernel
theorem dX8_exchange_6 : decode cX8_exchange 6 = .ok (.iload_n 2, 1) := by decide +kernel
theorem dX8_exchange_7 : decode cX8_exchange 7 = .ok (.iastore, 1) := by decide +kernel
theorem dX8_exchange_8 : decode cX8_exchange 8 = .ok (.iload_n 3, 1) := by decide +kernel
theorem dX8_exchange_9 : decode cX8_exchange 9 = .ok (.ireturn, 1) := by decide +kernel
theorem dX8_toldIn_0 : decode cX8_toldIn 0 = .ok (.iconst 0, 1) := by decide +kernel
theorem dX8_toldIn_1 : decode cX8_toldIn 1 = .ok (.istore_n 1, 1) := by decide +kernel
theorem dX8_toldIn_2 : decode cX8_toldIn 2 = .ok (.iconst 0, 1) := by decide +kernel
theorem dX8_toldIn_3 : decode cX8_toldIn 3 = .ok (.istore_n 2, 1) := by decide +kernel
theorem dX8_toldIn_4 : decode cX8_toldIn 4 = .ok (.iload_n 2, 1) := by decide +kernel
theorem dX8_toldIn_5 : decode cX8_toldIn 5 = .ok (.aload_n 0, 1) := by decide +kernel
theorem dX8_toldIn_6 : decode cX8_toldIn 6 = .ok (.arraylength, 1) := by decide +kernel
theorem dX8_toldIn_7 : decode cX8_toldIn 7 = .ok (.if_icmp .ge 18, 3) := by decide +kernel
theorem dX8_toldIn_10 : decode cX8_toldIn 10 = .ok (.aload_n 0, 1) := by decide +kernel
theorem dX8_toldIn_11 : decode cX8_toldIn 11 = .ok (.iload_n 2, 1) := by decide +kernel
theorem dX8_toldIn_12 : decode cX8_toldIn 12 = .ok (.iaload, 1) := by decide +kernel
theorem dX8_toldIn_13 : decode cX8_toldIn 13 = .ok (.ifCond .eq 6, 3) := by decide +kernel
theorem dX8_toldIn_16 : decode cX8_toldIn 16 = .ok (.iinc 1 1, 3) := by decide +kernel
theorem dX8_toldIn_19 : decode cX8_toldIn 19 = .ok (.iinc 2 1, 3) := by decide +kernel
theorem dX8_toldIn_22 : decode cX8_toldIn 22 = .ok (.goto (-18), 3) := by decide +kernel
theorem dX8_toldIn_25 : decode cX8_toldIn 25 = .ok (.iload_n 1, 1) := by decide +kernel
theorem dX8_toldIn_26 : decode cX8_toldIn 26 = .ok (.ireturn, 1) := by decide +kernel
theorem dX8_thousandths_0 : decode cX8_thousandths 0 = .ok (.iload_n 1, 1) := by decide +kernel
theorem dX8_thousandths_1 : decode cX8_thousandths 1 = .ok (.ifCond .gt 7, 3) := by decide +kernel
theorem dX8_thousandths_4 : decode cX8_thousandths 4 = .ok (.iconst 0, 1) := by decide +kernel
theorem dX8_thousandths_5 : decode cX8_thousandths 5 = .ok (.goto 10, 3) := by decide +kernel
theorem dX8_thousandths_8 : decode cX8_thousandths 8 = .ok (.sipush 1000, 3) := by decide +kernel
theorem dX8_thousandths_11 : decode cX8_thousandths 11 = .ok (.iload_n 0, 1) := by decide +kernel
theorem dX8_thousandths_12 : decode cX8_thousandths 12 = .ok (.imul, 1) := by decide +kernel
theorem dX8_thousandths_13 : decode cX8_thousandths 13 = .ok (.iload_n 1, 1) := by decide +kernel
theorem dX8_thousandths_14 : decode cX8_thousandths 14 = .ok (.idiv, 1) := by decide +kernel
theorem dX8_thousandths_15 : decode cX8_thousandths 15 = .ok (.ireturn, 1) := by decide +kernel
theorem dX8_commonDivisor_0 : decode cX8_commonDivisor 0 = .ok (.iconst 0, 1) := by decide +kernel
theorem dX8_commonDivisor_1 : decode cX8_commonDivisor 1 = .ok (.istore_n 2, 1) := by decide +kernel
theorem dX8_commonDivisor_2 : decode cX8_commonDivisor 2 = .ok (.iload_n 2, 1) := by decide +kernel
theorem dX8_commonDivisor_3 : decode cX8_commonDivisor 3 = .ok (.bipush 64, 2) := by decide +kernel
theorem dX8_commonDivisor_5 : decode cX8_commonDivisor 5 = .ok (.if_icmp .ge 21, 3) := by decide +kernel
theorem dX8_commonDivisor_8 : decode cX8_commonDivisor 8 = .ok (.iload_n 1, 1) := by decide +kernel
theorem dX8_commonDivisor_9 : decode cX8_commonDivisor 9 = .ok (.ifCond .eq 17, 3) := by decide +kernel
theorem dX8_commonDivisor_12 : decode cX8_commonDivisor 12 = .ok (.iload_n 0, 1) := by decide +kernel
theorem dX8_commonDivisor_13 : decode cX8_commonDivisor 13 = .ok (.iload_n 1, 1) := by decide +kernel
theorem dX8_commonDivisor_14 : decode cX8_commonDivisor 14 = .ok (.irem, 1) := by decide +kernel
theorem dX8_commonDivisor_15 : decode cX8_commonDivisor 15 = .ok (.istore_n 3, 1) := by decide +kernel
theorem dX8_commonDivisor_16 : decode cX8_commonDivisor 16 = .ok (.iload_n 1, 1) := by decide +kernel
theorem dX8_commonDivisor_17 : decode cX8_commonDivisor 17 = .ok (.istore_n 0, 1) := by decide +kernel
theorem dX8_commonDivisor_18 : decode cX8_commonDivisor 18 = .ok (.iload_n 3, 1) := by decide +kernel
theorem dX8_commonDivisor_19 : decode cX8_commonDivisor 19 = .ok (.istore_n 1, 1) := by decide +kernel
theorem dX8_commonDivisor_20 : decode cX8_commonDivisor 20 = .ok (.iinc 2 1, 3) := by decide +kernel
theorem dX8_commonDivisor_23 : decode cX8_commonDivisor 23 = .ok (.goto (-21), 3) := by decide +kernel
theorem dX8_commonDivisor_26 : decode cX8_commonDivisor 26 = .ok (.iload_n 0, 1) := by decide +kernel
theorem dX8_commonDivisor_27 : decode cX8_commonDivisor 27 = .ok (.ireturn, 1) := by decide +kernel
theorem dX8_canSee_0 : decode cX8_canSee 0 = .ok (.iload_n 0, 1) := by decide +kernel
theorem dX8_canSee_1 : decode cX8_canSee 1 = .ok (.iconst 4, 1) := by decide +kernel
theorem dX8_canSee_2 : decode cX8_canSee 2 = .ok (.irem, 1) := by decide +kernel
theorem dX8_canSee_3 : decode cX8_canSee 3 = .ok (.iload_n 2, 1) := by decide +kernel
theorem dX8_canSee_4 : decode cX8_canSee 4 = .ok (.isub, 1) := by decide +kernel
theorem dX8_canSee_5 : decode cX8_canSee 5 = .ok (.istore_n 3, 1) := by decide +kernel
theorem dX8_canSee_6 : decode cX8_canSee 6 = .ok (.iload_n 1, 1) := by decide +kernel
theorem dX8_canSee_7 : decode cX8_canSee 7 = .ok (.iconst 1, 1) := by decide +kernel
theorem dX8_canSee_8 : decode cX8_canSee 8 = .ok (.if_icmp .ne 15, 3) := by decide +kernel
theorem dX8_canSee_11 : decode cX8_canSee 11 = .ok (.iload_n 3, 1) := by decide +kernel
theorem dX8_canSee_12 : decode cX8_canSee 12 = .ok (.bipush (-2), 2) := by decide +kernel
theorem dX8_canSee_14 : decode cX8_canSee 14 = .ok (.if_icmp .le 7, 3) := by decide +kernel
theorem dX8_canSee_17 : decode cX8_canSee 17 = .ok (.iconst 1, 1) := by decide +kernel
theorem dX8_canSee_18 : decode cX8_canSee 18 = .ok (.goto 4, 3) := by decide +kernel
theorem dX8_canSee_21 : decode cX8_canSee 21 = .ok (.iconst 0, 1) := by decide +kernel
theorem dX8_canSee_22 : decode cX8_canSee 22 = .ok (.ireturn, 1) := by decide +kernel
theorem dX8_canSee_23 : decode cX8_canSee 23 = .ok (.iload_n 1, 1) := by decide +kernel
theorem dX8_canSee_24 : decode cX8_canSee 24 = .ok (.ifCond .ne 8, 3) := by decide +kernel
theorem dX8_canSee_27 : decode cX8_canSee 27 = .ok (.iload_n 3, 1) := by decide +kernel
theorem dX8_canSee_28 : decode cX8_canSee 28 = .ok (.iconst 2, 1) := by decide +kernel
theorem dX8_canSee_29 : decode cX8_canSee 29 = .ok (.if_icmp .ge 7, 3) := by decide +kernel
theorem dX8_canSee_32 : decode cX8_canSee 32 = .ok (.iconst 1, 1) := by decide +kernel
theorem dX8_canSee_33 : decode cX8_canSee 33 = .ok (.goto 4, 3) := by decide +kernel
theorem dX8_canSee_36 : decode cX8_canSee 36 = .ok (.iconst 0, 1) := by decide +kernel
theorem dX8_canSee_37 : decode cX8_canSee 37 = .ok (.ireturn, 1) := by decide +kernel
end
section
theorem dX9_in_0 : decode cX9_in 0 = .ok (.lload_n 0, 1) := by decide +kernel
theorem dX9_in_1 : decode cX9_in 1 = .ok (.lload_n 2, 1) := by decide +kernel
theorem dX9_in_2 : decode cX9_in 2 = .ok (.lcmp, 1) := by decide +kernel
theorem dX9_in_3 : decode cX9_in 3 = .ok (.ifCond .lt 14, 3) := by decide +kernel
theorem dX9_in_6 : decode cX9_in 6 = .ok (.lload_n 0, 1) := by decide +kernel
theorem dX9_in_7 : decode cX9_in 7 = .ok (.lload 4, 2) := by decide +kernel
theorem dX9_in_9 : decode cX9_in 9 = .ok (.lcmp, 1) := by decide +kernel
theorem dX9_in_10 : decode cX9_in 10 = .ok (.ifCond .gt 7, 3) := by decide +kernel
theorem dX9_in_13 : decode cX9_in 13 = .ok (.iconst 1, 1) := by decide +kernel
theorem dX9_in_14 : decode cX9_in 14 = .ok (.goto 4, 3) := by decide +kernel
theorem dX9_in_17 : decode cX9_in 17 = .ok (.iconst 0, 1) := by decide +kernel
theorem dX9_in_18 : decode cX9_in 18 = .ok (.ireturn, 1) := by decide +kernel
theorem dX9_init_0 : decode cX9_init 0 = .ok (.aload_n 0, 1) := by decide +kernel
theorem dX9_init_1 : decode cX9_init 1 = .ok (.invokespecial 1, 3) := by decide +kernel
theorem dX9_init_4 : decode cX9_init 4 = .ok (.aload_n 0, 1) := by decide +kernel
theorem dX9_init_5 : decode cX9_init 5 = .ok (.bipush 16, 2) := by decide +kernel
theorem dX9_init_7 : decode cX9_init 7 = .ok (.newarray .int, 2) := by decide +kernel
theorem dX9_init_9 : decode cX9_init 9 = .ok (.putfield 7, 3) := by decide +kernel
theorem dX9_init_12 : decode cX9_init 12 = .ok (.aload_n 0, 1) := by decide +kernel
theorem dX9_init_13 : decode cX9_init 13 = .ok (.bipush 16, 2) := by decide +kernel
theorem dX9_init_15 : decode cX9_init 15 = .ok (.newarray .int, 2) := by decide +kernel
theorem dX9_init_17 : decode cX9_init 17 = .ok (.putfield 13, 3) := by decide +kernel
theorem dX9_init_20 : decode cX9_init 20 = .ok (.aload_n 0, 1) := by decide +kernel
theorem dX9_init_21 : decode cX9_init 21 = .ok (.bipush 16, 2) := by decide +kernel
theorem dX9_init_23 : decode cX9_init 23 = .ok (.newarray .int, 2) := by decide +kernel
theorem dX9_init_25 : decode cX9_init 25 = .ok (.putfield 16, 3) := by decide +kernel
theorem dX9_init_28 : decode cX9_init 28 = .ok (.aload_n 0, 1) := by decide +kernel
theorem dX9_init_29 : decode cX9_init 29 = .ok (.bipush 16, 2) := by decide +kernel
theorem dX9_init_31 : decode cX9_init 31 = .ok (.newarray .int, 2) := by decide +kernel
theorem dX9_init_33 : decode cX9_init 33 = .ok (.putfield 19, 3) := by decide +kernel
theorem dX9_init_36 : decode cX9_init 36 = .ok (.aload_n 0, 1) := by decide +kernel
theorem dX9_init_37 : decode cX9_init 37 = .ok (.bipush 16, 2) := by decide +kernel
theorem dX9_init_39 : decode cX9_init 39 = .ok (.newarray .int, 2) := by decide +kernel
theorem dX9_init_41 : decode cX9_init 41 = .ok (.putfield 22, 3) := by decide +kernel
theorem dX9_init_44 : decode cX9_init 44 = .ok (.aload_n 0, 1) := by decide +kernel
theorem dX9_init_45 : decode cX9_init 45 = .ok (.iconst 5, 1) := by decide +kernel
theorem dX9_init_46 : decode cX9_init 46 = .ok (.newarray .int, 2) := by decide +kernel
theorem dX9_init_48 : decode cX9_init 48 = .ok (.putfield 25, 3) := by decide +kernel
theorem dX9_init_51 : decode cX9_init 51 = .ok (.aload_n 0, 1) := by decide +kernel
theorem dX9_init_52 : decode cX9_init 52 = .ok (.bipush 24, 2) := by decide +kernel
theorem dX9_init_54 : decode cX9_init 54 = .ok (.newarray .int, 2) := by decide +kernel
theorem dX9_init_56 : decode cX9_init 56 = .ok (.putfield 28, 3) := by decide +kernel
theorem dX9_init_59 : decode cX9_init 59 = .ok (.aload_n 0, 1) := by decide +kernel
theorem dX9_init_60 : decode cX9_init 60 = .ok (.bipush 100, 2) := by decide +kernel
theorem dX9_init_62 : decode cX9_init 62 = .ok (.newarray .int, 2) := by decide +kernel
theorem dX9_init_64 : decode cX9_init 64 = .ok (.putfield 31, 3) := by decide +kernel
theorem dX9_init_67 : decode cX9_init 67 = .ok (.aload_n 0, 1) := by decide +kernel
theorem dX9_init_68 : decode cX9_init 68 = .ok (.bipush 48, 2) := by decide +kernel
theorem dX9_init_70 : decode cX9_init 70 = .ok (.newarray .int, 2) := by decide +kernel
theorem dX9_init_72 : decode cX9_init 72 = .ok (.putfield 34, 3) := by decide +kernel
theorem dX9_init_75 : decode cX9_init 75 = .ok (.aload_n 0, 1) := by decide +kernel
theorem dX9_init_76 : decode cX9_init 76 = .ok (.bipush 32, 2) := by decide +kernel
theorem dX9_init_78 : decode cX9_init 78 = .ok (.newarray .int, 2) := by decide +kernel
theorem dX9_init_80 : decode cX9_init 80 = .ok (.putfield 37, 3) := by decide +kernel
theorem dX9_init_83 : decode cX9_init 83 = .ok (.aload_n 0, 1) := by decide +kernel
theorem dX9_init_84 : decode cX9_init 84 = .ok (.bipush 64, 2) := by decide +kernel
theorem dX9_init_86 : decode cX9_init 86 = .ok (.newarray .int, 2) := by decide +kernel
theorem dX9_init_88 : decode cX9_init 88 = .ok (.putfield 40, 3) := by decide +kernel
theorem dX9_init_91 : decode cX9_init 91 = .ok (.aload_n 0, 1) := by decide +kernel
theorem dX9_init_92 : decode cX9_init 92 = .ok (.bipush 24, 2) := by decide +kernel
theorem dX9_init_94 : decode cX9_init 94 = .ok (.newarray .int, 2) := by decide +kernel
theorem dX9_init_96 : decode cX9_init 96 = .ok (.putfield 43, 3) := by decide +kernel
theorem dX9_init_99 : decode cX9_init 99 = .ok (.aload_n 0, 1) := by decide +kernel
theorem dX9_init_100 : decode cX9_init 100 = .ok (.bipush 24, 2) := by decide +kernel
theorem dX9_init_102 : decode cX9_init 102 = .ok (.newarray .int, 2) := by decide +kernel
theorem dX9_init_104 : decode cX9_init 104 = .ok (.putfield 46, 3) := by decide +kernel
theorem dX9_init_107 : decode cX9_init 107 = .ok (.aload_n 0, 1) := by decide +kernel
theorem dX9_init_108 : decode cX9_init 108 = .ok (.sipush 200, 3) := by decide +kernel
theorem dX9_init_111 : decode cX9_init 111 = .ok (.newarray .int, 2) := by decide +kernel
theorem dX9_init_113 : decode cX9_init 113 = .ok (.putfield 49, 3) := by decide +kernel
theorem dX9_init_116 : decode cX9_init 116 = .ok (.aload_n 0, 1) := by decide +kernel
theorem dX9_init_117 : decode cX9_init 117 = .ok (.iconst 4, 1) := by decide +kernel
theorem dX9_init_118 : decode cX9_init 118 = .ok (.newarray .int, 2) := by decide +kernel
theorem dX9_init_120 : decode cX9_init 120 = .ok (.putfield 52, 3) := by decide +kernel
theorem dX9_init_123 : decode cX9_init 123 = .ok (.aload_n 0, 1) := by decide +kernel
theorem dX9_init_124 : decode cX9_init 124 = .ok (.iconst 4, 1) := by decide +kernel
theorem dX9_init_125 : decode cX9_init 125 = .ok (.newarray .int, 2) := by decide +kernel
theorem dX9_init_127 : decode cX9_init 127 = .ok (.putfield 55, 3) := by decide +kernel
theorem dX9_init_130 : decode cX9_init 130 = .ok (.aload_n 0, 1) := by decide +kernel
theorem dX9_init_131 : decode cX9_init 131 = .ok (.bipush 64, 2) := by decide +kernel
theorem dX9_init_133 : decode cX9_init 133 = .ok (.newarray .int, 2) := by decide +kernel
theorem dX9_init_135 : decode cX9_init 135 = .ok (.putfield 58, 3) := by decide +kernel
theorem dX9_init_138 : decode cX9_init 138 = .ok (.aload_n 0, 1) := by decide +kernel
theorem dX9_init_139 : decode cX9_init 139 = .ok (.bipush 16, 2) := by decide +kernel
theorem dX9_init_141 : decode cX9_init 141 = .ok (.newarray .int, 2) := by decide +kernel
theorem dX9_init_143 : decode cX9_init 143 = .ok (.putfield 61, 3) := by decide +kernel
theorem dX9_init_146 : decode cX9_init 146 = .ok (.iconst 0, 1) := by decide +kernel
theorem dX9_init_147 : decode cX9_init 147 = .ok (.istore_n 1, 1) := by decide +kernel
theorem dX9_init_148 : decode cX9_init 148 = .ok (.iload_n 1, 1) := by decide +kernel
theorem dX9_init_149 : decode cX9_init 149 = .ok (.iconst 4, 1) := by decide +kernel
theorem dX9_init_150 : decode cX9_init 150 = .ok (.if_icmp .ge 16, 3) := by decide +kernel
theorem dX9_init_153 : decode cX9_init 153 = .ok (.aload_n 0, 1) := by decide +kernel
theorem dX9_init_154 : decode cX9_init 154 = .ok (.getfield 52, 3) := by decide +kernel
theorem dX9_init_157 : decode cX9_init 157 = .ok (.iload_n 1, 1) := by decide +kernel
theorem dX9_init_158 : decode cX9_init 158 = .ok (.iconst (-1), 1) := by decide +kernel
theorem dX9_init_159 : decode cX9_init 159 = .ok (.iastore, 1) := by decide +kernel
theorem dX9_init_160 : decode cX9_init 160 = .ok (.iinc 1 1, 3) := by decide +kernel
theorem dX9_init_163 : decode cX9_init 163 = .ok (.goto (-15), 3) := by decide +kernel
theorem dX9_init_166 : decode cX9_init 166 = .ok (.iconst 0, 1) := by decide +kernel
theorem dX9_init_167 : decode cX9_init 167 = .ok (.istore_n 1, 1) := by decide +kernel
theorem dX9_init_168 : decode cX9_init 168 = .ok (.iload_n 1, 1) := by decide +kernel
theorem dX9_init_169 : decode cX9_init 169 = .ok (.bipush 16, 2) := by decide +kernel
theorem dX9_init_171 : decode cX9_init 171 = .ok (.if_icmp .ge 23, 3) := by decide +kernel
theorem dX9_init_174 : decode cX9_init 174 = .ok (.aload_n 0, 1) := by decide +kernel
theorem dX9_init_175 : decode cX9_init 175 = .ok (.getfield 16, 3) := by decide +kernel
theorem dX9_init_178 : decode cX9_init 178 = .ok (.iload_n 1, 1) := by decide +kernel
theorem dX9_init_179 : decode cX9_init 179 = .ok (.iconst (-1), 1) := by decide +kernel
theorem dX9_init_180 : decode cX9_init 180 = .ok (.iastore, 1) := by decide +kernel
theorem dX9_init_181 : decode cX9_init 181 = .ok (.aload_n 0, 1) := by decide +kernel
theorem dX9_init_182 : decode cX9_init 182 = .ok (.getfield 19, 3) := by decide +kernel
theorem dX9_init_185 : decode cX9_init 185 = .ok (.iload_n 1, 1) := by decide +kernel
theorem dX9_init_186 : decode cX9_init 186 = .ok (.iconst (-1), 1) := by decide +kernel
theorem dX9_init_187 : decode cX9_init 187 = .ok (.iastore, 1) := by decide +kernel
theorem dX9_init_188 : decode cX9_init 188 = .ok (.iinc 1 1, 3) := by decide +kernel
theorem dX9_init_191 : decode cX9_init 191 = .ok (.goto (-23), 3) := by decide +kernel
theorem dX9_init_194 : decode cX9_init 194 = .ok (.aload_n 0, 1) := by decide +kernel
theorem dX9_init_195 : decode cX9_init 195 = .ok (.iconst 1, 1) := by decide +kernel
theorem dX9_init_196 : decode cX9_init 196 = .ok (.putfield 64, 3) := by decide +kernel
theorem dX9_init_199 : decode cX9_init 199 = .ok (.aload_n 0, 1) := by decide +kernel
theorem dX9_init_200 : decode cX9_init 200 = .ok (.getfield 25, 3) := by decide +kernel
theorem dX9_init_203 : decode cX9_init 203 = .ok (.iconst 0, 1) := by decide +kernel
theorem dX9_init_204 : decode cX9_init 204 = .ok (.iconst 4, 1) := by decide +kernel
theorem dX9_init_205 : decode cX9_init 205 = .ok (.iastore, 1) := by decide +kernel
theorem dX9_init_206 : decode cX9_init 206 = .ok (.aload_n 0, 1) := by decide +kernel
theorem dX9_init_207 : decode cX9_init 207 = .ok (.getfield 25, 3) := by decide +kernel
theorem dX9_init_210 : decode cX9_init 210 = .ok (.iconst 1, 1) := by decide +kernel
theorem dX9_init_211 : decode cX9_init 211 = .ok (.iconst 3, 1) := by decide +kernel
theorem dX9_init_212 : decode cX9_init 212 = .ok (.iastore, 1) := by decide +kernel
theorem dX9_init_213 : decode cX9_init 213 = .ok (.aload_n 0, 1) := by decide +kernel
theorem dX9_init_214 : decode cX9_init 214 = .ok (.getfield 25, 3) := by decide +kernel
theorem dX9_init_217 : decode cX9_init 217 = .ok (.iconst 2, 1) := by decide +kernel
theorem dX9_init_218 : decode cX9_init 218 = .ok (.iconst 3, 1) := by decide +kernel
theorem dX9_init_219 : decode cX9_init 219 = .ok (.iastore, 1) := by decide +kernel
theorem dX9_init_220 : decode cX9_init 220 = .ok (.aload_n 0, 1) := by decide +kernel
theorem dX9_init_221 : decode cX9_init 221 = .ok (.getfield 25, 3) := by decide +kernel
theorem dX9_init_224 : decode cX9_init 224 = .ok (.iconst 3, 1) := by decide +kernel
theorem dX9_init_225 : decode cX9_init 225 = .ok (.iconst 2, 1) := by decide +kernel
theorem dX9_init_226 : decode cX9_init 226 = .ok (.iastore, 1) := by decide +kernel
theorem dX9_init_227 : decode cX9_init 227 = .ok (.aload_n 0, 1) := by decide +kernel
theorem dX9_init_228 : decode cX9_init 228 = .ok (.getfield 25, 3) := by decide +kernel
theorem dX9_init_231 : decode cX9_init 231 = .ok (.iconst 4, 1) := by decide +kernel
theorem dX9_init_232 : decode cX9_init 232 = .ok (.iconst 2, 1) := by decide +kernel
theorem dX9_init_233 : decode cX9_init 233 = .ok (.iastore, 1) := by decide +kernel
theorem dX9_init_234 : decode cX9_init 234 = .ok (.return_, 1) := by decide +kernel
theorem dX9_isBeat_0 : decode cX9_isBeat 0 = .ok (.iload_n 0, 1) := by decide +kernel
theorem dX9_isBeat_1 : decode cX9_isBeat 1 = .ok (.i2l, 1) := by decide +kernel
theorem dX9_isBeat_2 : decode cX9_isBeat 2 = .ok (.lconst 0, 1) := by decide +kernel
theorem dX9_isBeat_3 : decode cX9_isBeat 3 = .ok (.ldc2_w 68, 3) := by decide +kernel
theorem dX9_isBeat_6 : decode cX9_isBeat 6 = .ok (.invokestatic 70, 3) := by decide +kernel
theorem dX9_isBeat_9 : decode cX9_isBeat 9 = .ok (.ireturn, 1) := by decide +kernel
theorem dX9_isPlace_0 : decode cX9_isPlace 0 = .ok (.iload_n 0, 1) := by decide +kernel
theorem dX9_isPlace_1 : decode cX9_isPlace 1 = .ok (.i2l, 1) := by decide +kernel
theorem dX9_isPlace_2 : decode cX9_isPlace 2 = .ok (.lconst 0, 1) := by decide +kernel
theorem dX9_isPlace_3 : decode cX9_isPlace 3 = .ok (.ldc2_w 74, 3) := by decide +kernel
theorem dX9_isPlace_6 : decode cX9_isPlace 6 = .ok (.invokestatic 70, 3) := by decide +kernel
theorem dX9_isPlace_9 : decode cX9_isPlace 9 = .ok (.ireturn, 1) := by decide +kernel
theorem dX9_isOne_0 : decode cX9_isOne 0 = .ok (.iload_n 1, 1) := by decide +kernel
theorem dX9_isOne_1 : decode cX9_isOne 1 = .ok (.i2l, 1) := by decide +kernel
theorem dX9_isOne_2 : decode cX9_isOne 2 = .ok (.lconst 0, 1) := by decide +kernel
theorem dX9_isOne_3 : decode cX9_isOne 3 = .ok (.aload_n 0, 1) := by decide +kernel
theorem dX9_isOne_4 : decode cX9_isOne 4 = .ok (.getfield 76, 3) := by decide +kernel
theorem dX9_isOne_7 : decode cX9_isOne 7 = .ok (.iconst 1, 1) := by decide +kernel
theorem dX9_isOne_8 : decode cX9_isOne 8 = .ok (.isub, 1) := by decide +kernel
theorem dX9_isOne_9 : decode cX9_isOne 9 = .ok (.i2l, 1) := by decide +kernel
theorem dX9_isOne_10 : decode cX9_isOne 10 = .ok (.invokestatic 70, 3) := by decide +kernel
theorem dX9_isOne_13 : decode cX9_isOne 13 = .ok (.ireturn, 1) := by decide +kernel
theorem dX9_act_0 : decode cX9_act 0 = .ok (.iload_n 1, 1) := by decide +kernel
theorem dX9_act_1 : decode cX9_act 1 = .ok (.invokestatic 79, 3) := by decide +kernel
theorem dX9_act_4 : decode cX9_act 4 = .ok (.ifCond .eq 33, 3) := by decide +kernel
theorem dX9_act_7 : decode cX9_act 7 = .ok (.iload_n 2, 1) := by decide +kernel
theorem dX9_act_8 : decode cX9_act 8 = .ok (.i2l, 1) := by decide +kernel
theorem dX9_act_9 : decode cX9_act 9 = .ok (.lconst 0, 1) := by decide +kernel
theorem dX9_act_10 : decode cX9_act 10 = .ok (.lconst 1, 1) := by decide +kernel
theorem dX9_act_11 : decode cX9_act 11 = .ok (.invokestatic 70, 3) := by decide +kernel
theorem dX9_act_14 : decode cX9_act 14 = .ok (.ifCond .eq 23, 3) := by decide +kernel
theorem dX9_act_17 : decode cX9_act 17 = .ok (.iload_n 3, 1) := by decide +kernel
theorem dX9_act_18 : decode cX9_act 18 = .ok (.invokestatic 83, 3) := by decide +kernel
theorem dX9_act_21 : decode cX9_act 21 = .ok (.ifCond .eq 16, 3) := by decide +kernel
theorem dX9_act_24 : decode cX9_act 24 = .ok (.iload 4, 2) := by decide +kernel
theorem dX9_act_26 : decode cX9_act 26 = .ok (.i2l, 1) := by decide +kernel
theorem dX9_act_27 : decode cX9_act 27 = .ok (.lconst 0, 1) := by decide +kernel
theorem dX9_act_28 : decode cX9_act 28 = .ok (.ldc2_w 86, 3) := by decide +kernel
theorem dX9_act_31 : decode cX9_act 31 = .ok (.invokestatic 70, 3) := by decide +kernel
theorem dX9_act_34 : decode cX9_act 34 = .ok (.ifCond .ne 5, 3) := by decide +kernel
theorem dX9_act_37 : decode cX9_act 37 = .ok (.iconst (-1), 1) := by decide +kernel
theorem dX9_act_38 : decode cX9_act 38 = .ok (.ireturn, 1) := by decide +kernel
theorem dX9_act_39 : decode cX9_act 39 = .ok (.iload 4, 2) := by decide +kernel
theorem dX9_act_41 : decode cX9_act 41 = .ok (.ifCond .ne 7, 3) := by decide +kernel
theorem dX9_act_44 : decode cX9_act 44 = .ok (.iconst 0, 1) := by decide +kernel
theorem dX9_act_45 : decode cX9_act 45 = .ok (.goto 10, 3) := by decide +kernel
theorem dX9_act_48 : decode cX9_act 48 = .ok (.bipush 10, 2) := by decide +kernel
theorem dX9_act_50 : decode cX9_act 50 = .ok (.iload_n 3, 1) := by decide +kernel
theorem dX9_act_51 : decode cX9_act 51 = .ok (.imul, 1) := by decide +kernel
theorem dX9_act_52 : decode cX9_act 52 = .ok (.iload 4, 2) := by decide +kernel
theorem dX9_act_54 : decode cX9_act 54 = .ok (.iadd, 1) := by decide +kernel
theorem dX9_act_55 : decode cX9_act 55 = .ok (.istore 5, 2) := by decide +kernel
theorem dX9_act_57 : decode cX9_act 57 = .ok (.iload_n 2, 1) := by decide +kernel
theorem dX9_act_58 : decode cX9_act 58 = .ok (.ifCond .ne 12, 3) := by decide +kernel
theorem dX9_act_61 : decode cX9_act 61 = .ok (.aload_n 0, 1) := by decide +kernel
theorem dX9_act_62 : decode cX9_act 62 = .ok (.getfield 7, 3) := by decide +kernel
theorem dX9_act_65 : decode cX9_act 65 = .ok (.iload_n 1, 1) := by decide +kernel
theorem dX9_act_66 : decode cX9_act 66 = .ok (.iaload, 1) := by decide +kernel
theorem dX9_act_67 : decode cX9_act 67 = .ok (.goto 9, 3) := by decide +kernel
theorem dX9_act_70 : decode cX9_act 70 = .ok (.aload_n 0, 1) := by decide +kernel
theorem dX9_act_71 : decode cX9_act 71 = .ok (.getfield 13, 3) := by decide +kernel
theorem dX9_act_74 : decode cX9_act 74 = .ok (.iload_n 1, 1) := by decide +kernel
theorem dX9_act_75 : decode cX9_act 75 = .ok (.iaload, 1) := by decide +kernel
theorem dX9_act_76 : decode cX9_act 76 = .ok (.istore 6, 2) := by decide +kernel
theorem dX9_act_78 : decode cX9_act 78 = .ok (.iload_n 2, 1) := by decide +kernel
theorem dX9_act_79 : decode cX9_act 79 = .ok (.ifCond .ne 14, 3) := by decide +kernel
theorem dX9_act_82 : decode cX9_act 82 = .ok (.aload_n 0, 1) := by decide +kernel
theorem dX9_act_83 : decode cX9_act 83 = .ok (.getfield 7, 3) := by decide +kernel
theorem dX9_act_86 : decode cX9_act 86 = .ok (.iload_n 1, 1) := by decide +kernel
theorem dX9_act_87 : decode cX9_act 87 = .ok (.iload 5, 2) := by decide +kernel
theorem dX9_act_89 : decode cX9_act 89 = .ok (.iastore, 1) := by decide +kernel
theorem dX9_act_90 : decode cX9_act 90 = .ok (.goto 11, 3) := by decide +kernel
theorem dX9_act_93 : decode cX9_act 93 = .ok (.aload_n 0, 1) := by decide +kernel
theorem dX9_act_94 : decode cX9_act 94 = .ok (.getfield 13, 3) := by decide +kernel
theorem dX9_act_97 : decode cX9_act 97 = .ok (.iload_n 1, 1) := by decide +kernel
theorem dX9_act_98 : decode cX9_act 98 = .ok (.iload 5, 2) := by decide +kernel
theorem dX9_act_100 : decode cX9_act 100 = .ok (.iastore, 1) := by decide +kernel
theorem dX9_act_101 : decode cX9_act 101 = .ok (.iload 6, 2) := by decide +kernel
theorem dX9_act_103 : decode cX9_act 103 = .ok (.ireturn, 1) := by decide +kernel
theorem dX9_cue_0 : decode cX9_cue 0 = .ok (.iload_n 1, 1) := by decide +kernel
theorem dX9_cue_1 : decode cX9_cue 1 = .ok (.invokestatic 79, 3) := by decide +kernel
theorem dX9_cue_4 : decode cX9_cue 4 = .ok (.ifCond .eq 47, 3) := by decide +kernel
theorem dX9_cue_7 : decode cX9_cue 7 = .ok (.iload_n 2, 1) := by decide +kernel
theorem dX9_cue_8 : decode cX9_cue 8 = .ok (.i2l, 1) := by decide +kernel
theorem dX9_cue_9 : decode cX9_cue 9 = .ok (.lconst 0, 1) := by decide +kernel
theorem dX9_cue_10 : decode cX9_cue 10 = .ok (.ldc2_w 88, 3) := by decide +kernel
theorem dX9_cue_13 : decode cX9_cue 13 = .ok (.invokestatic 70, 3) := by decide +kernel
theorem dX9_cue_16 : decode cX9_cue 16 = .ok (.ifCond .eq 35, 3) := by decide +kernel
theorem dX9_cue_19 : decode cX9_cue 19 = .ok (.iload_n 3, 1) := by decide +kernel
theorem dX9_cue_20 : decode cX9_cue 20 = .ok (.i2l, 1) := by decide +kernel
theorem dX9_cue_21 : decode cX9_cue 21 = .ok (.iload_n 2, 1) := by decide +kernel
theorem dX9_cue_22 : decode cX9_cue 22 = .ok (.iconst 2, 1) := by decide +kernel
theorem dX9_cue_23 : decode cX9_cue 23 = .ok (.if_icmp .ne 7, 3) := by decide +kernel
theorem dX9_cue_26 : decode cX9_cue 26 = .ok (.lconst 0, 1) := by decide +kernel
theorem dX9_cue_27 : decode cX9_cue 27 = .ok (.goto 6, 3) := by decide +kernel
theorem dX9_cue_30 : decode cX9_cue 30 = .ok (.ldc2_w 90, 3) := by decide +kernel
theorem dX9_cue_33 : decode cX9_cue 33 = .ok (.iload_n 2, 1) := by decide +kernel
theorem dX9_cue_34 : decode cX9_cue 34 = .ok (.iconst 2, 1) := by decide +kernel
theorem dX9_cue_35 : decode cX9_cue 35 = .ok (.if_icmp .ne 7, 3) := by decide +kernel
theorem dX9_cue_38 : decode cX9_cue 38 = .ok (.lconst 1, 1) := by decide +kernel
theorem dX9_cue_39 : decode cX9_cue 39 = .ok (.goto 6, 3) := by decide +kernel
theorem dX9_cue_42 : decode cX9_cue 42 = .ok (.ldc2_w 74, 3) := by decide +kernel
theorem dX9_cue_45 : decode cX9_cue 45 = .ok (.invokestatic 70, 3) := by decide +kernel
theorem dX9_cue_48 : decode cX9_cue 48 = .ok (.ifCond .ne 5, 3) := by decide +kernel
theorem dX9_cue_51 : decode cX9_cue 51 = .ok (.iconst (-1), 1) := by decide +kernel
theorem dX9_cue_52 : decode cX9_cue 52 = .ok (.ireturn, 1) := by decide +kernel
theorem dX9_cue_53 : decode cX9_cue 53 = .ok (.iload_n 2, 1) := by decide +kernel
theorem dX9_cue_54 : decode cX9_cue 54 = .ok (.ifCond .ne 12, 3) := by decide +kernel
theorem dX9_cue_57 : decode cX9_cue 57 = .ok (.aload_n 0, 1) := by decide +kernel
theorem dX9_cue_58 : decode cX9_cue 58 = .ok (.getfield 16, 3) := by decide +kernel
theorem dX9_cue_61 : decode cX9_cue 61 = .ok (.iload_n 1, 1) := by decide +kernel
theorem dX9_cue_62 : decode cX9_cue 62 = .ok (.iaload, 1) := by decide +kernel
theorem dX9_cue_63 : decode cX9_cue 63 = .ok (.goto 23, 3) := by decide +kernel
theorem dX9_cue_66 : decode cX9_cue 66 = .ok (.iload_n 2, 1) := by decide +kernel
theorem dX9_cue_67 : decode cX9_cue 67 = .ok (.iconst 1, 1) := by decide +kernel
theorem dX9_cue_68 : decode cX9_cue 68 = .ok (.if_icmp .ne 12, 3) := by decide +kernel
theorem dX9_cue_71 : decode cX9_cue 71 = .ok (.aload_n 0, 1) := by decide +kernel
theorem dX9_cue_72 : decode cX9_cue 72 = .ok (.getfield 19, 3) := by decide +kernel
theorem dX9_cue_75 : decode cX9_cue 75 = .ok (.iload_n 1, 1) := by decide +kernel
theorem dX9_cue_76 : decode cX9_cue 76 = .ok (.iaload, 1) := by decide +kernel
theorem dX9_cue_77 : decode cX9_cue 77 = .ok (.goto 9, 3) := by decide +kernel
theorem dX9_cue_80 : decode cX9_cue 80 = .ok (.aload_n 0, 1) := by decide +kernel
theorem dX9_cue_81 : decode cX9_cue 81 = .ok (.getfield 22, 3) := by decide +kernel
theorem dX9_cue_84 : decode cX9_cue 84 = .ok (.iload_n 1, 1) := by decide +kernel
theorem dX9_cue_85 : decode cX9_cue 85 = .ok (.iaload, 1) := by decide +kernel
theorem dX9_cue_86 : decode cX9_cue 86 = .ok (.istore 4, 2) := by decide +kernel
theorem dX9_cue_88 : decode cX9_cue 88 = .ok (.iload_n 2, 1) := by decide +kernel
theorem dX9_cue_89 : decode cX9_cue 89 = .ok (.ifCond .ne 13, 3) := by decide +kernel
theorem dX9_cue_92 : decode cX9_cue 92 = .ok (.aload_n 0, 1) := by decide +kernel
theorem dX9_cue_93 : decode cX9_cue 93 = .ok (.getfield 16, 3) := by decide +kernel
theorem dX9_cue_96 : decode cX9_cue 96 = .ok (.iload_n 1, 1) := by decide +kernel
theorem dX9_cue_97 : decode cX9_cue 97 = .ok (.iload_n 3, 1) := by decide +kernel
theorem dX9_cue_98 : decode cX9_cue 98 = .ok (.iastore, 1) := by decide +kernel
theorem dX9_cue_99 : decode cX9_cue 99 = .ok (.goto 25, 3) := by decide +kernel
theorem dX9_cue_102 : decode cX9_cue 102 = .ok (.iload_n 2, 1) := by decide +kernel
theorem dX9_cue_103 : decode cX9_cue 103 = .ok (.iconst 1, 1) := by decide +kernel
theorem dX9_cue_104 : decode cX9_cue 104 = .ok (.if_icmp .ne 13, 3) := by decide +kernel
theorem dX9_cue_107 : decode cX9_cue 107 = .ok (.aload_n 0, 1) := by decide +kernel
theorem dX9_cue_108 : decode cX9_cue 108 = .ok (.getfield 19, 3) := by decide +kernel
theorem dX9_cue_111 : decode cX9_cue 111 = .ok (.iload_n 1, 1) := by decide +kernel
theorem dX9_cue_112 : decode cX9_cue 112 = .ok (.iload_n 3, 1) := by decide +kernel
theorem dX9_cue_113 : decode cX9_cue 113 = .ok (.iastore, 1) := by decide +kernel
theorem dX9_cue_114 : decode cX9_cue 114 = .ok (.goto 10, 3) := by decide +kernel
theorem dX9_cue_117 : decode cX9_cue 117 = .ok (.aload_n 0, 1) := by decide +kernel
theorem dX9_cue_118 : decode cX9_cue 118 = .ok (.getfield 22, 3) := by decide +kernel
theorem dX9_cue_121 : decode cX9_cue 121 = .ok (.iload_n 1, 1) := by decide +kernel
theorem dX9_cue_122 : decode cX9_cue 122 = .ok (.iload_n 3, 1) := by decide +kernel
theorem dX9_cue_123 : decode cX9_cue 123 = .ok (.iastore, 1) := by decide +kernel
theorem dX9_cue_124 : decode cX9_cue 124 = .ok (.iconst 1, 1) := by decide +kernel
theorem dX9_cue_125 : decode cX9_cue 125 = .ok (.iload 4, 2) := by decide +kernel
theorem dX9_cue_127 : decode cX9_cue 127 = .ok (.iadd, 1) := by decide +kernel
theorem dX9_cue_128 : decode cX9_cue 128 = .ok (.ireturn, 1) := by decide +kernel
theorem dX9_stand_0 : decode cX9_stand 0 = .ok (.iload_n 1, 1) := by decide +kernel
theorem dX9_stand_1 : decode cX9_stand 1 = .ok (.i2l, 1) := by decide +kernel
theorem dX9_stand_2 : decode cX9_stand 2 = .ok (.lconst 0, 1) := by decide +kernel
theorem dX9_stand_3 : decode cX9_stand 3 = .ok (.ldc2_w 74, 3) := by decide +kernel
theorem dX9_stand_6 : decode cX9_stand 6 = .ok (.invokestatic 70, 3) := by decide +kernel
theorem dX9_stand_9 : decode cX9_stand 9 = .ok (.ifCond .ne 5, 3) := by decide +kernel
theorem dX9_stand_12 : decode cX9_stand 12 = .ok (.iconst (-1), 1) := by decide +kernel
theorem dX9_stand_13 : decode cX9_stand 13 = .ok (.ireturn, 1) := by decide +kernel
theorem dX9_stand_14 : decode cX9_stand 14 = .ok (.aload_n 0, 1) := by decide +kernel
theorem dX9_stand_15 : decode cX9_stand 15 = .ok (.getfield 64, 3) := by decide +kernel
theorem dX9_stand_18 : decode cX9_stand 18 = .ok (.istore_n 2, 1) := by decide +kernel
theorem dX9_stand_19 : decode cX9_stand 19 = .ok (.aload_n 0, 1) := by decide +kernel
theorem dX9_stand_20 : decode cX9_stand 20 = .ok (.iload_n 1, 1) := by decide +kernel
theorem dX9_stand_21 : decode cX9_stand 21 = .ok (.putfield 64, 3) := by decide +kernel
theorem dX9_stand_24 : decode cX9_stand 24 = .ok (.iload_n 2, 1) := by decide +kernel
theorem dX9_stand_25 : decode cX9_stand 25 = .ok (.ireturn, 1) := by decide +kernel
theorem dX9_habit_0 : decode cX9_habit 0 = .ok (.iload_n 1, 1) := by decide +kernel
theorem dX9_habit_1 : decode cX9_habit 1 = .ok (.i2l, 1) := by decide +kernel
theorem dX9_habit_2 : decode cX9_habit 2 = .ok (.lconst 0, 1) := by decide +kernel
theorem dX9_habit_3 : decode cX9_habit 3 = .ok (.ldc2_w 92, 3) := by decide +kernel
theorem dX9_habit_6 : decode cX9_habit 6 = .ok (.invokestatic 70, 3) := by decide +kernel
theorem dX9_habit_9 : decode cX9_habit 9 = .ok (.ifCond .eq 26, 3) := by decide +kernel
theorem dX9_habit_12 : decode cX9_habit 12 = .ok (.iload_n 2, 1) := by decide +kernel
theorem dX9_habit_13 : decode cX9_habit 13 = .ok (.i2l, 1) := by decide +kernel
theorem dX9_habit_14 : decode cX9_habit 14 = .ok (.lconst 0, 1) := by decide +kernel
theorem dX9_habit_15 : decode cX9_habit 15 = .ok (.iload_n 1, 1) := by decide +kernel
theorem dX9_habit_16 : decode cX9_habit 16 = .ok (.iconst 4, 1) := by decide +kernel
theorem dX9_habit_17 : decode cX9_habit 17 = .ok (.if_icmp .ne 9, 3) := by decide +kernel
theorem dX9_habit_20 : decode cX9_habit 20 = .ok (.ldc2_w 94, 3) := by decide +kernel
theorem dX9_habit_23 : decode cX9_habit 23 = .ok (.goto 6, 3) := by decide +kernel
theorem dX9_habit_26 : decode cX9_habit 26 = .ok (.ldc2_w 86, 3) := by decide +kernel
theorem dX9_habit_29 : decode cX9_habit 29 = .ok (.invokestatic 70, 3) := by decide +kernel
theorem dX9_habit_32 : decode cX9_habit 32 = .ok (.ifCond .ne 5, 3) := by decide +kernel
theorem dX9_habit_35 : decode cX9_habit 35 = .ok (.iconst (-1), 1) := by decide +kernel
theorem dX9_habit_36 : decode cX9_habit 36 = .ok (.ireturn, 1) := by decide +kernel
theorem dX9_habit_37 : decode cX9_habit 37 = .ok (.aload_n 0, 1) := by decide +kernel
theorem dX9_habit_38 : decode cX9_habit 38 = .ok (.getfield 25, 3) := by decide +kernel
theorem dX9_habit_41 : decode cX9_habit 41 = .ok (.iload_n 1, 1) := by decide +kernel
theorem dX9_habit_42 : decode cX9_habit 42 = .ok (.iaload, 1) := by decide +kernel
theorem dX9_habit_43 : decode cX9_habit 43 = .ok (.istore_n 3, 1) := by decide +kernel
theorem dX9_habit_44 : decode cX9_habit 44 = .ok (.aload_n 0, 1) := by decide +kernel
theorem dX9_habit_45 : decode cX9_habit 45 = .ok (.getfield 25, 3) := by decide +kernel
theorem dX9_habit_48 : decode cX9_habit 48 = .ok (.iload_n 1, 1) := by decide +kernel
theorem dX9_habit_49 : decode cX9_habit 49 = .ok (.iload_n 2, 1) := by decide +kernel
theorem dX9_habit_50 : decode cX9_habit 50 = .ok (.iastore, 1) := by decide +kernel
theorem dX9_habit_51 : decode cX9_habit 51 = .ok (.iload_n 3, 1) := by decide +kernel
theorem dX9_habit_52 : decode cX9_habit 52 = .ok (.ireturn, 1) := by decide +kernel
theorem dX9_isTaken_0 : decode cX9_isTaken 0 = .ok (.iconst 0, 1) := by decide +kernel
theorem dX9_isTaken_1 : decode cX9_isTaken 1 = .ok (.istore_n 2, 1) := by decide +kernel
theorem dX9_isTaken_2 : decode cX9_isTaken 2 = .ok (.iconst 0, 1) := by decide +kernel
theorem dX9_isTaken_3 : decode cX9_isTaken 3 = .ok (.istore_n 3, 1) := by decide +kernel
theorem dX9_isTaken_4 : decode cX9_isTaken 4 = .ok (.iload_n 3, 1) := by decide +kernel
theorem dX9_isTaken_5 : decode cX9_isTaken 5 = .ok (.aload_n 0, 1) := by decide +kernel
theorem dX9_isTaken_6 : decode cX9_isTaken 6 = .ok (.getfield 76, 3) := by decide +kernel
theorem dX9_isTaken_9 : decode cX9_isTaken 9 = .ok (.if_icmp .ge 31, 3) := by decide +kernel
theorem dX9_isTaken_12 : decode cX9_isTaken 12 = .ok (.iload_n 2, 1) := by decide +kernel
theorem dX9_isTaken_13 : decode cX9_isTaken 13 = .ok (.ifCond .ne 15, 3) := by decide +kernel
theorem dX9_isTaken_16 : decode cX9_isTaken 16 = .ok (.aload_n 0, 1) := by decide +kernel
theorem dX9_isTaken_17 : decode cX9_isTaken 17 = .ok (.getfield 28, 3) := by decide +kernel
theorem dX9_isTaken_20 : decode cX9_isTaken 20 = .ok (.iconst 3, 1) := by decide +kernel
theorem dX9_isTaken_21 : decode cX9_isTaken 21 = .ok (.iload_n 3, 1) := by decide +kernel
theorem dX9_isTaken_22 : decode cX9_isTaken 22 = .ok (.imul, 1) := by decide +kernel
theorem dX9_isTaken_23 : decode cX9_isTaken 23 = .ok (.iaload, 1) := by decide +kernel
theorem dX9_isTaken_24 : decode cX9_isTaken 24 = .ok (.iload_n 1, 1) := by decide +kernel
theorem dX9_isTaken_25 : decode cX9_isTaken 25 = .ok (.if_icmp .ne 7, 3) := by decide +kernel
theorem dX9_isTaken_28 : decode cX9_isTaken 28 = .ok (.iconst 1, 1) := by decide +kernel
theorem dX9_isTaken_29 : decode cX9_isTaken 29 = .ok (.goto 4, 3) := by decide +kernel
theorem dX9_isTaken_32 : decode cX9_isTaken 32 = .ok (.iconst 0, 1) := by decide +kernel
theorem dX9_isTaken_33 : decode cX9_isTaken 33 = .ok (.istore_n 2, 1) := by decide +kernel
theorem dX9_isTaken_34 : decode cX9_isTaken 34 = .ok (.iinc 3 1, 3) := by decide +kernel
theorem dX9_isTaken_37 : decode cX9_isTaken 37 = .ok (.goto (-33), 3) := by decide +kernel
theorem dX9_isTaken_40 : decode cX9_isTaken 40 = .ok (.iload_n 2, 1) := by decide +kernel
theorem dX9_isTaken_41 : decode cX9_isTaken 41 = .ok (.ireturn, 1) := by decide +kernel
theorem dX9_comes_0 : decode cX9_comes 0 = .ok (.aload_n 0, 1) := by decide +kernel
theorem dX9_comes_1 : decode cX9_comes 1 = .ok (.getfield 28, 3) := by decide +kernel
theorem dX9_comes_4 : decode cX9_comes 4 = .ok (.iconst 3, 1) := by decide +kernel
theorem dX9_comes_5 : decode cX9_comes 5 = .ok (.aload_n 0, 1) := by decide +kernel
theorem dX9_comes_6 : decode cX9_comes 6 = .ok (.getfield 76, 3) := by decide +kernel
theorem dX9_comes_9 : decode cX9_comes 9 = .ok (.imul, 1) := by decide +kernel
theorem dX9_comes_10 : decode cX9_comes 10 = .ok (.iload_n 1, 1) := by decide +kernel
theorem dX9_comes_11 : decode cX9_comes 11 = .ok (.iastore, 1) := by decide +kernel
theorem dX9_comes_12 : decode cX9_comes 12 = .ok (.aload_n 0, 1) := by decide +kernel
theorem dX9_comes_13 : decode cX9_comes 13 = .ok (.getfield 28, 3) := by decide +kernel
theorem dX9_comes_16 : decode cX9_comes 16 = .ok (.iconst 3, 1) := by decide +kernel
theorem dX9_comes_17 : decode cX9_comes 17 = .ok (.aload_n 0, 1) := by decide +kernel
theorem dX9_comes_18 : decode cX9_comes 18 = .ok (.getfield 76, 3) := by decide +kernel
theorem dX9_comes_21 : decode cX9_comes 21 = .ok (.imul, 1) := by decide +kernel
theorem dX9_comes_22 : decode cX9_comes 22 = .ok (.iconst 1, 1) := by decide +kernel
theorem dX9_comes_23 : decode cX9_comes 23 = .ok (.iadd, 1) := by decide +kernel
theorem dX9_comes_24 : decode cX9_comes 24 = .ok (.iload_n 2, 1) := by decide +kernel
theorem dX9_comes_25 : decode cX9_comes 25 = .ok (.iastore, 1) := by decide +kernel
theorem dX9_comes_26 : decode cX9_comes 26 = .ok (.aload_n 0, 1) := by decide +kernel
theorem dX9_comes_27 : decode cX9_comes 27 = .ok (.getfield 28, 3) := by decide +kernel
theorem dX9_comes_30 : decode cX9_comes 30 = .ok (.iconst 3, 1) := by decide +kernel
theorem dX9_comes_31 : decode cX9_comes 31 = .ok (.aload_n 0, 1) := by decide +kernel
theorem dX9_comes_32 : decode cX9_comes 32 = .ok (.getfield 76, 3) := by decide +kernel
theorem dX9_comes_35 : decode cX9_comes 35 = .ok (.imul, 1) := by decide +kernel
theorem dX9_comes_36 : decode cX9_comes 36 = .ok (.iconst 2, 1) := by decide +kernel
theorem dX9_comes_37 : decode cX9_comes 37 = .ok (.iadd, 1) := by decide +kernel
theorem dX9_comes_38 : decode cX9_comes 38 = .ok (.iconst 3, 1) := by decide +kernel
theorem dX9_comes_39 : decode cX9_comes 39 = .ok (.iastore, 1) := by decide +kernel
theorem dX9_comes_40 : decode cX9_comes 40 = .ok (.aload_n 0, 1) := by decide +kernel
theorem dX9_comes_41 : decode cX9_comes 41 = .ok (.dup, 1) := by decide +kernel
theorem dX9_comes_42 : decode cX9_comes 42 = .ok (.getfield 76, 3) := by decide +kernel
theorem dX9_comes_45 : decode cX9_comes 45 = .ok (.iconst 1, 1) := by decide +kernel
theorem dX9_comes_46 : decode cX9_comes 46 = .ok (.iadd, 1) := by decide +kernel
theorem dX9_comes_47 : decode cX9_comes 47 = .ok (.putfield 76, 3) := by decide +kernel
theorem dX9_comes_50 : decode cX9_comes 50 = .ok (.aload_n 0, 1) := by decide +kernel
theorem dX9_comes_51 : decode cX9_comes 51 = .ok (.getfield 76, 3) := by decide +kernel
theorem dX9_comes_54 : decode cX9_comes 54 = .ok (.iconst 1, 1) := by decide +kernel
theorem dX9_comes_55 : decode cX9_comes 55 = .ok (.isub, 1) := by decide +kernel
theorem dX9_comes_56 : decode cX9_comes 56 = .ok (.ireturn, 1) := by decide +kernel
theorem dX9_watcher_0 : decode cX9_watcher 0 = .ok (.iload_n 1, 1) := by decide +kernel
theorem dX9_watcher_1 : decode cX9_watcher 1 = .ok (.i2l, 1) := by decide +kernel
theorem dX9_watcher_2 : decode cX9_watcher 2 = .ok (.lconst 0, 1) := by decide +kernel
theorem dX9_watcher_3 : decode cX9_watcher 3 = .ok (.ldc2_w 96, 3) := by decide +kernel
theorem dX9_watcher_6 : decode cX9_watcher 6 = .ok (.invokestatic 70, 3) := by decide +kernel
theorem dX9_watcher_9 : decode cX9_watcher 9 = .ok (.ifCond .eq 15, 3) := by decide +kernel
theorem dX9_watcher_12 : decode cX9_watcher 12 = .ok (.iload_n 2, 1) := by decide +kernel
theorem dX9_watcher_13 : decode cX9_watcher 13 = .ok (.i2l, 1) := by decide +kernel
theorem dX9_watcher_14 : decode cX9_watcher 14 = .ok (.lconst 0, 1) := by decide +kernel
theorem dX9_watcher_15 : decode cX9_watcher 15 = .ok (.ldc2_w 74, 3) := by decide +kernel
theorem dX9_watcher_18 : decode cX9_watcher 18 = .ok (.invokestatic 70, 3) := by decide +kernel
theorem dX9_watcher_21 : decode cX9_watcher 21 = .ok (.ifCond .ne 5, 3) := by decide +kernel
theorem dX9_watcher_24 : decode cX9_watcher 24 = .ok (.iconst (-1), 1) := by decide +kernel
theorem dX9_watcher_25 : decode cX9_watcher 25 = .ok (.ireturn, 1) := by decide +kernel
theorem dX9_watcher_26 : decode cX9_watcher 26 = .ok (.aload_n 0, 1) := by decide +kernel
theorem dX9_watcher_27 : decode cX9_watcher 27 = .ok (.iload_n 1, 1) := by decide +kernel
theorem dX9_watcher_28 : decode cX9_watcher 28 = .ok (.invokevirtual 98, 3) := by decide +kernel
theorem dX9_watcher_31 : decode cX9_watcher 31 = .ok (.ifCond .eq 6, 3) := by decide +kernel
theorem dX9_watcher_34 : decode cX9_watcher 34 = .ok (.bipush (-2), 2) := by decide +kernel
theorem dX9_watcher_36 : decode cX9_watcher 36 = .ok (.ireturn, 1) := by decide +kernel
theorem dX9_watcher_37 : decode cX9_watcher 37 = .ok (.aload_n 0, 1) := by decide +kernel
theorem dX9_watcher_38 : decode cX9_watcher 38 = .ok (.getfield 76, 3) := by decide +kernel
theorem dX9_watcher_41 : decode cX9_watcher 41 = .ok (.bipush 8, 2) := by decide +kernel
theorem dX9_watcher_43 : decode cX9_watcher 43 = .ok (.if_icmp .ne 8, 3) := by decide +kernel
theorem dX9_watcher_46 : decode cX9_watcher 46 = .ok (.bipush (-3), 2) := by decide +kernel
theorem dX9_watcher_48 : decode cX9_watcher 48 = .ok (.goto 9, 3) := by decide +kernel
theorem dX9_watcher_51 : decode cX9_watcher 51 = .ok (.aload_n 0, 1) := by decide +kernel
theorem dX9_watcher_52 : decode cX9_watcher 52 = .ok (.iload_n 1, 1) := by decide +kernel
theorem dX9_watcher_53 : decode cX9_watcher 53 = .ok (.iload_n 2, 1) := by decide +kernel
theorem dX9_watcher_54 : decode cX9_watcher 54 = .ok (.invokevirtual 101, 3) := by decide +kernel
theorem dX9_watcher_57 : decode cX9_watcher 57 = .ok (.ireturn, 1) := by decide +kernel
theorem dX9_doubt_0 : decode cX9_doubt 0 = .ok (.aload_n 0, 1) := by decide +kernel
theorem dX9_doubt_1 : decode cX9_doubt 1 = .ok (.iload_n 1, 1) := by decide +kernel
theorem dX9_doubt_2 : decode cX9_doubt 2 = .ok (.invokevirtual 105, 3) := by decide +kernel
theorem dX9_doubt_5 : decode cX9_doubt 5 = .ok (.ifCond .eq 15, 3) := by decide +kernel
theorem dX9_doubt_8 : decode cX9_doubt 8 = .ok (.iload_n 2, 1) := by decide +kernel
theorem dX9_doubt_9 : decode cX9_doubt 9 = .ok (.i2l, 1) := by decide +kernel
theorem dX9_doubt_10 : decode cX9_doubt 10 = .ok (.lconst 0, 1) := by decide +kernel
theorem dX9_doubt_11 : decode cX9_doubt 11 = .ok (.ldc2_w 86, 3) := by decide +kernel
theorem dX9_doubt_14 : decode cX9_doubt 14 = .ok (.invokestatic 70, 3) := by decide +kernel
theorem dX9_doubt_17 : decode cX9_doubt 17 = .ok (.ifCond .ne 5, 3) := by decide +kernel
theorem dX9_doubt_20 : decode cX9_doubt 20 = .ok (.iconst (-1), 1) := by decide +kernel
theorem dX9_doubt_21 : decode cX9_doubt 21 = .ok (.ireturn, 1) := by decide +kernel
theorem dX9_doubt_22 : decode cX9_doubt 22 = .ok (.aload_n 0, 1) := by decide +kernel
theorem dX9_doubt_23 : decode cX9_doubt 23 = .ok (.getfield 28, 3) := by decide +kernel
theorem dX9_doubt_26 : decode cX9_doubt 26 = .ok (.iconst 3, 1) := by decide +kernel
theorem dX9_doubt_27 : decode cX9_doubt 27 = .ok (.iload_n 1, 1) := by decide +kernel
theorem dX9_doubt_28 : decode cX9_doubt 28 = .ok (.imul, 1) := by decide +kernel
theorem dX9_doubt_29 : decode cX9_doubt 29 = .ok (.iconst 1, 1) := by decide +kernel
theorem dX9_doubt_30 : decode cX9_doubt 30 = .ok (.iadd, 1) := by decide +kernel
theorem dX9_doubt_31 : decode cX9_doubt 31 = .ok (.iaload, 1) := by decide +kernel
theorem dX9_doubt_32 : decode cX9_doubt 32 = .ok (.iconst 1, 1) := by decide +kernel
theorem dX9_doubt_33 : decode cX9_doubt 33 = .ok (.if_icmp .eq 6, 3) := by decide +kernel
theorem dX9_doubt_36 : decode cX9_doubt 36 = .ok (.bipush (-12), 2) := by decide +kernel
theorem dX9_doubt_38 : decode cX9_doubt 38 = .ok (.ireturn, 1) := by decide +kernel
theorem dX9_doubt_39 : decode cX9_doubt 39 = .ok (.aload_n 0, 1) := by decide +kernel
theorem dX9_doubt_40 : decode cX9_doubt 40 = .ok (.getfield 28, 3) := by decide +kernel
theorem dX9_doubt_43 : decode cX9_doubt 43 = .ok (.iconst 3, 1) := by decide +kernel
theorem dX9_doubt_44 : decode cX9_doubt 44 = .ok (.iload_n 1, 1) := by decide +kernel
theorem dX9_doubt_45 : decode cX9_doubt 45 = .ok (.imul, 1) := by decide +kernel
theorem dX9_doubt_46 : decode cX9_doubt 46 = .ok (.iconst 2, 1) := by decide +kernel
theorem dX9_doubt_47 : decode cX9_doubt 47 = .ok (.iadd, 1) := by decide +kernel
theorem dX9_doubt_48 : decode cX9_doubt 48 = .ok (.iaload, 1) := by decide +kernel
theorem dX9_doubt_49 : decode cX9_doubt 49 = .ok (.istore_n 3, 1) := by decide +kernel
theorem dX9_doubt_50 : decode cX9_doubt 50 = .ok (.aload_n 0, 1) := by decide +kernel
theorem dX9_doubt_51 : decode cX9_doubt 51 = .ok (.getfield 28, 3) := by decide +kernel
theorem dX9_doubt_54 : decode cX9_doubt 54 = .ok (.iconst 3, 1) := by decide +kernel
theorem dX9_doubt_55 : decode cX9_doubt 55 = .ok (.iload_n 1, 1) := by decide +kernel
theorem dX9_doubt_56 : decode cX9_doubt 56 = .ok (.imul, 1) := by decide +kernel
theorem dX9_doubt_57 : decode cX9_doubt 57 = .ok (.iconst 2, 1) := by decide +kernel
theorem dX9_doubt_58 : decode cX9_doubt 58 = .ok (.iadd, 1) := by decide +kernel
theorem dX9_doubt_59 : decode cX9_doubt 59 = .ok (.iload_n 2, 1) := by decide +kernel
theorem dX9_doubt_60 : decode cX9_doubt 60 = .ok (.iastore, 1) := by decide +kernel
theorem dX9_doubt_61 : decode cX9_doubt 61 = .ok (.iload_n 3, 1) := by decide +kernel
theorem dX9_doubt_62 : decode cX9_doubt 62 = .ok (.ireturn, 1) := by decide +kernel
theorem dX9_told_0 : decode cX9_told 0 = .ok (.aload_n 0, 1) := by decide +kernel
theorem dX9_told_1 : decode cX9_told 1 = .ok (.iload_n 1, 1) := by decide +kernel
theorem dX9_told_2 : decode cX9_told 2 = .ok (.invokevirtual 105, 3) := by decide +kernel
theorem dX9_told_5 : decode cX9_told 5 = .ok (.ifCond .eq 15, 3) := by decide +kernel
theorem dX9_told_8 : decode cX9_told 8 = .ok (.iload_n 2, 1) := by decide +kernel
theorem dX9_told_9 : decode cX9_told 9 = .ok (.i2l, 1) := by decide +kernel
theorem dX9_told_10 : decode cX9_told 10 = .ok (.lconst 0, 1) := by decide +kernel
theorem dX9_told_11 : decode cX9_told 11 = .ok (.ldc2_w 88, 3) := by decide +kernel
theorem dX9_told_14 : decode cX9_told 14 = .ok (.invokestatic 70, 3) := by decide +kernel
theorem dX9_told_17 : decode cX9_told 17 = .ok (.ifCond .ne 5, 3) := by decide +kernel
theorem dX9_told_20 : decode cX9_told 20 = .ok (.iconst (-1), 1) := by decide +kernel
theorem dX9_told_21 : decode cX9_told 21 = .ok (.ireturn, 1) := by decide +kernel
theorem dX9_told_22 : decode cX9_told 22 = .ok (.iload_n 2, 1) := by decide +kernel
theorem dX9_told_23 : decode cX9_told 23 = .ok (.iconst 2, 1) := by decide +kernel
theorem dX9_told_24 : decode cX9_told 24 = .ok (.if_icmp .ge 16, 3) := by decide +kernel
theorem dX9_told_27 : decode cX9_told 27 = .ok (.aload_n 0, 1) := by decide +kernel
theorem dX9_told_28 : decode cX9_told 28 = .ok (.getfield 28, 3) := by decide +kernel
theorem dX9_told_31 : decode cX9_told 31 = .ok (.iconst 3, 1) := by decide +kernel
theorem dX9_told_32 : decode cX9_told 32 = .ok (.iload_n 1, 1) := by decide +kernel
theorem dX9_told_33 : decode cX9_told 33 = .ok (.imul, 1) := by decide +kernel
theorem dX9_told_34 : decode cX9_told 34 = .ok (.iload_n 2, 1) := by decide +kernel
theorem dX9_told_35 : decode cX9_told 35 = .ok (.iadd, 1) := by decide +kernel
theorem dX9_told_36 : decode cX9_told 36 = .ok (.iaload, 1) := by decide +kernel
theorem dX9_told_37 : decode cX9_told 37 = .ok (.goto 10, 3) := by decide +kernel
theorem dX9_told_40 : decode cX9_told 40 = .ok (.aload_n 0, 1) := by decide +kernel
theorem dX9_told_41 : decode cX9_told 41 = .ok (.iload_n 1, 1) := by decide +kernel
theorem dX9_told_42 : decode cX9_told 42 = .ok (.bipush 15, 2) := by decide +kernel
theorem dX9_told_44 : decode cX9_told 44 = .ok (.invokevirtual 108, 3) := by decide +kernel
theorem dX9_told_47 : decode cX9_told 47 = .ok (.ireturn, 1) := by decide +kernel
theorem dX9_leave_0 : decode cX9_leave 0 = .ok (.aload_n 0, 1) := by decide +kernel
theorem dX9_leave_1 : decode cX9_leave 1 = .ok (.iload_n 1, 1) := by decide +kernel
theorem dX9_leave_2 : decode cX9_leave 2 = .ok (.invokevirtual 105, 3) := by decide +kernel
theorem dX9_leave_5 : decode cX9_leave 5 = .ok (.ifCond .ne 5, 3) := by decide +kernel
theorem dX9_leave_8 : decode cX9_leave 8 = .ok (.iconst (-1), 1) := by decide +kernel
theorem dX9_leave_9 : decode cX9_leave 9 = .ok (.ireturn, 1) := by decide +kernel
theorem dX9_leave_10 : decode cX9_leave 10 = .ok (.aload_n 0, 1) := by decide +kernel
theorem dX9_leave_11 : decode cX9_leave 11 = .ok (.dup, 1) := by decide +kernel
theorem dX9_leave_12 : decode cX9_leave 12 = .ok (.getfield 76, 3) := by decide +kernel
theorem dX9_leave_15 : decode cX9_leave 15 = .ok (.iconst 1, 1) := by decide +kernel
theorem dX9_leave_16 : decode cX9_leave 16 = .ok (.isub, 1) := by decide +kernel
theorem dX9_leave_17 : decode cX9_leave 17 = .ok (.putfield 76, 3) := by decide +kernel
theorem dX9_leave_20 : decode cX9_leave 20 = .ok (.iconst 3, 1) := by decide +kernel
theorem dX9_leave_21 : decode cX9_leave 21 = .ok (.iload_n 1, 1) := by decide +kernel
theorem dX9_leave_22 : decode cX9_leave 22 = .ok (.imul, 1) := by decide +kernel
theorem dX9_leave_23 : decode cX9_leave 23 = .ok (.istore_n 2, 1) := by decide +kernel
theorem dX9_leave_24 : decode cX9_leave 24 = .ok (.iload_n 2, 1) := by decide +kernel
theorem dX9_leave_25 : decode cX9_leave 25 = .ok (.iconst 3, 1) := by decide +kernel
theorem dX9_leave_26 : decode cX9_leave 26 = .ok (.aload_n 0, 1) := by decide +kernel
theorem dX9_leave_27 : decode cX9_leave 27 = .ok (.getfield 76, 3) := by decide +kernel
theorem dX9_leave_30 : decode cX9_leave 30 = .ok (.imul, 1) := by decide +kernel
theorem dX9_leave_31 : decode cX9_leave 31 = .ok (.if_icmp .ge 23, 3) := by decide +kernel
theorem dX9_leave_34 : decode cX9_leave 34 = .ok (.aload_n 0, 1) := by decide +kernel
theorem dX9_leave_35 : decode cX9_leave 35 = .ok (.getfield 28, 3) := by decide +kernel
theorem dX9_leave_38 : decode cX9_leave 38 = .ok (.iload_n 2, 1) := by decide +kernel
theorem dX9_leave_39 : decode cX9_leave 39 = .ok (.aload_n 0, 1) := by decide +kernel
theorem dX9_leave_40 : decode cX9_leave 40 = .ok (.getfield 28, 3) := by decide +kernel
theorem dX9_leave_43 : decode cX9_leave 43 = .ok (.iload_n 2, 1) := by decide +kernel
theorem dX9_leave_44 : decode cX9_leave 44 = .ok (.iconst 3, 1) := by decide +kernel
theorem dX9_leave_45 : decode cX9_leave 45 = .ok (.iadd, 1) := by decide +kernel
theorem dX9_leave_46 : decode cX9_leave 46 = .ok (.iaload, 1) := by decide +kernel
theorem dX9_leave_47 : decode cX9_leave 47 = .ok (.iastore, 1) := by decide +kernel
theorem dX9_leave_48 : decode cX9_leave 48 = .ok (.iinc 2 1, 3) := by decide +kernel
theorem dX9_leave_51 : decode cX9_leave 51 = .ok (.goto (-27), 3) := by decide +kernel
theorem dX9_leave_54 : decode cX9_leave 54 = .ok (.aload_n 0, 1) := by decide +kernel
theorem dX9_leave_55 : decode cX9_leave 55 = .ok (.getfield 76, 3) := by decide +kernel
theorem dX9_leave_58 : decode cX9_leave 58 = .ok (.ireturn, 1) := by decide +kernel
theorem dX9_type_0 : decode cX9_type 0 = .ok (.iload_n 3, 1) := by decide +kernel
theorem dX9_type_1 : decode cX9_type 1 = .ok (.i2l, 1) := by decide +kernel
theorem dX9_type_2 : decode cX9_type 2 = .ok (.lconst 1, 1) := by decide +kernel
theorem dX9_type_3 : decode cX9_type 3 = .ok (.ldc2_w 111, 3) := by decide +kernel
theorem dX9_type_6 : decode cX9_type 6 = .ok (.invokestatic 70, 3) := by decide +kernel
theorem dX9_type_9 : decode cX9_type 9 = .ok (.ifCond .ne 5, 3) := by decide +kernel
theorem dX9_type_12 : decode cX9_type 12 = .ok (.iconst (-1), 1) := by decide +kernel
theorem dX9_type_13 : decode cX9_type 13 = .ok (.ireturn, 1) := by decide +kernel
theorem dX9_type_14 : decode cX9_type 14 = .ok (.iconst 0, 1) := by decide +kernel
theorem dX9_type_15 : decode cX9_type 15 = .ok (.istore 4, 2) := by decide +kernel
theorem dX9_type_17 : decode cX9_type 17 = .ok (.iload 4, 2) := by decide +kernel
theorem dX9_type_19 : decode cX9_type 19 = .ok (.iload_n 3, 1) := by decide +kernel
theorem dX9_type_20 : decode cX9_type 20 = .ok (.if_icmp .ge 34, 3) := by decide +kernel
theorem dX9_type_23 : decode cX9_type 23 = .ok (.lload_n 1, 1) := by decide +kernel
theorem dX9_type_24 : decode cX9_type 24 = .ok (.bipush 8, 2) := by decide +kernel
theorem dX9_type_26 : decode cX9_type 26 = .ok (.iload 4, 2) := by decide +kernel
theorem dX9_type_28 : decode cX9_type 28 = .ok (.imul, 1) := by decide +kernel
theorem dX9_type_29 : decode cX9_type 29 = .ok (.lshr, 1) := by decide +kernel
theorem dX9_type_30 : decode cX9_type 30 = .ok (.ldc2_w 113, 3) := by decide +kernel
theorem dX9_type_33 : decode cX9_type 33 = .ok (.land, 1) := by decide +kernel
theorem dX9_type_34 : decode cX9_type 34 = .ok (.ldc2_w 115, 3) := by decide +kernel
theorem dX9_type_37 : decode cX9_type 37 = .ok (.ldc2_w 117, 3) := by decide +kernel
theorem dX9_type_40 : decode cX9_type 40 = .ok (.invokestatic 70, 3) := by decide +kernel
theorem dX9_type_43 : decode cX9_type 43 = .ok (.ifCond .ne 5, 3) := by decide +kernel
theorem dX9_type_46 : decode cX9_type 46 = .ok (.iconst (-1), 1) := by decide +kernel
theorem dX9_type_47 : decode cX9_type 47 = .ok (.ireturn, 1) := by decide +kernel
theorem dX9_type_48 : decode cX9_type 48 = .ok (.iinc 4 1, 3) := by decide +kernel
theorem dX9_type_51 : decode cX9_type 51 = .ok (.goto (-34), 3) := by decide +kernel
theorem dX9_type_54 : decode cX9_type 54 = .ok (.aload_n 0, 1) := by decide +kernel
theorem dX9_type_55 : decode cX9_type 55 = .ok (.getfield 119, 3) := by decide +kernel
theorem dX9_type_58 : decode cX9_type 58 = .ok (.iload_n 3, 1) := by decide +kernel
theorem dX9_type_59 : decode cX9_type 59 = .ok (.iadd, 1) := by decide +kernel
theorem dX9_type_60 : decode cX9_type 60 = .ok (.bipush 100, 2) := by decide +kernel
theorem dX9_type_62 : decode cX9_type 62 = .ok (.if_icmp .le 6, 3) := by decide +kernel
theorem dX9_type_65 : decode cX9_type 65 = .ok (.bipush (-3), 2) := by decide +kernel
theorem dX9_type_67 : decode cX9_type 67 = .ok (.ireturn, 1) := by decide +kernel
theorem dX9_type_68 : decode cX9_type 68 = .ok (.iload_n 3, 1) := by decide +kernel
theorem dX9_type_69 : decode cX9_type 69 = .ok (.iconst 1, 1) := by decide +kernel
theorem dX9_type_70 : decode cX9_type 70 = .ok (.isub, 1) := by decide +kernel
theorem dX9_type_71 : decode cX9_type 71 = .ok (.istore 4, 2) := by decide +kernel
theorem dX9_type_73 : decode cX9_type 73 = .ok (.iload 4, 2) := by decide +kernel
theorem dX9_type_75 : decode cX9_type 75 = .ok (.ifCond .lt 40, 3) := by decide +kernel
theorem dX9_type_78 : decode cX9_type 78 = .ok (.aload_n 0, 1) := by decide +kernel
theorem dX9_type_79 : decode cX9_type 79 = .ok (.getfield 31, 3) := by decide +kernel
theorem dX9_type_82 : decode cX9_type 82 = .ok (.aload_n 0, 1) := by decide +kernel
theorem dX9_type_83 : decode cX9_type 83 = .ok (.getfield 119, 3) := by decide +kernel
theorem dX9_type_86 : decode cX9_type 86 = .ok (.lload_n 1, 1) := by decide +kernel
theorem dX9_type_87 : decode cX9_type 87 = .ok (.bipush 8, 2) := by decide +kernel
theorem dX9_type_89 : decode cX9_type 89 = .ok (.iload 4, 2) := by decide +kernel
theorem dX9_type_91 : decode cX9_type 91 = .ok (.imul, 1) := by decide +kernel
theorem dX9_type_92 : decode cX9_type 92 = .ok (.lshr, 1) := by decide +kernel
theorem dX9_type_93 : decode cX9_type 93 = .ok (.ldc2_w 113, 3) := by decide +kernel
theorem dX9_type_96 : decode cX9_type 96 = .ok (.land, 1) := by decide +kernel
theorem dX9_type_97 : decode cX9_type 97 = .ok (.l2i, 1) := by decide +kernel
theorem dX9_type_98 : decode cX9_type 98 = .ok (.iastore, 1) := by decide +kernel
theorem dX9_type_99 : decode cX9_type 99 = .ok (.aload_n 0, 1) := by decide +kernel
theorem dX9_type_100 : decode cX9_type 100 = .ok (.dup, 1) := by decide +kernel
theorem dX9_type_101 : decode cX9_type 101 = .ok (.getfield 119, 3) := by decide +kernel
theorem dX9_type_104 : decode cX9_type 104 = .ok (.iconst 1, 1) := by decide +kernel
theorem dX9_type_105 : decode cX9_type 105 = .ok (.iadd, 1) := by decide +kernel
theorem dX9_type_106 : decode cX9_type 106 = .ok (.putfield 119, 3) := by decide +kernel
theorem dX9_type_109 : decode cX9_type 109 = .ok (.iinc 4 (-1), 3) := by decide +kernel
theorem dX9_type_112 : decode cX9_type 112 = .ok (.goto (-39), 3) := by decide +kernel
theorem dX9_type_115 : decode cX9_type 115 = .ok (.aload_n 0, 1) := by decide +kernel
theorem dX9_type_116 : decode cX9_type 116 = .ok (.getfield 119, 3) := by decide +kernel
theorem dX9_type_119 : decode cX9_type 119 = .ok (.ireturn, 1) := by decide +kernel
theorem dX9_here_0 : decode cX9_here 0 = .ok (.aload_n 0, 1) := by decide +kernel
theorem dX9_here_1 : decode cX9_here 1 = .ok (.getfield 122, 3) := by decide +kernel
theorem dX9_here_4 : decode cX9_here 4 = .ok (.aload_n 0, 1) := by decide +kernel
theorem dX9_here_5 : decode cX9_here 5 = .ok (.getfield 119, 3) := by decide +kernel
theorem dX9_here_8 : decode cX9_here 8 = .ok (.if_icmp .ge 30, 3) := by decide +kernel
theorem dX9_here_11 : decode cX9_here 11 = .ok (.aload_n 0, 1) := by decide +kernel
theorem dX9_here_12 : decode cX9_here 12 = .ok (.getfield 31, 3) := by decide +kernel
theorem dX9_here_15 : decode cX9_here 15 = .ok (.aload_n 0, 1) := by decide +kernel
theorem dX9_here_16 : decode cX9_here 16 = .ok (.getfield 122, 3) := by decide +kernel
theorem dX9_here_19 : decode cX9_here 19 = .ok (.iaload, 1) := by decide +kernel
theorem dX9_here_20 : decode cX9_here 20 = .ok (.bipush 32, 2) := by decide +kernel
theorem dX9_here_22 : decode cX9_here 22 = .ok (.if_icmp .ne 16, 3) := by decide +kernel
theorem dX9_here_25 : decode cX9_here 25 = .ok (.aload_n 0, 1) := by decide +kernel
theorem dX9_here_26 : decode cX9_here 26 = .ok (.dup, 1) := by decide +kernel
theorem dX9_here_27 : decode cX9_here 27 = .ok (.getfield 122, 3) := by decide +kernel
theorem dX9_here_30 : decode cX9_here 30 = .ok (.iconst 1, 1) := by decide +kernel
theorem dX9_here_31 : decode cX9_here 31 = .ok (.iadd, 1) := by decide +kernel
theorem dX9_here_32 : decode cX9_here 32 = .ok (.putfield 122, 3) := by decide +kernel
theorem dX9_here_35 : decode cX9_here 35 = .ok (.goto (-35), 3) := by decide +kernel
theorem dX9_here_38 : decode cX9_here 38 = .ok (.aload_n 0, 1) := by decide +kernel
theorem dX9_here_39 : decode cX9_here 39 = .ok (.getfield 122, 3) := by decide +kernel
theorem dX9_here_42 : decode cX9_here 42 = .ok (.aload_n 0, 1) := by decide +kernel
theorem dX9_here_43 : decode cX9_here 43 = .ok (.getfield 119, 3) := by decide +kernel
theorem dX9_here_46 : decode cX9_here 46 = .ok (.if_icmp .ge 15, 3) := by decide +kernel
theorem dX9_here_49 : decode cX9_here 49 = .ok (.aload_n 0, 1) := by decide +kernel
theorem dX9_here_50 : decode cX9_here 50 = .ok (.getfield 31, 3) := by decide +kernel
theorem dX9_here_53 : decode cX9_here 53 = .ok (.aload_n 0, 1) := by decide +kernel
theorem dX9_here_54 : decode cX9_here 54 = .ok (.getfield 122, 3) := by decide +kernel
theorem dX9_here_57 : decode cX9_here 57 = .ok (.iaload, 1) := by decide +kernel
theorem dX9_here_58 : decode cX9_here 58 = .ok (.goto 4, 3) := by decide +kernel
theorem dX9_here_61 : decode cX9_here 61 = .ok (.iconst 0, 1) := by decide +kernel
theorem dX9_here_62 : decode cX9_here 62 = .ok (.ireturn, 1) := by decide +kernel
theorem dX9_has_0 : decode cX9_has 0 = .ok (.aload_n 0, 1) := by decide +kernel
theorem dX9_has_1 : decode cX9_has 1 = .ok (.getfield 125, 3) := by decide +kernel
theorem dX9_has_4 : decode cX9_has 4 = .ok (.ifCond .ne 15, 3) := by decide +kernel
theorem dX9_has_7 : decode cX9_has 7 = .ok (.aload_n 0, 1) := by decide +kernel
theorem dX9_has_8 : decode cX9_has 8 = .ok (.invokevirtual 129, 3) := by decide +kernel
theorem dX9_has_11 : decode cX9_has 11 = .ok (.iload_n 1, 1) := by decide +kernel
theorem dX9_has_12 : decode cX9_has 12 = .ok (.if_icmp .ne 7, 3) := by decide +kernel
theorem dX9_has_15 : decode cX9_has 15 = .ok (.iconst 1, 1) := by decide +kernel
theorem dX9_has_16 : decode cX9_has 16 = .ok (.goto 4, 3) := by decide +kernel
theorem dX9_has_19 : decode cX9_has 19 = .ok (.iconst 0, 1) := by decide +kernel
theorem dX9_has_20 : decode cX9_has 20 = .ok (.istore_n 2, 1) := by decide +kernel
theorem dX9_has_21 : decode cX9_has 21 = .ok (.aload_n 0, 1) := by decide +kernel
theorem dX9_has_22 : decode cX9_has 22 = .ok (.dup, 1) := by decide +kernel
theorem dX9_has_23 : decode cX9_has 23 = .ok (.getfield 122, 3) := by decide +kernel
theorem dX9_has_26 : decode cX9_has 26 = .ok (.iload_n 2, 1) := by decide +kernel
theorem dX9_has_27 : decode cX9_has 27 = .ok (.ifCond .eq 7, 3) := by decide +kernel
theorem dX9_has_30 : decode cX9_has 30 = .ok (.iconst 1, 1) := by decide +kernel
theorem dX9_has_31 : decode cX9_has 31 = .ok (.goto 4, 3) := by decide +kernel
theorem dX9_has_34 : decode cX9_has 34 = .ok (.iconst 0, 1) := by decide +kernel
theorem dX9_has_35 : decode cX9_has 35 = .ok (.iadd, 1) := by decide +kernel
theorem dX9_has_36 : decode cX9_has 36 = .ok (.putfield 122, 3) := by decide +kernel
theorem dX9_has_39 : decode cX9_has 39 = .ok (.iload_n 2, 1) := by decide +kernel
theorem dX9_has_40 : decode cX9_has 40 = .ok (.ireturn, 1) := by decide +kernel
theorem dX9_number_0 : decode cX9_number 0 = .ok (.aload_n 0, 1) := by decide +kernel
theorem dX9_number_1 : decode cX9_number 1 = .ok (.getfield 125, 3) := by decide +kernel
theorem dX9_number_4 : decode cX9_number 4 = .ok (.ifCond .ne 20, 3) := by decide +kernel
theorem dX9_number_7 : decode cX9_number 7 = .ok (.aload_n 0, 1) := by decide +kernel
theorem dX9_number_8 : decode cX9_number 8 = .ok (.invokevirtual 129, 3) := by decide +kernel
theorem dX9_number_11 : decode cX9_number 11 = .ok (.i2l, 1) := by decide +kernel
theorem dX9_number_12 : decode cX9_number 12 = .ok (.ldc2_w 133, 3) := by decide +kernel
theorem dX9_number_15 : decode cX9_number 15 = .ok (.ldc2_w 135, 3) := by decide +kernel
theorem dX9_number_18 : decode cX9_number 18 = .ok (.invokestatic 70, 3) := by decide +kernel
theorem dX9_number_21 : decode cX9_number 21 = .ok (.ifCond .ne 10, 3) := by decide +kernel
theorem dX9_number_24 : decode cX9_number 24 = .ok (.aload_n 0, 1) := by decide +kernel
theorem dX9_number_25 : decode cX9_number 25 = .ok (.iconst 1, 1) := by decide +kernel
theorem dX9_number_26 : decode cX9_number 26 = .ok (.putfield 125, 3) := by decide +kernel
theorem dX9_number_29 : decode cX9_number 29 = .ok (.iconst 0, 1) := by decide +kernel
theorem dX9_number_30 : decode cX9_number 30 = .ok (.ireturn, 1) := by decide +kernel
theorem dX9_number_31 : decode cX9_number 31 = .ok (.aload_n 0, 1) := by decide +kernel
theorem dX9_number_32 : decode cX9_number 32 = .ok (.getfield 122, 3) := by decide +kernel
theorem dX9_number_35 : decode cX9_number 35 = .ok (.istore_n 2, 1) := by decide +kernel
theorem dX9_number_36 : decode cX9_number 36 = .ok (.iconst 0, 1) := by decide +kernel
theorem dX9_number_37 : decode cX9_number 37 = .ok (.istore_n 3, 1) := by decide +kernel
theorem dX9_number_38 : decode cX9_number 38 = .ok (.aload_n 0, 1) := by decide +kernel
theorem dX9_number_39 : decode cX9_number 39 = .ok (.getfield 122, 3) := by decide +kernel
theorem dX9_number_42 : decode cX9_number 42 = .ok (.aload_n 0, 1) := by decide +kernel
theorem dX9_number_43 : decode cX9_number 43 = .ok (.getfield 119, 3) := by decide +kernel
theorem dX9_number_46 : decode cX9_number 46 = .ok (.if_icmp .ge 67, 3) := by decide +kernel
theorem dX9_number_49 : decode cX9_number 49 = .ok (.aload_n 0, 1) := by decide +kernel
theorem dX9_number_50 : decode cX9_number 50 = .ok (.getfield 31, 3) := by decide +kernel
theorem dX9_number_53 : decode cX9_number 53 = .ok (.aload_n 0, 1) := by decide +kernel
theorem dX9_number_54 : decode cX9_number 54 = .ok (.getfield 122, 3) := by decide +kernel
theorem dX9_number_57 : decode cX9_number 57 = .ok (.iaload, 1) := by decide +kernel
theorem dX9_number_58 : decode cX9_number 58 = .ok (.i2l, 1) := by decide +kernel
theorem dX9_number_59 : decode cX9_number 59 = .ok (.ldc2_w 133, 3) := by decide +kernel
theorem dX9_number_62 : decode cX9_number 62 = .ok (.ldc2_w 135, 3) := by decide +kernel
theorem dX9_number_65 : decode cX9_number 65 = .ok (.invokestatic 70, 3) := by decide +kernel
theorem dX9_number_68 : decode cX9_number 68 = .ok (.ifCond .eq 45, 3) := by decide +kernel
theorem dX9_number_71 : decode cX9_number 71 = .ok (.iload_n 3, 1) := by decide +kernel
theorem dX9_number_72 : decode cX9_number 72 = .ok (.sipush 999, 3) := by decide +kernel
theorem dX9_number_75 : decode cX9_number 75 = .ok (.if_icmp .le 7, 3) := by decide +kernel
theorem dX9_number_78 : decode cX9_number 78 = .ok (.iload_n 3, 1) := by decide +kernel
theorem dX9_number_79 : decode cX9_number 79 = .ok (.goto 20, 3) := by decide +kernel
theorem dX9_number_82 : decode cX9_number 82 = .ok (.bipush 10, 2) := by decide +kernel
theorem dX9_number_84 : decode cX9_number 84 = .ok (.iload_n 3, 1) := by decide +kernel
theorem dX9_number_85 : decode cX9_number 85 = .ok (.imul, 1) := by decide +kernel
theorem dX9_number_86 : decode cX9_number 86 = .ok (.aload_n 0, 1) := by decide +kernel
theorem dX9_number_87 : decode cX9_number 87 = .ok (.getfield 31, 3) := by decide +kernel
theorem dX9_number_90 : decode cX9_number 90 = .ok (.aload_n 0, 1) := by decide +kernel
theorem dX9_number_91 : decode cX9_number 91 = .ok (.getfield 122, 3) := by decide +kernel
theorem dX9_number_94 : decode cX9_number 94 = .ok (.iaload, 1) := by decide +kernel
theorem dX9_number_95 : decode cX9_number 95 = .ok (.iadd, 1) := by decide +kernel
theorem dX9_number_96 : decode cX9_number 96 = .ok (.bipush 48, 2) := by decide +kernel
theorem dX9_number_98 : decode cX9_number 98 = .ok (.isub, 1) := by decide +kernel
theorem dX9_number_99 : decode cX9_number 99 = .ok (.istore_n 3, 1) := by decide +kernel
theorem dX9_number_100 : decode cX9_number 100 = .ok (.aload_n 0, 1) := by decide +kernel
theorem dX9_number_101 : decode cX9_number 101 = .ok (.dup, 1) := by decide +kernel
theorem dX9_number_102 : decode cX9_number 102 = .ok (.getfield 122, 3) := by decide +kernel
theorem dX9_number_105 : decode cX9_number 105 = .ok (.iconst 1, 1) := by decide +kernel
theorem dX9_number_106 : decode cX9_number 106 = .ok (.iadd, 1) := by decide +kernel
theorem dX9_number_107 : decode cX9_number 107 = .ok (.putfield 122, 3) := by decide +kernel
theorem dX9_number_110 : decode cX9_number 110 = .ok (.goto (-72), 3) := by decide +kernel
theorem dX9_number_113 : decode cX9_number 113 = .ok (.aload_n 0, 1) := by decide +kernel
theorem dX9_number_114 : decode cX9_number 114 = .ok (.iload_n 3, 1) := by decide +kernel
theorem dX9_number_115 : decode cX9_number 115 = .ok (.iload_n 1, 1) := by decide +kernel
theorem dX9_number_116 : decode cX9_number 116 = .ok (.if_icmp .le 7, 3) := by decide +kernel
theorem dX9_number_119 : decode cX9_number 119 = .ok (.iconst 1, 1) := by decide +kernel
theorem dX9_number_120 : decode cX9_number 120 = .ok (.goto 4, 3) := by decide +kernel
theorem dX9_number_123 : decode cX9_number 123 = .ok (.iconst 0, 1) := by decide +kernel
theorem dX9_number_124 : decode cX9_number 124 = .ok (.putfield 125, 3) := by decide +kernel
theorem dX9_number_127 : decode cX9_number 127 = .ok (.aload_n 0, 1) := by decide +kernel
theorem dX9_number_128 : decode cX9_number 128 = .ok (.aload_n 0, 1) := by decide +kernel
theorem dX9_number_129 : decode cX9_number 129 = .ok (.getfield 125, 3) := by decide +kernel
theorem dX9_number_132 : decode cX9_number 132 = .ok (.ifCond .eq 7, 3) := by decide +kernel
theorem dX9_number_135 : decode cX9_number 135 = .ok (.iload_n 2, 1) := by decide +kernel
theorem dX9_number_136 : decode cX9_number 136 = .ok (.goto 7, 3) := by decide +kernel
theorem dX9_number_139 : decode cX9_number 139 = .ok (.aload_n 0, 1) := by decide +kernel
theorem dX9_number_140 : decode cX9_number 140 = .ok (.getfield 122, 3) := by decide +kernel
theorem dX9_number_143 : decode cX9_number 143 = .ok (.putfield 122, 3) := by decide +kernel
theorem dX9_number_146 : decode cX9_number 146 = .ok (.iload_n 3, 1) := by decide +kernel
theorem dX9_number_147 : decode cX9_number 147 = .ok (.ireturn, 1) := by decide +kernel
theorem dX9_digit_0 : decode cX9_digit 0 = .ok (.aload_n 0, 1) := by decide +kernel
theorem dX9_digit_1 : decode cX9_digit 1 = .ok (.aload_n 0, 1) := by decide +kernel
theorem dX9_digit_2 : decode cX9_digit 2 = .ok (.getfield 125, 3) := by decide +kernel
theorem dX9_digit_5 : decode cX9_digit 5 = .ok (.ifCond .ne 24, 3) := by decide +kernel
theorem dX9_digit_8 : decode cX9_digit 8 = .ok (.aload_n 0, 1) := by decide +kernel
theorem dX9_digit_9 : decode cX9_digit 9 = .ok (.invokevirtual 129, 3) := by decide +kernel
theorem dX9_digit_12 : decode cX9_digit 12 = .ok (.i2l, 1) := by decide +kernel
theorem dX9_digit_13 : decode cX9_digit 13 = .ok (.bipush 48, 2) := by decide +kernel
theorem dX9_digit_15 : decode cX9_digit 15 = .ok (.iload_n 1, 1) := by decide +kernel
theorem dX9_digit_16 : decode cX9_digit 16 = .ok (.iadd, 1) := by decide +kernel
theorem dX9_digit_17 : decode cX9_digit 17 = .ok (.i2l, 1) := by decide +kernel
theorem dX9_digit_18 : decode cX9_digit 18 = .ok (.bipush 48, 2) := by decide +kernel
theorem dX9_digit_20 : decode cX9_digit 20 = .ok (.iload_n 2, 1) := by decide +kernel
theorem dX9_digit_21 : decode cX9_digit 21 = .ok (.iadd, 1) := by decide +kernel
theorem dX9_digit_22 : decode cX9_digit 22 = .ok (.i2l, 1) := by decide +kernel
theorem dX9_digit_23 : decode cX9_digit 23 = .ok (.invokestatic 70, 3) := by decide +kernel
theorem dX9_digit_26 : decode cX9_digit 26 = .ok (.ifCond .ne 7, 3) := by decide +kernel
theorem dX9_digit_29 : decode cX9_digit 29 = .ok (.iconst 1, 1) := by decide +kernel
theorem dX9_digit_30 : decode cX9_digit 30 = .ok (.goto 4, 3) := by decide +kernel
theorem dX9_digit_33 : decode cX9_digit 33 = .ok (.iconst 0, 1) := by decide +kernel
theorem dX9_digit_34 : decode cX9_digit 34 = .ok (.putfield 125, 3) := by decide +kernel
theorem dX9_digit_37 : decode cX9_digit 37 = .ok (.aload_n 0, 1) := by decide +kernel
theorem dX9_digit_38 : decode cX9_digit 38 = .ok (.getfield 125, 3) := by decide +kernel
theorem dX9_digit_41 : decode cX9_digit 41 = .ok (.ifCond .eq 7, 3) := by decide +kernel
theorem dX9_digit_44 : decode cX9_digit 44 = .ok (.iconst 0, 1) := by decide +kernel
theorem dX9_digit_45 : decode cX9_digit 45 = .ok (.goto 10, 3) := by decide +kernel
theorem dX9_digit_48 : decode cX9_digit 48 = .ok (.aload_n 0, 1) := by decide +kernel
theorem dX9_digit_49 : decode cX9_digit 49 = .ok (.invokevirtual 129, 3) := by decide +kernel
theorem dX9_digit_52 : decode cX9_digit 52 = .ok (.bipush 48, 2) := by decide +kernel
theorem dX9_digit_54 : decode cX9_digit 54 = .ok (.isub, 1) := by decide +kernel
theorem dX9_digit_55 : decode cX9_digit 55 = .ok (.istore_n 3, 1) := by decide +kernel
theorem dX9_digit_56 : decode cX9_digit 56 = .ok (.aload_n 0, 1) := by decide +kernel
theorem dX9_digit_57 : decode cX9_digit 57 = .ok (.dup, 1) := by decide +kernel
theorem dX9_digit_58 : decode cX9_digit 58 = .ok (.getfield 122, 3) := by decide +kernel
theorem dX9_digit_61 : decode cX9_digit 61 = .ok (.aload_n 0, 1) := by decide +kernel
theorem dX9_digit_62 : decode cX9_digit 62 = .ok (.getfield 125, 3) := by decide +kernel
theorem dX9_digit_65 : decode cX9_digit 65 = .ok (.ifCond .eq 7, 3) := by decide +kernel
theorem dX9_digit_68 : decode cX9_digit 68 = .ok (.iconst 0, 1) := by decide +kernel
theorem dX9_digit_69 : decode cX9_digit 69 = .ok (.goto 4, 3) := by decide +kernel
theorem dX9_digit_72 : decode cX9_digit 72 = .ok (.iconst 1, 1) := by decide +kernel
theorem dX9_digit_73 : decode cX9_digit 73 = .ok (.iadd, 1) := by decide +kernel
theorem dX9_digit_74 : decode cX9_digit 74 = .ok (.putfield 122, 3) := by decide +kernel
theorem dX9_digit_77 : decode cX9_digit 77 = .ok (.iload_n 3, 1) := by decide +kernel
theorem dX9_digit_78 : decode cX9_digit 78 = .ok (.ireturn, 1) := by decide +kernel
theorem dX9_both_0 : decode cX9_both 0 = .ok (.aload_n 0, 1) := by decide +kernel
theorem dX9_both_1 : decode cX9_both 1 = .ok (.iconst 0, 1) := by decide +kernel
theorem dX9_both_2 : decode cX9_both 2 = .ok (.iconst 3, 1) := by decide +kernel
theorem dX9_both_3 : decode cX9_both 3 = .ok (.invokevirtual 137, 3) := by decide +kernel
theorem dX9_both_6 : decode cX9_both 6 = .ok (.istore_n 1, 1) := by decide +kernel
theorem dX9_both_7 : decode cX9_both 7 = .ok (.bipush 10, 2) := by decide +kernel
theorem dX9_both_9 : decode cX9_both 9 = .ok (.iload_n 1, 1) := by decide +kernel
theorem dX9_both_10 : decode cX9_both 10 = .ok (.imul, 1) := by decide +kernel
theorem dX9_both_11 : decode cX9_both 11 = .ok (.aload_n 0, 1) := by decide +kernel
theorem dX9_both_12 : decode cX9_both 12 = .ok (.iconst 1, 1) := by decide +kernel
theorem dX9_both_13 : decode cX9_both 13 = .ok (.bipush 9, 2) := by decide +kernel
theorem dX9_both_15 : decode cX9_both 15 = .ok (.invokevirtual 137, 3) := by decide +kernel
theorem dX9_both_18 : decode cX9_both 18 = .ok (.iadd, 1) := by decide +kernel
theorem dX9_both_19 : decode cX9_both 19 = .ok (.ireturn, 1) := by decide +kernel
theorem dX9_beatClause_0 : decode cX9_beatClause 0 = .ok (.aload_n 0, 1) := by decide +kernel
theorem dX9_beatClause_1 : decode cX9_beatClause 1 = .ok (.getfield 34, 3) := by decide +kernel
theorem dX9_beatClause_4 : decode cX9_beatClause 4 = .ok (.iload_n 1, 1) := by decide +kernel
theorem dX9_beatClause_5 : decode cX9_beatClause 5 = .ok (.aload_n 0, 1) := by decide +kernel
theorem dX9_beatClause_6 : decode cX9_beatClause 6 = .ok (.bipush 15, 2) := by decide +kernel
theorem dX9_beatClause_8 : decode cX9_beatClause 8 = .ok (.invokevirtual 140, 3) := by decide +kernel
theorem dX9_beatClause_11 : decode cX9_beatClause 11 = .ok (.iastore, 1) := by decide +kernel
theorem dX9_beatClause_12 : decode cX9_beatClause 12 = .ok (.aload_n 0, 1) := by decide +kernel
theorem dX9_beatClause_13 : decode cX9_beatClause 13 = .ok (.aload_n 0, 1) := by decide +kernel
theorem dX9_beatClause_14 : decode cX9_beatClause 14 = .ok (.bipush 58, 2) := by decide +kernel
theorem dX9_beatClause_16 : decode cX9_beatClause 16 = .ok (.invokevirtual 144, 3) := by decide +kernel
theorem dX9_beatClause_19 : decode cX9_beatClause 19 = .ok (.ifCond .ne 7, 3) := by decide +kernel
theorem dX9_beatClause_22 : decode cX9_beatClause 22 = .ok (.iconst 1, 1) := by decide +kernel
theorem dX9_beatClause_23 : decode cX9_beatClause 23 = .ok (.goto 4, 3) := by decide +kernel
theorem dX9_beatClause_26 : decode cX9_beatClause 26 = .ok (.iconst 0, 1) := by decide +kernel
theorem dX9_beatClause_27 : decode cX9_beatClause 27 = .ok (.putfield 125, 3) := by decide +kernel
theorem dX9_beatClause_30 : decode cX9_beatClause 30 = .ok (.aload_n 0, 1) := by decide +kernel
theorem dX9_beatClause_31 : decode cX9_beatClause 31 = .ok (.getfield 34, 3) := by decide +kernel
theorem dX9_beatClause_34 : decode cX9_beatClause 34 = .ok (.iload_n 1, 1) := by decide +kernel
theorem dX9_beatClause_35 : decode cX9_beatClause 35 = .ok (.iconst 1, 1) := by decide +kernel
theorem dX9_beatClause_36 : decode cX9_beatClause 36 = .ok (.iadd, 1) := by decide +kernel
theorem dX9_beatClause_37 : decode cX9_beatClause 37 = .ok (.aload_n 0, 1) := by decide +kernel
theorem dX9_beatClause_38 : decode cX9_beatClause 38 = .ok (.bipush 109, 2) := by decide +kernel
theorem dX9_beatClause_40 : decode cX9_beatClause 40 = .ok (.invokevirtual 144, 3) := by decide +kernel
theorem dX9_beatClause_43 : decode cX9_beatClause 43 = .ok (.ifCond .eq 10, 3) := by decide +kernel
theorem dX9_beatClause_46 : decode cX9_beatClause 46 = .ok (.aload_n 0, 1) := by decide +kernel
theorem dX9_beatClause_47 : decode cX9_beatClause 47 = .ok (.invokevirtual 147, 3) := by decide +kernel
theorem dX9_beatClause_50 : decode cX9_beatClause 50 = .ok (.goto 4, 3) := by decide +kernel
theorem dX9_beatClause_53 : decode cX9_beatClause 53 = .ok (.iconst 0, 1) := by decide +kernel
theorem dX9_beatClause_54 : decode cX9_beatClause 54 = .ok (.iastore, 1) := by decide +kernel
theorem dX9_beatClause_55 : decode cX9_beatClause 55 = .ok (.aload_n 0, 1) := by decide +kernel
theorem dX9_beatClause_56 : decode cX9_beatClause 56 = .ok (.getfield 34, 3) := by decide +kernel
theorem dX9_beatClause_59 : decode cX9_beatClause 59 = .ok (.iload_n 1, 1) := by decide +kernel
theorem dX9_beatClause_60 : decode cX9_beatClause 60 = .ok (.iconst 2, 1) := by decide +kernel
theorem dX9_beatClause_61 : decode cX9_beatClause 61 = .ok (.iadd, 1) := by decide +kernel
theorem dX9_beatClause_62 : decode cX9_beatClause 62 = .ok (.aload_n 0, 1) := by decide +kernel
theorem dX9_beatClause_63 : decode cX9_beatClause 63 = .ok (.bipush 108, 2) := by decide +kernel
theorem dX9_beatClause_65 : decode cX9_beatClause 65 = .ok (.invokevirtual 144, 3) := by decide +kernel
theorem dX9_beatClause_68 : decode cX9_beatClause 68 = .ok (.ifCond .eq 12, 3) := by decide +kernel
theorem dX9_beatClause_71 : decode cX9_beatClause 71 = .ok (.aload_n 0, 1) := by decide +kernel
theorem dX9_beatClause_72 : decode cX9_beatClause 72 = .ok (.iconst 0, 1) := by decide +kernel
theorem dX9_beatClause_73 : decode cX9_beatClause 73 = .ok (.iconst 3, 1) := by decide +kernel
theorem dX9_beatClause_74 : decode cX9_beatClause 74 = .ok (.invokevirtual 137, 3) := by decide +kernel
theorem dX9_beatClause_77 : decode cX9_beatClause 77 = .ok (.goto 4, 3) := by decide +kernel
theorem dX9_beatClause_80 : decode cX9_beatClause 80 = .ok (.iconst (-1), 1) := by decide +kernel
theorem dX9_beatClause_81 : decode cX9_beatClause 81 = .ok (.iastore, 1) := by decide +kernel
theorem dX9_beatClause_82 : decode cX9_beatClause 82 = .ok (.aload_n 0, 1) := by decide +kernel
theorem dX9_beatClause_83 : decode cX9_beatClause 83 = .ok (.getfield 34, 3) := by decide +kernel
theorem dX9_beatClause_86 : decode cX9_beatClause 86 = .ok (.iload_n 1, 1) := by decide +kernel
theorem dX9_beatClause_87 : decode cX9_beatClause 87 = .ok (.iconst 3, 1) := by decide +kernel
theorem dX9_beatClause_88 : decode cX9_beatClause 88 = .ok (.iadd, 1) := by decide +kernel
theorem dX9_beatClause_89 : decode cX9_beatClause 89 = .ok (.aload_n 0, 1) := by decide +kernel
theorem dX9_beatClause_90 : decode cX9_beatClause 90 = .ok (.bipush 110, 2) := by decide +kernel
theorem dX9_beatClause_92 : decode cX9_beatClause 92 = .ok (.invokevirtual 144, 3) := by decide +kernel
theorem dX9_beatClause_95 : decode cX9_beatClause 95 = .ok (.ifCond .eq 12, 3) := by decide +kernel
theorem dX9_beatClause_98 : decode cX9_beatClause 98 = .ok (.aload_n 0, 1) := by decide +kernel
theorem dX9_beatClause_99 : decode cX9_beatClause 99 = .ok (.iconst 0, 1) := by decide +kernel
theorem dX9_beatClause_100 : decode cX9_beatClause 100 = .ok (.iconst 3, 1) := by decide +kernel
theorem dX9_beatClause_101 : decode cX9_beatClause 101 = .ok (.invokevirtual 137, 3) := by decide +kernel
theorem dX9_beatClause_104 : decode cX9_beatClause 104 = .ok (.goto 4, 3) := by decide +kernel
theorem dX9_beatClause_107 : decode cX9_beatClause 107 = .ok (.iconst (-1), 1) := by decide +kernel
theorem dX9_beatClause_108 : decode cX9_beatClause 108 = .ok (.iastore, 1) := by decide +kernel
theorem dX9_beatClause_109 : decode cX9_beatClause 109 = .ok (.aload_n 0, 1) := by decide +kernel
theorem dX9_beatClause_110 : decode cX9_beatClause 110 = .ok (.getfield 34, 3) := by decide +kernel
theorem dX9_beatClause_113 : decode cX9_beatClause 113 = .ok (.iload_n 1, 1) := by decide +kernel
theorem dX9_beatClause_114 : decode cX9_beatClause 114 = .ok (.iconst 4, 1) := by decide +kernel
theorem dX9_beatClause_115 : decode cX9_beatClause 115 = .ok (.iadd, 1) := by decide +kernel
theorem dX9_beatClause_116 : decode cX9_beatClause 116 = .ok (.aload_n 0, 1) := by decide +kernel
theorem dX9_beatClause_117 : decode cX9_beatClause 117 = .ok (.bipush 106, 2) := by decide +kernel
theorem dX9_beatClause_119 : decode cX9_beatClause 119 = .ok (.invokevirtual 144, 3) := by decide +kernel
theorem dX9_beatClause_122 : decode cX9_beatClause 122 = .ok (.ifCond .eq 7, 3) := by decide +kernel
theorem dX9_beatClause_125 : decode cX9_beatClause 125 = .ok (.iconst 1, 1) := by decide +kernel
theorem dX9_beatClause_126 : decode cX9_beatClause 126 = .ok (.goto 4, 3) := by decide +kernel
theorem dX9_beatClause_129 : decode cX9_beatClause 129 = .ok (.iconst 0, 1) := by decide +kernel
theorem dX9_beatClause_130 : decode cX9_beatClause 130 = .ok (.iastore, 1) := by decide +kernel
theorem dX9_beatClause_131 : decode cX9_beatClause 131 = .ok (.aload_n 0, 1) := by decide +kernel
theorem dX9_beatClause_132 : decode cX9_beatClause 132 = .ok (.getfield 34, 3) := by decide +kernel
theorem dX9_beatClause_135 : decode cX9_beatClause 135 = .ok (.iload_n 1, 1) := by decide +kernel
theorem dX9_beatClause_136 : decode cX9_beatClause 136 = .ok (.iconst 5, 1) := by decide +kernel
theorem dX9_beatClause_137 : decode cX9_beatClause 137 = .ok (.iadd, 1) := by decide +kernel
theorem dX9_beatClause_138 : decode cX9_beatClause 138 = .ok (.aload_n 0, 1) := by decide +kernel
theorem dX9_beatClause_139 : decode cX9_beatClause 139 = .ok (.bipush 120, 2) := by decide +kernel
theorem dX9_beatClause_141 : decode cX9_beatClause 141 = .ok (.invokevirtual 144, 3) := by decide +kernel
theorem dX9_beatClause_144 : decode cX9_beatClause 144 = .ok (.ifCond .eq 10, 3) := by decide +kernel
theorem dX9_beatClause_147 : decode cX9_beatClause 147 = .ok (.aload_n 0, 1) := by decide +kernel
theorem dX9_beatClause_148 : decode cX9_beatClause 148 = .ok (.invokevirtual 147, 3) := by decide +kernel
theorem dX9_beatClause_151 : decode cX9_beatClause 151 = .ok (.goto 4, 3) := by decide +kernel
theorem dX9_beatClause_154 : decode cX9_beatClause 154 = .ok (.iconst 0, 1) := by decide +kernel
theorem dX9_beatClause_155 : decode cX9_beatClause 155 = .ok (.iastore, 1) := by decide +kernel
theorem dX9_beatClause_156 : decode cX9_beatClause 156 = .ok (.return_, 1) := by decide +kernel
theorem dX9_seatClause_0 : decode cX9_seatClause 0 = .ok (.aload_n 0, 1) := by decide +kernel
theorem dX9_seatClause_1 : decode cX9_seatClause 1 = .ok (.invokevirtual 129, 3) := by decide +kernel
theorem dX9_seatClause_4 : decode cX9_seatClause 4 = .ok (.pop, 1) := by decide +kernel
theorem dX9_seatClause_5 : decode cX9_seatClause 5 = .ok (.aload_n 0, 1) := by decide +kernel
theorem dX9_seatClause_6 : decode cX9_seatClause 6 = .ok (.getfield 122, 3) := by decide +kernel
theorem dX9_seatClause_9 : decode cX9_seatClause 9 = .ok (.istore_n 2, 1) := by decide +kernel
theorem dX9_seatClause_10 : decode cX9_seatClause 10 = .ok (.aload_n 0, 1) := by decide +kernel
theorem dX9_seatClause_11 : decode cX9_seatClause 11 = .ok (.getfield 34, 3) := by decide +kernel
theorem dX9_seatClause_14 : decode cX9_seatClause 14 = .ok (.iload_n 1, 1) := by decide +kernel
theorem dX9_seatClause_15 : decode cX9_seatClause 15 = .ok (.aload_n 0, 1) := by decide +kernel
theorem dX9_seatClause_16 : decode cX9_seatClause 16 = .ok (.bipush 11, 2) := by decide +kernel
theorem dX9_seatClause_18 : decode cX9_seatClause 18 = .ok (.invokevirtual 140, 3) := by decide +kernel
theorem dX9_seatClause_21 : decode cX9_seatClause 21 = .ok (.iastore, 1) := by decide +kernel
theorem dX9_seatClause_22 : decode cX9_seatClause 22 = .ok (.aload_n 0, 1) := by decide +kernel
theorem dX9_seatClause_23 : decode cX9_seatClause 23 = .ok (.aload_n 0, 1) := by decide +kernel
theorem dX9_seatClause_24 : decode cX9_seatClause 24 = .ok (.getfield 34, 3) := by decide +kernel
theorem dX9_seatClause_27 : decode cX9_seatClause 27 = .ok (.iload_n 1, 1) := by decide +kernel
theorem dX9_seatClause_28 : decode cX9_seatClause 28 = .ok (.iaload, 1) := by decide +kernel
theorem dX9_seatClause_29 : decode cX9_seatClause 29 = .ok (.invokevirtual 98, 3) := by decide +kernel
theorem dX9_seatClause_32 : decode cX9_seatClause 32 = .ok (.istore_n 3, 1) := by decide +kernel
theorem dX9_seatClause_33 : decode cX9_seatClause 33 = .ok (.iconst 0, 1) := by decide +kernel
theorem dX9_seatClause_34 : decode cX9_seatClause 34 = .ok (.istore 4, 2) := by decide +kernel
theorem dX9_seatClause_36 : decode cX9_seatClause 36 = .ok (.iload 4, 2) := by decide +kernel
theorem dX9_seatClause_38 : decode cX9_seatClause 38 = .ok (.iload_n 1, 1) := by decide +kernel
theorem dX9_seatClause_39 : decode cX9_seatClause 39 = .ok (.if_icmp .ge 35, 3) := by decide +kernel
theorem dX9_seatClause_42 : decode cX9_seatClause 42 = .ok (.iload_n 3, 1) := by decide +kernel
theorem dX9_seatClause_43 : decode cX9_seatClause 43 = .ok (.ifCond .ne 19, 3) := by decide +kernel
theorem dX9_seatClause_46 : decode cX9_seatClause 46 = .ok (.aload_n 0, 1) := by decide +kernel
theorem dX9_seatClause_47 : decode cX9_seatClause 47 = .ok (.getfield 34, 3) := by decide +kernel
theorem dX9_seatClause_50 : decode cX9_seatClause 50 = .ok (.iload 4, 2) := by decide +kernel
theorem dX9_seatClause_52 : decode cX9_seatClause 52 = .ok (.iaload, 1) := by decide +kernel
theorem dX9_seatClause_53 : decode cX9_seatClause 53 = .ok (.aload_n 0, 1) := by decide +kernel
theorem dX9_seatClause_54 : decode cX9_seatClause 54 = .ok (.getfield 34, 3) := by decide +kernel
theorem dX9_seatClause_57 : decode cX9_seatClause 57 = .ok (.iload_n 1, 1) := by decide +kernel
theorem dX9_seatClause_58 : decode cX9_seatClause 58 = .ok (.iaload, 1) := by decide +kernel
theorem dX9_seatClause_59 : decode cX9_seatClause 59 = .ok (.if_icmp .ne 7, 3) := by decide +kernel
theorem dX9_seatClause_62 : decode cX9_seatClause 62 = .ok (.iconst 1, 1) := by decide +kernel
theorem dX9_seatClause_63 : decode cX9_seatClause 63 = .ok (.goto 4, 3) := by decide +kernel
theorem dX9_seatClause_66 : decode cX9_seatClause 66 = .ok (.iconst 0, 1) := by decide +kernel
theorem dX9_seatClause_67 : decode cX9_seatClause 67 = .ok (.istore_n 3, 1) := by decide +kernel
theorem dX9_seatClause_68 : decode cX9_seatClause 68 = .ok (.iinc 4 6, 3) := by decide +kernel
theorem dX9_seatClause_71 : decode cX9_seatClause 71 = .ok (.goto (-35), 3) := by decide +kernel
theorem dX9_seatClause_74 : decode cX9_seatClause 74 = .ok (.aload_n 0, 1) := by decide +kernel
theorem dX9_seatClause_75 : decode cX9_seatClause 75 = .ok (.getfield 125, 3) := by decide +kernel
theorem dX9_seatClause_78 : decode cX9_seatClause 78 = .ok (.ifCond .ne 17, 3) := by decide +kernel
theorem dX9_seatClause_81 : decode cX9_seatClause 81 = .ok (.iload_n 3, 1) := by decide +kernel
theorem dX9_seatClause_82 : decode cX9_seatClause 82 = .ok (.ifCond .eq 13, 3) := by decide +kernel
theorem dX9_seatClause_85 : decode cX9_seatClause 85 = .ok (.aload_n 0, 1) := by decide +kernel
theorem dX9_seatClause_86 : decode cX9_seatClause 86 = .ok (.iconst 1, 1) := by decide +kernel
theorem dX9_seatClause_87 : decode cX9_seatClause 87 = .ok (.putfield 125, 3) := by decide +kernel
theorem dX9_seatClause_90 : decode cX9_seatClause 90 = .ok (.aload_n 0, 1) := by decide +kernel
theorem dX9_seatClause_91 : decode cX9_seatClause 91 = .ok (.iload_n 2, 1) := by decide +kernel
theorem dX9_seatClause_92 : decode cX9_seatClause 92 = .ok (.putfield 122, 3) := by decide +kernel
theorem dX9_seatClause_95 : decode cX9_seatClause 95 = .ok (.aload_n 0, 1) := by decide +kernel
theorem dX9_seatClause_96 : decode cX9_seatClause 96 = .ok (.getfield 125, 3) := by decide +kernel
theorem dX9_seatClause_99 : decode cX9_seatClause 99 = .ok (.ifCond .eq 7, 3) := by decide +kernel
theorem dX9_seatClause_102 : decode cX9_seatClause 102 = .ok (.iconst 0, 1) := by decide +kernel
theorem dX9_seatClause_103 : decode cX9_seatClause 103 = .ok (.goto 7, 3) := by decide +kernel
theorem dX9_seatClause_106 : decode cX9_seatClause 106 = .ok (.aload_n 0, 1) := by decide +kernel
theorem dX9_seatClause_107 : decode cX9_seatClause 107 = .ok (.invokevirtual 129, 3) := by decide +kernel
theorem dX9_seatClause_110 : decode cX9_seatClause 110 = .ok (.istore 4, 2) := by decide +kernel
theorem dX9_seatClause_112 : decode cX9_seatClause 112 = .ok (.aload_n 0, 1) := by decide +kernel
theorem dX9_seatClause_113 : decode cX9_seatClause 113 = .ok (.getfield 34, 3) := by decide +kernel
theorem dX9_seatClause_116 : decode cX9_seatClause 116 = .ok (.iload_n 1, 1) := by decide +kernel
theorem dX9_seatClause_117 : decode cX9_seatClause 117 = .ok (.iconst 1, 1) := by decide +kernel
theorem dX9_seatClause_118 : decode cX9_seatClause 118 = .ok (.iadd, 1) := by decide +kernel
theorem dX9_seatClause_119 : decode cX9_seatClause 119 = .ok (.iload 4, 2) := by decide +kernel
theorem dX9_seatClause_121 : decode cX9_seatClause 121 = .ok (.bipush 112, 2) := by decide +kernel
theorem dX9_seatClause_123 : decode cX9_seatClause 123 = .ok (.if_icmp .ne 7, 3) := by decide +kernel
theorem dX9_seatClause_126 : decode cX9_seatClause 126 = .ok (.iconst 0, 1) := by decide +kernel
theorem dX9_seatClause_127 : decode cX9_seatClause 127 = .ok (.goto 38, 3) := by decide +kernel
theorem dX9_seatClause_130 : decode cX9_seatClause 130 = .ok (.iload 4, 2) := by decide +kernel
theorem dX9_seatClause_132 : decode cX9_seatClause 132 = .ok (.bipush 119, 2) := by decide +kernel
theorem dX9_seatClause_134 : decode cX9_seatClause 134 = .ok (.if_icmp .ne 7, 3) := by decide +kernel
theorem dX9_seatClause_137 : decode cX9_seatClause 137 = .ok (.iconst 1, 1) := by decide +kernel
theorem dX9_seatClause_138 : decode cX9_seatClause 138 = .ok (.goto 27, 3) := by decide +kernel
theorem dX9_seatClause_141 : decode cX9_seatClause 141 = .ok (.iload 4, 2) := by decide +kernel
theorem dX9_seatClause_143 : decode cX9_seatClause 143 = .ok (.bipush 99, 2) := by decide +kernel
theorem dX9_seatClause_145 : decode cX9_seatClause 145 = .ok (.if_icmp .ne 7, 3) := by decide +kernel
theorem dX9_seatClause_148 : decode cX9_seatClause 148 = .ok (.iconst 2, 1) := by decide +kernel
theorem dX9_seatClause_149 : decode cX9_seatClause 149 = .ok (.goto 16, 3) := by decide +kernel
theorem dX9_seatClause_152 : decode cX9_seatClause 152 = .ok (.iload 4, 2) := by decide +kernel
theorem dX9_seatClause_154 : decode cX9_seatClause 154 = .ok (.bipush 120, 2) := by decide +kernel
theorem dX9_seatClause_156 : decode cX9_seatClause 156 = .ok (.if_icmp .ne 7, 3) := by decide +kernel
theorem dX9_seatClause_159 : decode cX9_seatClause 159 = .ok (.iconst 3, 1) := by decide +kernel
theorem dX9_seatClause_160 : decode cX9_seatClause 160 = .ok (.goto 5, 3) := by decide +kernel
theorem dX9_seatClause_163 : decode cX9_seatClause 163 = .ok (.bipush (-4), 2) := by decide +kernel
theorem dX9_seatClause_165 : decode cX9_seatClause 165 = .ok (.iastore, 1) := by decide +kernel
theorem dX9_seatClause_166 : decode cX9_seatClause 166 = .ok (.aload_n 0, 1) := by decide +kernel
theorem dX9_seatClause_167 : decode cX9_seatClause 167 = .ok (.aload_n 0, 1) := by decide +kernel
theorem dX9_seatClause_168 : decode cX9_seatClause 168 = .ok (.getfield 125, 3) := by decide +kernel
theorem dX9_seatClause_171 : decode cX9_seatClause 171 = .ok (.ifCond .ne 14, 3) := by decide +kernel
theorem dX9_seatClause_174 : decode cX9_seatClause 174 = .ok (.aload_n 0, 1) := by decide +kernel
theorem dX9_seatClause_175 : decode cX9_seatClause 175 = .ok (.getfield 34, 3) := by decide +kernel
theorem dX9_seatClause_178 : decode cX9_seatClause 178 = .ok (.iload_n 1, 1) := by decide +kernel
theorem dX9_seatClause_179 : decode cX9_seatClause 179 = .ok (.iconst 1, 1) := by decide +kernel
theorem dX9_seatClause_180 : decode cX9_seatClause 180 = .ok (.iadd, 1) := by decide +kernel
theorem dX9_seatClause_181 : decode cX9_seatClause 181 = .ok (.iaload, 1) := by decide +kernel
theorem dX9_seatClause_182 : decode cX9_seatClause 182 = .ok (.ifCond .ge 7, 3) := by decide +kernel
theorem dX9_seatClause_185 : decode cX9_seatClause 185 = .ok (.iconst 1, 1) := by decide +kernel
theorem dX9_seatClause_186 : decode cX9_seatClause 186 = .ok (.goto 4, 3) := by decide +kernel
theorem dX9_seatClause_189 : decode cX9_seatClause 189 = .ok (.iconst 0, 1) := by decide +kernel
theorem dX9_seatClause_190 : decode cX9_seatClause 190 = .ok (.putfield 125, 3) := by decide +kernel
theorem dX9_seatClause_193 : decode cX9_seatClause 193 = .ok (.aload_n 0, 1) := by decide +kernel
theorem dX9_seatClause_194 : decode cX9_seatClause 194 = .ok (.dup, 1) := by decide +kernel
theorem dX9_seatClause_195 : decode cX9_seatClause 195 = .ok (.getfield 122, 3) := by decide +kernel
theorem dX9_seatClause_198 : decode cX9_seatClause 198 = .ok (.aload_n 0, 1) := by decide +kernel
theorem dX9_seatClause_199 : decode cX9_seatClause 199 = .ok (.getfield 125, 3) := by decide +kernel
theorem dX9_seatClause_202 : decode cX9_seatClause 202 = .ok (.ifCond .eq 7, 3) := by decide +kernel
theorem dX9_seatClause_205 : decode cX9_seatClause 205 = .ok (.iconst 0, 1) := by decide +kernel
theorem dX9_seatClause_206 : decode cX9_seatClause 206 = .ok (.goto 4, 3) := by decide +kernel
theorem dX9_seatClause_209 : decode cX9_seatClause 209 = .ok (.iconst 1, 1) := by decide +kernel
theorem dX9_seatClause_210 : decode cX9_seatClause 210 = .ok (.iadd, 1) := by decide +kernel
theorem dX9_seatClause_211 : decode cX9_seatClause 211 = .ok (.putfield 122, 3) := by decide +kernel
theorem dX9_seatClause_214 : decode cX9_seatClause 214 = .ok (.return_, 1) := by decide +kernel
theorem dX9_readAll_0 : decode cX9_readAll 0 = .ok (.aload_n 0, 1) := by decide +kernel
theorem dX9_readAll_1 : decode cX9_readAll 1 = .ok (.iconst 0, 1) := by decide +kernel
theorem dX9_readAll_2 : decode cX9_readAll 2 = .ok (.putfield 122, 3) := by decide +kernel
theorem dX9_readAll_5 : decode cX9_readAll 5 = .ok (.aload_n 0, 1) := by decide +kernel
theorem dX9_readAll_6 : decode cX9_readAll 6 = .ok (.iconst 0, 1) := by decide +kernel
theorem dX9_readAll_7 : decode cX9_readAll 7 = .ok (.putfield 125, 3) := by decide +kernel
theorem dX9_readAll_10 : decode cX9_readAll 10 = .ok (.iconst 0, 1) := by decide +kernel
theorem dX9_readAll_11 : decode cX9_readAll 11 = .ok (.istore_n 2, 1) := by decide +kernel
theorem dX9_readAll_12 : decode cX9_readAll 12 = .ok (.iconst 1, 1) := by decide +kernel
theorem dX9_readAll_13 : decode cX9_readAll 13 = .ok (.istore_n 3, 1) := by decide +kernel
theorem dX9_readAll_14 : decode cX9_readAll 14 = .ok (.iload_n 3, 1) := by decide +kernel
theorem dX9_readAll_15 : decode cX9_readAll 15 = .ok (.ifCond .eq 53, 3) := by decide +kernel
theorem dX9_readAll_18 : decode cX9_readAll 18 = .ok (.iload_n 1, 1) := by decide +kernel
theorem dX9_readAll_19 : decode cX9_readAll 19 = .ok (.ifCond .eq 14, 3) := by decide +kernel
theorem dX9_readAll_22 : decode cX9_readAll 22 = .ok (.aload_n 0, 1) := by decide +kernel
theorem dX9_readAll_23 : decode cX9_readAll 23 = .ok (.bipush 6, 2) := by decide +kernel
theorem dX9_readAll_25 : decode cX9_readAll 25 = .ok (.iload_n 2, 1) := by decide +kernel
theorem dX9_readAll_26 : decode cX9_readAll 26 = .ok (.imul, 1) := by decide +kernel
theorem dX9_readAll_27 : decode cX9_readAll 27 = .ok (.invokevirtual 150, 3) := by decide +kernel
theorem dX9_readAll_30 : decode cX9_readAll 30 = .ok (.goto 11, 3) := by decide +kernel
theorem dX9_readAll_33 : decode cX9_readAll 33 = .ok (.aload_n 0, 1) := by decide +kernel
theorem dX9_readAll_34 : decode cX9_readAll 34 = .ok (.bipush 6, 2) := by decide +kernel
theorem dX9_readAll_36 : decode cX9_readAll 36 = .ok (.iload_n 2, 1) := by decide +kernel
theorem dX9_readAll_37 : decode cX9_readAll 37 = .ok (.imul, 1) := by decide +kernel
theorem dX9_readAll_38 : decode cX9_readAll 38 = .ok (.invokevirtual 154, 3) := by decide +kernel
theorem dX9_readAll_41 : decode cX9_readAll 41 = .ok (.iinc 2 1, 3) := by decide +kernel
theorem dX9_readAll_44 : decode cX9_readAll 44 = .ok (.iload_n 2, 1) := by decide +kernel
theorem dX9_readAll_45 : decode cX9_readAll 45 = .ok (.bipush 8, 2) := by decide +kernel
theorem dX9_readAll_47 : decode cX9_readAll 47 = .ok (.if_icmp .ge 16, 3) := by decide +kernel
theorem dX9_readAll_50 : decode cX9_readAll 50 = .ok (.aload_n 0, 1) := by decide +kernel
theorem dX9_readAll_51 : decode cX9_readAll 51 = .ok (.bipush 59, 2) := by decide +kernel
theorem dX9_readAll_53 : decode cX9_readAll 53 = .ok (.invokevirtual 144, 3) := by decide +kernel
theorem dX9_readAll_56 : decode cX9_readAll 56 = .ok (.ifCond .eq 7, 3) := by decide +kernel
theorem dX9_readAll_59 : decode cX9_readAll 59 = .ok (.iconst 1, 1) := by decide +kernel
theorem dX9_readAll_60 : decode cX9_readAll 60 = .ok (.goto 4, 3) := by decide +kernel
theorem dX9_readAll_63 : decode cX9_readAll 63 = .ok (.iconst 0, 1) := by decide +kernel
theorem dX9_readAll_64 : decode cX9_readAll 64 = .ok (.istore_n 3, 1) := by decide +kernel
theorem dX9_readAll_65 : decode cX9_readAll 65 = .ok (.goto (-51), 3) := by decide +kernel
theorem dX9_readAll_68 : decode cX9_readAll 68 = .ok (.aload_n 0, 1) := by decide +kernel
theorem dX9_readAll_69 : decode cX9_readAll 69 = .ok (.aload_n 0, 1) := by decide +kernel
theorem dX9_readAll_70 : decode cX9_readAll 70 = .ok (.getfield 125, 3) := by decide +kernel
theorem dX9_readAll_73 : decode cX9_readAll 73 = .ok (.ifCond .ne 10, 3) := by decide +kernel
theorem dX9_readAll_76 : decode cX9_readAll 76 = .ok (.aload_n 0, 1) := by decide +kernel
theorem dX9_readAll_77 : decode cX9_readAll 77 = .ok (.invokevirtual 129, 3) := by decide +kernel
theorem dX9_readAll_80 : decode cX9_readAll 80 = .ok (.ifCond .eq 7, 3) := by decide +kernel
theorem dX9_readAll_83 : decode cX9_readAll 83 = .ok (.iconst 1, 1) := by decide +kernel
theorem dX9_readAll_84 : decode cX9_readAll 84 = .ok (.goto 4, 3) := by decide +kernel
theorem dX9_readAll_87 : decode cX9_readAll 87 = .ok (.iconst 0, 1) := by decide +kernel
theorem dX9_readAll_88 : decode cX9_readAll 88 = .ok (.putfield 125, 3) := by decide +kernel
theorem dX9_readAll_91 : decode cX9_readAll 91 = .ok (.aload_n 0, 1) := by decide +kernel
theorem dX9_readAll_92 : decode cX9_readAll 92 = .ok (.iconst 0, 1) := by decide +kernel
theorem dX9_readAll_93 : decode cX9_readAll 93 = .ok (.putfield 119, 3) := by decide +kernel
theorem dX9_readAll_96 : decode cX9_readAll 96 = .ok (.aload_n 0, 1) := by decide +kernel
theorem dX9_readAll_97 : decode cX9_readAll 97 = .ok (.getfield 125, 3) := by decide +kernel
theorem dX9_readAll_100 : decode cX9_readAll 100 = .ok (.ifCond .eq 13, 3) := by decide +kernel
theorem dX9_readAll_103 : decode cX9_readAll 103 = .ok (.bipush (-20), 2) := by decide +kernel
theorem dX9_readAll_105 : decode cX9_readAll 105 = .ok (.aload_n 0, 1) := by decide +kernel
theorem dX9_readAll_106 : decode cX9_readAll 106 = .ok (.getfield 122, 3) := by decide +kernel
theorem dX9_readAll_109 : decode cX9_readAll 109 = .ok (.isub, 1) := by decide +kernel
theorem dX9_readAll_110 : decode cX9_readAll 110 = .ok (.goto 4, 3) := by decide +kernel
theorem dX9_readAll_113 : decode cX9_readAll 113 = .ok (.iload_n 2, 1) := by decide +kernel
theorem dX9_readAll_114 : decode cX9_readAll 114 = .ok (.ireturn, 1) := by decide +kernel
theorem dX9_routine_0 : decode cX9_routine 0 = .ok (.aload_n 0, 1) := by decide +kernel
theorem dX9_routine_1 : decode cX9_routine 1 = .ok (.iconst 1, 1) := by decide +kernel
theorem dX9_routine_2 : decode cX9_routine 2 = .ok (.invokevirtual 157, 3) := by decide +kernel
theorem dX9_routine_5 : decode cX9_routine 5 = .ok (.istore_n 1, 1) := by decide +kernel
theorem dX9_routine_6 : decode cX9_routine 6 = .ok (.iconst 0, 1) := by decide +kernel
theorem dX9_routine_7 : decode cX9_routine 7 = .ok (.istore_n 2, 1) := by decide +kernel
theorem dX9_routine_8 : decode cX9_routine 8 = .ok (.iload_n 2, 1) := by decide +kernel
theorem dX9_routine_9 : decode cX9_routine 9 = .ok (.bipush 6, 2) := by decide +kernel
theorem dX9_routine_11 : decode cX9_routine 11 = .ok (.iload_n 1, 1) := by decide +kernel
theorem dX9_routine_12 : decode cX9_routine 12 = .ok (.imul, 1) := by decide +kernel
theorem dX9_routine_13 : decode cX9_routine 13 = .ok (.if_icmp .ge 104, 3) := by decide +kernel
theorem dX9_routine_16 : decode cX9_routine 16 = .ok (.aload_n 0, 1) := by decide +kernel
theorem dX9_routine_17 : decode cX9_routine 17 = .ok (.getfield 7, 3) := by decide +kernel
theorem dX9_routine_20 : decode cX9_routine 20 = .ok (.aload_n 0, 1) := by decide +kernel
theorem dX9_routine_21 : decode cX9_routine 21 = .ok (.getfield 34, 3) := by decide +kernel
theorem dX9_routine_24 : decode cX9_routine 24 = .ok (.iload_n 2, 1) := by decide +kernel
theorem dX9_routine_25 : decode cX9_routine 25 = .ok (.iaload, 1) := by decide +kernel
theorem dX9_routine_26 : decode cX9_routine 26 = .ok (.aload_n 0, 1) := by decide +kernel
theorem dX9_routine_27 : decode cX9_routine 27 = .ok (.getfield 34, 3) := by decide +kernel
theorem dX9_routine_30 : decode cX9_routine 30 = .ok (.iload_n 2, 1) := by decide +kernel
theorem dX9_routine_31 : decode cX9_routine 31 = .ok (.iconst 1, 1) := by decide +kernel
theorem dX9_routine_32 : decode cX9_routine 32 = .ok (.iadd, 1) := by decide +kernel
theorem dX9_routine_33 : decode cX9_routine 33 = .ok (.iaload, 1) := by decide +kernel
theorem dX9_routine_34 : decode cX9_routine 34 = .ok (.iastore, 1) := by decide +kernel
theorem dX9_routine_35 : decode cX9_routine 35 = .ok (.aload_n 0, 1) := by decide +kernel
theorem dX9_routine_36 : decode cX9_routine 36 = .ok (.getfield 16, 3) := by decide +kernel
theorem dX9_routine_39 : decode cX9_routine 39 = .ok (.aload_n 0, 1) := by decide +kernel
theorem dX9_routine_40 : decode cX9_routine 40 = .ok (.getfield 34, 3) := by decide +kernel
theorem dX9_routine_43 : decode cX9_routine 43 = .ok (.iload_n 2, 1) := by decide +kernel
theorem dX9_routine_44 : decode cX9_routine 44 = .ok (.iaload, 1) := by decide +kernel
theorem dX9_routine_45 : decode cX9_routine 45 = .ok (.aload_n 0, 1) := by decide +kernel
theorem dX9_routine_46 : decode cX9_routine 46 = .ok (.getfield 34, 3) := by decide +kernel
theorem dX9_routine_49 : decode cX9_routine 49 = .ok (.iload_n 2, 1) := by decide +kernel
theorem dX9_routine_50 : decode cX9_routine 50 = .ok (.iconst 2, 1) := by decide +kernel
theorem dX9_routine_51 : decode cX9_routine 51 = .ok (.iadd, 1) := by decide +kernel
theorem dX9_routine_52 : decode cX9_routine 52 = .ok (.iaload, 1) := by decide +kernel
theorem dX9_routine_53 : decode cX9_routine 53 = .ok (.iastore, 1) := by decide +kernel
theorem dX9_routine_54 : decode cX9_routine 54 = .ok (.aload_n 0, 1) := by decide +kernel
theorem dX9_routine_55 : decode cX9_routine 55 = .ok (.getfield 19, 3) := by decide +kernel
theorem dX9_routine_58 : decode cX9_routine 58 = .ok (.aload_n 0, 1) := by decide +kernel
theorem dX9_routine_59 : decode cX9_routine 59 = .ok (.getfield 34, 3) := by decide +kernel
theorem dX9_routine_62 : decode cX9_routine 62 = .ok (.iload_n 2, 1) := by decide +kernel
theorem dX9_routine_63 : decode cX9_routine 63 = .ok (.iaload, 1) := by decide +kernel
theorem dX9_routine_64 : decode cX9_routine 64 = .ok (.aload_n 0, 1) := by decide +kernel
theorem dX9_routine_65 : decode cX9_routine 65 = .ok (.getfield 34, 3) := by decide +kernel
theorem dX9_routine_68 : decode cX9_routine 68 = .ok (.iload_n 2, 1) := by decide +kernel
theorem dX9_routine_69 : decode cX9_routine 69 = .ok (.iconst 3, 1) := by decide +kernel
theorem dX9_routine_70 : decode cX9_routine 70 = .ok (.iadd, 1) := by decide +kernel
theorem dX9_routine_71 : decode cX9_routine 71 = .ok (.iaload, 1) := by decide +kernel
theorem dX9_routine_72 : decode cX9_routine 72 = .ok (.iastore, 1) := by decide +kernel
theorem dX9_routine_73 : decode cX9_routine 73 = .ok (.aload_n 0, 1) := by decide +kernel
theorem dX9_routine_74 : decode cX9_routine 74 = .ok (.getfield 22, 3) := by decide +kernel
theorem dX9_routine_77 : decode cX9_routine 77 = .ok (.aload_n 0, 1) := by decide +kernel
theorem dX9_routine_78 : decode cX9_routine 78 = .ok (.getfield 34, 3) := by decide +kernel
theorem dX9_routine_81 : decode cX9_routine 81 = .ok (.iload_n 2, 1) := by decide +kernel
theorem dX9_routine_82 : decode cX9_routine 82 = .ok (.iaload, 1) := by decide +kernel
theorem dX9_routine_83 : decode cX9_routine 83 = .ok (.aload_n 0, 1) := by decide +kernel
theorem dX9_routine_84 : decode cX9_routine 84 = .ok (.getfield 34, 3) := by decide +kernel
theorem dX9_routine_87 : decode cX9_routine 87 = .ok (.iload_n 2, 1) := by decide +kernel
theorem dX9_routine_88 : decode cX9_routine 88 = .ok (.iconst 4, 1) := by decide +kernel
theorem dX9_routine_89 : decode cX9_routine 89 = .ok (.iadd, 1) := by decide +kernel
theorem dX9_routine_90 : decode cX9_routine 90 = .ok (.iaload, 1) := by decide +kernel
theorem dX9_routine_91 : decode cX9_routine 91 = .ok (.iastore, 1) := by decide +kernel
theorem dX9_routine_92 : decode cX9_routine 92 = .ok (.aload_n 0, 1) := by decide +kernel
theorem dX9_routine_93 : decode cX9_routine 93 = .ok (.getfield 13, 3) := by decide +kernel
theorem dX9_routine_96 : decode cX9_routine 96 = .ok (.aload_n 0, 1) := by decide +kernel
theorem dX9_routine_97 : decode cX9_routine 97 = .ok (.getfield 34, 3) := by decide +kernel
theorem dX9_routine_100 : decode cX9_routine 100 = .ok (.iload_n 2, 1) := by decide +kernel
theorem dX9_routine_101 : decode cX9_routine 101 = .ok (.iaload, 1) := by decide +kernel
theorem dX9_routine_102 : decode cX9_routine 102 = .ok (.aload_n 0, 1) := by decide +kernel
theorem dX9_routine_103 : decode cX9_routine 103 = .ok (.getfield 34, 3) := by decide +kernel
theorem dX9_routine_106 : decode cX9_routine 106 = .ok (.iload_n 2, 1) := by decide +kernel
theorem dX9_routine_107 : decode cX9_routine 107 = .ok (.iconst 5, 1) := by decide +kernel
theorem dX9_routine_108 : decode cX9_routine 108 = .ok (.iadd, 1) := by decide +kernel
theorem dX9_routine_109 : decode cX9_routine 109 = .ok (.iaload, 1) := by decide +kernel
theorem dX9_routine_110 : decode cX9_routine 110 = .ok (.iastore, 1) := by decide +kernel
theorem dX9_routine_111 : decode cX9_routine 111 = .ok (.iinc 2 6, 3) := by decide +kernel
theorem dX9_routine_114 : decode cX9_routine 114 = .ok (.goto (-106), 3) := by decide +kernel
theorem dX9_routine_117 : decode cX9_routine 117 = .ok (.iload_n 1, 1) := by decide +kernel
theorem dX9_routine_118 : decode cX9_routine 118 = .ok (.ireturn, 1) := by decide +kernel
theorem dX9_house_0 : decode cX9_house 0 = .ok (.aload_n 0, 1) := by decide +kernel
theorem dX9_house_1 : decode cX9_house 1 = .ok (.iconst 0, 1) := by decide +kernel
theorem dX9_house_2 : decode cX9_house 2 = .ok (.invokevirtual 157, 3) := by decide +kernel
theorem dX9_house_5 : decode cX9_house 5 = .ok (.istore_n 1, 1) := by decide +kernel
theorem dX9_house_6 : decode cX9_house 6 = .ok (.iload_n 1, 1) := by decide +kernel
theorem dX9_house_7 : decode cX9_house 7 = .ok (.ifCond .le 17, 3) := by decide +kernel
theorem dX9_house_10 : decode cX9_house 10 = .ok (.aload_n 0, 1) := by decide +kernel
theorem dX9_house_11 : decode cX9_house 11 = .ok (.getfield 76, 3) := by decide +kernel
theorem dX9_house_14 : decode cX9_house 14 = .ok (.iload_n 1, 1) := by decide +kernel
theorem dX9_house_15 : decode cX9_house 15 = .ok (.iadd, 1) := by decide +kernel
theorem dX9_house_16 : decode cX9_house 16 = .ok (.bipush 8, 2) := by decide +kernel
theorem dX9_house_18 : decode cX9_house 18 = .ok (.if_icmp .le 6, 3) := by decide +kernel
theorem dX9_house_21 : decode cX9_house 21 = .ok (.bipush (-3), 2) := by decide +kernel
theorem dX9_house_23 : decode cX9_house 23 = .ok (.ireturn, 1) := by decide +kernel
theorem dX9_house_24 : decode cX9_house 24 = .ok (.iconst 0, 1) := by decide +kernel
theorem dX9_house_25 : decode cX9_house 25 = .ok (.istore_n 2, 1) := by decide +kernel
theorem dX9_house_26 : decode cX9_house 26 = .ok (.iload_n 2, 1) := by decide +kernel
theorem dX9_house_27 : decode cX9_house 27 = .ok (.bipush 6, 2) := by decide +kernel
theorem dX9_house_29 : decode cX9_house 29 = .ok (.iload_n 1, 1) := by decide +kernel
theorem dX9_house_30 : decode cX9_house 30 = .ok (.imul, 1) := by decide +kernel
theorem dX9_house_31 : decode cX9_house 31 = .ok (.if_icmp .ge 28, 3) := by decide +kernel
theorem dX9_house_34 : decode cX9_house 34 = .ok (.aload_n 0, 1) := by decide +kernel
theorem dX9_house_35 : decode cX9_house 35 = .ok (.aload_n 0, 1) := by decide +kernel
theorem dX9_house_36 : decode cX9_house 36 = .ok (.getfield 34, 3) := by decide +kernel
theorem dX9_house_39 : decode cX9_house 39 = .ok (.iload_n 2, 1) := by decide +kernel
theorem dX9_house_40 : decode cX9_house 40 = .ok (.iaload, 1) := by decide +kernel
theorem dX9_house_41 : decode cX9_house 41 = .ok (.aload_n 0, 1) := by decide +kernel
theorem dX9_house_42 : decode cX9_house 42 = .ok (.getfield 34, 3) := by decide +kernel
theorem dX9_house_45 : decode cX9_house 45 = .ok (.iload_n 2, 1) := by decide +kernel
theorem dX9_house_46 : decode cX9_house 46 = .ok (.iconst 1, 1) := by decide +kernel
theorem dX9_house_47 : decode cX9_house 47 = .ok (.iadd, 1) := by decide +kernel
theorem dX9_house_48 : decode cX9_house 48 = .ok (.iaload, 1) := by decide +kernel
theorem dX9_house_49 : decode cX9_house 49 = .ok (.invokevirtual 101, 3) := by decide +kernel
theorem dX9_house_52 : decode cX9_house 52 = .ok (.pop, 1) := by decide +kernel
theorem dX9_house_53 : decode cX9_house 53 = .ok (.iinc 2 6, 3) := by decide +kernel
theorem dX9_house_56 : decode cX9_house 56 = .ok (.goto (-30), 3) := by decide +kernel
theorem dX9_house_59 : decode cX9_house 59 = .ok (.iload_n 1, 1) := by decide +kernel
theorem dX9_house_60 : decode cX9_house 60 = .ok (.ireturn, 1) := by decide +kernel
theorem dX9_count_0 : decode cX9_count 0 = .ok (.iconst 0, 1) := by decide +kernel
theorem dX9_count_1 : decode cX9_count 1 = .ok (.istore_n 2, 1) := by decide +kernel
theorem dX9_count_2 : decode cX9_count 2 = .ok (.iconst 0, 1) := by decide +kernel
theorem dX9_count_3 : decode cX9_count 3 = .ok (.istore_n 3, 1) := by decide +kernel
theorem dX9_count_4 : decode cX9_count 4 = .ok (.iload_n 3, 1) := by decide +kernel
theorem dX9_count_5 : decode cX9_count 5 = .ok (.bipush 16, 2) := by decide +kernel
theorem dX9_count_7 : decode cX9_count 7 = .ok (.if_icmp .ge 59, 3) := by decide +kernel
theorem dX9_count_10 : decode cX9_count 10 = .ok (.iload_n 2, 1) := by decide +kernel
theorem dX9_count_11 : decode cX9_count 11 = .ok (.iload_n 1, 1) := by decide +kernel
theorem dX9_count_12 : decode cX9_count 12 = .ok (.iconst 1, 1) := by decide +kernel
theorem dX9_count_13 : decode cX9_count 13 = .ok (.if_icmp .ne 12, 3) := by decide +kernel
theorem dX9_count_16 : decode cX9_count 16 = .ok (.aload_n 0, 1) := by decide +kernel
theorem dX9_count_17 : decode cX9_count 17 = .ok (.getfield 13, 3) := by decide +kernel
theorem dX9_count_20 : decode cX9_count 20 = .ok (.iload_n 3, 1) := by decide +kernel
theorem dX9_count_21 : decode cX9_count 21 = .ok (.iaload, 1) := by decide +kernel
theorem dX9_count_22 : decode cX9_count 22 = .ok (.ifCond .gt 31, 3) := by decide +kernel
theorem dX9_count_25 : decode cX9_count 25 = .ok (.iload_n 1, 1) := by decide +kernel
theorem dX9_count_26 : decode cX9_count 26 = .ok (.iconst 2, 1) := by decide +kernel
theorem dX9_count_27 : decode cX9_count 27 = .ok (.if_icmp .ne 12, 3) := by decide +kernel
theorem dX9_count_30 : decode cX9_count 30 = .ok (.aload_n 0, 1) := by decide +kernel
theorem dX9_count_31 : decode cX9_count 31 = .ok (.getfield 7, 3) := by decide +kernel
theorem dX9_count_34 : decode cX9_count 34 = .ok (.iload_n 3, 1) := by decide +kernel
theorem dX9_count_35 : decode cX9_count 35 = .ok (.iaload, 1) := by decide +kernel
theorem dX9_count_36 : decode cX9_count 36 = .ok (.ifCond .gt 17, 3) := by decide +kernel
theorem dX9_count_39 : decode cX9_count 39 = .ok (.iload_n 1, 1) := by decide +kernel
theorem dX9_count_40 : decode cX9_count 40 = .ok (.iconst 3, 1) := by decide +kernel
theorem dX9_count_41 : decode cX9_count 41 = .ok (.if_icmp .ne 16, 3) := by decide +kernel
theorem dX9_count_44 : decode cX9_count 44 = .ok (.aload_n 0, 1) := by decide +kernel
theorem dX9_count_45 : decode cX9_count 45 = .ok (.getfield 22, 3) := by decide +kernel
theorem dX9_count_48 : decode cX9_count 48 = .ok (.iload_n 3, 1) := by decide +kernel
theorem dX9_count_49 : decode cX9_count 49 = .ok (.iaload, 1) := by decide +kernel
theorem dX9_count_50 : decode cX9_count 50 = .ok (.ifCond .le 7, 3) := by decide +kernel
theorem dX9_count_53 : decode cX9_count 53 = .ok (.iconst 1, 1) := by decide +kernel
theorem dX9_count_54 : decode cX9_count 54 = .ok (.goto 4, 3) := by decide +kernel
theorem dX9_count_57 : decode cX9_count 57 = .ok (.iconst 0, 1) := by decide +kernel
theorem dX9_count_58 : decode cX9_count 58 = .ok (.iadd, 1) := by decide +kernel
theorem dX9_count_59 : decode cX9_count 59 = .ok (.istore_n 2, 1) := by decide +kernel
theorem dX9_count_60 : decode cX9_count 60 = .ok (.iinc 3 1, 3) := by decide +kernel
theorem dX9_count_63 : decode cX9_count 63 = .ok (.goto (-59), 3) := by decide +kernel
theorem dX9_count_66 : decode cX9_count 66 = .ok (.iload_n 1, 1) := by decide +kernel
theorem dX9_count_67 : decode cX9_count 67 = .ok (.i2l, 1) := by decide +kernel
theorem dX9_count_68 : decode cX9_count 68 = .ok (.lconst 0, 1) := by decide +kernel
theorem dX9_count_69 : decode cX9_count 69 = .ok (.ldc2_w 161, 3) := by decide +kernel
theorem dX9_count_72 : decode cX9_count 72 = .ok (.invokestatic 70, 3) := by decide +kernel
theorem dX9_count_75 : decode cX9_count 75 = .ok (.ifCond .ne 7, 3) := by decide +kernel
theorem dX9_count_78 : decode cX9_count 78 = .ok (.iconst (-1), 1) := by decide +kernel
theorem dX9_count_79 : decode cX9_count 79 = .ok (.goto 39, 3) := by decide +kernel
theorem dX9_count_82 : decode cX9_count 82 = .ok (.iload_n 1, 1) := by decide +kernel
theorem dX9_count_83 : decode cX9_count 83 = .ok (.ifCond .ne 10, 3) := by decide +kernel
theorem dX9_count_86 : decode cX9_count 86 = .ok (.aload_n 0, 1) := by decide +kernel
theorem dX9_count_87 : decode cX9_count 87 = .ok (.getfield 76, 3) := by decide +kernel
theorem dX9_count_90 : decode cX9_count 90 = .ok (.goto 28, 3) := by decide +kernel
theorem dX9_count_93 : decode cX9_count 93 = .ok (.iload_n 1, 1) := by decide +kernel
theorem dX9_count_94 : decode cX9_count 94 = .ok (.iconst 4, 1) := by decide +kernel
theorem dX9_count_95 : decode cX9_count 95 = .ok (.if_icmp .ne 10, 3) := by decide +kernel
theorem dX9_count_98 : decode cX9_count 98 = .ok (.aload_n 0, 1) := by decide +kernel
theorem dX9_count_99 : decode cX9_count 99 = .ok (.getfield 163, 3) := by decide +kernel
theorem dX9_count_102 : decode cX9_count 102 = .ok (.goto 16, 3) := by decide +kernel
theorem dX9_count_105 : decode cX9_count 105 = .ok (.iload_n 1, 1) := by decide +kernel
theorem dX9_count_106 : decode cX9_count 106 = .ok (.iconst 5, 1) := by decide +kernel
theorem dX9_count_107 : decode cX9_count 107 = .ok (.if_icmp .ne 10, 3) := by decide +kernel
theorem dX9_count_110 : decode cX9_count 110 = .ok (.aload_n 0, 1) := by decide +kernel
theorem dX9_count_111 : decode cX9_count 111 = .ok (.getfield 166, 3) := by decide +kernel
theorem dX9_count_114 : decode cX9_count 114 = .ok (.goto 4, 3) := by decide +kernel
theorem dX9_count_117 : decode cX9_count 117 = .ok (.iload_n 2, 1) := by decide +kernel
theorem dX9_count_118 : decode cX9_count 118 = .ok (.ireturn, 1) := by decide +kernel
theorem dX9_pullOn_0 : decode cX9_pullOn 0 = .ok (.iload_n 1, 1) := by decide +kernel
theorem dX9_pullOn_1 : decode cX9_pullOn 1 = .ok (.iconst 3, 1) := by decide +kernel
theorem dX9_pullOn_2 : decode cX9_pullOn 2 = .ok (.if_icmp .ne 16, 3) := by decide +kernel
theorem dX9_pullOn_5 : decode cX9_pullOn 5 = .ok (.iload 4, 2) := by decide +kernel
theorem dX9_pullOn_7 : decode cX9_pullOn 7 = .ok (.iconst 2, 1) := by decide +kernel
theorem dX9_pullOn_8 : decode cX9_pullOn 8 = .ok (.if_icmp .ge 10, 3) := by decide +kernel
theorem dX9_pullOn_11 : decode cX9_pullOn 11 = .ok (.iconst 1, 1) := by decide +kernel
theorem dX9_pullOn_12 : decode cX9_pullOn 12 = .ok (.iload 4, 2) := by decide +kernel
theorem dX9_pullOn_14 : decode cX9_pullOn 14 = .ok (.isub, 1) := by decide +kernel
theorem dX9_pullOn_15 : decode cX9_pullOn 15 = .ok (.goto 5, 3) := by decide +kernel
theorem dX9_pullOn_18 : decode cX9_pullOn 18 = .ok (.iload 4, 2) := by decide +kernel
theorem dX9_pullOn_20 : decode cX9_pullOn 20 = .ok (.istore 6, 2) := by decide +kernel
theorem dX9_pullOn_22 : decode cX9_pullOn 22 = .ok (.iconst 1, 1) := by decide +kernel
theorem dX9_pullOn_23 : decode cX9_pullOn 23 = .ok (.istore 7, 2) := by decide +kernel
theorem dX9_pullOn_25 : decode cX9_pullOn 25 = .ok (.iload 7, 2) := by decide +kernel
theorem dX9_pullOn_27 : decode cX9_pullOn 27 = .ok (.aload_n 0, 1) := by decide +kernel
theorem dX9_pullOn_28 : decode cX9_pullOn 28 = .ok (.getfield 7, 3) := by decide +kernel
theorem dX9_pullOn_31 : decode cX9_pullOn 31 = .ok (.iload_n 3, 1) := by decide +kernel
theorem dX9_pullOn_32 : decode cX9_pullOn 32 = .ok (.iaload, 1) := by decide +kernel
theorem dX9_pullOn_33 : decode cX9_pullOn 33 = .ok (.ifCond .le 29, 3) := by decide +kernel
theorem dX9_pullOn_36 : decode cX9_pullOn 36 = .ok (.aload_n 0, 1) := by decide +kernel
theorem dX9_pullOn_37 : decode cX9_pullOn 37 = .ok (.getfield 7, 3) := by decide +kernel
theorem dX9_pullOn_40 : decode cX9_pullOn 40 = .ok (.iload_n 3, 1) := by decide +kernel
theorem dX9_pullOn_41 : decode cX9_pullOn 41 = .ok (.iaload, 1) := by decide +kernel
theorem dX9_pullOn_42 : decode cX9_pullOn 42 = .ok (.bipush 10, 2) := by decide +kernel
theorem dX9_pullOn_44 : decode cX9_pullOn 44 = .ok (.idiv, 1) := by decide +kernel
theorem dX9_pullOn_45 : decode cX9_pullOn 45 = .ok (.iload 6, 2) := by decide +kernel
theorem dX9_pullOn_47 : decode cX9_pullOn 47 = .ok (.if_icmp .ne 15, 3) := by decide +kernel
theorem dX9_pullOn_50 : decode cX9_pullOn 50 = .ok (.aload_n 0, 1) := by decide +kernel
theorem dX9_pullOn_51 : decode cX9_pullOn 51 = .ok (.getfield 7, 3) := by decide +kernel
theorem dX9_pullOn_54 : decode cX9_pullOn 54 = .ok (.iload_n 3, 1) := by decide +kernel
theorem dX9_pullOn_55 : decode cX9_pullOn 55 = .ok (.iaload, 1) := by decide +kernel
theorem dX9_pullOn_56 : decode cX9_pullOn 56 = .ok (.bipush 10, 2) := by decide +kernel
theorem dX9_pullOn_58 : decode cX9_pullOn 58 = .ok (.irem, 1) := by decide +kernel
theorem dX9_pullOn_59 : decode cX9_pullOn 59 = .ok (.goto 4, 3) := by decide +kernel
theorem dX9_pullOn_62 : decode cX9_pullOn 62 = .ok (.iconst 0, 1) := by decide +kernel
theorem dX9_pullOn_63 : decode cX9_pullOn 63 = .ok (.iadd, 1) := by decide +kernel
theorem dX9_pullOn_64 : decode cX9_pullOn 64 = .ok (.istore 7, 2) := by decide +kernel
theorem dX9_pullOn_66 : decode cX9_pullOn 66 = .ok (.iload 7, 2) := by decide +kernel
theorem dX9_pullOn_68 : decode cX9_pullOn 68 = .ok (.aload_n 0, 1) := by decide +kernel
theorem dX9_pullOn_69 : decode cX9_pullOn 69 = .ok (.getfield 16, 3) := by decide +kernel
theorem dX9_pullOn_72 : decode cX9_pullOn 72 = .ok (.iload_n 3, 1) := by decide +kernel
theorem dX9_pullOn_73 : decode cX9_pullOn 73 = .ok (.iaload, 1) := by decide +kernel
theorem dX9_pullOn_74 : decode cX9_pullOn 74 = .ok (.iload 6, 2) := by decide +kernel
theorem dX9_pullOn_76 : decode cX9_pullOn 76 = .ok (.if_icmp .ne 12, 3) := by decide +kernel
theorem dX9_pullOn_79 : decode cX9_pullOn 79 = .ok (.aload_n 0, 1) := by decide +kernel
theorem dX9_pullOn_80 : decode cX9_pullOn 80 = .ok (.getfield 25, 3) := by decide +kernel
theorem dX9_pullOn_83 : decode cX9_pullOn 83 = .ok (.iconst 0, 1) := by decide +kernel
theorem dX9_pullOn_84 : decode cX9_pullOn 84 = .ok (.iaload, 1) := by decide +kernel
theorem dX9_pullOn_85 : decode cX9_pullOn 85 = .ok (.goto 4, 3) := by decide +kernel
theorem dX9_pullOn_88 : decode cX9_pullOn 88 = .ok (.iconst 0, 1) := by decide +kernel
theorem dX9_pullOn_89 : decode cX9_pullOn 89 = .ok (.iadd, 1) := by decide +kernel
theorem dX9_pullOn_90 : decode cX9_pullOn 90 = .ok (.istore 7, 2) := by decide +kernel
theorem dX9_pullOn_92 : decode cX9_pullOn 92 = .ok (.iload 7, 2) := by decide +kernel
theorem dX9_pullOn_94 : decode cX9_pullOn 94 = .ok (.aload_n 0, 1) := by decide +kernel
theorem dX9_pullOn_95 : decode cX9_pullOn 95 = .ok (.getfield 19, 3) := by decide +kernel
theorem dX9_pullOn_98 : decode cX9_pullOn 98 = .ok (.iload_n 3, 1) := by decide +kernel
theorem dX9_pullOn_99 : decode cX9_pullOn 99 = .ok (.iaload, 1) := by decide +kernel
theorem dX9_pullOn_100 : decode cX9_pullOn 100 = .ok (.iload 6, 2) := by decide +kernel
theorem dX9_pullOn_102 : decode cX9_pullOn 102 = .ok (.if_icmp .ne 17, 3) := by decide +kernel
theorem dX9_pullOn_105 : decode cX9_pullOn 105 = .ok (.iload_n 1, 1) := by decide +kernel
theorem dX9_pullOn_106 : decode cX9_pullOn 106 = .ok (.iconst 2, 1) := by decide +kernel
theorem dX9_pullOn_107 : decode cX9_pullOn 107 = .ok (.if_icmp .eq 12, 3) := by decide +kernel
theorem dX9_pullOn_110 : decode cX9_pullOn 110 = .ok (.aload_n 0, 1) := by decide +kernel
theorem dX9_pullOn_111 : decode cX9_pullOn 111 = .ok (.getfield 25, 3) := by decide +kernel
theorem dX9_pullOn_114 : decode cX9_pullOn 114 = .ok (.iconst 1, 1) := by decide +kernel
theorem dX9_pullOn_115 : decode cX9_pullOn 115 = .ok (.iaload, 1) := by decide +kernel
theorem dX9_pullOn_116 : decode cX9_pullOn 116 = .ok (.goto 4, 3) := by decide +kernel
theorem dX9_pullOn_119 : decode cX9_pullOn 119 = .ok (.iconst 0, 1) := by decide +kernel
theorem dX9_pullOn_120 : decode cX9_pullOn 120 = .ok (.iadd, 1) := by decide +kernel
theorem dX9_pullOn_121 : decode cX9_pullOn 121 = .ok (.istore 7, 2) := by decide +kernel
theorem dX9_pullOn_123 : decode cX9_pullOn 123 = .ok (.iload 7, 2) := by decide +kernel
theorem dX9_pullOn_125 : decode cX9_pullOn 125 = .ok (.iload_n 1, 1) := by decide +kernel
theorem dX9_pullOn_126 : decode cX9_pullOn 126 = .ok (.iconst 1, 1) := by decide +kernel
theorem dX9_pullOn_127 : decode cX9_pullOn 127 = .ok (.if_icmp .ne 24, 3) := by decide +kernel
theorem dX9_pullOn_130 : decode cX9_pullOn 130 = .ok (.iload 6, 2) := by decide +kernel
theorem dX9_pullOn_132 : decode cX9_pullOn 132 = .ok (.iconst 2, 1) := by decide +kernel
theorem dX9_pullOn_133 : decode cX9_pullOn 133 = .ok (.if_icmp .ge 18, 3) := by decide +kernel
theorem dX9_pullOn_136 : decode cX9_pullOn 136 = .ok (.aload_n 0, 1) := by decide +kernel
theorem dX9_pullOn_137 : decode cX9_pullOn 137 = .ok (.getfield 16, 3) := by decide +kernel
theorem dX9_pullOn_140 : decode cX9_pullOn 140 = .ok (.iload_n 3, 1) := by decide +kernel
theorem dX9_pullOn_141 : decode cX9_pullOn 141 = .ok (.iaload, 1) := by decide +kernel
theorem dX9_pullOn_142 : decode cX9_pullOn 142 = .ok (.iload 6, 2) := by decide +kernel
theorem dX9_pullOn_144 : decode cX9_pullOn 144 = .ok (.if_icmp .eq 7, 3) := by decide +kernel
theorem dX9_pullOn_147 : decode cX9_pullOn 147 = .ok (.iload_n 2, 1) := by decide +kernel
theorem dX9_pullOn_148 : decode cX9_pullOn 148 = .ok (.goto 4, 3) := by decide +kernel
theorem dX9_pullOn_151 : decode cX9_pullOn 151 = .ok (.iconst 0, 1) := by decide +kernel
theorem dX9_pullOn_152 : decode cX9_pullOn 152 = .ok (.iadd, 1) := by decide +kernel
theorem dX9_pullOn_153 : decode cX9_pullOn 153 = .ok (.istore 7, 2) := by decide +kernel
theorem dX9_pullOn_155 : decode cX9_pullOn 155 = .ok (.iload 7, 2) := by decide +kernel
theorem dX9_pullOn_157 : decode cX9_pullOn 157 = .ok (.aload_n 0, 1) := by decide +kernel
theorem dX9_pullOn_158 : decode cX9_pullOn 158 = .ok (.getfield 13, 3) := by decide +kernel
theorem dX9_pullOn_161 : decode cX9_pullOn 161 = .ok (.iload_n 3, 1) := by decide +kernel
theorem dX9_pullOn_162 : decode cX9_pullOn 162 = .ok (.iaload, 1) := by decide +kernel
theorem dX9_pullOn_163 : decode cX9_pullOn 163 = .ok (.ifCond .le 31, 3) := by decide +kernel
theorem dX9_pullOn_166 : decode cX9_pullOn 166 = .ok (.aload_n 0, 1) := by decide +kernel
theorem dX9_pullOn_167 : decode cX9_pullOn 167 = .ok (.getfield 13, 3) := by decide +kernel
theorem dX9_pullOn_170 : decode cX9_pullOn 170 = .ok (.iload_n 3, 1) := by decide +kernel
theorem dX9_pullOn_171 : decode cX9_pullOn 171 = .ok (.iaload, 1) := by decide +kernel
theorem dX9_pullOn_172 : decode cX9_pullOn 172 = .ok (.bipush 10, 2) := by decide +kernel
theorem dX9_pullOn_174 : decode cX9_pullOn 174 = .ok (.idiv, 1) := by decide +kernel
theorem dX9_pullOn_175 : decode cX9_pullOn 175 = .ok (.iload 4, 2) := by decide +kernel
theorem dX9_pullOn_177 : decode cX9_pullOn 177 = .ok (.if_icmp .ne 17, 3) := by decide +kernel
theorem dX9_pullOn_180 : decode cX9_pullOn 180 = .ok (.aload_n 0, 1) := by decide +kernel
theorem dX9_pullOn_181 : decode cX9_pullOn 181 = .ok (.getfield 25, 3) := by decide +kernel
theorem dX9_pullOn_184 : decode cX9_pullOn 184 = .ok (.iconst 3, 1) := by decide +kernel
theorem dX9_pullOn_185 : decode cX9_pullOn 185 = .ok (.iaload, 1) := by decide +kernel
theorem dX9_pullOn_186 : decode cX9_pullOn 186 = .ok (.iload 5, 2) := by decide +kernel
theorem dX9_pullOn_188 : decode cX9_pullOn 188 = .ok (.iconst 1, 1) := by decide +kernel
theorem dX9_pullOn_189 : decode cX9_pullOn 189 = .ok (.isub, 1) := by decide +kernel
theorem dX9_pullOn_190 : decode cX9_pullOn 190 = .ok (.imul, 1) := by decide +kernel
theorem dX9_pullOn_191 : decode cX9_pullOn 191 = .ok (.goto 4, 3) := by decide +kernel
theorem dX9_pullOn_194 : decode cX9_pullOn 194 = .ok (.iconst 0, 1) := by decide +kernel
theorem dX9_pullOn_195 : decode cX9_pullOn 195 = .ok (.iadd, 1) := by decide +kernel
theorem dX9_pullOn_196 : decode cX9_pullOn 196 = .ok (.istore 7, 2) := by decide +kernel
theorem dX9_pullOn_198 : decode cX9_pullOn 198 = .ok (.iload 7, 2) := by decide +kernel
theorem dX9_pullOn_200 : decode cX9_pullOn 200 = .ok (.ireturn, 1) := by decide +kernel
theorem dX9_pull_0 : decode cX9_pull 0 = .ok (.aload_n 0, 1) := by decide +kernel
theorem dX9_pull_1 : decode cX9_pull 1 = .ok (.iload_n 1, 1) := by decide +kernel
theorem dX9_pull_2 : decode cX9_pull 2 = .ok (.invokevirtual 105, 3) := by decide +kernel
theorem dX9_pull_5 : decode cX9_pull 5 = .ok (.ifCond .eq 30, 3) := by decide +kernel
theorem dX9_pull_8 : decode cX9_pull 8 = .ok (.iload_n 2, 1) := by decide +kernel
theorem dX9_pull_9 : decode cX9_pull 9 = .ok (.invokestatic 79, 3) := by decide +kernel
theorem dX9_pull_12 : decode cX9_pull 12 = .ok (.ifCond .eq 23, 3) := by decide +kernel
theorem dX9_pull_15 : decode cX9_pull 15 = .ok (.iload_n 3, 1) := by decide +kernel
theorem dX9_pull_16 : decode cX9_pull 16 = .ok (.invokestatic 83, 3) := by decide +kernel
theorem dX9_pull_19 : decode cX9_pull 19 = .ok (.ifCond .eq 16, 3) := by decide +kernel
theorem dX9_pull_22 : decode cX9_pull 22 = .ok (.iload 4, 2) := by decide +kernel
theorem dX9_pull_24 : decode cX9_pull 24 = .ok (.i2l, 1) := by decide +kernel
theorem dX9_pull_25 : decode cX9_pull 25 = .ok (.lconst 1, 1) := by decide +kernel
theorem dX9_pull_26 : decode cX9_pull 26 = .ok (.ldc2_w 86, 3) := by decide +kernel
theorem dX9_pull_29 : decode cX9_pull 29 = .ok (.invokestatic 70, 3) := by decide +kernel
theorem dX9_pull_32 : decode cX9_pull 32 = .ok (.ifCond .ne 5, 3) := by decide +kernel
theorem dX9_pull_35 : decode cX9_pull 35 = .ok (.iconst (-1), 1) := by decide +kernel
theorem dX9_pull_36 : decode cX9_pull 36 = .ok (.ireturn, 1) := by decide +kernel
theorem dX9_pull_37 : decode cX9_pull 37 = .ok (.aload_n 0, 1) := by decide +kernel
theorem dX9_pull_38 : decode cX9_pull 38 = .ok (.aload_n 0, 1) := by decide +kernel
theorem dX9_pull_39 : decode cX9_pull 39 = .ok (.getfield 28, 3) := by decide +kernel
theorem dX9_pull_42 : decode cX9_pull 42 = .ok (.iconst 3, 1) := by decide +kernel
theorem dX9_pull_43 : decode cX9_pull 43 = .ok (.iload_n 1, 1) := by decide +kernel
theorem dX9_pull_44 : decode cX9_pull 44 = .ok (.imul, 1) := by decide +kernel
theorem dX9_pull_45 : decode cX9_pull 45 = .ok (.iconst 1, 1) := by decide +kernel
theorem dX9_pull_46 : decode cX9_pull 46 = .ok (.iadd, 1) := by decide +kernel
theorem dX9_pull_47 : decode cX9_pull 47 = .ok (.iaload, 1) := by decide +kernel
theorem dX9_pull_48 : decode cX9_pull 48 = .ok (.aload_n 0, 1) := by decide +kernel
theorem dX9_pull_49 : decode cX9_pull 49 = .ok (.getfield 28, 3) := by decide +kernel
theorem dX9_pull_52 : decode cX9_pull 52 = .ok (.iconst 3, 1) := by decide +kernel
theorem dX9_pull_53 : decode cX9_pull 53 = .ok (.iload_n 1, 1) := by decide +kernel
theorem dX9_pull_54 : decode cX9_pull 54 = .ok (.imul, 1) := by decide +kernel
theorem dX9_pull_55 : decode cX9_pull 55 = .ok (.iconst 2, 1) := by decide +kernel
theorem dX9_pull_56 : decode cX9_pull 56 = .ok (.iadd, 1) := by decide +kernel
theorem dX9_pull_57 : decode cX9_pull 57 = .ok (.iaload, 1) := by decide +kernel
theorem dX9_pull_58 : decode cX9_pull 58 = .ok (.iload_n 2, 1) := by decide +kernel
theorem dX9_pull_59 : decode cX9_pull 59 = .ok (.iload_n 3, 1) := by decide +kernel
theorem dX9_pull_60 : decode cX9_pull 60 = .ok (.iload 4, 2) := by decide +kernel
theorem dX9_pull_62 : decode cX9_pull 62 = .ok (.invokevirtual 169, 3) := by decide +kernel
theorem dX9_pull_65 : decode cX9_pull 65 = .ok (.ireturn, 1) := by decide +kernel
theorem dX9_heedOf_0 : decode cX9_heedOf 0 = .ok (.bipush 9, 2) := by decide +kernel
theorem dX9_heedOf_2 : decode cX9_heedOf 2 = .ok (.istore_n 3, 1) := by decide +kernel
theorem dX9_heedOf_3 : decode cX9_heedOf 3 = .ok (.iconst 0, 1) := by decide +kernel
theorem dX9_heedOf_4 : decode cX9_heedOf 4 = .ok (.istore 4, 2) := by decide +kernel
theorem dX9_heedOf_6 : decode cX9_heedOf 6 = .ok (.iload 4, 2) := by decide +kernel
theorem dX9_heedOf_8 : decode cX9_heedOf 8 = .ok (.iload_n 2, 1) := by decide +kernel
theorem dX9_heedOf_9 : decode cX9_heedOf 9 = .ok (.if_icmp .gt 88, 3) := by decide +kernel
theorem dX9_heedOf_12 : decode cX9_heedOf 12 = .ok (.iload_n 3, 1) := by decide +kernel
theorem dX9_heedOf_13 : decode cX9_heedOf 13 = .ok (.aload_n 0, 1) := by decide +kernel
theorem dX9_heedOf_14 : decode cX9_heedOf 14 = .ok (.getfield 25, 3) := by decide +kernel
theorem dX9_heedOf_17 : decode cX9_heedOf 17 = .ok (.iconst 2, 1) := by decide +kernel
theorem dX9_heedOf_18 : decode cX9_heedOf 18 = .ok (.iaload, 1) := by decide +kernel
theorem dX9_heedOf_19 : decode cX9_heedOf 19 = .ok (.iadd, 1) := by decide +kernel
theorem dX9_heedOf_20 : decode cX9_heedOf 20 = .ok (.bipush 9, 2) := by decide +kernel
theorem dX9_heedOf_22 : decode cX9_heedOf 22 = .ok (.if_icmp .le 8, 3) := by decide +kernel
theorem dX9_heedOf_25 : decode cX9_heedOf 25 = .ok (.bipush 9, 2) := by decide +kernel
theorem dX9_heedOf_27 : decode cX9_heedOf 27 = .ok (.goto 11, 3) := by decide +kernel
theorem dX9_heedOf_30 : decode cX9_heedOf 30 = .ok (.iload_n 3, 1) := by decide +kernel
theorem dX9_heedOf_31 : decode cX9_heedOf 31 = .ok (.aload_n 0, 1) := by decide +kernel
theorem dX9_heedOf_32 : decode cX9_heedOf 32 = .ok (.getfield 25, 3) := by decide +kernel
theorem dX9_heedOf_35 : decode cX9_heedOf 35 = .ok (.iconst 2, 1) := by decide +kernel
theorem dX9_heedOf_36 : decode cX9_heedOf 36 = .ok (.iaload, 1) := by decide +kernel
theorem dX9_heedOf_37 : decode cX9_heedOf 37 = .ok (.iadd, 1) := by decide +kernel
theorem dX9_heedOf_38 : decode cX9_heedOf 38 = .ok (.istore_n 3, 1) := by decide +kernel
theorem dX9_heedOf_39 : decode cX9_heedOf 39 = .ok (.iload_n 3, 1) := by decide +kernel
theorem dX9_heedOf_40 : decode cX9_heedOf 40 = .ok (.aload_n 0, 1) := by decide +kernel
theorem dX9_heedOf_41 : decode cX9_heedOf 41 = .ok (.getfield 19, 3) := by decide +kernel
theorem dX9_heedOf_44 : decode cX9_heedOf 44 = .ok (.iload 4, 2) := by decide +kernel
theorem dX9_heedOf_46 : decode cX9_heedOf 46 = .ok (.iaload, 1) := by decide +kernel
theorem dX9_heedOf_47 : decode cX9_heedOf 47 = .ok (.ifCond .lt 21, 3) := by decide +kernel
theorem dX9_heedOf_50 : decode cX9_heedOf 50 = .ok (.aload_n 0, 1) := by decide +kernel
theorem dX9_heedOf_51 : decode cX9_heedOf 51 = .ok (.getfield 28, 3) := by decide +kernel
theorem dX9_heedOf_54 : decode cX9_heedOf 54 = .ok (.iconst 3, 1) := by decide +kernel
theorem dX9_heedOf_55 : decode cX9_heedOf 55 = .ok (.iload_n 1, 1) := by decide +kernel
theorem dX9_heedOf_56 : decode cX9_heedOf 56 = .ok (.imul, 1) := by decide +kernel
theorem dX9_heedOf_57 : decode cX9_heedOf 57 = .ok (.iconst 1, 1) := by decide +kernel
theorem dX9_heedOf_58 : decode cX9_heedOf 58 = .ok (.iadd, 1) := by decide +kernel
theorem dX9_heedOf_59 : decode cX9_heedOf 59 = .ok (.iaload, 1) := by decide +kernel
theorem dX9_heedOf_60 : decode cX9_heedOf 60 = .ok (.iconst 2, 1) := by decide +kernel
theorem dX9_heedOf_61 : decode cX9_heedOf 61 = .ok (.if_icmp .eq 7, 3) := by decide +kernel
theorem dX9_heedOf_64 : decode cX9_heedOf 64 = .ok (.iconst 2, 1) := by decide +kernel
theorem dX9_heedOf_65 : decode cX9_heedOf 65 = .ok (.goto 4, 3) := by decide +kernel
theorem dX9_heedOf_68 : decode cX9_heedOf 68 = .ok (.iconst 0, 1) := by decide +kernel
theorem dX9_heedOf_69 : decode cX9_heedOf 69 = .ok (.isub, 1) := by decide +kernel
theorem dX9_heedOf_70 : decode cX9_heedOf 70 = .ok (.istore_n 3, 1) := by decide +kernel
theorem dX9_heedOf_71 : decode cX9_heedOf 71 = .ok (.iload_n 3, 1) := by decide +kernel
theorem dX9_heedOf_72 : decode cX9_heedOf 72 = .ok (.ifCond .lt 13, 3) := by decide +kernel
theorem dX9_heedOf_75 : decode cX9_heedOf 75 = .ok (.aload_n 0, 1) := by decide +kernel
theorem dX9_heedOf_76 : decode cX9_heedOf 76 = .ok (.getfield 22, 3) := by decide +kernel
theorem dX9_heedOf_79 : decode cX9_heedOf 79 = .ok (.iload 4, 2) := by decide +kernel
theorem dX9_heedOf_81 : decode cX9_heedOf 81 = .ok (.iaload, 1) := by decide +kernel
theorem dX9_heedOf_82 : decode cX9_heedOf 82 = .ok (.ifCond .le 7, 3) := by decide +kernel
theorem dX9_heedOf_85 : decode cX9_heedOf 85 = .ok (.iconst 0, 1) := by decide +kernel
theorem dX9_heedOf_86 : decode cX9_heedOf 86 = .ok (.goto 4, 3) := by decide +kernel
theorem dX9_heedOf_89 : decode cX9_heedOf 89 = .ok (.iload_n 3, 1) := by decide +kernel
theorem dX9_heedOf_90 : decode cX9_heedOf 90 = .ok (.istore_n 3, 1) := by decide +kernel
theorem dX9_heedOf_91 : decode cX9_heedOf 91 = .ok (.iinc 4 1, 3) := by decide +kernel
theorem dX9_heedOf_94 : decode cX9_heedOf 94 = .ok (.goto (-88), 3) := by decide +kernel
theorem dX9_heedOf_97 : decode cX9_heedOf 97 = .ok (.iload_n 3, 1) := by decide +kernel
theorem dX9_heedOf_98 : decode cX9_heedOf 98 = .ok (.ireturn, 1) := by decide +kernel
theorem dX9_heed_0 : decode cX9_heed 0 = .ok (.aload_n 0, 1) := by decide +kernel
theorem dX9_heed_1 : decode cX9_heed 1 = .ok (.iload_n 1, 1) := by decide +kernel
theorem dX9_heed_2 : decode cX9_heed 2 = .ok (.invokevirtual 105, 3) := by decide +kernel
theorem dX9_heed_5 : decode cX9_heed 5 = .ok (.ifCond .eq 19, 3) := by decide +kernel
theorem dX9_heed_8 : decode cX9_heed 8 = .ok (.iload_n 2, 1) := by decide +kernel
theorem dX9_heed_9 : decode cX9_heed 9 = .ok (.invokestatic 79, 3) := by decide +kernel
theorem dX9_heed_12 : decode cX9_heed 12 = .ok (.ifCond .eq 12, 3) := by decide +kernel
theorem dX9_heed_15 : decode cX9_heed 15 = .ok (.aload_n 0, 1) := by decide +kernel
theorem dX9_heed_16 : decode cX9_heed 16 = .ok (.iload_n 1, 1) := by decide +kernel
theorem dX9_heed_17 : decode cX9_heed 17 = .ok (.iload_n 2, 1) := by decide +kernel
theorem dX9_heed_18 : decode cX9_heed 18 = .ok (.invokevirtual 108, 3) := by decide +kernel
theorem dX9_heed_21 : decode cX9_heed 21 = .ok (.goto 4, 3) := by decide +kernel
theorem dX9_heed_24 : decode cX9_heed 24 = .ok (.iconst (-1), 1) := by decide +kernel
theorem dX9_heed_25 : decode cX9_heed 25 = .ok (.ireturn, 1) := by decide +kernel
theorem dX9_sight_0 : decode cX9_sight 0 = .ok (.iload_n 1, 1) := by decide +kernel
theorem dX9_sight_1 : decode cX9_sight 1 = .ok (.iconst 4, 1) := by decide +kernel
theorem dX9_sight_2 : decode cX9_sight 2 = .ok (.irem, 1) := by decide +kernel
theorem dX9_sight_3 : decode cX9_sight 3 = .ok (.iload_n 3, 1) := by decide +kernel
theorem dX9_sight_4 : decode cX9_sight 4 = .ok (.isub, 1) := by decide +kernel
theorem dX9_sight_5 : decode cX9_sight 5 = .ok (.istore 4, 2) := by decide +kernel
theorem dX9_sight_7 : decode cX9_sight 7 = .ok (.iload_n 2, 1) := by decide +kernel
theorem dX9_sight_8 : decode cX9_sight 8 = .ok (.iconst 1, 1) := by decide +kernel
theorem dX9_sight_9 : decode cX9_sight 9 = .ok (.if_icmp .ne 9, 3) := by decide +kernel
theorem dX9_sight_12 : decode cX9_sight 12 = .ok (.iload 4, 2) := by decide +kernel
theorem dX9_sight_14 : decode cX9_sight 14 = .ok (.iconst (-1), 1) := by decide +kernel
theorem dX9_sight_15 : decode cX9_sight 15 = .ok (.if_icmp .lt 17, 3) := by decide +kernel
theorem dX9_sight_18 : decode cX9_sight 18 = .ok (.iload_n 2, 1) := by decide +kernel
theorem dX9_sight_19 : decode cX9_sight 19 = .ok (.ifCond .ne 9, 3) := by decide +kernel
theorem dX9_sight_22 : decode cX9_sight 22 = .ok (.iload 4, 2) := by decide +kernel
theorem dX9_sight_24 : decode cX9_sight 24 = .ok (.iconst 1, 1) := by decide +kernel
theorem dX9_sight_25 : decode cX9_sight 25 = .ok (.if_icmp .gt 7, 3) := by decide +kernel
theorem dX9_sight_28 : decode cX9_sight 28 = .ok (.iconst 1, 1) := by decide +kernel
theorem dX9_sight_29 : decode cX9_sight 29 = .ok (.goto 4, 3) := by decide +kernel
theorem dX9_sight_32 : decode cX9_sight 32 = .ok (.iconst 0, 1) := by decide +kernel
theorem dX9_sight_33 : decode cX9_sight 33 = .ok (.ireturn, 1) := by decide +kernel
theorem dX9_can_0 : decode cX9_can 0 = .ok (.iload_n 1, 1) := by decide +kernel
theorem dX9_can_1 : decode cX9_can 1 = .ok (.i2l, 1) := by decide +kernel
theorem dX9_can_2 : decode cX9_can 2 = .ok (.lconst 0, 1) := by decide +kernel
theorem dX9_can_3 : decode cX9_can 3 = .ok (.ldc2_w 96, 3) := by decide +kernel
theorem dX9_can_6 : decode cX9_can 6 = .ok (.invokestatic 70, 3) := by decide +kernel
theorem dX9_can_9 : decode cX9_can 9 = .ok (.ifCond .eq 10, 3) := by decide +kernel
theorem dX9_can_12 : decode cX9_can 12 = .ok (.iload_n 2, 1) := by decide +kernel
theorem dX9_can_13 : decode cX9_can 13 = .ok (.invokestatic 83, 3) := by decide +kernel
theorem dX9_can_16 : decode cX9_can 16 = .ok (.ifCond .ne 5, 3) := by decide +kernel
theorem dX9_can_19 : decode cX9_can 19 = .ok (.iconst (-1), 1) := by decide +kernel
theorem dX9_can_20 : decode cX9_can 20 = .ok (.ireturn, 1) := by decide +kernel
theorem dX9_can_21 : decode cX9_can 21 = .ok (.aload_n 0, 1) := by decide +kernel
theorem dX9_can_22 : decode cX9_can 22 = .ok (.iload_n 1, 1) := by decide +kernel
theorem dX9_can_23 : decode cX9_can 23 = .ok (.iload_n 2, 1) := by decide +kernel
theorem dX9_can_24 : decode cX9_can 24 = .ok (.aload_n 0, 1) := by decide +kernel
theorem dX9_can_25 : decode cX9_can 25 = .ok (.getfield 64, 3) := by decide +kernel
theorem dX9_can_28 : decode cX9_can 28 = .ok (.invokevirtual 173, 3) := by decide +kernel
theorem dX9_can_31 : decode cX9_can 31 = .ok (.ifCond .eq 7, 3) := by decide +kernel
theorem dX9_can_34 : decode cX9_can 34 = .ok (.iconst 1, 1) := by decide +kernel
theorem dX9_can_35 : decode cX9_can 35 = .ok (.goto 4, 3) := by decide +kernel
theorem dX9_can_38 : decode cX9_can 38 = .ok (.iconst 0, 1) := by decide +kernel
theorem dX9_can_39 : decode cX9_can 39 = .ok (.ireturn, 1) := by decide +kernel
theorem dX9_oddsOf_0 : decode cX9_oddsOf 0 = .ok (.aload_n 0, 1) := by decide +kernel
theorem dX9_oddsOf_1 : decode cX9_oddsOf 1 = .ok (.getfield 28, 3) := by decide +kernel
theorem dX9_oddsOf_4 : decode cX9_oddsOf 4 = .ok (.iconst 3, 1) := by decide +kernel
theorem dX9_oddsOf_5 : decode cX9_oddsOf 5 = .ok (.iload_n 1, 1) := by decide +kernel
theorem dX9_oddsOf_6 : decode cX9_oddsOf 6 = .ok (.imul, 1) := by decide +kernel
theorem dX9_oddsOf_7 : decode cX9_oddsOf 7 = .ok (.iaload, 1) := by decide +kernel
theorem dX9_oddsOf_8 : decode cX9_oddsOf 8 = .ok (.istore 4, 2) := by decide +kernel
theorem dX9_oddsOf_10 : decode cX9_oddsOf 10 = .ok (.aload_n 0, 1) := by decide +kernel
theorem dX9_oddsOf_11 : decode cX9_oddsOf 11 = .ok (.getfield 13, 3) := by decide +kernel
theorem dX9_oddsOf_14 : decode cX9_oddsOf 14 = .ok (.iload_n 2, 1) := by decide +kernel
theorem dX9_oddsOf_15 : decode cX9_oddsOf 15 = .ok (.iaload, 1) := by decide +kernel
theorem dX9_oddsOf_16 : decode cX9_oddsOf 16 = .ok (.bipush 10, 2) := by decide +kernel
theorem dX9_oddsOf_18 : decode cX9_oddsOf 18 = .ok (.idiv, 1) := by decide +kernel
theorem dX9_oddsOf_19 : decode cX9_oddsOf 19 = .ok (.istore 5, 2) := by decide +kernel
theorem dX9_oddsOf_21 : decode cX9_oddsOf 21 = .ok (.aload_n 0, 1) := by decide +kernel
theorem dX9_oddsOf_22 : decode cX9_oddsOf 22 = .ok (.getfield 13, 3) := by decide +kernel
theorem dX9_oddsOf_25 : decode cX9_oddsOf 25 = .ok (.iload_n 2, 1) := by decide +kernel
theorem dX9_oddsOf_26 : decode cX9_oddsOf 26 = .ok (.iaload, 1) := by decide +kernel
theorem dX9_oddsOf_27 : decode cX9_oddsOf 27 = .ok (.bipush 10, 2) := by decide +kernel
theorem dX9_oddsOf_29 : decode cX9_oddsOf 29 = .ok (.irem, 1) := by decide +kernel
theorem dX9_oddsOf_30 : decode cX9_oddsOf 30 = .ok (.iload 4, 2) := by decide +kernel
theorem dX9_oddsOf_32 : decode cX9_oddsOf 32 = .ok (.iconst 4, 1) := by decide +kernel
theorem dX9_oddsOf_33 : decode cX9_oddsOf 33 = .ok (.idiv, 1) := by decide +kernel
theorem dX9_oddsOf_34 : decode cX9_oddsOf 34 = .ok (.isub, 1) := by decide +kernel
theorem dX9_oddsOf_35 : decode cX9_oddsOf 35 = .ok (.istore 6, 2) := by decide +kernel
theorem dX9_oddsOf_37 : decode cX9_oddsOf 37 = .ok (.iload 6, 2) := by decide +kernel
theorem dX9_oddsOf_39 : decode cX9_oddsOf 39 = .ok (.iconst 1, 1) := by decide +kernel
theorem dX9_oddsOf_40 : decode cX9_oddsOf 40 = .ok (.if_icmp .ge 7, 3) := by decide +kernel
theorem dX9_oddsOf_43 : decode cX9_oddsOf 43 = .ok (.iconst 1, 1) := by decide +kernel
theorem dX9_oddsOf_44 : decode cX9_oddsOf 44 = .ok (.goto 5, 3) := by decide +kernel
theorem dX9_oddsOf_47 : decode cX9_oddsOf 47 = .ok (.iload 6, 2) := by decide +kernel
theorem dX9_oddsOf_49 : decode cX9_oddsOf 49 = .ok (.istore 6, 2) := by decide +kernel
theorem dX9_oddsOf_51 : decode cX9_oddsOf 51 = .ok (.aload_n 0, 1) := by decide +kernel
theorem dX9_oddsOf_52 : decode cX9_oddsOf 52 = .ok (.iload_n 1, 1) := by decide +kernel
theorem dX9_oddsOf_53 : decode cX9_oddsOf 53 = .ok (.iload_n 2, 1) := by decide +kernel
theorem dX9_oddsOf_54 : decode cX9_oddsOf 54 = .ok (.invokevirtual 108, 3) := by decide +kernel
theorem dX9_oddsOf_57 : decode cX9_oddsOf 57 = .ok (.istore 7, 2) := by decide +kernel
theorem dX9_oddsOf_59 : decode cX9_oddsOf 59 = .ok (.lconst 0, 1) := by decide +kernel
theorem dX9_oddsOf_60 : decode cX9_oddsOf 60 = .ok (.lstore 8, 2) := by decide +kernel
theorem dX9_oddsOf_62 : decode cX9_oddsOf 62 = .ok (.iconst 0, 1) := by decide +kernel
theorem dX9_oddsOf_63 : decode cX9_oddsOf 63 = .ok (.istore 10, 2) := by decide +kernel
theorem dX9_oddsOf_65 : decode cX9_oddsOf 65 = .ok (.iload 10, 2) := by decide +kernel
theorem dX9_oddsOf_67 : decode cX9_oddsOf 67 = .ok (.iconst 4, 1) := by decide +kernel
theorem dX9_oddsOf_68 : decode cX9_oddsOf 68 = .ok (.if_icmp .ge 43, 3) := by decide +kernel
theorem dX9_oddsOf_71 : decode cX9_oddsOf 71 = .ok (.lload 8, 2) := by decide +kernel
theorem dX9_oddsOf_73 : decode cX9_oddsOf 73 = .ok (.aload_n 0, 1) := by decide +kernel
theorem dX9_oddsOf_74 : decode cX9_oddsOf 74 = .ok (.aload_n 0, 1) := by decide +kernel
theorem dX9_oddsOf_75 : decode cX9_oddsOf 75 = .ok (.getfield 28, 3) := by decide +kernel
theorem dX9_oddsOf_78 : decode cX9_oddsOf 78 = .ok (.iconst 3, 1) := by decide +kernel
theorem dX9_oddsOf_79 : decode cX9_oddsOf 79 = .ok (.iload_n 1, 1) := by decide +kernel
theorem dX9_oddsOf_80 : decode cX9_oddsOf 80 = .ok (.imul, 1) := by decide +kernel
theorem dX9_oddsOf_81 : decode cX9_oddsOf 81 = .ok (.iconst 1, 1) := by decide +kernel
theorem dX9_oddsOf_82 : decode cX9_oddsOf 82 = .ok (.iadd, 1) := by decide +kernel
theorem dX9_oddsOf_83 : decode cX9_oddsOf 83 = .ok (.iaload, 1) := by decide +kernel
theorem dX9_oddsOf_84 : decode cX9_oddsOf 84 = .ok (.aload_n 0, 1) := by decide +kernel
theorem dX9_oddsOf_85 : decode cX9_oddsOf 85 = .ok (.getfield 28, 3) := by decide +kernel
theorem dX9_oddsOf_88 : decode cX9_oddsOf 88 = .ok (.iconst 3, 1) := by decide +kernel
theorem dX9_oddsOf_89 : decode cX9_oddsOf 89 = .ok (.iload_n 1, 1) := by decide +kernel
theorem dX9_oddsOf_90 : decode cX9_oddsOf 90 = .ok (.imul, 1) := by decide +kernel
theorem dX9_oddsOf_91 : decode cX9_oddsOf 91 = .ok (.iconst 2, 1) := by decide +kernel
theorem dX9_oddsOf_92 : decode cX9_oddsOf 92 = .ok (.iadd, 1) := by decide +kernel
theorem dX9_oddsOf_93 : decode cX9_oddsOf 93 = .ok (.iaload, 1) := by decide +kernel
theorem dX9_oddsOf_94 : decode cX9_oddsOf 94 = .ok (.iload_n 2, 1) := by decide +kernel
theorem dX9_oddsOf_95 : decode cX9_oddsOf 95 = .ok (.iload 10, 2) := by decide +kernel
theorem dX9_oddsOf_97 : decode cX9_oddsOf 97 = .ok (.iload_n 3, 1) := by decide +kernel
theorem dX9_oddsOf_98 : decode cX9_oddsOf 98 = .ok (.invokevirtual 169, 3) := by decide +kernel
theorem dX9_oddsOf_101 : decode cX9_oddsOf 101 = .ok (.i2l, 1) := by decide +kernel
theorem dX9_oddsOf_102 : decode cX9_oddsOf 102 = .ok (.ladd, 1) := by decide +kernel
theorem dX9_oddsOf_103 : decode cX9_oddsOf 103 = .ok (.lstore 8, 2) := by decide +kernel
theorem dX9_oddsOf_105 : decode cX9_oddsOf 105 = .ok (.iinc 10 1, 3) := by decide +kernel
theorem dX9_oddsOf_108 : decode cX9_oddsOf 108 = .ok (.goto (-43), 3) := by decide +kernel
theorem dX9_oddsOf_111 : decode cX9_oddsOf 111 = .ok (.aload_n 0, 1) := by decide +kernel
theorem dX9_oddsOf_112 : decode cX9_oddsOf 112 = .ok (.aload_n 0, 1) := by decide +kernel
theorem dX9_oddsOf_113 : decode cX9_oddsOf 113 = .ok (.getfield 28, 3) := by decide +kernel
theorem dX9_oddsOf_116 : decode cX9_oddsOf 116 = .ok (.iconst 3, 1) := by decide +kernel
theorem dX9_oddsOf_117 : decode cX9_oddsOf 117 = .ok (.iload_n 1, 1) := by decide +kernel
theorem dX9_oddsOf_118 : decode cX9_oddsOf 118 = .ok (.imul, 1) := by decide +kernel
theorem dX9_oddsOf_119 : decode cX9_oddsOf 119 = .ok (.iconst 1, 1) := by decide +kernel
theorem dX9_oddsOf_120 : decode cX9_oddsOf 120 = .ok (.iadd, 1) := by decide +kernel
theorem dX9_oddsOf_121 : decode cX9_oddsOf 121 = .ok (.iaload, 1) := by decide +kernel
theorem dX9_oddsOf_122 : decode cX9_oddsOf 122 = .ok (.aload_n 0, 1) := by decide +kernel
theorem dX9_oddsOf_123 : decode cX9_oddsOf 123 = .ok (.getfield 28, 3) := by decide +kernel
theorem dX9_oddsOf_126 : decode cX9_oddsOf 126 = .ok (.iconst 3, 1) := by decide +kernel
theorem dX9_oddsOf_127 : decode cX9_oddsOf 127 = .ok (.iload_n 1, 1) := by decide +kernel
theorem dX9_oddsOf_128 : decode cX9_oddsOf 128 = .ok (.imul, 1) := by decide +kernel
theorem dX9_oddsOf_129 : decode cX9_oddsOf 129 = .ok (.iconst 2, 1) := by decide +kernel
theorem dX9_oddsOf_130 : decode cX9_oddsOf 130 = .ok (.iadd, 1) := by decide +kernel
theorem dX9_oddsOf_131 : decode cX9_oddsOf 131 = .ok (.iaload, 1) := by decide +kernel
theorem dX9_oddsOf_132 : decode cX9_oddsOf 132 = .ok (.iload_n 2, 1) := by decide +kernel
theorem dX9_oddsOf_133 : decode cX9_oddsOf 133 = .ok (.iload 5, 2) := by decide +kernel
theorem dX9_oddsOf_135 : decode cX9_oddsOf 135 = .ok (.iload_n 3, 1) := by decide +kernel
theorem dX9_oddsOf_136 : decode cX9_oddsOf 136 = .ok (.invokevirtual 169, 3) := by decide +kernel
theorem dX9_oddsOf_139 : decode cX9_oddsOf 139 = .ok (.i2l, 1) := by decide +kernel
theorem dX9_oddsOf_140 : decode cX9_oddsOf 140 = .ok (.lstore 10, 2) := by decide +kernel
theorem dX9_oddsOf_142 : decode cX9_oddsOf 142 = .ok (.aload_n 0, 1) := by decide +kernel
theorem dX9_oddsOf_143 : decode cX9_oddsOf 143 = .ok (.lload 10, 2) := by decide +kernel
theorem dX9_oddsOf_145 : decode cX9_oddsOf 145 = .ok (.iload 7, 2) := by decide +kernel
theorem dX9_oddsOf_147 : decode cX9_oddsOf 147 = .ok (.i2l, 1) := by decide +kernel
theorem dX9_oddsOf_148 : decode cX9_oddsOf 148 = .ok (.lmul, 1) := by decide +kernel
theorem dX9_oddsOf_149 : decode cX9_oddsOf 149 = .ok (.iload 6, 2) := by decide +kernel
theorem dX9_oddsOf_151 : decode cX9_oddsOf 151 = .ok (.i2l, 1) := by decide +kernel
theorem dX9_oddsOf_152 : decode cX9_oddsOf 152 = .ok (.lmul, 1) := by decide +kernel
theorem dX9_oddsOf_153 : decode cX9_oddsOf 153 = .ok (.iload 6, 2) := by decide +kernel
theorem dX9_oddsOf_155 : decode cX9_oddsOf 155 = .ok (.bipush 6, 2) := by decide +kernel
theorem dX9_oddsOf_157 : decode cX9_oddsOf 157 = .ok (.if_icmp .le 22, 3) := by decide +kernel
theorem dX9_oddsOf_160 : decode cX9_oddsOf 160 = .ok (.lload 8, 2) := by decide +kernel
theorem dX9_oddsOf_162 : decode cX9_oddsOf 162 = .ok (.lload 10, 2) := by decide +kernel
theorem dX9_oddsOf_164 : decode cX9_oddsOf 164 = .ok (.lsub, 1) := by decide +kernel
theorem dX9_oddsOf_165 : decode cX9_oddsOf 165 = .ok (.iload 7, 2) := by decide +kernel
theorem dX9_oddsOf_167 : decode cX9_oddsOf 167 = .ok (.i2l, 1) := by decide +kernel
theorem dX9_oddsOf_168 : decode cX9_oddsOf 168 = .ok (.lmul, 1) := by decide +kernel
theorem dX9_oddsOf_169 : decode cX9_oddsOf 169 = .ok (.iload 6, 2) := by decide +kernel
theorem dX9_oddsOf_171 : decode cX9_oddsOf 171 = .ok (.bipush 6, 2) := by decide +kernel
theorem dX9_oddsOf_173 : decode cX9_oddsOf 173 = .ok (.isub, 1) := by decide +kernel
theorem dX9_oddsOf_174 : decode cX9_oddsOf 174 = .ok (.i2l, 1) := by decide +kernel
theorem dX9_oddsOf_175 : decode cX9_oddsOf 175 = .ok (.lmul, 1) := by decide +kernel
theorem dX9_oddsOf_176 : decode cX9_oddsOf 176 = .ok (.goto 4, 3) := by decide +kernel
theorem dX9_oddsOf_179 : decode cX9_oddsOf 179 = .ok (.lconst 0, 1) := by decide +kernel
theorem dX9_oddsOf_180 : decode cX9_oddsOf 180 = .ok (.ladd, 1) := by decide +kernel
theorem dX9_oddsOf_181 : decode cX9_oddsOf 181 = .ok (.putfield 177, 3) := by decide +kernel
theorem dX9_oddsOf_184 : decode cX9_oddsOf 184 = .ok (.aload_n 0, 1) := by decide +kernel
theorem dX9_oddsOf_185 : decode cX9_oddsOf 185 = .ok (.aload_n 0, 1) := by decide +kernel
theorem dX9_oddsOf_186 : decode cX9_oddsOf 186 = .ok (.iload 4, 2) := by decide +kernel
theorem dX9_oddsOf_188 : decode cX9_oddsOf 188 = .ok (.iload 5, 2) := by decide +kernel
theorem dX9_oddsOf_190 : decode cX9_oddsOf 190 = .ok (.aload_n 0, 1) := by decide +kernel
theorem dX9_oddsOf_191 : decode cX9_oddsOf 191 = .ok (.getfield 64, 3) := by decide +kernel
theorem dX9_oddsOf_194 : decode cX9_oddsOf 194 = .ok (.invokevirtual 173, 3) := by decide +kernel
theorem dX9_oddsOf_197 : decode cX9_oddsOf 197 = .ok (.ifCond .eq 10, 3) := by decide +kernel
theorem dX9_oddsOf_200 : decode cX9_oddsOf 200 = .ok (.aload_n 0, 1) := by decide +kernel
theorem dX9_oddsOf_201 : decode cX9_oddsOf 201 = .ok (.getfield 177, 3) := by decide +kernel
theorem dX9_oddsOf_204 : decode cX9_oddsOf 204 = .ok (.goto 4, 3) := by decide +kernel
theorem dX9_oddsOf_207 : decode cX9_oddsOf 207 = .ok (.lconst 0, 1) := by decide +kernel
theorem dX9_oddsOf_208 : decode cX9_oddsOf 208 = .ok (.putfield 177, 3) := by decide +kernel
theorem dX9_oddsOf_211 : decode cX9_oddsOf 211 = .ok (.aload_n 0, 1) := by decide +kernel
theorem dX9_oddsOf_212 : decode cX9_oddsOf 212 = .ok (.ldc2_w 181, 3) := by decide +kernel
theorem dX9_oddsOf_215 : decode cX9_oddsOf 215 = .ok (.lload 8, 2) := by decide +kernel
theorem dX9_oddsOf_217 : decode cX9_oddsOf 217 = .ok (.lmul, 1) := by decide +kernel
theorem dX9_oddsOf_218 : decode cX9_oddsOf 218 = .ok (.putfield 183, 3) := by decide +kernel
theorem dX9_oddsOf_221 : decode cX9_oddsOf 221 = .ok (.return_, 1) := by decide +kernel
theorem dX9_odds_0 : decode cX9_odds 0 = .ok (.aload_n 0, 1) := by decide +kernel
theorem dX9_odds_1 : decode cX9_odds 1 = .ok (.iload_n 1, 1) := by decide +kernel
theorem dX9_odds_2 : decode cX9_odds 2 = .ok (.invokevirtual 105, 3) := by decide +kernel
theorem dX9_odds_5 : decode cX9_odds 5 = .ok (.ifCond .eq 33, 3) := by decide +kernel
theorem dX9_odds_8 : decode cX9_odds 8 = .ok (.iload_n 2, 1) := by decide +kernel
theorem dX9_odds_9 : decode cX9_odds 9 = .ok (.invokestatic 79, 3) := by decide +kernel
theorem dX9_odds_12 : decode cX9_odds 12 = .ok (.ifCond .eq 26, 3) := by decide +kernel
theorem dX9_odds_15 : decode cX9_odds 15 = .ok (.iload_n 3, 1) := by decide +kernel
theorem dX9_odds_16 : decode cX9_odds 16 = .ok (.i2l, 1) := by decide +kernel
theorem dX9_odds_17 : decode cX9_odds 17 = .ok (.lconst 1, 1) := by decide +kernel
theorem dX9_odds_18 : decode cX9_odds 18 = .ok (.ldc2_w 86, 3) := by decide +kernel
theorem dX9_odds_21 : decode cX9_odds 21 = .ok (.invokestatic 70, 3) := by decide +kernel
theorem dX9_odds_24 : decode cX9_odds 24 = .ok (.ifCond .eq 14, 3) := by decide +kernel
theorem dX9_odds_27 : decode cX9_odds 27 = .ok (.iload 4, 2) := by decide +kernel
theorem dX9_odds_29 : decode cX9_odds 29 = .ok (.i2l, 1) := by decide +kernel
theorem dX9_odds_30 : decode cX9_odds 30 = .ok (.lconst 0, 1) := by decide +kernel
theorem dX9_odds_31 : decode cX9_odds 31 = .ok (.lconst 1, 1) := by decide +kernel
theorem dX9_odds_32 : decode cX9_odds 32 = .ok (.invokestatic 70, 3) := by decide +kernel
theorem dX9_odds_35 : decode cX9_odds 35 = .ok (.ifCond .ne 5, 3) := by decide +kernel
theorem dX9_odds_38 : decode cX9_odds 38 = .ok (.iconst (-1), 1) := by decide +kernel
theorem dX9_odds_39 : decode cX9_odds 39 = .ok (.ireturn, 1) := by decide +kernel
theorem dX9_odds_40 : decode cX9_odds 40 = .ok (.aload_n 0, 1) := by decide +kernel
theorem dX9_odds_41 : decode cX9_odds 41 = .ok (.getfield 13, 3) := by decide +kernel
theorem dX9_odds_44 : decode cX9_odds 44 = .ok (.iload_n 2, 1) := by decide +kernel
theorem dX9_odds_45 : decode cX9_odds 45 = .ok (.iaload, 1) := by decide +kernel
theorem dX9_odds_46 : decode cX9_odds 46 = .ok (.ifCond .ne 6, 3) := by decide +kernel
theorem dX9_odds_49 : decode cX9_odds 49 = .ok (.bipush (-2), 2) := by decide +kernel
theorem dX9_odds_51 : decode cX9_odds 51 = .ok (.ireturn, 1) := by decide +kernel
theorem dX9_odds_52 : decode cX9_odds 52 = .ok (.aload_n 0, 1) := by decide +kernel
theorem dX9_odds_53 : decode cX9_odds 53 = .ok (.iload_n 1, 1) := by decide +kernel
theorem dX9_odds_54 : decode cX9_odds 54 = .ok (.iload_n 2, 1) := by decide +kernel
theorem dX9_odds_55 : decode cX9_odds 55 = .ok (.iload_n 3, 1) := by decide +kernel
theorem dX9_odds_56 : decode cX9_odds 56 = .ok (.invokevirtual 186, 3) := by decide +kernel
theorem dX9_odds_59 : decode cX9_odds 59 = .ok (.aload_n 0, 1) := by decide +kernel
theorem dX9_odds_60 : decode cX9_odds 60 = .ok (.getfield 177, 3) := by decide +kernel
theorem dX9_odds_63 : decode cX9_odds 63 = .ok (.lstore 5, 2) := by decide +kernel
theorem dX9_odds_65 : decode cX9_odds 65 = .ok (.aload_n 0, 1) := by decide +kernel
theorem dX9_odds_66 : decode cX9_odds 66 = .ok (.getfield 183, 3) := by decide +kernel
theorem dX9_odds_69 : decode cX9_odds 69 = .ok (.lstore 7, 2) := by decide +kernel
theorem dX9_odds_71 : decode cX9_odds 71 = .ok (.lload 7, 2) := by decide +kernel
theorem dX9_odds_73 : decode cX9_odds 73 = .ok (.lconst 0, 1) := by decide +kernel
theorem dX9_odds_74 : decode cX9_odds 74 = .ok (.lcmp, 1) := by decide +kernel
theorem dX9_odds_75 : decode cX9_odds 75 = .ok (.ifCond .eq 21, 3) := by decide +kernel
theorem dX9_odds_78 : decode cX9_odds 78 = .ok (.lload 5, 2) := by decide +kernel
theorem dX9_odds_80 : decode cX9_odds 80 = .ok (.lload 7, 2) := by decide +kernel
theorem dX9_odds_82 : decode cX9_odds 82 = .ok (.lrem, 1) := by decide +kernel
theorem dX9_odds_83 : decode cX9_odds 83 = .ok (.lstore 9, 2) := by decide +kernel
theorem dX9_odds_85 : decode cX9_odds 85 = .ok (.lload 7, 2) := by decide +kernel
theorem dX9_odds_87 : decode cX9_odds 87 = .ok (.lstore 5, 2) := by decide +kernel
theorem dX9_odds_89 : decode cX9_odds 89 = .ok (.lload 9, 2) := by decide +kernel
theorem dX9_odds_91 : decode cX9_odds 91 = .ok (.lstore 7, 2) := by decide +kernel
theorem dX9_odds_93 : decode cX9_odds 93 = .ok (.goto (-22), 3) := by decide +kernel
theorem dX9_odds_96 : decode cX9_odds 96 = .ok (.iload 4, 2) := by decide +kernel
theorem dX9_odds_98 : decode cX9_odds 98 = .ok (.ifCond .ne 10, 3) := by decide +kernel
theorem dX9_odds_101 : decode cX9_odds 101 = .ok (.aload_n 0, 1) := by decide +kernel
theorem dX9_odds_102 : decode cX9_odds 102 = .ok (.getfield 177, 3) := by decide +kernel
theorem dX9_odds_105 : decode cX9_odds 105 = .ok (.goto 7, 3) := by decide +kernel
theorem dX9_odds_108 : decode cX9_odds 108 = .ok (.aload_n 0, 1) := by decide +kernel
theorem dX9_odds_109 : decode cX9_odds 109 = .ok (.getfield 183, 3) := by decide +kernel
theorem dX9_odds_112 : decode cX9_odds 112 = .ok (.lload 5, 2) := by decide +kernel
theorem dX9_odds_114 : decode cX9_odds 114 = .ok (.ldiv, 1) := by decide +kernel
theorem dX9_odds_115 : decode cX9_odds 115 = .ok (.l2i, 1) := by decide +kernel
theorem dX9_odds_116 : decode cX9_odds 116 = .ok (.ireturn, 1) := by decide +kernel
theorem dX9_seesAt_0 : decode cX9_seesAt 0 = .ok (.iconst 0, 1) := by decide +kernel
theorem dX9_seesAt_1 : decode cX9_seesAt 1 = .ok (.istore_n 3, 1) := by decide +kernel
theorem dX9_seesAt_2 : decode cX9_seesAt 2 = .ok (.iconst 0, 1) := by decide +kernel
theorem dX9_seesAt_3 : decode cX9_seesAt 3 = .ok (.istore 4, 2) := by decide +kernel
theorem dX9_seesAt_5 : decode cX9_seesAt 5 = .ok (.iload 4, 2) := by decide +kernel
theorem dX9_seesAt_7 : decode cX9_seesAt 7 = .ok (.aload_n 0, 1) := by decide +kernel
theorem dX9_seesAt_8 : decode cX9_seesAt 8 = .ok (.getfield 76, 3) := by decide +kernel
theorem dX9_seesAt_11 : decode cX9_seesAt 11 = .ok (.if_icmp .ge 43, 3) := by decide +kernel
theorem dX9_seesAt_14 : decode cX9_seesAt 14 = .ok (.aload_n 0, 1) := by decide +kernel
theorem dX9_seesAt_15 : decode cX9_seesAt 15 = .ok (.getfield 13, 3) := by decide +kernel
theorem dX9_seesAt_18 : decode cX9_seesAt 18 = .ok (.iload_n 1, 1) := by decide +kernel
theorem dX9_seesAt_19 : decode cX9_seesAt 19 = .ok (.iaload, 1) := by decide +kernel
theorem dX9_seesAt_20 : decode cX9_seesAt 20 = .ok (.ifCond .le 34, 3) := by decide +kernel
theorem dX9_seesAt_23 : decode cX9_seesAt 23 = .ok (.aload_n 0, 1) := by decide +kernel
theorem dX9_seesAt_24 : decode cX9_seesAt 24 = .ok (.iload 4, 2) := by decide +kernel
theorem dX9_seesAt_26 : decode cX9_seesAt 26 = .ok (.iload_n 1, 1) := by decide +kernel
theorem dX9_seesAt_27 : decode cX9_seesAt 27 = .ok (.iload_n 2, 1) := by decide +kernel
theorem dX9_seesAt_28 : decode cX9_seesAt 28 = .ok (.invokevirtual 186, 3) := by decide +kernel
theorem dX9_seesAt_31 : decode cX9_seesAt 31 = .ok (.iload_n 3, 1) := by decide +kernel
theorem dX9_seesAt_32 : decode cX9_seesAt 32 = .ok (.aload_n 0, 1) := by decide +kernel
theorem dX9_seesAt_33 : decode cX9_seesAt 33 = .ok (.getfield 177, 3) := by decide +kernel
theorem dX9_seesAt_36 : decode cX9_seesAt 36 = .ok (.ldc2_w 190, 3) := by decide +kernel
theorem dX9_seesAt_39 : decode cX9_seesAt 39 = .ok (.lmul, 1) := by decide +kernel
theorem dX9_seesAt_40 : decode cX9_seesAt 40 = .ok (.aload_n 0, 1) := by decide +kernel
theorem dX9_seesAt_41 : decode cX9_seesAt 41 = .ok (.getfield 183, 3) := by decide +kernel
theorem dX9_seesAt_44 : decode cX9_seesAt 44 = .ok (.ldiv, 1) := by decide +kernel
theorem dX9_seesAt_45 : decode cX9_seesAt 45 = .ok (.l2i, 1) := by decide +kernel
theorem dX9_seesAt_46 : decode cX9_seesAt 46 = .ok (.iadd, 1) := by decide +kernel
theorem dX9_seesAt_47 : decode cX9_seesAt 47 = .ok (.istore_n 3, 1) := by decide +kernel
theorem dX9_seesAt_48 : decode cX9_seesAt 48 = .ok (.iinc 4 1, 3) := by decide +kernel
theorem dX9_seesAt_51 : decode cX9_seesAt 51 = .ok (.goto (-46), 3) := by decide +kernel
theorem dX9_seesAt_54 : decode cX9_seesAt 54 = .ok (.iload_n 3, 1) := by decide +kernel
theorem dX9_seesAt_55 : decode cX9_seesAt 55 = .ok (.ireturn, 1) := by decide +kernel
theorem dX9_seesAll_0 : decode cX9_seesAll 0 = .ok (.iconst 0, 1) := by decide +kernel
theorem dX9_seesAll_1 : decode cX9_seesAll 1 = .ok (.istore_n 2, 1) := by decide +kernel
theorem dX9_seesAll_2 : decode cX9_seesAll 2 = .ok (.iconst 0, 1) := by decide +kernel
theorem dX9_seesAll_3 : decode cX9_seesAll 3 = .ok (.istore_n 3, 1) := by decide +kernel
theorem dX9_seesAll_4 : decode cX9_seesAll 4 = .ok (.iload_n 3, 1) := by decide +kernel
theorem dX9_seesAll_5 : decode cX9_seesAll 5 = .ok (.bipush 16, 2) := by decide +kernel
theorem dX9_seesAll_7 : decode cX9_seesAll 7 = .ok (.if_icmp .ge 18, 3) := by decide +kernel
theorem dX9_seesAll_10 : decode cX9_seesAll 10 = .ok (.iload_n 2, 1) := by decide +kernel
theorem dX9_seesAll_11 : decode cX9_seesAll 11 = .ok (.aload_n 0, 1) := by decide +kernel
theorem dX9_seesAll_12 : decode cX9_seesAll 12 = .ok (.iload_n 3, 1) := by decide +kernel
theorem dX9_seesAll_13 : decode cX9_seesAll 13 = .ok (.iload_n 1, 1) := by decide +kernel
theorem dX9_seesAll_14 : decode cX9_seesAll 14 = .ok (.invokevirtual 192, 3) := by decide +kernel
theorem dX9_seesAll_17 : decode cX9_seesAll 17 = .ok (.iadd, 1) := by decide +kernel
theorem dX9_seesAll_18 : decode cX9_seesAll 18 = .ok (.istore_n 2, 1) := by decide +kernel
theorem dX9_seesAll_19 : decode cX9_seesAll 19 = .ok (.iinc 3 1, 3) := by decide +kernel
theorem dX9_seesAll_22 : decode cX9_seesAll 22 = .ok (.goto (-18), 3) := by decide +kernel
theorem dX9_seesAll_25 : decode cX9_seesAll 25 = .ok (.iload_n 2, 1) := by decide +kernel
theorem dX9_seesAll_26 : decode cX9_seesAll 26 = .ok (.ireturn, 1) := by decide +kernel
theorem dX9_sees_0 : decode cX9_sees 0 = .ok (.iload_n 1, 1) := by decide +kernel
theorem dX9_sees_1 : decode cX9_sees 1 = .ok (.i2l, 1) := by decide +kernel
theorem dX9_sees_2 : decode cX9_sees 2 = .ok (.ldc2_w 90, 3) := by decide +kernel
theorem dX9_sees_5 : decode cX9_sees 5 = .ok (.ldc2_w 68, 3) := by decide +kernel
theorem dX9_sees_8 : decode cX9_sees 8 = .ok (.invokestatic 70, 3) := by decide +kernel
theorem dX9_sees_11 : decode cX9_sees 11 = .ok (.ifCond .eq 15, 3) := by decide +kernel
theorem dX9_sees_14 : decode cX9_sees 14 = .ok (.iload_n 2, 1) := by decide +kernel
theorem dX9_sees_15 : decode cX9_sees 15 = .ok (.i2l, 1) := by decide +kernel
theorem dX9_sees_16 : decode cX9_sees 16 = .ok (.lconst 1, 1) := by decide +kernel
theorem dX9_sees_17 : decode cX9_sees 17 = .ok (.ldc2_w 86, 3) := by decide +kernel
theorem dX9_sees_20 : decode cX9_sees 20 = .ok (.invokestatic 70, 3) := by decide +kernel
theorem dX9_sees_23 : decode cX9_sees 23 = .ok (.ifCond .ne 5, 3) := by decide +kernel
theorem dX9_sees_26 : decode cX9_sees 26 = .ok (.iconst (-1), 1) := by decide +kernel
theorem dX9_sees_27 : decode cX9_sees 27 = .ok (.ireturn, 1) := by decide +kernel
theorem dX9_sees_28 : decode cX9_sees 28 = .ok (.iload_n 1, 1) := by decide +kernel
theorem dX9_sees_29 : decode cX9_sees 29 = .ok (.ifCond .ge 11, 3) := by decide +kernel
end
section
theorem dX9_sees_32 : decode cX9_sees 32 = .ok (.aload_n 0, 1) := by decide +kernel
theorem dX9_sees_33 : decode cX9_sees 33 = .ok (.iload_n 2, 1) := by decide +kernel
theorem dX9_sees_34 : decode cX9_sees 34 = .ok (.invokevirtual 195, 3) := by decide +kernel
theorem dX9_sees_37 : decode cX9_sees 37 = .ok (.goto 23, 3) := by decide +kernel
theorem dX9_sees_40 : decode cX9_sees 40 = .ok (.aload_n 0, 1) := by decide +kernel
theorem dX9_sees_41 : decode cX9_sees 41 = .ok (.getfield 13, 3) := by decide +kernel
theorem dX9_sees_44 : decode cX9_sees 44 = .ok (.iload_n 1, 1) := by decide +kernel
theorem dX9_sees_45 : decode cX9_sees 45 = .ok (.iaload, 1) := by decide +kernel
theorem dX9_sees_46 : decode cX9_sees 46 = .ok (.ifCond .ne 8, 3) := by decide +kernel
theorem dX9_sees_49 : decode cX9_sees 49 = .ok (.bipush (-2), 2) := by decide +kernel
theorem dX9_sees_51 : decode cX9_sees 51 = .ok (.goto 9, 3) := by decide +kernel
theorem dX9_sees_54 : decode cX9_sees 54 = .ok (.aload_n 0, 1) := by decide +kernel
theorem dX9_sees_55 : decode cX9_sees 55 = .ok (.iload_n 1, 1) := by decide +kernel
theorem dX9_sees_56 : decode cX9_sees 56 = .ok (.iload_n 2, 1) := by decide +kernel
theorem dX9_sees_57 : decode cX9_sees 57 = .ok (.invokevirtual 192, 3) := by decide +kernel
theorem dX9_sees_60 : decode cX9_sees 60 = .ok (.ireturn, 1) := by decide +kernel
theorem dX9_quiet_0 : decode cX9_quiet 0 = .ok (.iload_n 1, 1) := by decide +kernel
theorem dX9_quiet_1 : decode cX9_quiet 1 = .ok (.invokestatic 79, 3) := by decide +kernel
theorem dX9_quiet_4 : decode cX9_quiet 4 = .ok (.ifCond .eq 13, 3) := by decide +kernel
theorem dX9_quiet_7 : decode cX9_quiet 7 = .ok (.iload_n 2, 1) := by decide +kernel
theorem dX9_quiet_8 : decode cX9_quiet 8 = .ok (.i2l, 1) := by decide +kernel
theorem dX9_quiet_9 : decode cX9_quiet 9 = .ok (.lconst 0, 1) := by decide +kernel
theorem dX9_quiet_10 : decode cX9_quiet 10 = .ok (.lconst 1, 1) := by decide +kernel
theorem dX9_quiet_11 : decode cX9_quiet 11 = .ok (.invokestatic 70, 3) := by decide +kernel
theorem dX9_quiet_14 : decode cX9_quiet 14 = .ok (.ifCond .ne 5, 3) := by decide +kernel
theorem dX9_quiet_17 : decode cX9_quiet 17 = .ok (.iconst (-1), 1) := by decide +kernel
theorem dX9_quiet_18 : decode cX9_quiet 18 = .ok (.ireturn, 1) := by decide +kernel
theorem dX9_quiet_19 : decode cX9_quiet 19 = .ok (.aload_n 0, 1) := by decide +kernel
theorem dX9_quiet_20 : decode cX9_quiet 20 = .ok (.getfield 13, 3) := by decide +kernel
theorem dX9_quiet_23 : decode cX9_quiet 23 = .ok (.iload_n 1, 1) := by decide +kernel
theorem dX9_quiet_24 : decode cX9_quiet 24 = .ok (.iaload, 1) := by decide +kernel
theorem dX9_quiet_25 : decode cX9_quiet 25 = .ok (.istore_n 3, 1) := by decide +kernel
theorem dX9_quiet_26 : decode cX9_quiet 26 = .ok (.iload_n 3, 1) := by decide +kernel
theorem dX9_quiet_27 : decode cX9_quiet 27 = .ok (.ifCond .ne 6, 3) := by decide +kernel
theorem dX9_quiet_30 : decode cX9_quiet 30 = .ok (.bipush (-2), 2) := by decide +kernel
theorem dX9_quiet_32 : decode cX9_quiet 32 = .ok (.ireturn, 1) := by decide +kernel
theorem dX9_quiet_33 : decode cX9_quiet 33 = .ok (.bipush (-4), 2) := by decide +kernel
theorem dX9_quiet_35 : decode cX9_quiet 35 = .ok (.istore 4, 2) := by decide +kernel
theorem dX9_quiet_37 : decode cX9_quiet 37 = .ok (.iconst 0, 1) := by decide +kernel
theorem dX9_quiet_38 : decode cX9_quiet 38 = .ok (.istore 5, 2) := by decide +kernel
theorem dX9_quiet_40 : decode cX9_quiet 40 = .ok (.aload_n 0, 1) := by decide +kernel
theorem dX9_quiet_41 : decode cX9_quiet 41 = .ok (.getfield 13, 3) := by decide +kernel
theorem dX9_quiet_44 : decode cX9_quiet 44 = .ok (.iload_n 1, 1) := by decide +kernel
theorem dX9_quiet_45 : decode cX9_quiet 45 = .ok (.iconst 0, 1) := by decide +kernel
theorem dX9_quiet_46 : decode cX9_quiet 46 = .ok (.iastore, 1) := by decide +kernel
theorem dX9_quiet_47 : decode cX9_quiet 47 = .ok (.iconst 0, 1) := by decide +kernel
theorem dX9_quiet_48 : decode cX9_quiet 48 = .ok (.istore 6, 2) := by decide +kernel
theorem dX9_quiet_50 : decode cX9_quiet 50 = .ok (.iload 6, 2) := by decide +kernel
theorem dX9_quiet_52 : decode cX9_quiet 52 = .ok (.bipush 16, 2) := by decide +kernel
theorem dX9_quiet_54 : decode cX9_quiet 54 = .ok (.if_icmp .ge 91, 3) := by decide +kernel
theorem dX9_quiet_57 : decode cX9_quiet 57 = .ok (.aload_n 0, 1) := by decide +kernel
theorem dX9_quiet_58 : decode cX9_quiet 58 = .ok (.getfield 13, 3) := by decide +kernel
theorem dX9_quiet_61 : decode cX9_quiet 61 = .ok (.iload 6, 2) := by decide +kernel
theorem dX9_quiet_63 : decode cX9_quiet 63 = .ok (.iaload, 1) := by decide +kernel
theorem dX9_quiet_64 : decode cX9_quiet 64 = .ok (.ifCond .ne 75, 3) := by decide +kernel
theorem dX9_quiet_67 : decode cX9_quiet 67 = .ok (.aload_n 0, 1) := by decide +kernel
theorem dX9_quiet_68 : decode cX9_quiet 68 = .ok (.getfield 13, 3) := by decide +kernel
theorem dX9_quiet_71 : decode cX9_quiet 71 = .ok (.iload 6, 2) := by decide +kernel
theorem dX9_quiet_73 : decode cX9_quiet 73 = .ok (.iload_n 3, 1) := by decide +kernel
theorem dX9_quiet_74 : decode cX9_quiet 74 = .ok (.iastore, 1) := by decide +kernel
theorem dX9_quiet_75 : decode cX9_quiet 75 = .ok (.aload_n 0, 1) := by decide +kernel
theorem dX9_quiet_76 : decode cX9_quiet 76 = .ok (.iload 6, 2) := by decide +kernel
theorem dX9_quiet_78 : decode cX9_quiet 78 = .ok (.iconst 1, 1) := by decide +kernel
theorem dX9_quiet_79 : decode cX9_quiet 79 = .ok (.invokevirtual 192, 3) := by decide +kernel
theorem dX9_quiet_82 : decode cX9_quiet 82 = .ok (.istore 7, 2) := by decide +kernel
theorem dX9_quiet_84 : decode cX9_quiet 84 = .ok (.aload_n 0, 1) := by decide +kernel
theorem dX9_quiet_85 : decode cX9_quiet 85 = .ok (.getfield 13, 3) := by decide +kernel
theorem dX9_quiet_88 : decode cX9_quiet 88 = .ok (.iload 6, 2) := by decide +kernel
theorem dX9_quiet_90 : decode cX9_quiet 90 = .ok (.iconst 0, 1) := by decide +kernel
theorem dX9_quiet_91 : decode cX9_quiet 91 = .ok (.iastore, 1) := by decide +kernel
theorem dX9_quiet_92 : decode cX9_quiet 92 = .ok (.iload 4, 2) := by decide +kernel
theorem dX9_quiet_94 : decode cX9_quiet 94 = .ok (.ifCond .lt 10, 3) := by decide +kernel
theorem dX9_quiet_97 : decode cX9_quiet 97 = .ok (.iload 7, 2) := by decide +kernel
theorem dX9_quiet_99 : decode cX9_quiet 99 = .ok (.iload 5, 2) := by decide +kernel
theorem dX9_quiet_101 : decode cX9_quiet 101 = .ok (.if_icmp .ge 7, 3) := by decide +kernel
theorem dX9_quiet_104 : decode cX9_quiet 104 = .ok (.iconst 1, 1) := by decide +kernel
theorem dX9_quiet_105 : decode cX9_quiet 105 = .ok (.goto 4, 3) := by decide +kernel
theorem dX9_quiet_108 : decode cX9_quiet 108 = .ok (.iconst 0, 1) := by decide +kernel
theorem dX9_quiet_109 : decode cX9_quiet 109 = .ok (.istore 8, 2) := by decide +kernel
theorem dX9_quiet_111 : decode cX9_quiet 111 = .ok (.iload 8, 2) := by decide +kernel
theorem dX9_quiet_113 : decode cX9_quiet 113 = .ok (.ifCond .eq 8, 3) := by decide +kernel
theorem dX9_quiet_116 : decode cX9_quiet 116 = .ok (.iload 6, 2) := by decide +kernel
theorem dX9_quiet_118 : decode cX9_quiet 118 = .ok (.goto 5, 3) := by decide +kernel
theorem dX9_quiet_121 : decode cX9_quiet 121 = .ok (.iload 4, 2) := by decide +kernel
theorem dX9_quiet_123 : decode cX9_quiet 123 = .ok (.istore 4, 2) := by decide +kernel
theorem dX9_quiet_125 : decode cX9_quiet 125 = .ok (.iload 8, 2) := by decide +kernel
theorem dX9_quiet_127 : decode cX9_quiet 127 = .ok (.ifCond .eq 8, 3) := by decide +kernel
theorem dX9_quiet_130 : decode cX9_quiet 130 = .ok (.iload 7, 2) := by decide +kernel
theorem dX9_quiet_132 : decode cX9_quiet 132 = .ok (.goto 5, 3) := by decide +kernel
theorem dX9_quiet_135 : decode cX9_quiet 135 = .ok (.iload 5, 2) := by decide +kernel
theorem dX9_quiet_137 : decode cX9_quiet 137 = .ok (.istore 5, 2) := by decide +kernel
theorem dX9_quiet_139 : decode cX9_quiet 139 = .ok (.iinc 6 1, 3) := by decide +kernel
theorem dX9_quiet_142 : decode cX9_quiet 142 = .ok (.goto (-92), 3) := by decide +kernel
theorem dX9_quiet_145 : decode cX9_quiet 145 = .ok (.aload_n 0, 1) := by decide +kernel
theorem dX9_quiet_146 : decode cX9_quiet 146 = .ok (.getfield 13, 3) := by decide +kernel
theorem dX9_quiet_149 : decode cX9_quiet 149 = .ok (.iload_n 1, 1) := by decide +kernel
theorem dX9_quiet_150 : decode cX9_quiet 150 = .ok (.iload_n 3, 1) := by decide +kernel
theorem dX9_quiet_151 : decode cX9_quiet 151 = .ok (.iastore, 1) := by decide +kernel
theorem dX9_quiet_152 : decode cX9_quiet 152 = .ok (.iload_n 2, 1) := by decide +kernel
theorem dX9_quiet_153 : decode cX9_quiet 153 = .ok (.ifCond .ne 8, 3) := by decide +kernel
theorem dX9_quiet_156 : decode cX9_quiet 156 = .ok (.iload 4, 2) := by decide +kernel
theorem dX9_quiet_158 : decode cX9_quiet 158 = .ok (.goto 5, 3) := by decide +kernel
theorem dX9_quiet_161 : decode cX9_quiet 161 = .ok (.iload 5, 2) := by decide +kernel
theorem dX9_quiet_163 : decode cX9_quiet 163 = .ok (.ireturn, 1) := by decide +kernel
theorem dX9_cover_0 : decode cX9_cover 0 = .ok (.iload_n 1, 1) := by decide +kernel
theorem dX9_cover_1 : decode cX9_cover 1 = .ok (.invokestatic 79, 3) := by decide +kernel
theorem dX9_cover_4 : decode cX9_cover 4 = .ok (.ifCond .eq 44, 3) := by decide +kernel
theorem dX9_cover_7 : decode cX9_cover 7 = .ok (.iload_n 2, 1) := by decide +kernel
theorem dX9_cover_8 : decode cX9_cover 8 = .ok (.i2l, 1) := by decide +kernel
theorem dX9_cover_9 : decode cX9_cover 9 = .ok (.lconst 0, 1) := by decide +kernel
theorem dX9_cover_10 : decode cX9_cover 10 = .ok (.ldc2_w 74, 3) := by decide +kernel
theorem dX9_cover_13 : decode cX9_cover 13 = .ok (.invokestatic 70, 3) := by decide +kernel
theorem dX9_cover_16 : decode cX9_cover 16 = .ok (.ifCond .eq 32, 3) := by decide +kernel
theorem dX9_cover_19 : decode cX9_cover 19 = .ok (.iload_n 3, 1) := by decide +kernel
theorem dX9_cover_20 : decode cX9_cover 20 = .ok (.invokestatic 83, 3) := by decide +kernel
theorem dX9_cover_23 : decode cX9_cover 23 = .ok (.ifCond .eq 25, 3) := by decide +kernel
theorem dX9_cover_26 : decode cX9_cover 26 = .ok (.iload_n 2, 1) := by decide +kernel
theorem dX9_cover_27 : decode cX9_cover 27 = .ok (.iconst 3, 1) := by decide +kernel
theorem dX9_cover_28 : decode cX9_cover 28 = .ok (.if_icmp .ne 7, 3) := by decide +kernel
theorem dX9_cover_31 : decode cX9_cover 31 = .ok (.iload_n 3, 1) := by decide +kernel
theorem dX9_cover_32 : decode cX9_cover 32 = .ok (.ifCond .gt 16, 3) := by decide +kernel
theorem dX9_cover_35 : decode cX9_cover 35 = .ok (.iload 4, 2) := by decide +kernel
theorem dX9_cover_37 : decode cX9_cover 37 = .ok (.i2l, 1) := by decide +kernel
theorem dX9_cover_38 : decode cX9_cover 38 = .ok (.lconst 0, 1) := by decide +kernel
theorem dX9_cover_39 : decode cX9_cover 39 = .ok (.ldc2_w 198, 3) := by decide +kernel
theorem dX9_cover_42 : decode cX9_cover 42 = .ok (.invokestatic 70, 3) := by decide +kernel
theorem dX9_cover_45 : decode cX9_cover 45 = .ok (.ifCond .ne 5, 3) := by decide +kernel
theorem dX9_cover_48 : decode cX9_cover 48 = .ok (.iconst (-1), 1) := by decide +kernel
theorem dX9_cover_49 : decode cX9_cover 49 = .ok (.ireturn, 1) := by decide +kernel
theorem dX9_cover_50 : decode cX9_cover 50 = .ok (.aload_n 0, 1) := by decide +kernel
theorem dX9_cover_51 : decode cX9_cover 51 = .ok (.getfield 163, 3) := by decide +kernel
theorem dX9_cover_54 : decode cX9_cover 54 = .ok (.bipush 8, 2) := by decide +kernel
theorem dX9_cover_56 : decode cX9_cover 56 = .ok (.if_icmp .ne 6, 3) := by decide +kernel
theorem dX9_cover_59 : decode cX9_cover 59 = .ok (.bipush (-3), 2) := by decide +kernel
theorem dX9_cover_61 : decode cX9_cover 61 = .ok (.ireturn, 1) := by decide +kernel
theorem dX9_cover_62 : decode cX9_cover 62 = .ok (.aload_n 0, 1) := by decide +kernel
theorem dX9_cover_63 : decode cX9_cover 63 = .ok (.getfield 37, 3) := by decide +kernel
theorem dX9_cover_66 : decode cX9_cover 66 = .ok (.iconst 4, 1) := by decide +kernel
theorem dX9_cover_67 : decode cX9_cover 67 = .ok (.aload_n 0, 1) := by decide +kernel
theorem dX9_cover_68 : decode cX9_cover 68 = .ok (.getfield 163, 3) := by decide +kernel
theorem dX9_cover_71 : decode cX9_cover 71 = .ok (.imul, 1) := by decide +kernel
theorem dX9_cover_72 : decode cX9_cover 72 = .ok (.iload_n 1, 1) := by decide +kernel
theorem dX9_cover_73 : decode cX9_cover 73 = .ok (.iastore, 1) := by decide +kernel
theorem dX9_cover_74 : decode cX9_cover 74 = .ok (.aload_n 0, 1) := by decide +kernel
theorem dX9_cover_75 : decode cX9_cover 75 = .ok (.getfield 37, 3) := by decide +kernel
theorem dX9_cover_78 : decode cX9_cover 78 = .ok (.iconst 4, 1) := by decide +kernel
theorem dX9_cover_79 : decode cX9_cover 79 = .ok (.aload_n 0, 1) := by decide +kernel
theorem dX9_cover_80 : decode cX9_cover 80 = .ok (.getfield 163, 3) := by decide +kernel
theorem dX9_cover_83 : decode cX9_cover 83 = .ok (.imul, 1) := by decide +kernel
theorem dX9_cover_84 : decode cX9_cover 84 = .ok (.iconst 1, 1) := by decide +kernel
theorem dX9_cover_85 : decode cX9_cover 85 = .ok (.iadd, 1) := by decide +kernel
theorem dX9_cover_86 : decode cX9_cover 86 = .ok (.iload_n 2, 1) := by decide +kernel
theorem dX9_cover_87 : decode cX9_cover 87 = .ok (.iastore, 1) := by decide +kernel
theorem dX9_cover_88 : decode cX9_cover 88 = .ok (.aload_n 0, 1) := by decide +kernel
theorem dX9_cover_89 : decode cX9_cover 89 = .ok (.getfield 37, 3) := by decide +kernel
theorem dX9_cover_92 : decode cX9_cover 92 = .ok (.iconst 4, 1) := by decide +kernel
theorem dX9_cover_93 : decode cX9_cover 93 = .ok (.aload_n 0, 1) := by decide +kernel
theorem dX9_cover_94 : decode cX9_cover 94 = .ok (.getfield 163, 3) := by decide +kernel
theorem dX9_cover_97 : decode cX9_cover 97 = .ok (.imul, 1) := by decide +kernel
theorem dX9_cover_98 : decode cX9_cover 98 = .ok (.iconst 2, 1) := by decide +kernel
theorem dX9_cover_99 : decode cX9_cover 99 = .ok (.iadd, 1) := by decide +kernel
theorem dX9_cover_100 : decode cX9_cover 100 = .ok (.iload_n 3, 1) := by decide +kernel
theorem dX9_cover_101 : decode cX9_cover 101 = .ok (.iastore, 1) := by decide +kernel
theorem dX9_cover_102 : decode cX9_cover 102 = .ok (.aload_n 0, 1) := by decide +kernel
theorem dX9_cover_103 : decode cX9_cover 103 = .ok (.getfield 37, 3) := by decide +kernel
theorem dX9_cover_106 : decode cX9_cover 106 = .ok (.iconst 4, 1) := by decide +kernel
theorem dX9_cover_107 : decode cX9_cover 107 = .ok (.aload_n 0, 1) := by decide +kernel
theorem dX9_cover_108 : decode cX9_cover 108 = .ok (.getfield 163, 3) := by decide +kernel
theorem dX9_cover_111 : decode cX9_cover 111 = .ok (.imul, 1) := by decide +kernel
theorem dX9_cover_112 : decode cX9_cover 112 = .ok (.iconst 3, 1) := by decide +kernel
theorem dX9_cover_113 : decode cX9_cover 113 = .ok (.iadd, 1) := by decide +kernel
theorem dX9_cover_114 : decode cX9_cover 114 = .ok (.iload 4, 2) := by decide +kernel
theorem dX9_cover_116 : decode cX9_cover 116 = .ok (.iastore, 1) := by decide +kernel
theorem dX9_cover_117 : decode cX9_cover 117 = .ok (.aload_n 0, 1) := by decide +kernel
theorem dX9_cover_118 : decode cX9_cover 118 = .ok (.dup, 1) := by decide +kernel
theorem dX9_cover_119 : decode cX9_cover 119 = .ok (.getfield 163, 3) := by decide +kernel
theorem dX9_cover_122 : decode cX9_cover 122 = .ok (.iconst 1, 1) := by decide +kernel
theorem dX9_cover_123 : decode cX9_cover 123 = .ok (.iadd, 1) := by decide +kernel
theorem dX9_cover_124 : decode cX9_cover 124 = .ok (.putfield 163, 3) := by decide +kernel
theorem dX9_cover_127 : decode cX9_cover 127 = .ok (.aload_n 0, 1) := by decide +kernel
theorem dX9_cover_128 : decode cX9_cover 128 = .ok (.getfield 163, 3) := by decide +kernel
theorem dX9_cover_131 : decode cX9_cover 131 = .ok (.iconst 1, 1) := by decide +kernel
theorem dX9_cover_132 : decode cX9_cover 132 = .ok (.isub, 1) := by decide +kernel
theorem dX9_cover_133 : decode cX9_cover 133 = .ok (.ireturn, 1) := by decide +kernel
theorem dX9_seesWith_0 : decode cX9_seesWith 0 = .ok (.iconst 0, 1) := by decide +kernel
theorem dX9_seesWith_1 : decode cX9_seesWith 1 = .ok (.istore_n 2, 1) := by decide +kernel
theorem dX9_seesWith_2 : decode cX9_seesWith 2 = .ok (.iload_n 2, 1) := by decide +kernel
theorem dX9_seesWith_3 : decode cX9_seesWith 3 = .ok (.bipush 16, 2) := by decide +kernel
theorem dX9_seesWith_5 : decode cX9_seesWith 5 = .ok (.if_icmp .ge 66, 3) := by decide +kernel
theorem dX9_seesWith_8 : decode cX9_seesWith 8 = .ok (.aload_n 0, 1) := by decide +kernel
theorem dX9_seesWith_9 : decode cX9_seesWith 9 = .ok (.getfield 40, 3) := by decide +kernel
theorem dX9_seesWith_12 : decode cX9_seesWith 12 = .ok (.iload_n 2, 1) := by decide +kernel
theorem dX9_seesWith_13 : decode cX9_seesWith 13 = .ok (.aload_n 0, 1) := by decide +kernel
theorem dX9_seesWith_14 : decode cX9_seesWith 14 = .ok (.getfield 7, 3) := by decide +kernel
theorem dX9_seesWith_17 : decode cX9_seesWith 17 = .ok (.iload_n 2, 1) := by decide +kernel
theorem dX9_seesWith_18 : decode cX9_seesWith 18 = .ok (.iaload, 1) := by decide +kernel
theorem dX9_seesWith_19 : decode cX9_seesWith 19 = .ok (.iastore, 1) := by decide +kernel
theorem dX9_seesWith_20 : decode cX9_seesWith 20 = .ok (.aload_n 0, 1) := by decide +kernel
theorem dX9_seesWith_21 : decode cX9_seesWith 21 = .ok (.getfield 40, 3) := by decide +kernel
theorem dX9_seesWith_24 : decode cX9_seesWith 24 = .ok (.bipush 16, 2) := by decide +kernel
theorem dX9_seesWith_26 : decode cX9_seesWith 26 = .ok (.iload_n 2, 1) := by decide +kernel
theorem dX9_seesWith_27 : decode cX9_seesWith 27 = .ok (.iadd, 1) := by decide +kernel
theorem dX9_seesWith_28 : decode cX9_seesWith 28 = .ok (.aload_n 0, 1) := by decide +kernel
theorem dX9_seesWith_29 : decode cX9_seesWith 29 = .ok (.getfield 16, 3) := by decide +kernel
theorem dX9_seesWith_32 : decode cX9_seesWith 32 = .ok (.iload_n 2, 1) := by decide +kernel
theorem dX9_seesWith_33 : decode cX9_seesWith 33 = .ok (.iaload, 1) := by decide +kernel
theorem dX9_seesWith_34 : decode cX9_seesWith 34 = .ok (.iastore, 1) := by decide +kernel
theorem dX9_seesWith_35 : decode cX9_seesWith 35 = .ok (.aload_n 0, 1) := by decide +kernel
theorem dX9_seesWith_36 : decode cX9_seesWith 36 = .ok (.getfield 40, 3) := by decide +kernel
theorem dX9_seesWith_39 : decode cX9_seesWith 39 = .ok (.bipush 32, 2) := by decide +kernel
theorem dX9_seesWith_41 : decode cX9_seesWith 41 = .ok (.iload_n 2, 1) := by decide +kernel
theorem dX9_seesWith_42 : decode cX9_seesWith 42 = .ok (.iadd, 1) := by decide +kernel
theorem dX9_seesWith_43 : decode cX9_seesWith 43 = .ok (.aload_n 0, 1) := by decide +kernel
theorem dX9_seesWith_44 : decode cX9_seesWith 44 = .ok (.getfield 19, 3) := by decide +kernel
theorem dX9_seesWith_47 : decode cX9_seesWith 47 = .ok (.iload_n 2, 1) := by decide +kernel
theorem dX9_seesWith_48 : decode cX9_seesWith 48 = .ok (.iaload, 1) := by decide +kernel
theorem dX9_seesWith_49 : decode cX9_seesWith 49 = .ok (.iastore, 1) := by decide +kernel
theorem dX9_seesWith_50 : decode cX9_seesWith 50 = .ok (.aload_n 0, 1) := by decide +kernel
theorem dX9_seesWith_51 : decode cX9_seesWith 51 = .ok (.getfield 40, 3) := by decide +kernel
theorem dX9_seesWith_54 : decode cX9_seesWith 54 = .ok (.bipush 48, 2) := by decide +kernel
theorem dX9_seesWith_56 : decode cX9_seesWith 56 = .ok (.iload_n 2, 1) := by decide +kernel
theorem dX9_seesWith_57 : decode cX9_seesWith 57 = .ok (.iadd, 1) := by decide +kernel
theorem dX9_seesWith_58 : decode cX9_seesWith 58 = .ok (.aload_n 0, 1) := by decide +kernel
theorem dX9_seesWith_59 : decode cX9_seesWith 59 = .ok (.getfield 22, 3) := by decide +kernel
theorem dX9_seesWith_62 : decode cX9_seesWith 62 = .ok (.iload_n 2, 1) := by decide +kernel
theorem dX9_seesWith_63 : decode cX9_seesWith 63 = .ok (.iaload, 1) := by decide +kernel
theorem dX9_seesWith_64 : decode cX9_seesWith 64 = .ok (.iastore, 1) := by decide +kernel
theorem dX9_seesWith_65 : decode cX9_seesWith 65 = .ok (.iinc 2 1, 3) := by decide +kernel
theorem dX9_seesWith_68 : decode cX9_seesWith 68 = .ok (.goto (-66), 3) := by decide +kernel
theorem dX9_seesWith_71 : decode cX9_seesWith 71 = .ok (.iconst 0, 1) := by decide +kernel
theorem dX9_seesWith_72 : decode cX9_seesWith 72 = .ok (.istore_n 2, 1) := by decide +kernel
theorem dX9_seesWith_73 : decode cX9_seesWith 73 = .ok (.iload_n 2, 1) := by decide +kernel
theorem dX9_seesWith_74 : decode cX9_seesWith 74 = .ok (.aload_n 0, 1) := by decide +kernel
theorem dX9_seesWith_75 : decode cX9_seesWith 75 = .ok (.getfield 163, 3) := by decide +kernel
theorem dX9_seesWith_78 : decode cX9_seesWith 78 = .ok (.if_icmp .ge 152, 3) := by decide +kernel
theorem dX9_seesWith_81 : decode cX9_seesWith 81 = .ok (.aload_n 0, 1) := by decide +kernel
theorem dX9_seesWith_82 : decode cX9_seesWith 82 = .ok (.getfield 37, 3) := by decide +kernel
theorem dX9_seesWith_85 : decode cX9_seesWith 85 = .ok (.iconst 4, 1) := by decide +kernel
theorem dX9_seesWith_86 : decode cX9_seesWith 86 = .ok (.iload_n 2, 1) := by decide +kernel
theorem dX9_seesWith_87 : decode cX9_seesWith 87 = .ok (.imul, 1) := by decide +kernel
theorem dX9_seesWith_88 : decode cX9_seesWith 88 = .ok (.iaload, 1) := by decide +kernel
theorem dX9_seesWith_89 : decode cX9_seesWith 89 = .ok (.istore_n 3, 1) := by decide +kernel
theorem dX9_seesWith_90 : decode cX9_seesWith 90 = .ok (.iload_n 1, 1) := by decide +kernel
theorem dX9_seesWith_91 : decode cX9_seesWith 91 = .ok (.iload_n 2, 1) := by decide +kernel
theorem dX9_seesWith_92 : decode cX9_seesWith 92 = .ok (.ishr, 1) := by decide +kernel
theorem dX9_seesWith_93 : decode cX9_seesWith 93 = .ok (.iconst 1, 1) := by decide +kernel
theorem dX9_seesWith_94 : decode cX9_seesWith 94 = .ok (.iand, 1) := by decide +kernel
theorem dX9_seesWith_95 : decode cX9_seesWith 95 = .ok (.iconst 1, 1) := by decide +kernel
theorem dX9_seesWith_96 : decode cX9_seesWith 96 = .ok (.if_icmp .ne 16, 3) := by decide +kernel
theorem dX9_seesWith_99 : decode cX9_seesWith 99 = .ok (.aload_n 0, 1) := by decide +kernel
theorem dX9_seesWith_100 : decode cX9_seesWith 100 = .ok (.getfield 37, 3) := by decide +kernel
theorem dX9_seesWith_103 : decode cX9_seesWith 103 = .ok (.iconst 4, 1) := by decide +kernel
theorem dX9_seesWith_104 : decode cX9_seesWith 104 = .ok (.iload_n 2, 1) := by decide +kernel
theorem dX9_seesWith_105 : decode cX9_seesWith 105 = .ok (.imul, 1) := by decide +kernel
theorem dX9_seesWith_106 : decode cX9_seesWith 106 = .ok (.iconst 1, 1) := by decide +kernel
theorem dX9_seesWith_107 : decode cX9_seesWith 107 = .ok (.iadd, 1) := by decide +kernel
theorem dX9_seesWith_108 : decode cX9_seesWith 108 = .ok (.iaload, 1) := by decide +kernel
theorem dX9_seesWith_109 : decode cX9_seesWith 109 = .ok (.goto 5, 3) := by decide +kernel
theorem dX9_seesWith_112 : decode cX9_seesWith 112 = .ok (.bipush (-4), 2) := by decide +kernel
theorem dX9_seesWith_114 : decode cX9_seesWith 114 = .ok (.istore 4, 2) := by decide +kernel
theorem dX9_seesWith_116 : decode cX9_seesWith 116 = .ok (.aload_n 0, 1) := by decide +kernel
theorem dX9_seesWith_117 : decode cX9_seesWith 117 = .ok (.getfield 37, 3) := by decide +kernel
theorem dX9_seesWith_120 : decode cX9_seesWith 120 = .ok (.iconst 4, 1) := by decide +kernel
theorem dX9_seesWith_121 : decode cX9_seesWith 121 = .ok (.iload_n 2, 1) := by decide +kernel
theorem dX9_seesWith_122 : decode cX9_seesWith 122 = .ok (.imul, 1) := by decide +kernel
theorem dX9_seesWith_123 : decode cX9_seesWith 123 = .ok (.iconst 2, 1) := by decide +kernel
theorem dX9_seesWith_124 : decode cX9_seesWith 124 = .ok (.iadd, 1) := by decide +kernel
theorem dX9_seesWith_125 : decode cX9_seesWith 125 = .ok (.iaload, 1) := by decide +kernel
theorem dX9_seesWith_126 : decode cX9_seesWith 126 = .ok (.istore 5, 2) := by decide +kernel
theorem dX9_seesWith_128 : decode cX9_seesWith 128 = .ok (.aload_n 0, 1) := by decide +kernel
theorem dX9_seesWith_129 : decode cX9_seesWith 129 = .ok (.getfield 7, 3) := by decide +kernel
theorem dX9_seesWith_132 : decode cX9_seesWith 132 = .ok (.iload_n 3, 1) := by decide +kernel
theorem dX9_seesWith_133 : decode cX9_seesWith 133 = .ok (.iload 4, 2) := by decide +kernel
theorem dX9_seesWith_135 : decode cX9_seesWith 135 = .ok (.ifCond .ne 14, 3) := by decide +kernel
theorem dX9_seesWith_138 : decode cX9_seesWith 138 = .ok (.bipush 10, 2) := by decide +kernel
theorem dX9_seesWith_140 : decode cX9_seesWith 140 = .ok (.iload 5, 2) := by decide +kernel
theorem dX9_seesWith_142 : decode cX9_seesWith 142 = .ok (.imul, 1) := by decide +kernel
theorem dX9_seesWith_143 : decode cX9_seesWith 143 = .ok (.bipush 6, 2) := by decide +kernel
theorem dX9_seesWith_145 : decode cX9_seesWith 145 = .ok (.iadd, 1) := by decide +kernel
theorem dX9_seesWith_146 : decode cX9_seesWith 146 = .ok (.goto 9, 3) := by decide +kernel
theorem dX9_seesWith_149 : decode cX9_seesWith 149 = .ok (.aload_n 0, 1) := by decide +kernel
theorem dX9_seesWith_150 : decode cX9_seesWith 150 = .ok (.getfield 7, 3) := by decide +kernel
theorem dX9_seesWith_153 : decode cX9_seesWith 153 = .ok (.iload_n 3, 1) := by decide +kernel
theorem dX9_seesWith_154 : decode cX9_seesWith 154 = .ok (.iaload, 1) := by decide +kernel
theorem dX9_seesWith_155 : decode cX9_seesWith 155 = .ok (.iastore, 1) := by decide +kernel
theorem dX9_seesWith_156 : decode cX9_seesWith 156 = .ok (.aload_n 0, 1) := by decide +kernel
theorem dX9_seesWith_157 : decode cX9_seesWith 157 = .ok (.getfield 16, 3) := by decide +kernel
theorem dX9_seesWith_160 : decode cX9_seesWith 160 = .ok (.iload_n 3, 1) := by decide +kernel
theorem dX9_seesWith_161 : decode cX9_seesWith 161 = .ok (.iload 4, 2) := by decide +kernel
theorem dX9_seesWith_163 : decode cX9_seesWith 163 = .ok (.iconst 1, 1) := by decide +kernel
theorem dX9_seesWith_164 : decode cX9_seesWith 164 = .ok (.if_icmp .ne 8, 3) := by decide +kernel
theorem dX9_seesWith_167 : decode cX9_seesWith 167 = .ok (.iload 5, 2) := by decide +kernel
theorem dX9_seesWith_169 : decode cX9_seesWith 169 = .ok (.goto 9, 3) := by decide +kernel
theorem dX9_seesWith_172 : decode cX9_seesWith 172 = .ok (.aload_n 0, 1) := by decide +kernel
theorem dX9_seesWith_173 : decode cX9_seesWith 173 = .ok (.getfield 16, 3) := by decide +kernel
theorem dX9_seesWith_176 : decode cX9_seesWith 176 = .ok (.iload_n 3, 1) := by decide +kernel
theorem dX9_seesWith_177 : decode cX9_seesWith 177 = .ok (.iaload, 1) := by decide +kernel
theorem dX9_seesWith_178 : decode cX9_seesWith 178 = .ok (.iastore, 1) := by decide +kernel
theorem dX9_seesWith_179 : decode cX9_seesWith 179 = .ok (.aload_n 0, 1) := by decide +kernel
theorem dX9_seesWith_180 : decode cX9_seesWith 180 = .ok (.getfield 19, 3) := by decide +kernel
theorem dX9_seesWith_183 : decode cX9_seesWith 183 = .ok (.iload_n 3, 1) := by decide +kernel
theorem dX9_seesWith_184 : decode cX9_seesWith 184 = .ok (.iload 4, 2) := by decide +kernel
theorem dX9_seesWith_186 : decode cX9_seesWith 186 = .ok (.iconst 2, 1) := by decide +kernel
theorem dX9_seesWith_187 : decode cX9_seesWith 187 = .ok (.if_icmp .ne 8, 3) := by decide +kernel
theorem dX9_seesWith_190 : decode cX9_seesWith 190 = .ok (.iload 5, 2) := by decide +kernel
theorem dX9_seesWith_192 : decode cX9_seesWith 192 = .ok (.goto 9, 3) := by decide +kernel
theorem dX9_seesWith_195 : decode cX9_seesWith 195 = .ok (.aload_n 0, 1) := by decide +kernel
theorem dX9_seesWith_196 : decode cX9_seesWith 196 = .ok (.getfield 19, 3) := by decide +kernel
theorem dX9_seesWith_199 : decode cX9_seesWith 199 = .ok (.iload_n 3, 1) := by decide +kernel
theorem dX9_seesWith_200 : decode cX9_seesWith 200 = .ok (.iaload, 1) := by decide +kernel
theorem dX9_seesWith_201 : decode cX9_seesWith 201 = .ok (.iastore, 1) := by decide +kernel
theorem dX9_seesWith_202 : decode cX9_seesWith 202 = .ok (.aload_n 0, 1) := by decide +kernel
theorem dX9_seesWith_203 : decode cX9_seesWith 203 = .ok (.getfield 22, 3) := by decide +kernel
theorem dX9_seesWith_206 : decode cX9_seesWith 206 = .ok (.iload_n 3, 1) := by decide +kernel
theorem dX9_seesWith_207 : decode cX9_seesWith 207 = .ok (.iload 4, 2) := by decide +kernel
theorem dX9_seesWith_209 : decode cX9_seesWith 209 = .ok (.iconst 3, 1) := by decide +kernel
theorem dX9_seesWith_210 : decode cX9_seesWith 210 = .ok (.if_icmp .ne 7, 3) := by decide +kernel
theorem dX9_seesWith_213 : decode cX9_seesWith 213 = .ok (.iconst 1, 1) := by decide +kernel
theorem dX9_seesWith_214 : decode cX9_seesWith 214 = .ok (.goto 9, 3) := by decide +kernel
theorem dX9_seesWith_217 : decode cX9_seesWith 217 = .ok (.aload_n 0, 1) := by decide +kernel
theorem dX9_seesWith_218 : decode cX9_seesWith 218 = .ok (.getfield 22, 3) := by decide +kernel
theorem dX9_seesWith_221 : decode cX9_seesWith 221 = .ok (.iload_n 3, 1) := by decide +kernel
theorem dX9_seesWith_222 : decode cX9_seesWith 222 = .ok (.iaload, 1) := by decide +kernel
theorem dX9_seesWith_223 : decode cX9_seesWith 223 = .ok (.iastore, 1) := by decide +kernel
theorem dX9_seesWith_224 : decode cX9_seesWith 224 = .ok (.iinc 2 1, 3) := by decide +kernel
theorem dX9_seesWith_227 : decode cX9_seesWith 227 = .ok (.goto (-154), 3) := by decide +kernel
theorem dX9_seesWith_230 : decode cX9_seesWith 230 = .ok (.aload_n 0, 1) := by decide +kernel
theorem dX9_seesWith_231 : decode cX9_seesWith 231 = .ok (.iconst 1, 1) := by decide +kernel
theorem dX9_seesWith_232 : decode cX9_seesWith 232 = .ok (.invokevirtual 195, 3) := by decide +kernel
theorem dX9_seesWith_235 : decode cX9_seesWith 235 = .ok (.istore_n 2, 1) := by decide +kernel
theorem dX9_seesWith_236 : decode cX9_seesWith 236 = .ok (.iconst 0, 1) := by decide +kernel
theorem dX9_seesWith_237 : decode cX9_seesWith 237 = .ok (.istore_n 3, 1) := by decide +kernel
theorem dX9_seesWith_238 : decode cX9_seesWith 238 = .ok (.iload_n 3, 1) := by decide +kernel
theorem dX9_seesWith_239 : decode cX9_seesWith 239 = .ok (.bipush 16, 2) := by decide +kernel
theorem dX9_seesWith_241 : decode cX9_seesWith 241 = .ok (.if_icmp .ge 66, 3) := by decide +kernel
theorem dX9_seesWith_244 : decode cX9_seesWith 244 = .ok (.aload_n 0, 1) := by decide +kernel
theorem dX9_seesWith_245 : decode cX9_seesWith 245 = .ok (.getfield 7, 3) := by decide +kernel
theorem dX9_seesWith_248 : decode cX9_seesWith 248 = .ok (.iload_n 3, 1) := by decide +kernel
theorem dX9_seesWith_249 : decode cX9_seesWith 249 = .ok (.aload_n 0, 1) := by decide +kernel
theorem dX9_seesWith_250 : decode cX9_seesWith 250 = .ok (.getfield 40, 3) := by decide +kernel
theorem dX9_seesWith_253 : decode cX9_seesWith 253 = .ok (.iload_n 3, 1) := by decide +kernel
theorem dX9_seesWith_254 : decode cX9_seesWith 254 = .ok (.iaload, 1) := by decide +kernel
theorem dX9_seesWith_255 : decode cX9_seesWith 255 = .ok (.iastore, 1) := by decide +kernel
theorem dX9_seesWith_256 : decode cX9_seesWith 256 = .ok (.aload_n 0, 1) := by decide +kernel
theorem dX9_seesWith_257 : decode cX9_seesWith 257 = .ok (.getfield 16, 3) := by decide +kernel
theorem dX9_seesWith_260 : decode cX9_seesWith 260 = .ok (.iload_n 3, 1) := by decide +kernel
theorem dX9_seesWith_261 : decode cX9_seesWith 261 = .ok (.aload_n 0, 1) := by decide +kernel
theorem dX9_seesWith_262 : decode cX9_seesWith 262 = .ok (.getfield 40, 3) := by decide +kernel
theorem dX9_seesWith_265 : decode cX9_seesWith 265 = .ok (.bipush 16, 2) := by decide +kernel
theorem dX9_seesWith_267 : decode cX9_seesWith 267 = .ok (.iload_n 3, 1) := by decide +kernel
theorem dX9_seesWith_268 : decode cX9_seesWith 268 = .ok (.iadd, 1) := by decide +kernel
theorem dX9_seesWith_269 : decode cX9_seesWith 269 = .ok (.iaload, 1) := by decide +kernel
theorem dX9_seesWith_270 : decode cX9_seesWith 270 = .ok (.iastore, 1) := by decide +kernel
theorem dX9_seesWith_271 : decode cX9_seesWith 271 = .ok (.aload_n 0, 1) := by decide +kernel
theorem dX9_seesWith_272 : decode cX9_seesWith 272 = .ok (.getfield 19, 3) := by decide +kernel
theorem dX9_seesWith_275 : decode cX9_seesWith 275 = .ok (.iload_n 3, 1) := by decide +kernel
theorem dX9_seesWith_276 : decode cX9_seesWith 276 = .ok (.aload_n 0, 1) := by decide +kernel
theorem dX9_seesWith_277 : decode cX9_seesWith 277 = .ok (.getfield 40, 3) := by decide +kernel
theorem dX9_seesWith_280 : decode cX9_seesWith 280 = .ok (.bipush 32, 2) := by decide +kernel
theorem dX9_seesWith_282 : decode cX9_seesWith 282 = .ok (.iload_n 3, 1) := by decide +kernel
theorem dX9_seesWith_283 : decode cX9_seesWith 283 = .ok (.iadd, 1) := by decide +kernel
theorem dX9_seesWith_284 : decode cX9_seesWith 284 = .ok (.iaload, 1) := by decide +kernel
theorem dX9_seesWith_285 : decode cX9_seesWith 285 = .ok (.iastore, 1) := by decide +kernel
theorem dX9_seesWith_286 : decode cX9_seesWith 286 = .ok (.aload_n 0, 1) := by decide +kernel
theorem dX9_seesWith_287 : decode cX9_seesWith 287 = .ok (.getfield 22, 3) := by decide +kernel
theorem dX9_seesWith_290 : decode cX9_seesWith 290 = .ok (.iload_n 3, 1) := by decide +kernel
theorem dX9_seesWith_291 : decode cX9_seesWith 291 = .ok (.aload_n 0, 1) := by decide +kernel
theorem dX9_seesWith_292 : decode cX9_seesWith 292 = .ok (.getfield 40, 3) := by decide +kernel
theorem dX9_seesWith_295 : decode cX9_seesWith 295 = .ok (.bipush 48, 2) := by decide +kernel
theorem dX9_seesWith_297 : decode cX9_seesWith 297 = .ok (.iload_n 3, 1) := by decide +kernel
theorem dX9_seesWith_298 : decode cX9_seesWith 298 = .ok (.iadd, 1) := by decide +kernel
theorem dX9_seesWith_299 : decode cX9_seesWith 299 = .ok (.iaload, 1) := by decide +kernel
theorem dX9_seesWith_300 : decode cX9_seesWith 300 = .ok (.iastore, 1) := by decide +kernel
theorem dX9_seesWith_301 : decode cX9_seesWith 301 = .ok (.iinc 3 1, 3) := by decide +kernel
theorem dX9_seesWith_304 : decode cX9_seesWith 304 = .ok (.goto (-66), 3) := by decide +kernel
theorem dX9_seesWith_307 : decode cX9_seesWith 307 = .ok (.iload_n 2, 1) := by decide +kernel
theorem dX9_seesWith_308 : decode cX9_seesWith 308 = .ok (.ireturn, 1) := by decide +kernel
theorem dX9_does_0 : decode cX9_does 0 = .ok (.iload_n 1, 1) := by decide +kernel
theorem dX9_does_1 : decode cX9_does 1 = .ok (.i2l, 1) := by decide +kernel
theorem dX9_does_2 : decode cX9_does 2 = .ok (.lconst 0, 1) := by decide +kernel
theorem dX9_does_3 : decode cX9_does 3 = .ok (.aload_n 0, 1) := by decide +kernel
theorem dX9_does_4 : decode cX9_does 4 = .ok (.getfield 163, 3) := by decide +kernel
theorem dX9_does_7 : decode cX9_does 7 = .ok (.iconst 1, 1) := by decide +kernel
theorem dX9_does_8 : decode cX9_does 8 = .ok (.isub, 1) := by decide +kernel
theorem dX9_does_9 : decode cX9_does 9 = .ok (.i2l, 1) := by decide +kernel
theorem dX9_does_10 : decode cX9_does 10 = .ok (.invokestatic 70, 3) := by decide +kernel
theorem dX9_does_13 : decode cX9_does 13 = .ok (.ifCond .eq 13, 3) := by decide +kernel
theorem dX9_does_16 : decode cX9_does 16 = .ok (.iload_n 2, 1) := by decide +kernel
theorem dX9_does_17 : decode cX9_does 17 = .ok (.i2l, 1) := by decide +kernel
theorem dX9_does_18 : decode cX9_does 18 = .ok (.lconst 0, 1) := by decide +kernel
theorem dX9_does_19 : decode cX9_does 19 = .ok (.lconst 1, 1) := by decide +kernel
theorem dX9_does_20 : decode cX9_does 20 = .ok (.invokestatic 70, 3) := by decide +kernel
theorem dX9_does_23 : decode cX9_does 23 = .ok (.ifCond .ne 6, 3) := by decide +kernel
theorem dX9_does_26 : decode cX9_does 26 = .ok (.ldc 200, 2) := by decide +kernel
theorem dX9_does_28 : decode cX9_does 28 = .ok (.ireturn, 1) := by decide +kernel
theorem dX9_does_29 : decode cX9_does 29 = .ok (.iconst 1, 1) := by decide +kernel
theorem dX9_does_30 : decode cX9_does 30 = .ok (.aload_n 0, 1) := by decide +kernel
theorem dX9_does_31 : decode cX9_does 31 = .ok (.getfield 163, 3) := by decide +kernel
theorem dX9_does_34 : decode cX9_does 34 = .ok (.ishl, 1) := by decide +kernel
theorem dX9_does_35 : decode cX9_does 35 = .ok (.iconst 1, 1) := by decide +kernel
theorem dX9_does_36 : decode cX9_does 36 = .ok (.isub, 1) := by decide +kernel
theorem dX9_does_37 : decode cX9_does 37 = .ok (.istore_n 3, 1) := by decide +kernel
theorem dX9_does_38 : decode cX9_does 38 = .ok (.iconst 1, 1) := by decide +kernel
theorem dX9_does_39 : decode cX9_does 39 = .ok (.iload_n 1, 1) := by decide +kernel
theorem dX9_does_40 : decode cX9_does 40 = .ok (.ishl, 1) := by decide +kernel
theorem dX9_does_41 : decode cX9_does 41 = .ok (.istore 4, 2) := by decide +kernel
theorem dX9_does_43 : decode cX9_does 43 = .ok (.iload_n 2, 1) := by decide +kernel
theorem dX9_does_44 : decode cX9_does 44 = .ok (.ifCond .ne 18, 3) := by decide +kernel
theorem dX9_does_47 : decode cX9_does 47 = .ok (.aload_n 0, 1) := by decide +kernel
theorem dX9_does_48 : decode cX9_does 48 = .ok (.iconst 0, 1) := by decide +kernel
theorem dX9_does_49 : decode cX9_does 49 = .ok (.invokevirtual 201, 3) := by decide +kernel
theorem dX9_does_52 : decode cX9_does 52 = .ok (.aload_n 0, 1) := by decide +kernel
theorem dX9_does_53 : decode cX9_does 53 = .ok (.iload 4, 2) := by decide +kernel
theorem dX9_does_55 : decode cX9_does 55 = .ok (.invokevirtual 201, 3) := by decide +kernel
theorem dX9_does_58 : decode cX9_does 58 = .ok (.isub, 1) := by decide +kernel
theorem dX9_does_59 : decode cX9_does 59 = .ok (.goto 19, 3) := by decide +kernel
theorem dX9_does_62 : decode cX9_does 62 = .ok (.aload_n 0, 1) := by decide +kernel
theorem dX9_does_63 : decode cX9_does 63 = .ok (.iload_n 3, 1) := by decide +kernel
theorem dX9_does_64 : decode cX9_does 64 = .ok (.iload 4, 2) := by decide +kernel
theorem dX9_does_66 : decode cX9_does 66 = .ok (.iconst (-1), 1) := by decide +kernel
theorem dX9_does_67 : decode cX9_does 67 = .ok (.ixor, 1) := by decide +kernel
theorem dX9_does_68 : decode cX9_does 68 = .ok (.iand, 1) := by decide +kernel
theorem dX9_does_69 : decode cX9_does 69 = .ok (.invokevirtual 201, 3) := by decide +kernel
theorem dX9_does_72 : decode cX9_does 72 = .ok (.aload_n 0, 1) := by decide +kernel
theorem dX9_does_73 : decode cX9_does 73 = .ok (.iload_n 3, 1) := by decide +kernel
theorem dX9_does_74 : decode cX9_does 74 = .ok (.invokevirtual 201, 3) := by decide +kernel
theorem dX9_does_77 : decode cX9_does 77 = .ok (.isub, 1) := by decide +kernel
theorem dX9_does_78 : decode cX9_does 78 = .ok (.ireturn, 1) := by decide +kernel
theorem dX9_bought_0 : decode cX9_bought 0 = .ok (.iload_n 1, 1) := by decide +kernel
theorem dX9_bought_1 : decode cX9_bought 1 = .ok (.i2l, 1) := by decide +kernel
theorem dX9_bought_2 : decode cX9_bought 2 = .ok (.lconst 0, 1) := by decide +kernel
theorem dX9_bought_3 : decode cX9_bought 3 = .ok (.ldc2_w 204, 3) := by decide +kernel
theorem dX9_bought_6 : decode cX9_bought 6 = .ok (.invokestatic 70, 3) := by decide +kernel
theorem dX9_bought_9 : decode cX9_bought 9 = .ok (.ifCond .eq 15, 3) := by decide +kernel
theorem dX9_bought_12 : decode cX9_bought 12 = .ok (.iload_n 2, 1) := by decide +kernel
theorem dX9_bought_13 : decode cX9_bought 13 = .ok (.i2l, 1) := by decide +kernel
theorem dX9_bought_14 : decode cX9_bought 14 = .ok (.lconst 0, 1) := by decide +kernel
theorem dX9_bought_15 : decode cX9_bought 15 = .ok (.ldc2_w 88, 3) := by decide +kernel
theorem dX9_bought_18 : decode cX9_bought 18 = .ok (.invokestatic 70, 3) := by decide +kernel
theorem dX9_bought_21 : decode cX9_bought 21 = .ok (.ifCond .ne 5, 3) := by decide +kernel
theorem dX9_bought_24 : decode cX9_bought 24 = .ok (.iconst (-1), 1) := by decide +kernel
theorem dX9_bought_25 : decode cX9_bought 25 = .ok (.ireturn, 1) := by decide +kernel
theorem dX9_bought_26 : decode cX9_bought 26 = .ok (.iconst 0, 1) := by decide +kernel
theorem dX9_bought_27 : decode cX9_bought 27 = .ok (.istore_n 3, 1) := by decide +kernel
theorem dX9_bought_28 : decode cX9_bought 28 = .ok (.iconst 0, 1) := by decide +kernel
theorem dX9_bought_29 : decode cX9_bought 29 = .ok (.istore 4, 2) := by decide +kernel
theorem dX9_bought_31 : decode cX9_bought 31 = .ok (.iconst 0, 1) := by decide +kernel
theorem dX9_bought_32 : decode cX9_bought 32 = .ok (.istore 5, 2) := by decide +kernel
theorem dX9_bought_34 : decode cX9_bought 34 = .ok (.iconst 0, 1) := by decide +kernel
theorem dX9_bought_35 : decode cX9_bought 35 = .ok (.istore 6, 2) := by decide +kernel
theorem dX9_bought_37 : decode cX9_bought 37 = .ok (.iload 6, 2) := by decide +kernel
theorem dX9_bought_39 : decode cX9_bought 39 = .ok (.iconst 1, 1) := by decide +kernel
theorem dX9_bought_40 : decode cX9_bought 40 = .ok (.aload_n 0, 1) := by decide +kernel
theorem dX9_bought_41 : decode cX9_bought 41 = .ok (.getfield 163, 3) := by decide +kernel
theorem dX9_bought_44 : decode cX9_bought 44 = .ok (.ishl, 1) := by decide +kernel
theorem dX9_bought_45 : decode cX9_bought 45 = .ok (.if_icmp .ge 122, 3) := by decide +kernel
theorem dX9_bought_48 : decode cX9_bought 48 = .ok (.iconst 0, 1) := by decide +kernel
theorem dX9_bought_49 : decode cX9_bought 49 = .ok (.istore 7, 2) := by decide +kernel
theorem dX9_bought_51 : decode cX9_bought 51 = .ok (.iconst 0, 1) := by decide +kernel
theorem dX9_bought_52 : decode cX9_bought 52 = .ok (.istore 8, 2) := by decide +kernel
theorem dX9_bought_54 : decode cX9_bought 54 = .ok (.iload 8, 2) := by decide +kernel
theorem dX9_bought_56 : decode cX9_bought 56 = .ok (.aload_n 0, 1) := by decide +kernel
theorem dX9_bought_57 : decode cX9_bought 57 = .ok (.getfield 163, 3) := by decide +kernel
theorem dX9_bought_60 : decode cX9_bought 60 = .ok (.if_icmp .ge 40, 3) := by decide +kernel
theorem dX9_bought_63 : decode cX9_bought 63 = .ok (.iload 7, 2) := by decide +kernel
theorem dX9_bought_65 : decode cX9_bought 65 = .ok (.iload 6, 2) := by decide +kernel
theorem dX9_bought_67 : decode cX9_bought 67 = .ok (.iload 8, 2) := by decide +kernel
theorem dX9_bought_69 : decode cX9_bought 69 = .ok (.ishr, 1) := by decide +kernel
theorem dX9_bought_70 : decode cX9_bought 70 = .ok (.iconst 1, 1) := by decide +kernel
theorem dX9_bought_71 : decode cX9_bought 71 = .ok (.iand, 1) := by decide +kernel
theorem dX9_bought_72 : decode cX9_bought 72 = .ok (.iconst 1, 1) := by decide +kernel
theorem dX9_bought_73 : decode cX9_bought 73 = .ok (.if_icmp .ne 17, 3) := by decide +kernel
theorem dX9_bought_76 : decode cX9_bought 76 = .ok (.aload_n 0, 1) := by decide +kernel
theorem dX9_bought_77 : decode cX9_bought 77 = .ok (.getfield 37, 3) := by decide +kernel
theorem dX9_bought_80 : decode cX9_bought 80 = .ok (.iconst 4, 1) := by decide +kernel
theorem dX9_bought_81 : decode cX9_bought 81 = .ok (.iload 8, 2) := by decide +kernel
theorem dX9_bought_83 : decode cX9_bought 83 = .ok (.imul, 1) := by decide +kernel
theorem dX9_bought_84 : decode cX9_bought 84 = .ok (.iconst 3, 1) := by decide +kernel
theorem dX9_bought_85 : decode cX9_bought 85 = .ok (.iadd, 1) := by decide +kernel
theorem dX9_bought_86 : decode cX9_bought 86 = .ok (.iaload, 1) := by decide +kernel
theorem dX9_bought_87 : decode cX9_bought 87 = .ok (.goto 4, 3) := by decide +kernel
theorem dX9_bought_90 : decode cX9_bought 90 = .ok (.iconst 0, 1) := by decide +kernel
theorem dX9_bought_91 : decode cX9_bought 91 = .ok (.iadd, 1) := by decide +kernel
theorem dX9_bought_92 : decode cX9_bought 92 = .ok (.istore 7, 2) := by decide +kernel
theorem dX9_bought_94 : decode cX9_bought 94 = .ok (.iinc 8 1, 3) := by decide +kernel
theorem dX9_bought_97 : decode cX9_bought 97 = .ok (.goto (-43), 3) := by decide +kernel
theorem dX9_bought_100 : decode cX9_bought 100 = .ok (.iload 7, 2) := by decide +kernel
theorem dX9_bought_102 : decode cX9_bought 102 = .ok (.iload_n 1, 1) := by decide +kernel
theorem dX9_bought_103 : decode cX9_bought 103 = .ok (.if_icmp .le 7, 3) := by decide +kernel
theorem dX9_bought_106 : decode cX9_bought 106 = .ok (.iconst 0, 1) := by decide +kernel
theorem dX9_bought_107 : decode cX9_bought 107 = .ok (.goto 9, 3) := by decide +kernel
theorem dX9_bought_110 : decode cX9_bought 110 = .ok (.aload_n 0, 1) := by decide +kernel
theorem dX9_bought_111 : decode cX9_bought 111 = .ok (.iload 6, 2) := by decide +kernel
theorem dX9_bought_113 : decode cX9_bought 113 = .ok (.invokevirtual 201, 3) := by decide +kernel
theorem dX9_bought_116 : decode cX9_bought 116 = .ok (.istore 8, 2) := by decide +kernel
theorem dX9_bought_118 : decode cX9_bought 118 = .ok (.iload 7, 2) := by decide +kernel
theorem dX9_bought_120 : decode cX9_bought 120 = .ok (.iload_n 1, 1) := by decide +kernel
theorem dX9_bought_121 : decode cX9_bought 121 = .ok (.if_icmp .gt 40, 3) := by decide +kernel
theorem dX9_bought_124 : decode cX9_bought 124 = .ok (.iload 6, 2) := by decide +kernel
theorem dX9_bought_126 : decode cX9_bought 126 = .ok (.ifCond .eq 24, 3) := by decide +kernel
theorem dX9_bought_129 : decode cX9_bought 129 = .ok (.iload 8, 2) := by decide +kernel
theorem dX9_bought_131 : decode cX9_bought 131 = .ok (.iload 4, 2) := by decide +kernel
theorem dX9_bought_133 : decode cX9_bought 133 = .ok (.if_icmp .lt 17, 3) := by decide +kernel
theorem dX9_bought_136 : decode cX9_bought 136 = .ok (.iload 8, 2) := by decide +kernel
theorem dX9_bought_138 : decode cX9_bought 138 = .ok (.iload 4, 2) := by decide +kernel
theorem dX9_bought_140 : decode cX9_bought 140 = .ok (.if_icmp .ne 21, 3) := by decide +kernel
theorem dX9_bought_143 : decode cX9_bought 143 = .ok (.iload 7, 2) := by decide +kernel
theorem dX9_bought_145 : decode cX9_bought 145 = .ok (.iload 5, 2) := by decide +kernel
theorem dX9_bought_147 : decode cX9_bought 147 = .ok (.if_icmp .ge 14, 3) := by decide +kernel
theorem dX9_bought_150 : decode cX9_bought 150 = .ok (.iload 6, 2) := by decide +kernel
theorem dX9_bought_152 : decode cX9_bought 152 = .ok (.istore_n 3, 1) := by decide +kernel
theorem dX9_bought_153 : decode cX9_bought 153 = .ok (.iload 8, 2) := by decide +kernel
theorem dX9_bought_155 : decode cX9_bought 155 = .ok (.istore 4, 2) := by decide +kernel
theorem dX9_bought_157 : decode cX9_bought 157 = .ok (.iload 7, 2) := by decide +kernel
theorem dX9_bought_159 : decode cX9_bought 159 = .ok (.istore 5, 2) := by decide +kernel
theorem dX9_bought_161 : decode cX9_bought 161 = .ok (.iinc 6 1, 3) := by decide +kernel
theorem dX9_bought_164 : decode cX9_bought 164 = .ok (.goto (-127), 3) := by decide +kernel
theorem dX9_bought_167 : decode cX9_bought 167 = .ok (.iload_n 2, 1) := by decide +kernel
theorem dX9_bought_168 : decode cX9_bought 168 = .ok (.ifCond .ne 7, 3) := by decide +kernel
theorem dX9_bought_171 : decode cX9_bought 171 = .ok (.iload_n 3, 1) := by decide +kernel
theorem dX9_bought_172 : decode cX9_bought 172 = .ok (.goto 15, 3) := by decide +kernel
theorem dX9_bought_175 : decode cX9_bought 175 = .ok (.iload_n 2, 1) := by decide +kernel
theorem dX9_bought_176 : decode cX9_bought 176 = .ok (.iconst 1, 1) := by decide +kernel
theorem dX9_bought_177 : decode cX9_bought 177 = .ok (.if_icmp .ne 8, 3) := by decide +kernel
theorem dX9_bought_180 : decode cX9_bought 180 = .ok (.iload 4, 2) := by decide +kernel
theorem dX9_bought_182 : decode cX9_bought 182 = .ok (.goto 5, 3) := by decide +kernel
theorem dX9_bought_185 : decode cX9_bought 185 = .ok (.iload 5, 2) := by decide +kernel
theorem dX9_bought_187 : decode cX9_bought 187 = .ok (.ireturn, 1) := by decide +kernel
theorem dX9_stances_0 : decode cX9_stances 0 = .ok (.iconst 0, 1) := by decide +kernel
theorem dX9_stances_1 : decode cX9_stances 1 = .ok (.istore_n 1, 1) := by decide +kernel
theorem dX9_stances_2 : decode cX9_stances 2 = .ok (.iconst 0, 1) := by decide +kernel
theorem dX9_stances_3 : decode cX9_stances 3 = .ok (.istore_n 2, 1) := by decide +kernel
theorem dX9_stances_4 : decode cX9_stances 4 = .ok (.iload_n 2, 1) := by decide +kernel
theorem dX9_stances_5 : decode cX9_stances 5 = .ok (.iconst 4, 1) := by decide +kernel
theorem dX9_stances_6 : decode cX9_stances 6 = .ok (.if_icmp .ge 106, 3) := by decide +kernel
theorem dX9_stances_9 : decode cX9_stances 9 = .ok (.iconst 1, 1) := by decide +kernel
theorem dX9_stances_10 : decode cX9_stances 10 = .ok (.istore_n 3, 1) := by decide +kernel
theorem dX9_stances_11 : decode cX9_stances 11 = .ok (.iconst 0, 1) := by decide +kernel
theorem dX9_stances_12 : decode cX9_stances 12 = .ok (.istore 4, 2) := by decide +kernel
theorem dX9_stances_14 : decode cX9_stances 14 = .ok (.iload 4, 2) := by decide +kernel
theorem dX9_stances_16 : decode cX9_stances 16 = .ok (.bipush 16, 2) := by decide +kernel
theorem dX9_stances_18 : decode cX9_stances 18 = .ok (.if_icmp .ge 74, 3) := by decide +kernel
theorem dX9_stances_21 : decode cX9_stances 21 = .ok (.iconst 0, 1) := by decide +kernel
theorem dX9_stances_22 : decode cX9_stances 22 = .ok (.istore 5, 2) := by decide +kernel
theorem dX9_stances_24 : decode cX9_stances 24 = .ok (.iload 5, 2) := by decide +kernel
theorem dX9_stances_26 : decode cX9_stances 26 = .ok (.aload_n 0, 1) := by decide +kernel
theorem dX9_stances_27 : decode cX9_stances 27 = .ok (.getfield 76, 3) := by decide +kernel
theorem dX9_stances_30 : decode cX9_stances 30 = .ok (.if_icmp .ge 56, 3) := by decide +kernel
theorem dX9_stances_33 : decode cX9_stances 33 = .ok (.iload_n 3, 1) := by decide +kernel
theorem dX9_stances_34 : decode cX9_stances 34 = .ok (.ifCond .eq 44, 3) := by decide +kernel
theorem dX9_stances_37 : decode cX9_stances 37 = .ok (.aload_n 0, 1) := by decide +kernel
theorem dX9_stances_38 : decode cX9_stances 38 = .ok (.getfield 13, 3) := by decide +kernel
theorem dX9_stances_41 : decode cX9_stances 41 = .ok (.iload 4, 2) := by decide +kernel
theorem dX9_stances_43 : decode cX9_stances 43 = .ok (.iaload, 1) := by decide +kernel
theorem dX9_stances_44 : decode cX9_stances 44 = .ok (.ifCond .eq 30, 3) := by decide +kernel
theorem dX9_stances_47 : decode cX9_stances 47 = .ok (.aload_n 0, 1) := by decide +kernel
theorem dX9_stances_48 : decode cX9_stances 48 = .ok (.aload_n 0, 1) := by decide +kernel
theorem dX9_stances_49 : decode cX9_stances 49 = .ok (.getfield 28, 3) := by decide +kernel
theorem dX9_stances_52 : decode cX9_stances 52 = .ok (.iconst 3, 1) := by decide +kernel
theorem dX9_stances_53 : decode cX9_stances 53 = .ok (.iload 5, 2) := by decide +kernel
theorem dX9_stances_55 : decode cX9_stances 55 = .ok (.imul, 1) := by decide +kernel
theorem dX9_stances_56 : decode cX9_stances 56 = .ok (.iaload, 1) := by decide +kernel
theorem dX9_stances_57 : decode cX9_stances 57 = .ok (.aload_n 0, 1) := by decide +kernel
theorem dX9_stances_58 : decode cX9_stances 58 = .ok (.getfield 13, 3) := by decide +kernel
theorem dX9_stances_61 : decode cX9_stances 61 = .ok (.iload 4, 2) := by decide +kernel
theorem dX9_stances_63 : decode cX9_stances 63 = .ok (.iaload, 1) := by decide +kernel
theorem dX9_stances_64 : decode cX9_stances 64 = .ok (.bipush 10, 2) := by decide +kernel
theorem dX9_stances_66 : decode cX9_stances 66 = .ok (.idiv, 1) := by decide +kernel
theorem dX9_stances_67 : decode cX9_stances 67 = .ok (.iload_n 2, 1) := by decide +kernel
theorem dX9_stances_68 : decode cX9_stances 68 = .ok (.invokevirtual 173, 3) := by decide +kernel
theorem dX9_stances_71 : decode cX9_stances 71 = .ok (.ifCond .ne 7, 3) := by decide +kernel
theorem dX9_stances_74 : decode cX9_stances 74 = .ok (.iconst 1, 1) := by decide +kernel
theorem dX9_stances_75 : decode cX9_stances 75 = .ok (.goto 4, 3) := by decide +kernel
theorem dX9_stances_78 : decode cX9_stances 78 = .ok (.iconst 0, 1) := by decide +kernel
theorem dX9_stances_79 : decode cX9_stances 79 = .ok (.istore_n 3, 1) := by decide +kernel
theorem dX9_stances_80 : decode cX9_stances 80 = .ok (.iinc 5 1, 3) := by decide +kernel
theorem dX9_stances_83 : decode cX9_stances 83 = .ok (.goto (-59), 3) := by decide +kernel
theorem dX9_stances_86 : decode cX9_stances 86 = .ok (.iinc 4 1, 3) := by decide +kernel
theorem dX9_stances_89 : decode cX9_stances 89 = .ok (.goto (-75), 3) := by decide +kernel
theorem dX9_stances_92 : decode cX9_stances 92 = .ok (.iload_n 1, 1) := by decide +kernel
theorem dX9_stances_93 : decode cX9_stances 93 = .ok (.iload_n 3, 1) := by decide +kernel
theorem dX9_stances_94 : decode cX9_stances 94 = .ok (.ifCond .eq 9, 3) := by decide +kernel
theorem dX9_stances_97 : decode cX9_stances 97 = .ok (.iconst 1, 1) := by decide +kernel
theorem dX9_stances_98 : decode cX9_stances 98 = .ok (.iload_n 2, 1) := by decide +kernel
theorem dX9_stances_99 : decode cX9_stances 99 = .ok (.ishl, 1) := by decide +kernel
theorem dX9_stances_100 : decode cX9_stances 100 = .ok (.goto 4, 3) := by decide +kernel
theorem dX9_stances_103 : decode cX9_stances 103 = .ok (.iconst 0, 1) := by decide +kernel
theorem dX9_stances_104 : decode cX9_stances 104 = .ok (.ior, 1) := by decide +kernel
theorem dX9_stances_105 : decode cX9_stances 105 = .ok (.istore_n 1, 1) := by decide +kernel
theorem dX9_stances_106 : decode cX9_stances 106 = .ok (.iinc 2 1, 3) := by decide +kernel
theorem dX9_stances_109 : decode cX9_stances 109 = .ok (.goto (-105), 3) := by decide +kernel
theorem dX9_stances_112 : decode cX9_stances 112 = .ok (.iload_n 1, 1) := by decide +kernel
theorem dX9_stances_113 : decode cX9_stances 113 = .ok (.ireturn, 1) := by decide +kernel
theorem dX9_often_0 : decode cX9_often 0 = .ok (.iload_n 1, 1) := by decide +kernel
theorem dX9_often_1 : decode cX9_often 1 = .ok (.i2l, 1) := by decide +kernel
theorem dX9_often_2 : decode cX9_often 2 = .ok (.lconst 0, 1) := by decide +kernel
theorem dX9_often_3 : decode cX9_often 3 = .ok (.ldc2_w 206, 3) := by decide +kernel
theorem dX9_often_6 : decode cX9_often 6 = .ok (.invokestatic 70, 3) := by decide +kernel
theorem dX9_often_9 : decode cX9_often 9 = .ok (.ifCond .ne 5, 3) := by decide +kernel
theorem dX9_often_12 : decode cX9_often 12 = .ok (.iconst (-1), 1) := by decide +kernel
theorem dX9_often_13 : decode cX9_often 13 = .ok (.ireturn, 1) := by decide +kernel
theorem dX9_often_14 : decode cX9_often 14 = .ok (.bipush 9, 2) := by decide +kernel
theorem dX9_often_16 : decode cX9_often 16 = .ok (.istore_n 2, 1) := by decide +kernel
theorem dX9_often_17 : decode cX9_often 17 = .ok (.iload_n 2, 1) := by decide +kernel
theorem dX9_often_18 : decode cX9_often 18 = .ok (.ifCond .le 18, 3) := by decide +kernel
theorem dX9_often_21 : decode cX9_often 21 = .ok (.aload_n 0, 1) := by decide +kernel
theorem dX9_often_22 : decode cX9_often 22 = .ok (.iload_n 2, 1) := by decide +kernel
theorem dX9_often_23 : decode cX9_often 23 = .ok (.invokevirtual 195, 3) := by decide +kernel
theorem dX9_often_26 : decode cX9_often 26 = .ok (.iload_n 1, 1) := by decide +kernel
theorem dX9_often_27 : decode cX9_often 27 = .ok (.if_icmp .le 9, 3) := by decide +kernel
theorem dX9_often_30 : decode cX9_often 30 = .ok (.iinc 2 (-1), 3) := by decide +kernel
theorem dX9_often_33 : decode cX9_often 33 = .ok (.goto (-16), 3) := by decide +kernel
theorem dX9_often_36 : decode cX9_often 36 = .ok (.iload_n 2, 1) := by decide +kernel
theorem dX9_often_37 : decode cX9_often 37 = .ok (.ireturn, 1) := by decide +kernel
theorem dX9_warning_0 : decode cX9_warning 0 = .ok (.aload_n 0, 1) := by decide +kernel
theorem dX9_warning_1 : decode cX9_warning 1 = .ok (.iconst 1, 1) := by decide +kernel
theorem dX9_warning_2 : decode cX9_warning 2 = .ok (.invokevirtual 195, 3) := by decide +kernel
theorem dX9_warning_5 : decode cX9_warning 5 = .ok (.istore_n 1, 1) := by decide +kernel
theorem dX9_warning_6 : decode cX9_warning 6 = .ok (.iconst 0, 1) := by decide +kernel
theorem dX9_warning_7 : decode cX9_warning 7 = .ok (.istore_n 2, 1) := by decide +kernel
theorem dX9_warning_8 : decode cX9_warning 8 = .ok (.iconst 0, 1) := by decide +kernel
theorem dX9_warning_9 : decode cX9_warning 9 = .ok (.istore_n 3, 1) := by decide +kernel
theorem dX9_warning_10 : decode cX9_warning 10 = .ok (.iload_n 3, 1) := by decide +kernel
theorem dX9_warning_11 : decode cX9_warning 11 = .ok (.aload_n 0, 1) := by decide +kernel
theorem dX9_warning_12 : decode cX9_warning 12 = .ok (.getfield 76, 3) := by decide +kernel
theorem dX9_warning_15 : decode cX9_warning 15 = .ok (.if_icmp .ge 39, 3) := by decide +kernel
theorem dX9_warning_18 : decode cX9_warning 18 = .ok (.aload_n 0, 1) := by decide +kernel
theorem dX9_warning_19 : decode cX9_warning 19 = .ok (.getfield 28, 3) := by decide +kernel
theorem dX9_warning_22 : decode cX9_warning 22 = .ok (.iconst 3, 1) := by decide +kernel
theorem dX9_warning_23 : decode cX9_warning 23 = .ok (.iload_n 3, 1) := by decide +kernel
theorem dX9_warning_24 : decode cX9_warning 24 = .ok (.imul, 1) := by decide +kernel
theorem dX9_warning_25 : decode cX9_warning 25 = .ok (.iconst 1, 1) := by decide +kernel
theorem dX9_warning_26 : decode cX9_warning 26 = .ok (.iadd, 1) := by decide +kernel
theorem dX9_warning_27 : decode cX9_warning 27 = .ok (.iaload, 1) := by decide +kernel
theorem dX9_warning_28 : decode cX9_warning 28 = .ok (.ifCond .ne 20, 3) := by decide +kernel
theorem dX9_warning_31 : decode cX9_warning 31 = .ok (.aload_n 0, 1) := by decide +kernel
theorem dX9_warning_32 : decode cX9_warning 32 = .ok (.getfield 28, 3) := by decide +kernel
theorem dX9_warning_35 : decode cX9_warning 35 = .ok (.iconst 3, 1) := by decide +kernel
theorem dX9_warning_36 : decode cX9_warning 36 = .ok (.iload_n 3, 1) := by decide +kernel
theorem dX9_warning_37 : decode cX9_warning 37 = .ok (.imul, 1) := by decide +kernel
theorem dX9_warning_38 : decode cX9_warning 38 = .ok (.iconst 1, 1) := by decide +kernel
theorem dX9_warning_39 : decode cX9_warning 39 = .ok (.iadd, 1) := by decide +kernel
theorem dX9_warning_40 : decode cX9_warning 40 = .ok (.iconst 1, 1) := by decide +kernel
theorem dX9_warning_41 : decode cX9_warning 41 = .ok (.iastore, 1) := by decide +kernel
theorem dX9_warning_42 : decode cX9_warning 42 = .ok (.iload_n 2, 1) := by decide +kernel
theorem dX9_warning_43 : decode cX9_warning 43 = .ok (.iconst 1, 1) := by decide +kernel
theorem dX9_warning_44 : decode cX9_warning 44 = .ok (.iload_n 3, 1) := by decide +kernel
theorem dX9_warning_45 : decode cX9_warning 45 = .ok (.ishl, 1) := by decide +kernel
theorem dX9_warning_46 : decode cX9_warning 46 = .ok (.ior, 1) := by decide +kernel
theorem dX9_warning_47 : decode cX9_warning 47 = .ok (.istore_n 2, 1) := by decide +kernel
theorem dX9_warning_48 : decode cX9_warning 48 = .ok (.iinc 3 1, 3) := by decide +kernel
theorem dX9_warning_51 : decode cX9_warning 51 = .ok (.goto (-41), 3) := by decide +kernel
theorem dX9_warning_54 : decode cX9_warning 54 = .ok (.aload_n 0, 1) := by decide +kernel
theorem dX9_warning_55 : decode cX9_warning 55 = .ok (.iconst 1, 1) := by decide +kernel
theorem dX9_warning_56 : decode cX9_warning 56 = .ok (.invokevirtual 195, 3) := by decide +kernel
theorem dX9_warning_59 : decode cX9_warning 59 = .ok (.istore_n 3, 1) := by decide +kernel
theorem dX9_warning_60 : decode cX9_warning 60 = .ok (.iconst 0, 1) := by decide +kernel
theorem dX9_warning_61 : decode cX9_warning 61 = .ok (.istore 4, 2) := by decide +kernel
theorem dX9_warning_63 : decode cX9_warning 63 = .ok (.iload 4, 2) := by decide +kernel
theorem dX9_warning_65 : decode cX9_warning 65 = .ok (.aload_n 0, 1) := by decide +kernel
theorem dX9_warning_66 : decode cX9_warning 66 = .ok (.getfield 76, 3) := by decide +kernel
theorem dX9_warning_69 : decode cX9_warning 69 = .ok (.if_icmp .ge 45, 3) := by decide +kernel
theorem dX9_warning_72 : decode cX9_warning 72 = .ok (.aload_n 0, 1) := by decide +kernel
theorem dX9_warning_73 : decode cX9_warning 73 = .ok (.getfield 28, 3) := by decide +kernel
theorem dX9_warning_76 : decode cX9_warning 76 = .ok (.iconst 3, 1) := by decide +kernel
theorem dX9_warning_77 : decode cX9_warning 77 = .ok (.iload 4, 2) := by decide +kernel
theorem dX9_warning_79 : decode cX9_warning 79 = .ok (.imul, 1) := by decide +kernel
theorem dX9_warning_80 : decode cX9_warning 80 = .ok (.iconst 1, 1) := by decide +kernel
theorem dX9_warning_81 : decode cX9_warning 81 = .ok (.iadd, 1) := by decide +kernel
theorem dX9_warning_82 : decode cX9_warning 82 = .ok (.iload_n 2, 1) := by decide +kernel
theorem dX9_warning_83 : decode cX9_warning 83 = .ok (.iload 4, 2) := by decide +kernel
theorem dX9_warning_85 : decode cX9_warning 85 = .ok (.ishr, 1) := by decide +kernel
theorem dX9_warning_86 : decode cX9_warning 86 = .ok (.iconst 1, 1) := by decide +kernel
theorem dX9_warning_87 : decode cX9_warning 87 = .ok (.iand, 1) := by decide +kernel
theorem dX9_warning_88 : decode cX9_warning 88 = .ok (.iconst 1, 1) := by decide +kernel
theorem dX9_warning_89 : decode cX9_warning 89 = .ok (.if_icmp .ne 7, 3) := by decide +kernel
theorem dX9_warning_92 : decode cX9_warning 92 = .ok (.iconst 0, 1) := by decide +kernel
theorem dX9_warning_93 : decode cX9_warning 93 = .ok (.goto 14, 3) := by decide +kernel
theorem dX9_warning_96 : decode cX9_warning 96 = .ok (.aload_n 0, 1) := by decide +kernel
theorem dX9_warning_97 : decode cX9_warning 97 = .ok (.getfield 28, 3) := by decide +kernel
theorem dX9_warning_100 : decode cX9_warning 100 = .ok (.iconst 3, 1) := by decide +kernel
theorem dX9_warning_101 : decode cX9_warning 101 = .ok (.iload 4, 2) := by decide +kernel
theorem dX9_warning_103 : decode cX9_warning 103 = .ok (.imul, 1) := by decide +kernel
theorem dX9_warning_104 : decode cX9_warning 104 = .ok (.iconst 1, 1) := by decide +kernel
theorem dX9_warning_105 : decode cX9_warning 105 = .ok (.iadd, 1) := by decide +kernel
theorem dX9_warning_106 : decode cX9_warning 106 = .ok (.iaload, 1) := by decide +kernel
theorem dX9_warning_107 : decode cX9_warning 107 = .ok (.iastore, 1) := by decide +kernel
theorem dX9_warning_108 : decode cX9_warning 108 = .ok (.iinc 4 1, 3) := by decide +kernel
theorem dX9_warning_111 : decode cX9_warning 111 = .ok (.goto (-48), 3) := by decide +kernel
theorem dX9_warning_114 : decode cX9_warning 114 = .ok (.iload_n 3, 1) := by decide +kernel
theorem dX9_warning_115 : decode cX9_warning 115 = .ok (.iload_n 1, 1) := by decide +kernel
theorem dX9_warning_116 : decode cX9_warning 116 = .ok (.isub, 1) := by decide +kernel
theorem dX9_warning_117 : decode cX9_warning 117 = .ok (.ireturn, 1) := by decide +kernel
theorem dX9_shownAt_0 : decode cX9_shownAt 0 = .ok (.iconst 0, 1) := by decide +kernel
theorem dX9_shownAt_1 : decode cX9_shownAt 1 = .ok (.istore_n 2, 1) := by decide +kernel
theorem dX9_shownAt_2 : decode cX9_shownAt 2 = .ok (.iconst 0, 1) := by decide +kernel
theorem dX9_shownAt_3 : decode cX9_shownAt 3 = .ok (.istore_n 3, 1) := by decide +kernel
theorem dX9_shownAt_4 : decode cX9_shownAt 4 = .ok (.iload_n 3, 1) := by decide +kernel
theorem dX9_shownAt_5 : decode cX9_shownAt 5 = .ok (.iload_n 1, 1) := by decide +kernel
theorem dX9_shownAt_6 : decode cX9_shownAt 6 = .ok (.if_icmp .ge 48, 3) := by decide +kernel
theorem dX9_shownAt_9 : decode cX9_shownAt 9 = .ok (.bipush 10, 2) := by decide +kernel
theorem dX9_shownAt_11 : decode cX9_shownAt 11 = .ok (.aload_n 0, 1) := by decide +kernel
theorem dX9_shownAt_12 : decode cX9_shownAt 12 = .ok (.getfield 25, 3) := by decide +kernel
theorem dX9_shownAt_15 : decode cX9_shownAt 15 = .ok (.iconst 4, 1) := by decide +kernel
theorem dX9_shownAt_16 : decode cX9_shownAt 16 = .ok (.iaload, 1) := by decide +kernel
theorem dX9_shownAt_17 : decode cX9_shownAt 17 = .ok (.iload_n 1, 1) := by decide +kernel
theorem dX9_shownAt_18 : decode cX9_shownAt 18 = .ok (.iload_n 3, 1) := by decide +kernel
theorem dX9_shownAt_19 : decode cX9_shownAt 19 = .ok (.isub, 1) := by decide +kernel
theorem dX9_shownAt_20 : decode cX9_shownAt 20 = .ok (.imul, 1) := by decide +kernel
theorem dX9_shownAt_21 : decode cX9_shownAt 21 = .ok (.isub, 1) := by decide +kernel
theorem dX9_shownAt_22 : decode cX9_shownAt 22 = .ok (.istore 4, 2) := by decide +kernel
theorem dX9_shownAt_24 : decode cX9_shownAt 24 = .ok (.iload_n 2, 1) := by decide +kernel
theorem dX9_shownAt_25 : decode cX9_shownAt 25 = .ok (.iload 4, 2) := by decide +kernel
theorem dX9_shownAt_27 : decode cX9_shownAt 27 = .ok (.ifCond .le 18, 3) := by decide +kernel
theorem dX9_shownAt_30 : decode cX9_shownAt 30 = .ok (.aload_n 0, 1) := by decide +kernel
theorem dX9_shownAt_31 : decode cX9_shownAt 31 = .ok (.iload_n 3, 1) := by decide +kernel
theorem dX9_shownAt_32 : decode cX9_shownAt 32 = .ok (.iconst 1, 1) := by decide +kernel
theorem dX9_shownAt_33 : decode cX9_shownAt 33 = .ok (.invokevirtual 192, 3) := by decide +kernel
theorem dX9_shownAt_36 : decode cX9_shownAt 36 = .ok (.iload 4, 2) := by decide +kernel
theorem dX9_shownAt_38 : decode cX9_shownAt 38 = .ok (.imul, 1) := by decide +kernel
theorem dX9_shownAt_39 : decode cX9_shownAt 39 = .ok (.bipush 10, 2) := by decide +kernel
theorem dX9_shownAt_41 : decode cX9_shownAt 41 = .ok (.idiv, 1) := by decide +kernel
theorem dX9_shownAt_42 : decode cX9_shownAt 42 = .ok (.goto 4, 3) := by decide +kernel
theorem dX9_shownAt_45 : decode cX9_shownAt 45 = .ok (.iconst 0, 1) := by decide +kernel
theorem dX9_shownAt_46 : decode cX9_shownAt 46 = .ok (.iadd, 1) := by decide +kernel
theorem dX9_shownAt_47 : decode cX9_shownAt 47 = .ok (.istore_n 2, 1) := by decide +kernel
theorem dX9_shownAt_48 : decode cX9_shownAt 48 = .ok (.iinc 3 1, 3) := by decide +kernel
theorem dX9_shownAt_51 : decode cX9_shownAt 51 = .ok (.goto (-47), 3) := by decide +kernel
theorem dX9_shownAt_54 : decode cX9_shownAt 54 = .ok (.iload_n 2, 1) := by decide +kernel
theorem dX9_shownAt_55 : decode cX9_shownAt 55 = .ok (.ireturn, 1) := by decide +kernel
theorem dX9_shown_0 : decode cX9_shown 0 = .ok (.iload_n 1, 1) := by decide +kernel
theorem dX9_shown_1 : decode cX9_shown 1 = .ok (.i2l, 1) := by decide +kernel
theorem dX9_shown_2 : decode cX9_shown 2 = .ok (.ldc2_w 90, 3) := by decide +kernel
theorem dX9_shown_5 : decode cX9_shown 5 = .ok (.ldc2_w 68, 3) := by decide +kernel
theorem dX9_shown_8 : decode cX9_shown 8 = .ok (.invokestatic 70, 3) := by decide +kernel
theorem dX9_shown_11 : decode cX9_shown 11 = .ok (.ifCond .ne 5, 3) := by decide +kernel
theorem dX9_shown_14 : decode cX9_shown 14 = .ok (.iconst (-1), 1) := by decide +kernel
theorem dX9_shown_15 : decode cX9_shown 15 = .ok (.ireturn, 1) := by decide +kernel
theorem dX9_shown_16 : decode cX9_shown 16 = .ok (.iload_n 1, 1) := by decide +kernel
theorem dX9_shown_17 : decode cX9_shown 17 = .ok (.ifCond .lt 9, 3) := by decide +kernel
theorem dX9_shown_20 : decode cX9_shown 20 = .ok (.aload_n 0, 1) := by decide +kernel
theorem dX9_shown_21 : decode cX9_shown 21 = .ok (.iload_n 1, 1) := by decide +kernel
theorem dX9_shown_22 : decode cX9_shown 22 = .ok (.invokevirtual 208, 3) := by decide +kernel
theorem dX9_shown_25 : decode cX9_shown 25 = .ok (.ireturn, 1) := by decide +kernel
theorem dX9_shown_26 : decode cX9_shown 26 = .ok (.bipush (-4), 2) := by decide +kernel
theorem dX9_shown_28 : decode cX9_shown 28 = .ok (.istore_n 2, 1) := by decide +kernel
theorem dX9_shown_29 : decode cX9_shown 29 = .ok (.iconst 0, 1) := by decide +kernel
theorem dX9_shown_30 : decode cX9_shown 30 = .ok (.istore_n 3, 1) := by decide +kernel
theorem dX9_shown_31 : decode cX9_shown 31 = .ok (.iload_n 3, 1) := by decide +kernel
theorem dX9_shown_32 : decode cX9_shown 32 = .ok (.bipush 16, 2) := by decide +kernel
theorem dX9_shown_34 : decode cX9_shown 34 = .ok (.if_icmp .ge 24, 3) := by decide +kernel
theorem dX9_shown_37 : decode cX9_shown 37 = .ok (.aload_n 0, 1) := by decide +kernel
theorem dX9_shown_38 : decode cX9_shown 38 = .ok (.getfield 13, 3) := by decide +kernel
theorem dX9_shown_41 : decode cX9_shown 41 = .ok (.iload_n 3, 1) := by decide +kernel
theorem dX9_shown_42 : decode cX9_shown 42 = .ok (.iaload, 1) := by decide +kernel
theorem dX9_shown_43 : decode cX9_shown 43 = .ok (.ifCond .le 7, 3) := by decide +kernel
theorem dX9_shown_46 : decode cX9_shown 46 = .ok (.iload_n 3, 1) := by decide +kernel
theorem dX9_shown_47 : decode cX9_shown 47 = .ok (.goto 4, 3) := by decide +kernel
theorem dX9_shown_50 : decode cX9_shown 50 = .ok (.iload_n 2, 1) := by decide +kernel
theorem dX9_shown_51 : decode cX9_shown 51 = .ok (.istore_n 2, 1) := by decide +kernel
theorem dX9_shown_52 : decode cX9_shown 52 = .ok (.iinc 3 1, 3) := by decide +kernel
theorem dX9_shown_55 : decode cX9_shown 55 = .ok (.goto (-24), 3) := by decide +kernel
theorem dX9_shown_58 : decode cX9_shown 58 = .ok (.bipush (-4), 2) := by decide +kernel
theorem dX9_shown_60 : decode cX9_shown 60 = .ok (.istore_n 3, 1) := by decide +kernel
theorem dX9_shown_61 : decode cX9_shown 61 = .ok (.iconst 0, 1) := by decide +kernel
theorem dX9_shown_62 : decode cX9_shown 62 = .ok (.istore 4, 2) := by decide +kernel
theorem dX9_shown_64 : decode cX9_shown 64 = .ok (.iload_n 2, 1) := by decide +kernel
theorem dX9_shown_65 : decode cX9_shown 65 = .ok (.iconst 1, 1) := by decide +kernel
theorem dX9_shown_66 : decode cX9_shown 66 = .ok (.iadd, 1) := by decide +kernel
theorem dX9_shown_67 : decode cX9_shown 67 = .ok (.istore 5, 2) := by decide +kernel
theorem dX9_shown_69 : decode cX9_shown 69 = .ok (.iload 5, 2) := by decide +kernel
theorem dX9_shown_71 : decode cX9_shown 71 = .ok (.bipush 16, 2) := by decide +kernel
theorem dX9_shown_73 : decode cX9_shown 73 = .ok (.if_icmp .ge 65, 3) := by decide +kernel
theorem dX9_shown_76 : decode cX9_shown 76 = .ok (.iload_n 2, 1) := by decide +kernel
theorem dX9_shown_77 : decode cX9_shown 77 = .ok (.ifCond .lt 61, 3) := by decide +kernel
theorem dX9_shown_80 : decode cX9_shown 80 = .ok (.aload_n 0, 1) := by decide +kernel
theorem dX9_shown_81 : decode cX9_shown 81 = .ok (.iload 5, 2) := by decide +kernel
theorem dX9_shown_83 : decode cX9_shown 83 = .ok (.invokevirtual 208, 3) := by decide +kernel
theorem dX9_shown_86 : decode cX9_shown 86 = .ok (.istore 6, 2) := by decide +kernel
theorem dX9_shown_88 : decode cX9_shown 88 = .ok (.iload_n 3, 1) := by decide +kernel
theorem dX9_shown_89 : decode cX9_shown 89 = .ok (.ifCond .lt 10, 3) := by decide +kernel
theorem dX9_shown_92 : decode cX9_shown 92 = .ok (.iload 6, 2) := by decide +kernel
theorem dX9_shown_94 : decode cX9_shown 94 = .ok (.iload 4, 2) := by decide +kernel
theorem dX9_shown_96 : decode cX9_shown 96 = .ok (.if_icmp .ge 7, 3) := by decide +kernel
theorem dX9_shown_99 : decode cX9_shown 99 = .ok (.iconst 1, 1) := by decide +kernel
theorem dX9_shown_100 : decode cX9_shown 100 = .ok (.goto 4, 3) := by decide +kernel
theorem dX9_shown_103 : decode cX9_shown 103 = .ok (.iconst 0, 1) := by decide +kernel
theorem dX9_shown_104 : decode cX9_shown 104 = .ok (.istore 7, 2) := by decide +kernel
theorem dX9_shown_106 : decode cX9_shown 106 = .ok (.iload 7, 2) := by decide +kernel
theorem dX9_shown_108 : decode cX9_shown 108 = .ok (.ifCond .eq 8, 3) := by decide +kernel
theorem dX9_shown_111 : decode cX9_shown 111 = .ok (.iload 5, 2) := by decide +kernel
theorem dX9_shown_113 : decode cX9_shown 113 = .ok (.goto 4, 3) := by decide +kernel
theorem dX9_shown_116 : decode cX9_shown 116 = .ok (.iload_n 3, 1) := by decide +kernel
theorem dX9_shown_117 : decode cX9_shown 117 = .ok (.istore_n 3, 1) := by decide +kernel
theorem dX9_shown_118 : decode cX9_shown 118 = .ok (.iload 7, 2) := by decide +kernel
theorem dX9_shown_120 : decode cX9_shown 120 = .ok (.ifCond .eq 8, 3) := by decide +kernel
theorem dX9_shown_123 : decode cX9_shown 123 = .ok (.iload 6, 2) := by decide +kernel
theorem dX9_shown_125 : decode cX9_shown 125 = .ok (.goto 5, 3) := by decide +kernel
theorem dX9_shown_128 : decode cX9_shown 128 = .ok (.iload 4, 2) := by decide +kernel
theorem dX9_shown_130 : decode cX9_shown 130 = .ok (.istore 4, 2) := by decide +kernel
theorem dX9_shown_132 : decode cX9_shown 132 = .ok (.iinc 5 1, 3) := by decide +kernel
theorem dX9_shown_135 : decode cX9_shown 135 = .ok (.goto (-66), 3) := by decide +kernel
theorem dX9_shown_138 : decode cX9_shown 138 = .ok (.iload_n 3, 1) := by decide +kernel
theorem dX9_shown_139 : decode cX9_shown 139 = .ok (.ireturn, 1) := by decide +kernel
theorem dX9_pointed_0 : decode cX9_pointed 0 = .ok (.aload_n 0, 1) := by decide +kernel
theorem dX9_pointed_1 : decode cX9_pointed 1 = .ok (.getfield 43, 3) := by decide +kernel
theorem dX9_pointed_4 : decode cX9_pointed 4 = .ok (.aload_n 0, 1) := by decide +kernel
theorem dX9_pointed_5 : decode cX9_pointed 5 = .ok (.getfield 166, 3) := by decide +kernel
theorem dX9_pointed_8 : decode cX9_pointed 8 = .ok (.iload_n 1, 1) := by decide +kernel
theorem dX9_pointed_9 : decode cX9_pointed 9 = .ok (.iastore, 1) := by decide +kernel
theorem dX9_pointed_10 : decode cX9_pointed 10 = .ok (.aload_n 0, 1) := by decide +kernel
theorem dX9_pointed_11 : decode cX9_pointed 11 = .ok (.getfield 46, 3) := by decide +kernel
theorem dX9_pointed_14 : decode cX9_pointed 14 = .ok (.aload_n 0, 1) := by decide +kernel
theorem dX9_pointed_15 : decode cX9_pointed 15 = .ok (.getfield 166, 3) := by decide +kernel
theorem dX9_pointed_18 : decode cX9_pointed 18 = .ok (.iload_n 2, 1) := by decide +kernel
theorem dX9_pointed_19 : decode cX9_pointed 19 = .ok (.iastore, 1) := by decide +kernel
theorem dX9_pointed_20 : decode cX9_pointed 20 = .ok (.aload_n 0, 1) := by decide +kernel
theorem dX9_pointed_21 : decode cX9_pointed 21 = .ok (.dup, 1) := by decide +kernel
theorem dX9_pointed_22 : decode cX9_pointed 22 = .ok (.getfield 166, 3) := by decide +kernel
theorem dX9_pointed_25 : decode cX9_pointed 25 = .ok (.iconst 1, 1) := by decide +kernel
theorem dX9_pointed_26 : decode cX9_pointed 26 = .ok (.iadd, 1) := by decide +kernel
theorem dX9_pointed_27 : decode cX9_pointed 27 = .ok (.putfield 166, 3) := by decide +kernel
theorem dX9_pointed_30 : decode cX9_pointed 30 = .ok (.return_, 1) := by decide +kernel
theorem dX9_point_0 : decode cX9_point 0 = .ok (.iload_n 1, 1) := by decide +kernel
theorem dX9_point_1 : decode cX9_point 1 = .ok (.invokestatic 79, 3) := by decide +kernel
theorem dX9_point_4 : decode cX9_point 4 = .ok (.ifCond .eq 10, 3) := by decide +kernel
theorem dX9_point_7 : decode cX9_point 7 = .ok (.iload_n 2, 1) := by decide +kernel
theorem dX9_point_8 : decode cX9_point 8 = .ok (.invokestatic 83, 3) := by decide +kernel
theorem dX9_point_11 : decode cX9_point 11 = .ok (.ifCond .ne 5, 3) := by decide +kernel
theorem dX9_point_14 : decode cX9_point 14 = .ok (.iconst (-1), 1) := by decide +kernel
theorem dX9_point_15 : decode cX9_point 15 = .ok (.ireturn, 1) := by decide +kernel
theorem dX9_point_16 : decode cX9_point 16 = .ok (.aload_n 0, 1) := by decide +kernel
theorem dX9_point_17 : decode cX9_point 17 = .ok (.getfield 166, 3) := by decide +kernel
theorem dX9_point_20 : decode cX9_point 20 = .ok (.bipush 24, 2) := by decide +kernel
theorem dX9_point_22 : decode cX9_point 22 = .ok (.if_icmp .ne 6, 3) := by decide +kernel
theorem dX9_point_25 : decode cX9_point 25 = .ok (.bipush (-3), 2) := by decide +kernel
theorem dX9_point_27 : decode cX9_point 27 = .ok (.ireturn, 1) := by decide +kernel
theorem dX9_point_28 : decode cX9_point 28 = .ok (.aload_n 0, 1) := by decide +kernel
theorem dX9_point_29 : decode cX9_point 29 = .ok (.iload_n 1, 1) := by decide +kernel
theorem dX9_point_30 : decode cX9_point 30 = .ok (.iload_n 2, 1) := by decide +kernel
theorem dX9_point_31 : decode cX9_point 31 = .ok (.invokevirtual 211, 3) := by decide +kernel
theorem dX9_point_34 : decode cX9_point 34 = .ok (.aload_n 0, 1) := by decide +kernel
theorem dX9_point_35 : decode cX9_point 35 = .ok (.getfield 166, 3) := by decide +kernel
theorem dX9_point_38 : decode cX9_point 38 = .ok (.ireturn, 1) := by decide +kernel
theorem dX9_fits_0 : decode cX9_fits 0 = .ok (.iload_n 1, 1) := by decide +kernel
theorem dX9_fits_1 : decode cX9_fits 1 = .ok (.i2l, 1) := by decide +kernel
theorem dX9_fits_2 : decode cX9_fits 2 = .ok (.lconst 0, 1) := by decide +kernel
theorem dX9_fits_3 : decode cX9_fits 3 = .ok (.lconst 1, 1) := by decide +kernel
theorem dX9_fits_4 : decode cX9_fits 4 = .ok (.invokestatic 70, 3) := by decide +kernel
theorem dX9_fits_7 : decode cX9_fits 7 = .ok (.ifCond .ne 5, 3) := by decide +kernel
theorem dX9_fits_10 : decode cX9_fits 10 = .ok (.iconst (-1), 1) := by decide +kernel
theorem dX9_fits_11 : decode cX9_fits 11 = .ok (.ireturn, 1) := by decide +kernel
theorem dX9_fits_12 : decode cX9_fits 12 = .ok (.aload_n 0, 1) := by decide +kernel
theorem dX9_fits_13 : decode cX9_fits 13 = .ok (.getfield 166, 3) := by decide +kernel
theorem dX9_fits_16 : decode cX9_fits 16 = .ok (.ifCond .ne 6, 3) := by decide +kernel
theorem dX9_fits_19 : decode cX9_fits 19 = .ok (.bipush (-2), 2) := by decide +kernel
theorem dX9_fits_21 : decode cX9_fits 21 = .ok (.ireturn, 1) := by decide +kernel
theorem dX9_fits_22 : decode cX9_fits 22 = .ok (.aload_n 0, 1) := by decide +kernel
theorem dX9_fits_23 : decode cX9_fits 23 = .ok (.getfield 25, 3) := by decide +kernel
theorem dX9_fits_26 : decode cX9_fits 26 = .ok (.iconst 0, 1) := by decide +kernel
theorem dX9_fits_27 : decode cX9_fits 27 = .ok (.iaload, 1) := by decide +kernel
theorem dX9_fits_28 : decode cX9_fits 28 = .ok (.istore_n 2, 1) := by decide +kernel
theorem dX9_fits_29 : decode cX9_fits 29 = .ok (.iconst 0, 1) := by decide +kernel
theorem dX9_fits_30 : decode cX9_fits 30 = .ok (.istore_n 3, 1) := by decide +kernel
theorem dX9_fits_31 : decode cX9_fits 31 = .ok (.iconst (-1), 1) := by decide +kernel
theorem dX9_fits_32 : decode cX9_fits 32 = .ok (.istore 4, 2) := by decide +kernel
theorem dX9_fits_34 : decode cX9_fits 34 = .ok (.iconst 0, 1) := by decide +kernel
theorem dX9_fits_35 : decode cX9_fits 35 = .ok (.istore 5, 2) := by decide +kernel
theorem dX9_fits_37 : decode cX9_fits 37 = .ok (.iload 5, 2) := by decide +kernel
theorem dX9_fits_39 : decode cX9_fits 39 = .ok (.bipush 10, 2) := by decide +kernel
theorem dX9_fits_41 : decode cX9_fits 41 = .ok (.if_icmp .ge 157, 3) := by decide +kernel
theorem dX9_fits_44 : decode cX9_fits 44 = .ok (.aload_n 0, 1) := by decide +kernel
theorem dX9_fits_45 : decode cX9_fits 45 = .ok (.getfield 25, 3) := by decide +kernel
theorem dX9_fits_48 : decode cX9_fits 48 = .ok (.iconst 0, 1) := by decide +kernel
theorem dX9_fits_49 : decode cX9_fits 49 = .ok (.iload 5, 2) := by decide +kernel
theorem dX9_fits_51 : decode cX9_fits 51 = .ok (.iastore, 1) := by decide +kernel
theorem dX9_fits_52 : decode cX9_fits 52 = .ok (.iconst 0, 1) := by decide +kernel
theorem dX9_fits_53 : decode cX9_fits 53 = .ok (.istore 6, 2) := by decide +kernel
theorem dX9_fits_55 : decode cX9_fits 55 = .ok (.iconst 0, 1) := by decide +kernel
theorem dX9_fits_56 : decode cX9_fits 56 = .ok (.istore 7, 2) := by decide +kernel
theorem dX9_fits_58 : decode cX9_fits 58 = .ok (.iload 7, 2) := by decide +kernel
theorem dX9_fits_60 : decode cX9_fits 60 = .ok (.aload_n 0, 1) := by decide +kernel
theorem dX9_fits_61 : decode cX9_fits 61 = .ok (.getfield 166, 3) := by decide +kernel
theorem dX9_fits_64 : decode cX9_fits 64 = .ok (.if_icmp .ge 98, 3) := by decide +kernel
theorem dX9_fits_67 : decode cX9_fits 67 = .ok (.iconst 1, 1) := by decide +kernel
theorem dX9_fits_68 : decode cX9_fits 68 = .ok (.istore 8, 2) := by decide +kernel
theorem dX9_fits_70 : decode cX9_fits 70 = .ok (.aload_n 0, 1) := by decide +kernel
theorem dX9_fits_71 : decode cX9_fits 71 = .ok (.iconst 0, 1) := by decide +kernel
theorem dX9_fits_72 : decode cX9_fits 72 = .ok (.iconst 0, 1) := by decide +kernel
theorem dX9_fits_73 : decode cX9_fits 73 = .ok (.aload_n 0, 1) := by decide +kernel
theorem dX9_fits_74 : decode cX9_fits 74 = .ok (.getfield 43, 3) := by decide +kernel
theorem dX9_fits_77 : decode cX9_fits 77 = .ok (.iload 7, 2) := by decide +kernel
theorem dX9_fits_79 : decode cX9_fits 79 = .ok (.iaload, 1) := by decide +kernel
theorem dX9_fits_80 : decode cX9_fits 80 = .ok (.aload_n 0, 1) := by decide +kernel
theorem dX9_fits_81 : decode cX9_fits 81 = .ok (.getfield 46, 3) := by decide +kernel
theorem dX9_fits_84 : decode cX9_fits 84 = .ok (.iload 7, 2) := by decide +kernel
theorem dX9_fits_86 : decode cX9_fits 86 = .ok (.iaload, 1) := by decide +kernel
theorem dX9_fits_87 : decode cX9_fits 87 = .ok (.iconst 1, 1) := by decide +kernel
theorem dX9_fits_88 : decode cX9_fits 88 = .ok (.invokevirtual 169, 3) := by decide +kernel
theorem dX9_fits_91 : decode cX9_fits 91 = .ok (.istore 9, 2) := by decide +kernel
theorem dX9_fits_93 : decode cX9_fits 93 = .ok (.iconst 0, 1) := by decide +kernel
theorem dX9_fits_94 : decode cX9_fits 94 = .ok (.istore 10, 2) := by decide +kernel
theorem dX9_fits_96 : decode cX9_fits 96 = .ok (.iload 10, 2) := by decide +kernel
theorem dX9_fits_98 : decode cX9_fits 98 = .ok (.iconst 4, 1) := by decide +kernel
theorem dX9_fits_99 : decode cX9_fits 99 = .ok (.if_icmp .ge 42, 3) := by decide +kernel
theorem dX9_fits_102 : decode cX9_fits 102 = .ok (.iload 8, 2) := by decide +kernel
theorem dX9_fits_104 : decode cX9_fits 104 = .ok (.ifCond .eq 28, 3) := by decide +kernel
theorem dX9_fits_107 : decode cX9_fits 107 = .ok (.aload_n 0, 1) := by decide +kernel
theorem dX9_fits_108 : decode cX9_fits 108 = .ok (.iconst 0, 1) := by decide +kernel
theorem dX9_fits_109 : decode cX9_fits 109 = .ok (.iconst 0, 1) := by decide +kernel
theorem dX9_fits_110 : decode cX9_fits 110 = .ok (.aload_n 0, 1) := by decide +kernel
theorem dX9_fits_111 : decode cX9_fits 111 = .ok (.getfield 43, 3) := by decide +kernel
theorem dX9_fits_114 : decode cX9_fits 114 = .ok (.iload 7, 2) := by decide +kernel
theorem dX9_fits_116 : decode cX9_fits 116 = .ok (.iaload, 1) := by decide +kernel
theorem dX9_fits_117 : decode cX9_fits 117 = .ok (.iload 10, 2) := by decide +kernel
theorem dX9_fits_119 : decode cX9_fits 119 = .ok (.iconst 1, 1) := by decide +kernel
theorem dX9_fits_120 : decode cX9_fits 120 = .ok (.invokevirtual 169, 3) := by decide +kernel
theorem dX9_fits_123 : decode cX9_fits 123 = .ok (.iload 9, 2) := by decide +kernel
theorem dX9_fits_125 : decode cX9_fits 125 = .ok (.if_icmp .gt 7, 3) := by decide +kernel
theorem dX9_fits_128 : decode cX9_fits 128 = .ok (.iconst 1, 1) := by decide +kernel
theorem dX9_fits_129 : decode cX9_fits 129 = .ok (.goto 4, 3) := by decide +kernel
theorem dX9_fits_132 : decode cX9_fits 132 = .ok (.iconst 0, 1) := by decide +kernel
theorem dX9_fits_133 : decode cX9_fits 133 = .ok (.istore 8, 2) := by decide +kernel
theorem dX9_fits_135 : decode cX9_fits 135 = .ok (.iinc 10 1, 3) := by decide +kernel
theorem dX9_fits_138 : decode cX9_fits 138 = .ok (.goto (-42), 3) := by decide +kernel
theorem dX9_fits_141 : decode cX9_fits 141 = .ok (.iload 6, 2) := by decide +kernel
theorem dX9_fits_143 : decode cX9_fits 143 = .ok (.iload 8, 2) := by decide +kernel
theorem dX9_fits_145 : decode cX9_fits 145 = .ok (.ifCond .eq 7, 3) := by decide +kernel
theorem dX9_fits_148 : decode cX9_fits 148 = .ok (.iconst 1, 1) := by decide +kernel
theorem dX9_fits_149 : decode cX9_fits 149 = .ok (.goto 4, 3) := by decide +kernel
theorem dX9_fits_152 : decode cX9_fits 152 = .ok (.iconst 0, 1) := by decide +kernel
theorem dX9_fits_153 : decode cX9_fits 153 = .ok (.iadd, 1) := by decide +kernel
theorem dX9_fits_154 : decode cX9_fits 154 = .ok (.istore 6, 2) := by decide +kernel
theorem dX9_fits_156 : decode cX9_fits 156 = .ok (.iinc 7 1, 3) := by decide +kernel
theorem dX9_fits_159 : decode cX9_fits 159 = .ok (.goto (-101), 3) := by decide +kernel
theorem dX9_fits_162 : decode cX9_fits 162 = .ok (.iload 6, 2) := by decide +kernel
theorem dX9_fits_164 : decode cX9_fits 164 = .ok (.iload 4, 2) := by decide +kernel
theorem dX9_fits_166 : decode cX9_fits 166 = .ok (.if_icmp .le 8, 3) := by decide +kernel
theorem dX9_fits_169 : decode cX9_fits 169 = .ok (.iload 5, 2) := by decide +kernel
theorem dX9_fits_171 : decode cX9_fits 171 = .ok (.goto 4, 3) := by decide +kernel
theorem dX9_fits_174 : decode cX9_fits 174 = .ok (.iload_n 3, 1) := by decide +kernel
theorem dX9_fits_175 : decode cX9_fits 175 = .ok (.istore_n 3, 1) := by decide +kernel
theorem dX9_fits_176 : decode cX9_fits 176 = .ok (.iload 6, 2) := by decide +kernel
theorem dX9_fits_178 : decode cX9_fits 178 = .ok (.iload 4, 2) := by decide +kernel
theorem dX9_fits_180 : decode cX9_fits 180 = .ok (.if_icmp .le 8, 3) := by decide +kernel
theorem dX9_fits_183 : decode cX9_fits 183 = .ok (.iload 6, 2) := by decide +kernel
theorem dX9_fits_185 : decode cX9_fits 185 = .ok (.goto 5, 3) := by decide +kernel
theorem dX9_fits_188 : decode cX9_fits 188 = .ok (.iload 4, 2) := by decide +kernel
theorem dX9_fits_190 : decode cX9_fits 190 = .ok (.istore 4, 2) := by decide +kernel
theorem dX9_fits_192 : decode cX9_fits 192 = .ok (.iinc 5 1, 3) := by decide +kernel
theorem dX9_fits_195 : decode cX9_fits 195 = .ok (.goto (-158), 3) := by decide +kernel
theorem dX9_fits_198 : decode cX9_fits 198 = .ok (.aload_n 0, 1) := by decide +kernel
theorem dX9_fits_199 : decode cX9_fits 199 = .ok (.getfield 25, 3) := by decide +kernel
theorem dX9_fits_202 : decode cX9_fits 202 = .ok (.iconst 0, 1) := by decide +kernel
theorem dX9_fits_203 : decode cX9_fits 203 = .ok (.iload_n 2, 1) := by decide +kernel
theorem dX9_fits_204 : decode cX9_fits 204 = .ok (.iastore, 1) := by decide +kernel
theorem dX9_fits_205 : decode cX9_fits 205 = .ok (.iload_n 1, 1) := by decide +kernel
theorem dX9_fits_206 : decode cX9_fits 206 = .ok (.ifCond .ne 7, 3) := by decide +kernel
theorem dX9_fits_209 : decode cX9_fits 209 = .ok (.iload_n 3, 1) := by decide +kernel
theorem dX9_fits_210 : decode cX9_fits 210 = .ok (.goto 5, 3) := by decide +kernel
theorem dX9_fits_213 : decode cX9_fits 213 = .ok (.iload 4, 2) := by decide +kernel
theorem dX9_fits_215 : decode cX9_fits 215 = .ok (.ireturn, 1) := by decide +kernel
theorem dX9_share_0 : decode cX9_share 0 = .ok (.iload_n 0, 1) := by decide +kernel
theorem dX9_share_1 : decode cX9_share 1 = .ok (.iload_n 1, 1) := by decide +kernel
theorem dX9_share_2 : decode cX9_share 2 = .ok (.iadd, 1) := by decide +kernel
theorem dX9_share_3 : decode cX9_share 3 = .ok (.ifCond .ne 7, 3) := by decide +kernel
theorem dX9_share_6 : decode cX9_share 6 = .ok (.iconst 0, 1) := by decide +kernel
theorem dX9_share_7 : decode cX9_share 7 = .ok (.goto 12, 3) := by decide +kernel
theorem dX9_share_10 : decode cX9_share 10 = .ok (.sipush 1000, 3) := by decide +kernel
theorem dX9_share_13 : decode cX9_share 13 = .ok (.iload_n 0, 1) := by decide +kernel
theorem dX9_share_14 : decode cX9_share 14 = .ok (.imul, 1) := by decide +kernel
theorem dX9_share_15 : decode cX9_share 15 = .ok (.iload_n 0, 1) := by decide +kernel
theorem dX9_share_16 : decode cX9_share 16 = .ok (.iload_n 1, 1) := by decide +kernel
theorem dX9_share_17 : decode cX9_share 17 = .ok (.iadd, 1) := by decide +kernel
theorem dX9_share_18 : decode cX9_share 18 = .ok (.idiv, 1) := by decide +kernel
theorem dX9_share_19 : decode cX9_share 19 = .ok (.ireturn, 1) := by decide +kernel
theorem dX9_apart_0 : decode cX9_apart 0 = .ok (.iload_n 1, 1) := by decide +kernel
theorem dX9_apart_1 : decode cX9_apart 1 = .ok (.i2l, 1) := by decide +kernel
theorem dX9_apart_2 : decode cX9_apart 2 = .ok (.lconst 0, 1) := by decide +kernel
theorem dX9_apart_3 : decode cX9_apart 3 = .ok (.ldc2_w 204, 3) := by decide +kernel
theorem dX9_apart_6 : decode cX9_apart 6 = .ok (.invokestatic 70, 3) := by decide +kernel
theorem dX9_apart_9 : decode cX9_apart 9 = .ok (.ifCond .eq 40, 3) := by decide +kernel
theorem dX9_apart_12 : decode cX9_apart 12 = .ok (.iload_n 2, 1) := by decide +kernel
theorem dX9_apart_13 : decode cX9_apart 13 = .ok (.i2l, 1) := by decide +kernel
theorem dX9_apart_14 : decode cX9_apart 14 = .ok (.lconst 0, 1) := by decide +kernel
theorem dX9_apart_15 : decode cX9_apart 15 = .ok (.ldc2_w 204, 3) := by decide +kernel
theorem dX9_apart_18 : decode cX9_apart 18 = .ok (.invokestatic 70, 3) := by decide +kernel
theorem dX9_apart_21 : decode cX9_apart 21 = .ok (.ifCond .eq 28, 3) := by decide +kernel
theorem dX9_apart_24 : decode cX9_apart 24 = .ok (.iload_n 3, 1) := by decide +kernel
theorem dX9_apart_25 : decode cX9_apart 25 = .ok (.i2l, 1) := by decide +kernel
theorem dX9_apart_26 : decode cX9_apart 26 = .ok (.lconst 0, 1) := by decide +kernel
theorem dX9_apart_27 : decode cX9_apart 27 = .ok (.ldc2_w 204, 3) := by decide +kernel
theorem dX9_apart_30 : decode cX9_apart 30 = .ok (.invokestatic 70, 3) := by decide +kernel
theorem dX9_apart_33 : decode cX9_apart 33 = .ok (.ifCond .eq 16, 3) := by decide +kernel
theorem dX9_apart_36 : decode cX9_apart 36 = .ok (.iload 4, 2) := by decide +kernel
theorem dX9_apart_38 : decode cX9_apart 38 = .ok (.i2l, 1) := by decide +kernel
theorem dX9_apart_39 : decode cX9_apart 39 = .ok (.lconst 0, 1) := by decide +kernel
theorem dX9_apart_40 : decode cX9_apart 40 = .ok (.ldc2_w 204, 3) := by decide +kernel
theorem dX9_apart_43 : decode cX9_apart 43 = .ok (.invokestatic 70, 3) := by decide +kernel
theorem dX9_apart_46 : decode cX9_apart 46 = .ok (.ifCond .ne 6, 3) := by decide +kernel
theorem dX9_apart_49 : decode cX9_apart 49 = .ok (.ldc 200, 2) := by decide +kernel
theorem dX9_apart_51 : decode cX9_apart 51 = .ok (.ireturn, 1) := by decide +kernel
theorem dX9_apart_52 : decode cX9_apart 52 = .ok (.iload_n 1, 1) := by decide +kernel
theorem dX9_apart_53 : decode cX9_apart 53 = .ok (.iload_n 2, 1) := by decide +kernel
theorem dX9_apart_54 : decode cX9_apart 54 = .ok (.invokestatic 215, 3) := by decide +kernel
theorem dX9_apart_57 : decode cX9_apart 57 = .ok (.iload_n 3, 1) := by decide +kernel
theorem dX9_apart_58 : decode cX9_apart 58 = .ok (.iload 4, 2) := by decide +kernel
theorem dX9_apart_60 : decode cX9_apart 60 = .ok (.invokestatic 215, 3) := by decide +kernel
theorem dX9_apart_63 : decode cX9_apart 63 = .ok (.isub, 1) := by decide +kernel
theorem dX9_apart_64 : decode cX9_apart 64 = .ok (.ireturn, 1) := by decide +kernel
theorem dX9_clear_0 : decode cX9_clear 0 = .ok (.aload_n 0, 1) := by decide +kernel
theorem dX9_clear_1 : decode cX9_clear 1 = .ok (.getfield 163, 3) := by decide +kernel
theorem dX9_clear_4 : decode cX9_clear 4 = .ok (.aload_n 0, 1) := by decide +kernel
theorem dX9_clear_5 : decode cX9_clear 5 = .ok (.getfield 166, 3) := by decide +kernel
theorem dX9_clear_8 : decode cX9_clear 8 = .ok (.iadd, 1) := by decide +kernel
theorem dX9_clear_9 : decode cX9_clear 9 = .ok (.istore_n 1, 1) := by decide +kernel
theorem dX9_clear_10 : decode cX9_clear 10 = .ok (.aload_n 0, 1) := by decide +kernel
theorem dX9_clear_11 : decode cX9_clear 11 = .ok (.iconst 0, 1) := by decide +kernel
theorem dX9_clear_12 : decode cX9_clear 12 = .ok (.putfield 163, 3) := by decide +kernel
theorem dX9_clear_15 : decode cX9_clear 15 = .ok (.aload_n 0, 1) := by decide +kernel
theorem dX9_clear_16 : decode cX9_clear 16 = .ok (.iconst 0, 1) := by decide +kernel
theorem dX9_clear_17 : decode cX9_clear 17 = .ok (.putfield 166, 3) := by decide +kernel
theorem dX9_clear_20 : decode cX9_clear 20 = .ok (.iload_n 1, 1) := by decide +kernel
theorem dX9_clear_21 : decode cX9_clear 21 = .ok (.ireturn, 1) := by decide +kernel
theorem dX9_saves_0 : decode cX9_saves 0 = .ok (.iconst 0, 1) := by decide +kernel
theorem dX9_saves_1 : decode cX9_saves 1 = .ok (.istore_n 3, 1) := by decide +kernel
theorem dX9_saves_2 : decode cX9_saves 2 = .ok (.iload_n 3, 1) := by decide +kernel
theorem dX9_saves_3 : decode cX9_saves 3 = .ok (.aload_n 0, 1) := by decide +kernel
theorem dX9_saves_4 : decode cX9_saves 4 = .ok (.arraylength, 1) := by decide +kernel
theorem dX9_saves_5 : decode cX9_saves 5 = .ok (.if_icmp .ge 17, 3) := by decide +kernel
theorem dX9_saves_8 : decode cX9_saves 8 = .ok (.aload_n 1, 1) := by decide +kernel
theorem dX9_saves_9 : decode cX9_saves 9 = .ok (.iload_n 2, 1) := by decide +kernel
theorem dX9_saves_10 : decode cX9_saves 10 = .ok (.iload_n 3, 1) := by decide +kernel
theorem dX9_saves_11 : decode cX9_saves 11 = .ok (.iadd, 1) := by decide +kernel
theorem dX9_saves_12 : decode cX9_saves 12 = .ok (.aload_n 0, 1) := by decide +kernel
theorem dX9_saves_13 : decode cX9_saves 13 = .ok (.iload_n 3, 1) := by decide +kernel
theorem dX9_saves_14 : decode cX9_saves 14 = .ok (.iaload, 1) := by decide +kernel
theorem dX9_saves_15 : decode cX9_saves 15 = .ok (.iastore, 1) := by decide +kernel
theorem dX9_saves_16 : decode cX9_saves 16 = .ok (.iinc 3 1, 3) := by decide +kernel
theorem dX9_saves_19 : decode cX9_saves 19 = .ok (.goto (-17), 3) := by decide +kernel
theorem dX9_saves_22 : decode cX9_saves 22 = .ok (.iload_n 2, 1) := by decide +kernel
theorem dX9_saves_23 : decode cX9_saves 23 = .ok (.aload_n 0, 1) := by decide +kernel
theorem dX9_saves_24 : decode cX9_saves 24 = .ok (.arraylength, 1) := by decide +kernel
theorem dX9_saves_25 : decode cX9_saves 25 = .ok (.iadd, 1) := by decide +kernel
theorem dX9_saves_26 : decode cX9_saves 26 = .ok (.ireturn, 1) := by decide +kernel
theorem dX9_gives_0 : decode cX9_gives 0 = .ok (.iconst 0, 1) := by decide +kernel
theorem dX9_gives_1 : decode cX9_gives 1 = .ok (.istore_n 3, 1) := by decide +kernel
theorem dX9_gives_2 : decode cX9_gives 2 = .ok (.iload_n 3, 1) := by decide +kernel
theorem dX9_gives_3 : decode cX9_gives 3 = .ok (.aload_n 2, 1) := by decide +kernel
theorem dX9_gives_4 : decode cX9_gives 4 = .ok (.arraylength, 1) := by decide +kernel
theorem dX9_gives_5 : decode cX9_gives 5 = .ok (.if_icmp .ge 17, 3) := by decide +kernel
theorem dX9_gives_8 : decode cX9_gives 8 = .ok (.aload_n 2, 1) := by decide +kernel
theorem dX9_gives_9 : decode cX9_gives 9 = .ok (.iload_n 3, 1) := by decide +kernel
theorem dX9_gives_10 : decode cX9_gives 10 = .ok (.aload_n 0, 1) := by decide +kernel
theorem dX9_gives_11 : decode cX9_gives 11 = .ok (.iload_n 1, 1) := by decide +kernel
theorem dX9_gives_12 : decode cX9_gives 12 = .ok (.iload_n 3, 1) := by decide +kernel
theorem dX9_gives_13 : decode cX9_gives 13 = .ok (.iadd, 1) := by decide +kernel
theorem dX9_gives_14 : decode cX9_gives 14 = .ok (.iaload, 1) := by decide +kernel
theorem dX9_gives_15 : decode cX9_gives 15 = .ok (.iastore, 1) := by decide +kernel
theorem dX9_gives_16 : decode cX9_gives 16 = .ok (.iinc 3 1, 3) := by decide +kernel
theorem dX9_gives_19 : decode cX9_gives 19 = .ok (.goto (-17), 3) := by decide +kernel
theorem dX9_gives_22 : decode cX9_gives 22 = .ok (.iload_n 1, 1) := by decide +kernel
theorem dX9_gives_23 : decode cX9_gives 23 = .ok (.aload_n 2, 1) := by decide +kernel
theorem dX9_gives_24 : decode cX9_gives 24 = .ok (.arraylength, 1) := by decide +kernel
theorem dX9_gives_25 : decode cX9_gives 25 = .ok (.iadd, 1) := by decide +kernel
theorem dX9_gives_26 : decode cX9_gives 26 = .ok (.ireturn, 1) := by decide +kernel
theorem dX9_image_0 : decode cX9_image 0 = .ok (.aload_n 0, 1) := by decide +kernel
theorem dX9_image_1 : decode cX9_image 1 = .ok (.getfield 7, 3) := by decide +kernel
theorem dX9_image_4 : decode cX9_image 4 = .ok (.aload_n 0, 1) := by decide +kernel
theorem dX9_image_5 : decode cX9_image 5 = .ok (.getfield 49, 3) := by decide +kernel
theorem dX9_image_8 : decode cX9_image 8 = .ok (.iconst 0, 1) := by decide +kernel
theorem dX9_image_9 : decode cX9_image 9 = .ok (.invokestatic 218, 3) := by decide +kernel
theorem dX9_image_12 : decode cX9_image 12 = .ok (.istore_n 1, 1) := by decide +kernel
theorem dX9_image_13 : decode cX9_image 13 = .ok (.aload_n 0, 1) := by decide +kernel
theorem dX9_image_14 : decode cX9_image 14 = .ok (.getfield 13, 3) := by decide +kernel
theorem dX9_image_17 : decode cX9_image 17 = .ok (.aload_n 0, 1) := by decide +kernel
theorem dX9_image_18 : decode cX9_image 18 = .ok (.getfield 49, 3) := by decide +kernel
theorem dX9_image_21 : decode cX9_image 21 = .ok (.iload_n 1, 1) := by decide +kernel
theorem dX9_image_22 : decode cX9_image 22 = .ok (.invokestatic 218, 3) := by decide +kernel
theorem dX9_image_25 : decode cX9_image 25 = .ok (.istore_n 1, 1) := by decide +kernel
theorem dX9_image_26 : decode cX9_image 26 = .ok (.aload_n 0, 1) := by decide +kernel
theorem dX9_image_27 : decode cX9_image 27 = .ok (.getfield 16, 3) := by decide +kernel
theorem dX9_image_30 : decode cX9_image 30 = .ok (.aload_n 0, 1) := by decide +kernel
theorem dX9_image_31 : decode cX9_image 31 = .ok (.getfield 49, 3) := by decide +kernel
theorem dX9_image_34 : decode cX9_image 34 = .ok (.iload_n 1, 1) := by decide +kernel
theorem dX9_image_35 : decode cX9_image 35 = .ok (.invokestatic 218, 3) := by decide +kernel
theorem dX9_image_38 : decode cX9_image 38 = .ok (.istore_n 1, 1) := by decide +kernel
theorem dX9_image_39 : decode cX9_image 39 = .ok (.aload_n 0, 1) := by decide +kernel
theorem dX9_image_40 : decode cX9_image 40 = .ok (.getfield 19, 3) := by decide +kernel
theorem dX9_image_43 : decode cX9_image 43 = .ok (.aload_n 0, 1) := by decide +kernel
theorem dX9_image_44 : decode cX9_image 44 = .ok (.getfield 49, 3) := by decide +kernel
theorem dX9_image_47 : decode cX9_image 47 = .ok (.iload_n 1, 1) := by decide +kernel
theorem dX9_image_48 : decode cX9_image 48 = .ok (.invokestatic 218, 3) := by decide +kernel
theorem dX9_image_51 : decode cX9_image 51 = .ok (.istore_n 1, 1) := by decide +kernel
theorem dX9_image_52 : decode cX9_image 52 = .ok (.aload_n 0, 1) := by decide +kernel
theorem dX9_image_53 : decode cX9_image 53 = .ok (.getfield 22, 3) := by decide +kernel
theorem dX9_image_56 : decode cX9_image 56 = .ok (.aload_n 0, 1) := by decide +kernel
theorem dX9_image_57 : decode cX9_image 57 = .ok (.getfield 49, 3) := by decide +kernel
theorem dX9_image_60 : decode cX9_image 60 = .ok (.iload_n 1, 1) := by decide +kernel
theorem dX9_image_61 : decode cX9_image 61 = .ok (.invokestatic 218, 3) := by decide +kernel
theorem dX9_image_64 : decode cX9_image 64 = .ok (.istore_n 1, 1) := by decide +kernel
theorem dX9_image_65 : decode cX9_image 65 = .ok (.aload_n 0, 1) := by decide +kernel
theorem dX9_image_66 : decode cX9_image 66 = .ok (.getfield 25, 3) := by decide +kernel
theorem dX9_image_69 : decode cX9_image 69 = .ok (.aload_n 0, 1) := by decide +kernel
theorem dX9_image_70 : decode cX9_image 70 = .ok (.getfield 49, 3) := by decide +kernel
theorem dX9_image_73 : decode cX9_image 73 = .ok (.iload_n 1, 1) := by decide +kernel
theorem dX9_image_74 : decode cX9_image 74 = .ok (.invokestatic 218, 3) := by decide +kernel
theorem dX9_image_77 : decode cX9_image 77 = .ok (.istore_n 1, 1) := by decide +kernel
theorem dX9_image_78 : decode cX9_image 78 = .ok (.aload_n 0, 1) := by decide +kernel
theorem dX9_image_79 : decode cX9_image 79 = .ok (.getfield 28, 3) := by decide +kernel
theorem dX9_image_82 : decode cX9_image 82 = .ok (.aload_n 0, 1) := by decide +kernel
theorem dX9_image_83 : decode cX9_image 83 = .ok (.getfield 49, 3) := by decide +kernel
theorem dX9_image_86 : decode cX9_image 86 = .ok (.iload_n 1, 1) := by decide +kernel
theorem dX9_image_87 : decode cX9_image 87 = .ok (.invokestatic 218, 3) := by decide +kernel
theorem dX9_image_90 : decode cX9_image 90 = .ok (.istore_n 1, 1) := by decide +kernel
theorem dX9_image_91 : decode cX9_image 91 = .ok (.aload_n 0, 1) := by decide +kernel
theorem dX9_image_92 : decode cX9_image 92 = .ok (.getfield 37, 3) := by decide +kernel
theorem dX9_image_95 : decode cX9_image 95 = .ok (.aload_n 0, 1) := by decide +kernel
theorem dX9_image_96 : decode cX9_image 96 = .ok (.getfield 49, 3) := by decide +kernel
theorem dX9_image_99 : decode cX9_image 99 = .ok (.iload_n 1, 1) := by decide +kernel
theorem dX9_image_100 : decode cX9_image 100 = .ok (.invokestatic 218, 3) := by decide +kernel
theorem dX9_image_103 : decode cX9_image 103 = .ok (.istore_n 1, 1) := by decide +kernel
theorem dX9_image_104 : decode cX9_image 104 = .ok (.aload_n 0, 1) := by decide +kernel
theorem dX9_image_105 : decode cX9_image 105 = .ok (.getfield 43, 3) := by decide +kernel
theorem dX9_image_108 : decode cX9_image 108 = .ok (.aload_n 0, 1) := by decide +kernel
theorem dX9_image_109 : decode cX9_image 109 = .ok (.getfield 49, 3) := by decide +kernel
theorem dX9_image_112 : decode cX9_image 112 = .ok (.iload_n 1, 1) := by decide +kernel
theorem dX9_image_113 : decode cX9_image 113 = .ok (.invokestatic 218, 3) := by decide +kernel
theorem dX9_image_116 : decode cX9_image 116 = .ok (.istore_n 1, 1) := by decide +kernel
theorem dX9_image_117 : decode cX9_image 117 = .ok (.aload_n 0, 1) := by decide +kernel
theorem dX9_image_118 : decode cX9_image 118 = .ok (.getfield 46, 3) := by decide +kernel
theorem dX9_image_121 : decode cX9_image 121 = .ok (.aload_n 0, 1) := by decide +kernel
theorem dX9_image_122 : decode cX9_image 122 = .ok (.getfield 49, 3) := by decide +kernel
theorem dX9_image_125 : decode cX9_image 125 = .ok (.iload_n 1, 1) := by decide +kernel
theorem dX9_image_126 : decode cX9_image 126 = .ok (.invokestatic 218, 3) := by decide +kernel
theorem dX9_image_129 : decode cX9_image 129 = .ok (.istore_n 1, 1) := by decide +kernel
theorem dX9_image_130 : decode cX9_image 130 = .ok (.aload_n 0, 1) := by decide +kernel
theorem dX9_image_131 : decode cX9_image 131 = .ok (.getfield 49, 3) := by decide +kernel
theorem dX9_image_134 : decode cX9_image 134 = .ok (.iload_n 1, 1) := by decide +kernel
theorem dX9_image_135 : decode cX9_image 135 = .ok (.aload_n 0, 1) := by decide +kernel
theorem dX9_image_136 : decode cX9_image 136 = .ok (.getfield 64, 3) := by decide +kernel
theorem dX9_image_139 : decode cX9_image 139 = .ok (.iastore, 1) := by decide +kernel
theorem dX9_image_140 : decode cX9_image 140 = .ok (.aload_n 0, 1) := by decide +kernel
theorem dX9_image_141 : decode cX9_image 141 = .ok (.getfield 49, 3) := by decide +kernel
theorem dX9_image_144 : decode cX9_image 144 = .ok (.iload_n 1, 1) := by decide +kernel
theorem dX9_image_145 : decode cX9_image 145 = .ok (.iconst 1, 1) := by decide +kernel
theorem dX9_image_146 : decode cX9_image 146 = .ok (.iadd, 1) := by decide +kernel
theorem dX9_image_147 : decode cX9_image 147 = .ok (.aload_n 0, 1) := by decide +kernel
theorem dX9_image_148 : decode cX9_image 148 = .ok (.getfield 76, 3) := by decide +kernel
theorem dX9_image_151 : decode cX9_image 151 = .ok (.iastore, 1) := by decide +kernel
theorem dX9_image_152 : decode cX9_image 152 = .ok (.aload_n 0, 1) := by decide +kernel
theorem dX9_image_153 : decode cX9_image 153 = .ok (.getfield 49, 3) := by decide +kernel
theorem dX9_image_156 : decode cX9_image 156 = .ok (.iload_n 1, 1) := by decide +kernel
theorem dX9_image_157 : decode cX9_image 157 = .ok (.iconst 2, 1) := by decide +kernel
theorem dX9_image_158 : decode cX9_image 158 = .ok (.iadd, 1) := by decide +kernel
theorem dX9_image_159 : decode cX9_image 159 = .ok (.aload_n 0, 1) := by decide +kernel
theorem dX9_image_160 : decode cX9_image 160 = .ok (.getfield 163, 3) := by decide +kernel
theorem dX9_image_163 : decode cX9_image 163 = .ok (.iastore, 1) := by decide +kernel
theorem dX9_image_164 : decode cX9_image 164 = .ok (.aload_n 0, 1) := by decide +kernel
theorem dX9_image_165 : decode cX9_image 165 = .ok (.getfield 49, 3) := by decide +kernel
theorem dX9_image_168 : decode cX9_image 168 = .ok (.iload_n 1, 1) := by decide +kernel
theorem dX9_image_169 : decode cX9_image 169 = .ok (.iconst 3, 1) := by decide +kernel
theorem dX9_image_170 : decode cX9_image 170 = .ok (.iadd, 1) := by decide +kernel
theorem dX9_image_171 : decode cX9_image 171 = .ok (.aload_n 0, 1) := by decide +kernel
theorem dX9_image_172 : decode cX9_image 172 = .ok (.getfield 166, 3) := by decide +kernel
theorem dX9_image_175 : decode cX9_image 175 = .ok (.iastore, 1) := by decide +kernel
theorem dX9_image_176 : decode cX9_image 176 = .ok (.aload_n 0, 1) := by decide +kernel
theorem dX9_image_177 : decode cX9_image 177 = .ok (.iconst 1, 1) := by decide +kernel
theorem dX9_image_178 : decode cX9_image 178 = .ok (.putfield 222, 3) := by decide +kernel
theorem dX9_image_181 : decode cX9_image 181 = .ok (.iconst 1, 1) := by decide +kernel
theorem dX9_image_182 : decode cX9_image 182 = .ok (.ireturn, 1) := by decide +kernel
theorem dX9_restore_0 : decode cX9_restore 0 = .ok (.aload_n 0, 1) := by decide +kernel
theorem dX9_restore_1 : decode cX9_restore 1 = .ok (.getfield 222, 3) := by decide +kernel
theorem dX9_restore_4 : decode cX9_restore 4 = .ok (.ifCond .ne 6, 3) := by decide +kernel
theorem dX9_restore_7 : decode cX9_restore 7 = .ok (.bipush (-4), 2) := by decide +kernel
theorem dX9_restore_9 : decode cX9_restore 9 = .ok (.ireturn, 1) := by decide +kernel
theorem dX9_restore_10 : decode cX9_restore 10 = .ok (.aload_n 0, 1) := by decide +kernel
theorem dX9_restore_11 : decode cX9_restore 11 = .ok (.getfield 49, 3) := by decide +kernel
theorem dX9_restore_14 : decode cX9_restore 14 = .ok (.iconst 0, 1) := by decide +kernel
theorem dX9_restore_15 : decode cX9_restore 15 = .ok (.aload_n 0, 1) := by decide +kernel
theorem dX9_restore_16 : decode cX9_restore 16 = .ok (.getfield 7, 3) := by decide +kernel
theorem dX9_restore_19 : decode cX9_restore 19 = .ok (.invokestatic 225, 3) := by decide +kernel
theorem dX9_restore_22 : decode cX9_restore 22 = .ok (.istore_n 1, 1) := by decide +kernel
theorem dX9_restore_23 : decode cX9_restore 23 = .ok (.aload_n 0, 1) := by decide +kernel
theorem dX9_restore_24 : decode cX9_restore 24 = .ok (.getfield 49, 3) := by decide +kernel
theorem dX9_restore_27 : decode cX9_restore 27 = .ok (.iload_n 1, 1) := by decide +kernel
theorem dX9_restore_28 : decode cX9_restore 28 = .ok (.aload_n 0, 1) := by decide +kernel
theorem dX9_restore_29 : decode cX9_restore 29 = .ok (.getfield 13, 3) := by decide +kernel
theorem dX9_restore_32 : decode cX9_restore 32 = .ok (.invokestatic 225, 3) := by decide +kernel
theorem dX9_restore_35 : decode cX9_restore 35 = .ok (.istore_n 1, 1) := by decide +kernel
theorem dX9_restore_36 : decode cX9_restore 36 = .ok (.aload_n 0, 1) := by decide +kernel
theorem dX9_restore_37 : decode cX9_restore 37 = .ok (.getfield 49, 3) := by decide +kernel
theorem dX9_restore_40 : decode cX9_restore 40 = .ok (.iload_n 1, 1) := by decide +kernel
theorem dX9_restore_41 : decode cX9_restore 41 = .ok (.aload_n 0, 1) := by decide +kernel
theorem dX9_restore_42 : decode cX9_restore 42 = .ok (.getfield 16, 3) := by decide +kernel
theorem dX9_restore_45 : decode cX9_restore 45 = .ok (.invokestatic 225, 3) := by decide +kernel
theorem dX9_restore_48 : decode cX9_restore 48 = .ok (.istore_n 1, 1) := by decide +kernel
theorem dX9_restore_49 : decode cX9_restore 49 = .ok (.aload_n 0, 1) := by decide +kernel
theorem dX9_restore_50 : decode cX9_restore 50 = .ok (.getfield 49, 3) := by decide +kernel
theorem dX9_restore_53 : decode cX9_restore 53 = .ok (.iload_n 1, 1) := by decide +kernel
theorem dX9_restore_54 : decode cX9_restore 54 = .ok (.aload_n 0, 1) := by decide +kernel
theorem dX9_restore_55 : decode cX9_restore 55 = .ok (.getfield 19, 3) := by decide +kernel
theorem dX9_restore_58 : decode cX9_restore 58 = .ok (.invokestatic 225, 3) := by decide +kernel
theorem dX9_restore_61 : decode cX9_restore 61 = .ok (.istore_n 1, 1) := by decide +kernel
theorem dX9_restore_62 : decode cX9_restore 62 = .ok (.aload_n 0, 1) := by decide +kernel
theorem dX9_restore_63 : decode cX9_restore 63 = .ok (.getfield 49, 3) := by decide +kernel
theorem dX9_restore_66 : decode cX9_restore 66 = .ok (.iload_n 1, 1) := by decide +kernel
theorem dX9_restore_67 : decode cX9_restore 67 = .ok (.aload_n 0, 1) := by decide +kernel
theorem dX9_restore_68 : decode cX9_restore 68 = .ok (.getfield 22, 3) := by decide +kernel
theorem dX9_restore_71 : decode cX9_restore 71 = .ok (.invokestatic 225, 3) := by decide +kernel
theorem dX9_restore_74 : decode cX9_restore 74 = .ok (.istore_n 1, 1) := by decide +kernel
theorem dX9_restore_75 : decode cX9_restore 75 = .ok (.aload_n 0, 1) := by decide +kernel
theorem dX9_restore_76 : decode cX9_restore 76 = .ok (.getfield 49, 3) := by decide +kernel
theorem dX9_restore_79 : decode cX9_restore 79 = .ok (.iload_n 1, 1) := by decide +kernel
theorem dX9_restore_80 : decode cX9_restore 80 = .ok (.aload_n 0, 1) := by decide +kernel
theorem dX9_restore_81 : decode cX9_restore 81 = .ok (.getfield 25, 3) := by decide +kernel
theorem dX9_restore_84 : decode cX9_restore 84 = .ok (.invokestatic 225, 3) := by decide +kernel
theorem dX9_restore_87 : decode cX9_restore 87 = .ok (.istore_n 1, 1) := by decide +kernel
theorem dX9_restore_88 : decode cX9_restore 88 = .ok (.aload_n 0, 1) := by decide +kernel
theorem dX9_restore_89 : decode cX9_restore 89 = .ok (.getfield 49, 3) := by decide +kernel
theorem dX9_restore_92 : decode cX9_restore 92 = .ok (.iload_n 1, 1) := by decide +kernel
theorem dX9_restore_93 : decode cX9_restore 93 = .ok (.aload_n 0, 1) := by decide +kernel
theorem dX9_restore_94 : decode cX9_restore 94 = .ok (.getfield 28, 3) := by decide +kernel
theorem dX9_restore_97 : decode cX9_restore 97 = .ok (.invokestatic 225, 3) := by decide +kernel
theorem dX9_restore_100 : decode cX9_restore 100 = .ok (.istore_n 1, 1) := by decide +kernel
theorem dX9_restore_101 : decode cX9_restore 101 = .ok (.aload_n 0, 1) := by decide +kernel
theorem dX9_restore_102 : decode cX9_restore 102 = .ok (.getfield 49, 3) := by decide +kernel
theorem dX9_restore_105 : decode cX9_restore 105 = .ok (.iload_n 1, 1) := by decide +kernel
theorem dX9_restore_106 : decode cX9_restore 106 = .ok (.aload_n 0, 1) := by decide +kernel
theorem dX9_restore_107 : decode cX9_restore 107 = .ok (.getfield 37, 3) := by decide +kernel
theorem dX9_restore_110 : decode cX9_restore 110 = .ok (.invokestatic 225, 3) := by decide +kernel
theorem dX9_restore_113 : decode cX9_restore 113 = .ok (.istore_n 1, 1) := by decide +kernel
theorem dX9_restore_114 : decode cX9_restore 114 = .ok (.aload_n 0, 1) := by decide +kernel
theorem dX9_restore_115 : decode cX9_restore 115 = .ok (.getfield 49, 3) := by decide +kernel
theorem dX9_restore_118 : decode cX9_restore 118 = .ok (.iload_n 1, 1) := by decide +kernel
theorem dX9_restore_119 : decode cX9_restore 119 = .ok (.aload_n 0, 1) := by decide +kernel
theorem dX9_restore_120 : decode cX9_restore 120 = .ok (.getfield 43, 3) := by decide +kernel
theorem dX9_restore_123 : decode cX9_restore 123 = .ok (.invokestatic 225, 3) := by decide +kernel
theorem dX9_restore_126 : decode cX9_restore 126 = .ok (.istore_n 1, 1) := by decide +kernel
theorem dX9_restore_127 : decode cX9_restore 127 = .ok (.aload_n 0, 1) := by decide +kernel
theorem dX9_restore_128 : decode cX9_restore 128 = .ok (.getfield 49, 3) := by decide +kernel
theorem dX9_restore_131 : decode cX9_restore 131 = .ok (.iload_n 1, 1) := by decide +kernel
theorem dX9_restore_132 : decode cX9_restore 132 = .ok (.aload_n 0, 1) := by decide +kernel
theorem dX9_restore_133 : decode cX9_restore 133 = .ok (.getfield 46, 3) := by decide +kernel
theorem dX9_restore_136 : decode cX9_restore 136 = .ok (.invokestatic 225, 3) := by decide +kernel
theorem dX9_restore_139 : decode cX9_restore 139 = .ok (.istore_n 1, 1) := by decide +kernel
theorem dX9_restore_140 : decode cX9_restore 140 = .ok (.aload_n 0, 1) := by decide +kernel
theorem dX9_restore_141 : decode cX9_restore 141 = .ok (.aload_n 0, 1) := by decide +kernel
theorem dX9_restore_142 : decode cX9_restore 142 = .ok (.getfield 49, 3) := by decide +kernel
theorem dX9_restore_145 : decode cX9_restore 145 = .ok (.iload_n 1, 1) := by decide +kernel
theorem dX9_restore_146 : decode cX9_restore 146 = .ok (.iaload, 1) := by decide +kernel
theorem dX9_restore_147 : decode cX9_restore 147 = .ok (.putfield 64, 3) := by decide +kernel
theorem dX9_restore_150 : decode cX9_restore 150 = .ok (.aload_n 0, 1) := by decide +kernel
theorem dX9_restore_151 : decode cX9_restore 151 = .ok (.aload_n 0, 1) := by decide +kernel
theorem dX9_restore_152 : decode cX9_restore 152 = .ok (.getfield 49, 3) := by decide +kernel
theorem dX9_restore_155 : decode cX9_restore 155 = .ok (.iload_n 1, 1) := by decide +kernel
theorem dX9_restore_156 : decode cX9_restore 156 = .ok (.iconst 1, 1) := by decide +kernel
theorem dX9_restore_157 : decode cX9_restore 157 = .ok (.iadd, 1) := by decide +kernel
theorem dX9_restore_158 : decode cX9_restore 158 = .ok (.iaload, 1) := by decide +kernel
theorem dX9_restore_159 : decode cX9_restore 159 = .ok (.putfield 76, 3) := by decide +kernel
theorem dX9_restore_162 : decode cX9_restore 162 = .ok (.aload_n 0, 1) := by decide +kernel
theorem dX9_restore_163 : decode cX9_restore 163 = .ok (.aload_n 0, 1) := by decide +kernel
theorem dX9_restore_164 : decode cX9_restore 164 = .ok (.getfield 49, 3) := by decide +kernel
theorem dX9_restore_167 : decode cX9_restore 167 = .ok (.iload_n 1, 1) := by decide +kernel
theorem dX9_restore_168 : decode cX9_restore 168 = .ok (.iconst 2, 1) := by decide +kernel
theorem dX9_restore_169 : decode cX9_restore 169 = .ok (.iadd, 1) := by decide +kernel
theorem dX9_restore_170 : decode cX9_restore 170 = .ok (.iaload, 1) := by decide +kernel
theorem dX9_restore_171 : decode cX9_restore 171 = .ok (.putfield 163, 3) := by decide +kernel
theorem dX9_restore_174 : decode cX9_restore 174 = .ok (.aload_n 0, 1) := by decide +kernel
theorem dX9_restore_175 : decode cX9_restore 175 = .ok (.aload_n 0, 1) := by decide +kernel
theorem dX9_restore_176 : decode cX9_restore 176 = .ok (.getfield 49, 3) := by decide +kernel
theorem dX9_restore_179 : decode cX9_restore 179 = .ok (.iload_n 1, 1) := by decide +kernel
theorem dX9_restore_180 : decode cX9_restore 180 = .ok (.iconst 3, 1) := by decide +kernel
theorem dX9_restore_181 : decode cX9_restore 181 = .ok (.iadd, 1) := by decide +kernel
theorem dX9_restore_182 : decode cX9_restore 182 = .ok (.iaload, 1) := by decide +kernel
theorem dX9_restore_183 : decode cX9_restore 183 = .ok (.putfield 166, 3) := by decide +kernel
theorem dX9_restore_186 : decode cX9_restore 186 = .ok (.iconst 1, 1) := by decide +kernel
theorem dX9_restore_187 : decode cX9_restore 187 = .ok (.ireturn, 1) := by decide +kernel
theorem dX9_isSheet_0 : decode cX9_isSheet 0 = .ok (.iload_n 0, 1) := by decide +kernel
theorem dX9_isSheet_1 : decode cX9_isSheet 1 = .ok (.i2l, 1) := by decide +kernel
theorem dX9_isSheet_2 : decode cX9_isSheet 2 = .ok (.lconst 0, 1) := by decide +kernel
theorem dX9_isSheet_3 : decode cX9_isSheet 3 = .ok (.ldc2_w 74, 3) := by decide +kernel
theorem dX9_isSheet_6 : decode cX9_isSheet 6 = .ok (.invokestatic 70, 3) := by decide +kernel
theorem dX9_isSheet_9 : decode cX9_isSheet 9 = .ok (.ireturn, 1) := by decide +kernel
theorem dX9_isLane_0 : decode cX9_isLane 0 = .ok (.iload_n 0, 1) := by decide +kernel
theorem dX9_isLane_1 : decode cX9_isLane 1 = .ok (.i2l, 1) := by decide +kernel
theorem dX9_isLane_2 : decode cX9_isLane 2 = .ok (.lconst 0, 1) := by decide +kernel
theorem dX9_isLane_3 : decode cX9_isLane 3 = .ok (.ldc2_w 88, 3) := by decide +kernel
theorem dX9_isLane_6 : decode cX9_isLane 6 = .ok (.invokestatic 70, 3) := by decide +kernel
theorem dX9_isLane_9 : decode cX9_isLane 9 = .ok (.ireturn, 1) := by decide +kernel
theorem dX9_finds_0 : decode cX9_finds 0 = .ok (.aload_n 0, 1) := by decide +kernel
theorem dX9_finds_1 : decode cX9_finds 1 = .ok (.getfield 52, 3) := by decide +kernel
theorem dX9_finds_4 : decode cX9_finds 4 = .ok (.iload_n 1, 1) := by decide +kernel
theorem dX9_finds_5 : decode cX9_finds 5 = .ok (.iaload, 1) := by decide +kernel
theorem dX9_finds_6 : decode cX9_finds 6 = .ok (.ifCond .ge 6, 3) := by decide +kernel
theorem dX9_finds_9 : decode cX9_finds 9 = .ok (.bipush (-11), 2) := by decide +kernel
theorem dX9_finds_11 : decode cX9_finds 11 = .ok (.ireturn, 1) := by decide +kernel
theorem dX9_finds_12 : decode cX9_finds 12 = .ok (.aload_n 0, 1) := by decide +kernel
theorem dX9_finds_13 : decode cX9_finds 13 = .ok (.getfield 52, 3) := by decide +kernel
theorem dX9_finds_16 : decode cX9_finds 16 = .ok (.iload_n 1, 1) := by decide +kernel
theorem dX9_finds_17 : decode cX9_finds 17 = .ok (.iaload, 1) := by decide +kernel
theorem dX9_finds_18 : decode cX9_finds 18 = .ok (.iload_n 2, 1) := by decide +kernel
theorem dX9_finds_19 : decode cX9_finds 19 = .ok (.if_icmp .eq 6, 3) := by decide +kernel
theorem dX9_finds_22 : decode cX9_finds 22 = .ok (.bipush (-12), 2) := by decide +kernel
theorem dX9_finds_24 : decode cX9_finds 24 = .ok (.ireturn, 1) := by decide +kernel
theorem dX9_finds_25 : decode cX9_finds 25 = .ok (.iload_n 3, 1) := by decide +kernel
theorem dX9_finds_26 : decode cX9_finds 26 = .ok (.ifCond .lt 20, 3) := by decide +kernel
theorem dX9_finds_29 : decode cX9_finds 29 = .ok (.iload_n 3, 1) := by decide +kernel
theorem dX9_finds_30 : decode cX9_finds 30 = .ok (.i2l, 1) := by decide +kernel
theorem dX9_finds_31 : decode cX9_finds 31 = .ok (.iload 4, 2) := by decide +kernel
theorem dX9_finds_33 : decode cX9_finds 33 = .ok (.i2l, 1) := by decide +kernel
theorem dX9_finds_34 : decode cX9_finds 34 = .ok (.ladd, 1) := by decide +kernel
theorem dX9_finds_35 : decode cX9_finds 35 = .ok (.aload_n 0, 1) := by decide +kernel
theorem dX9_finds_36 : decode cX9_finds 36 = .ok (.getfield 55, 3) := by decide +kernel
theorem dX9_finds_39 : decode cX9_finds 39 = .ok (.iload_n 1, 1) := by decide +kernel
theorem dX9_finds_40 : decode cX9_finds 40 = .ok (.iaload, 1) := by decide +kernel
theorem dX9_finds_41 : decode cX9_finds 41 = .ok (.i2l, 1) := by decide +kernel
theorem dX9_finds_42 : decode cX9_finds 42 = .ok (.lcmp, 1) := by decide +kernel
theorem dX9_finds_43 : decode cX9_finds 43 = .ok (.ifCond .le 8, 3) := by decide +kernel
theorem dX9_finds_46 : decode cX9_finds 46 = .ok (.bipush (-13), 2) := by decide +kernel
theorem dX9_finds_48 : decode cX9_finds 48 = .ok (.goto 4, 3) := by decide +kernel
theorem dX9_finds_51 : decode cX9_finds 51 = .ok (.iconst 0, 1) := by decide +kernel
theorem dX9_finds_52 : decode cX9_finds 52 = .ok (.ireturn, 1) := by decide +kernel
theorem dX9_eyes_0 : decode cX9_eyes 0 = .ok (.iload_n 1, 1) := by decide +kernel
theorem dX9_eyes_1 : decode cX9_eyes 1 = .ok (.invokestatic 79, 3) := by decide +kernel
theorem dX9_eyes_4 : decode cX9_eyes 4 = .ok (.ifCond .eq 39, 3) := by decide +kernel
theorem dX9_eyes_7 : decode cX9_eyes 7 = .ok (.iload_n 2, 1) := by decide +kernel
theorem dX9_eyes_8 : decode cX9_eyes 8 = .ok (.invokestatic 229, 3) := by decide +kernel
theorem dX9_eyes_11 : decode cX9_eyes 11 = .ok (.ifCond .eq 32, 3) := by decide +kernel
theorem dX9_eyes_14 : decode cX9_eyes 14 = .ok (.iload_n 3, 1) := by decide +kernel
theorem dX9_eyes_15 : decode cX9_eyes 15 = .ok (.invokestatic 232, 3) := by decide +kernel
theorem dX9_eyes_18 : decode cX9_eyes 18 = .ok (.ifCond .eq 25, 3) := by decide +kernel
theorem dX9_eyes_21 : decode cX9_eyes 21 = .ok (.iload 5, 2) := by decide +kernel
theorem dX9_eyes_23 : decode cX9_eyes 23 = .ok (.i2l, 1) := by decide +kernel
theorem dX9_eyes_24 : decode cX9_eyes 24 = .ok (.lconst 1, 1) := by decide +kernel
theorem dX9_eyes_25 : decode cX9_eyes 25 = .ok (.ldc2_w 235, 3) := by decide +kernel
theorem dX9_eyes_28 : decode cX9_eyes 28 = .ok (.invokestatic 70, 3) := by decide +kernel
theorem dX9_eyes_31 : decode cX9_eyes 31 = .ok (.ifCond .eq 12, 3) := by decide +kernel
theorem dX9_eyes_34 : decode cX9_eyes 34 = .ok (.iload_n 1, 1) := by decide +kernel
theorem dX9_eyes_35 : decode cX9_eyes 35 = .ok (.iload 5, 2) := by decide +kernel
theorem dX9_eyes_37 : decode cX9_eyes 37 = .ok (.iadd, 1) := by decide +kernel
theorem dX9_eyes_38 : decode cX9_eyes 38 = .ok (.bipush 16, 2) := by decide +kernel
theorem dX9_eyes_40 : decode cX9_eyes 40 = .ok (.if_icmp .le 5, 3) := by decide +kernel
theorem dX9_eyes_43 : decode cX9_eyes 43 = .ok (.iconst (-1), 1) := by decide +kernel
theorem dX9_eyes_44 : decode cX9_eyes 44 = .ok (.ireturn, 1) := by decide +kernel
theorem dX9_eyes_45 : decode cX9_eyes 45 = .ok (.aload_n 0, 1) := by decide +kernel
theorem dX9_eyes_46 : decode cX9_eyes 46 = .ok (.iload_n 2, 1) := by decide +kernel
theorem dX9_eyes_47 : decode cX9_eyes 47 = .ok (.iload_n 3, 1) := by decide +kernel
theorem dX9_eyes_48 : decode cX9_eyes 48 = .ok (.iload 4, 2) := by decide +kernel
theorem dX9_eyes_50 : decode cX9_eyes 50 = .ok (.iload 5, 2) := by decide +kernel
theorem dX9_eyes_52 : decode cX9_eyes 52 = .ok (.invokevirtual 237, 3) := by decide +kernel
theorem dX9_eyes_55 : decode cX9_eyes 55 = .ok (.istore 6, 2) := by decide +kernel
theorem dX9_eyes_57 : decode cX9_eyes 57 = .ok (.iload 6, 2) := by decide +kernel
theorem dX9_eyes_59 : decode cX9_eyes 59 = .ok (.ifCond .ge 6, 3) := by decide +kernel
theorem dX9_eyes_62 : decode cX9_eyes 62 = .ok (.iload 6, 2) := by decide +kernel
theorem dX9_eyes_64 : decode cX9_eyes 64 = .ok (.ireturn, 1) := by decide +kernel
theorem dX9_eyes_65 : decode cX9_eyes 65 = .ok (.iconst 0, 1) := by decide +kernel
theorem dX9_eyes_66 : decode cX9_eyes 66 = .ok (.istore 7, 2) := by decide +kernel
theorem dX9_eyes_68 : decode cX9_eyes 68 = .ok (.iconst 0, 1) := by decide +kernel
theorem dX9_eyes_69 : decode cX9_eyes 69 = .ok (.istore 8, 2) := by decide +kernel
theorem dX9_eyes_71 : decode cX9_eyes 71 = .ok (.iload 8, 2) := by decide +kernel
theorem dX9_eyes_73 : decode cX9_eyes 73 = .ok (.iload 5, 2) := by decide +kernel
theorem dX9_eyes_75 : decode cX9_eyes 75 = .ok (.if_icmp .ge 59, 3) := by decide +kernel
theorem dX9_eyes_78 : decode cX9_eyes 78 = .ok (.aload_n 0, 1) := by decide +kernel
theorem dX9_eyes_79 : decode cX9_eyes 79 = .ok (.getfield 58, 3) := by decide +kernel
theorem dX9_eyes_82 : decode cX9_eyes 82 = .ok (.bipush 16, 2) := by decide +kernel
theorem dX9_eyes_84 : decode cX9_eyes 84 = .ok (.iload_n 2, 1) := by decide +kernel
theorem dX9_eyes_85 : decode cX9_eyes 85 = .ok (.imul, 1) := by decide +kernel
theorem dX9_eyes_86 : decode cX9_eyes 86 = .ok (.iload 4, 2) := by decide +kernel
theorem dX9_eyes_88 : decode cX9_eyes 88 = .ok (.iadd, 1) := by decide +kernel
theorem dX9_eyes_89 : decode cX9_eyes 89 = .ok (.iload 8, 2) := by decide +kernel
theorem dX9_eyes_91 : decode cX9_eyes 91 = .ok (.iadd, 1) := by decide +kernel
theorem dX9_eyes_92 : decode cX9_eyes 92 = .ok (.iaload, 1) := by decide +kernel
theorem dX9_eyes_93 : decode cX9_eyes 93 = .ok (.istore 9, 2) := by decide +kernel
theorem dX9_eyes_95 : decode cX9_eyes 95 = .ok (.iload 9, 2) := by decide +kernel
theorem dX9_eyes_97 : decode cX9_eyes 97 = .ok (.i2l, 1) := by decide +kernel
theorem dX9_eyes_98 : decode cX9_eyes 98 = .ok (.ldc2_w 90, 3) := by decide +kernel
theorem dX9_eyes_101 : decode cX9_eyes 101 = .ok (.ldc2_w 74, 3) := by decide +kernel
theorem dX9_eyes_104 : decode cX9_eyes 104 = .ok (.invokestatic 70, 3) := by decide +kernel
theorem dX9_eyes_107 : decode cX9_eyes 107 = .ok (.ifCond .ne 6, 3) := by decide +kernel
theorem dX9_eyes_110 : decode cX9_eyes 110 = .ok (.bipush (-2), 2) := by decide +kernel
theorem dX9_eyes_112 : decode cX9_eyes 112 = .ok (.ireturn, 1) := by decide +kernel
theorem dX9_eyes_113 : decode cX9_eyes 113 = .ok (.iload 7, 2) := by decide +kernel
theorem dX9_eyes_115 : decode cX9_eyes 115 = .ok (.iload 9, 2) := by decide +kernel
theorem dX9_eyes_117 : decode cX9_eyes 117 = .ok (.ifCond .lt 7, 3) := by decide +kernel
theorem dX9_eyes_120 : decode cX9_eyes 120 = .ok (.iconst 1, 1) := by decide +kernel
theorem dX9_eyes_121 : decode cX9_eyes 121 = .ok (.goto 4, 3) := by decide +kernel
theorem dX9_eyes_124 : decode cX9_eyes 124 = .ok (.iconst 0, 1) := by decide +kernel
theorem dX9_eyes_125 : decode cX9_eyes 125 = .ok (.iadd, 1) := by decide +kernel
theorem dX9_eyes_126 : decode cX9_eyes 126 = .ok (.istore 7, 2) := by decide +kernel
theorem dX9_eyes_128 : decode cX9_eyes 128 = .ok (.iinc 8 1, 3) := by decide +kernel
theorem dX9_eyes_131 : decode cX9_eyes 131 = .ok (.goto (-60), 3) := by decide +kernel
theorem dX9_eyes_134 : decode cX9_eyes 134 = .ok (.aload_n 0, 1) := by decide +kernel
theorem dX9_eyes_135 : decode cX9_eyes 135 = .ok (.getfield 166, 3) := by decide +kernel
theorem dX9_eyes_138 : decode cX9_eyes 138 = .ok (.iload 7, 2) := by decide +kernel
theorem dX9_eyes_140 : decode cX9_eyes 140 = .ok (.iadd, 1) := by decide +kernel
theorem dX9_eyes_141 : decode cX9_eyes 141 = .ok (.bipush 24, 2) := by decide +kernel
theorem dX9_eyes_143 : decode cX9_eyes 143 = .ok (.if_icmp .le 6, 3) := by decide +kernel
theorem dX9_eyes_146 : decode cX9_eyes 146 = .ok (.bipush (-3), 2) := by decide +kernel
theorem dX9_eyes_148 : decode cX9_eyes 148 = .ok (.ireturn, 1) := by decide +kernel
theorem dX9_eyes_149 : decode cX9_eyes 149 = .ok (.iconst 0, 1) := by decide +kernel
theorem dX9_eyes_150 : decode cX9_eyes 150 = .ok (.istore 8, 2) := by decide +kernel
theorem dX9_eyes_152 : decode cX9_eyes 152 = .ok (.iload 8, 2) := by decide +kernel
theorem dX9_eyes_154 : decode cX9_eyes 154 = .ok (.iload 5, 2) := by decide +kernel
theorem dX9_eyes_156 : decode cX9_eyes 156 = .ok (.if_icmp .ge 50, 3) := by decide +kernel
theorem dX9_eyes_159 : decode cX9_eyes 159 = .ok (.aload_n 0, 1) := by decide +kernel
theorem dX9_eyes_160 : decode cX9_eyes 160 = .ok (.getfield 58, 3) := by decide +kernel
theorem dX9_eyes_163 : decode cX9_eyes 163 = .ok (.bipush 16, 2) := by decide +kernel
theorem dX9_eyes_165 : decode cX9_eyes 165 = .ok (.iload_n 2, 1) := by decide +kernel
theorem dX9_eyes_166 : decode cX9_eyes 166 = .ok (.imul, 1) := by decide +kernel
theorem dX9_eyes_167 : decode cX9_eyes 167 = .ok (.iload 4, 2) := by decide +kernel
theorem dX9_eyes_169 : decode cX9_eyes 169 = .ok (.iadd, 1) := by decide +kernel
theorem dX9_eyes_170 : decode cX9_eyes 170 = .ok (.iload 8, 2) := by decide +kernel
theorem dX9_eyes_172 : decode cX9_eyes 172 = .ok (.iadd, 1) := by decide +kernel
theorem dX9_eyes_173 : decode cX9_eyes 173 = .ok (.iaload, 1) := by decide +kernel
theorem dX9_eyes_174 : decode cX9_eyes 174 = .ok (.ifCond .lt 26, 3) := by decide +kernel
theorem dX9_eyes_177 : decode cX9_eyes 177 = .ok (.aload_n 0, 1) := by decide +kernel
theorem dX9_eyes_178 : decode cX9_eyes 178 = .ok (.iload_n 1, 1) := by decide +kernel
theorem dX9_eyes_179 : decode cX9_eyes 179 = .ok (.iload 8, 2) := by decide +kernel
theorem dX9_eyes_181 : decode cX9_eyes 181 = .ok (.iadd, 1) := by decide +kernel
theorem dX9_eyes_182 : decode cX9_eyes 182 = .ok (.aload_n 0, 1) := by decide +kernel
theorem dX9_eyes_183 : decode cX9_eyes 183 = .ok (.getfield 58, 3) := by decide +kernel
theorem dX9_eyes_186 : decode cX9_eyes 186 = .ok (.bipush 16, 2) := by decide +kernel
theorem dX9_eyes_188 : decode cX9_eyes 188 = .ok (.iload_n 2, 1) := by decide +kernel
theorem dX9_eyes_189 : decode cX9_eyes 189 = .ok (.imul, 1) := by decide +kernel
theorem dX9_eyes_190 : decode cX9_eyes 190 = .ok (.iload 4, 2) := by decide +kernel
theorem dX9_eyes_192 : decode cX9_eyes 192 = .ok (.iadd, 1) := by decide +kernel
theorem dX9_eyes_193 : decode cX9_eyes 193 = .ok (.iload 8, 2) := by decide +kernel
theorem dX9_eyes_195 : decode cX9_eyes 195 = .ok (.iadd, 1) := by decide +kernel
theorem dX9_eyes_196 : decode cX9_eyes 196 = .ok (.iaload, 1) := by decide +kernel
theorem dX9_eyes_197 : decode cX9_eyes 197 = .ok (.invokevirtual 211, 3) := by decide +kernel
theorem dX9_eyes_200 : decode cX9_eyes 200 = .ok (.iinc 8 1, 3) := by decide +kernel
theorem dX9_eyes_203 : decode cX9_eyes 203 = .ok (.goto (-51), 3) := by decide +kernel
theorem dX9_eyes_206 : decode cX9_eyes 206 = .ok (.iload 7, 2) := by decide +kernel
theorem dX9_eyes_208 : decode cX9_eyes 208 = .ok (.ireturn, 1) := by decide +kernel
theorem dX9_sheet_0 : decode cX9_sheet 0 = .ok (.iload_n 1, 1) := by decide +kernel
theorem dX9_sheet_1 : decode cX9_sheet 1 = .ok (.invokestatic 229, 3) := by decide +kernel
theorem dX9_sheet_4 : decode cX9_sheet 4 = .ok (.ifCond .eq 16, 3) := by decide +kernel
theorem dX9_sheet_7 : decode cX9_sheet 7 = .ok (.iload_n 2, 1) := by decide +kernel
theorem dX9_sheet_8 : decode cX9_sheet 8 = .ok (.invokestatic 232, 3) := by decide +kernel
theorem dX9_sheet_11 : decode cX9_sheet 11 = .ok (.ifCond .eq 9, 3) := by decide +kernel
theorem dX9_sheet_14 : decode cX9_sheet 14 = .ok (.iload_n 3, 1) := by decide +kernel
theorem dX9_sheet_15 : decode cX9_sheet 15 = .ok (.bipush 16, 2) := by decide +kernel
theorem dX9_sheet_17 : decode cX9_sheet 17 = .ok (.if_icmp .le 5, 3) := by decide +kernel
theorem dX9_sheet_20 : decode cX9_sheet 20 = .ok (.iconst (-1), 1) := by decide +kernel
theorem dX9_sheet_21 : decode cX9_sheet 21 = .ok (.ireturn, 1) := by decide +kernel
theorem dX9_sheet_22 : decode cX9_sheet 22 = .ok (.iload_n 3, 1) := by decide +kernel
theorem dX9_sheet_23 : decode cX9_sheet 23 = .ok (.ifCond .ge 6, 3) := by decide +kernel
theorem dX9_sheet_26 : decode cX9_sheet 26 = .ok (.bipush (-14), 2) := by decide +kernel
theorem dX9_sheet_28 : decode cX9_sheet 28 = .ok (.ireturn, 1) := by decide +kernel
theorem dX9_sheet_29 : decode cX9_sheet 29 = .ok (.aload_n 0, 1) := by decide +kernel
theorem dX9_sheet_30 : decode cX9_sheet 30 = .ok (.getfield 52, 3) := by decide +kernel
theorem dX9_sheet_33 : decode cX9_sheet 33 = .ok (.iload_n 1, 1) := by decide +kernel
theorem dX9_sheet_34 : decode cX9_sheet 34 = .ok (.iload_n 2, 1) := by decide +kernel
theorem dX9_sheet_35 : decode cX9_sheet 35 = .ok (.iastore, 1) := by decide +kernel
theorem dX9_sheet_36 : decode cX9_sheet 36 = .ok (.aload_n 0, 1) := by decide +kernel
theorem dX9_sheet_37 : decode cX9_sheet 37 = .ok (.getfield 55, 3) := by decide +kernel
theorem dX9_sheet_40 : decode cX9_sheet 40 = .ok (.iload_n 1, 1) := by decide +kernel
theorem dX9_sheet_41 : decode cX9_sheet 41 = .ok (.iload_n 3, 1) := by decide +kernel
theorem dX9_sheet_42 : decode cX9_sheet 42 = .ok (.iastore, 1) := by decide +kernel
theorem dX9_sheet_43 : decode cX9_sheet 43 = .ok (.iconst 0, 1) := by decide +kernel
theorem dX9_sheet_44 : decode cX9_sheet 44 = .ok (.istore 4, 2) := by decide +kernel
theorem dX9_sheet_46 : decode cX9_sheet 46 = .ok (.iload 4, 2) := by decide +kernel
theorem dX9_sheet_48 : decode cX9_sheet 48 = .ok (.bipush 16, 2) := by decide +kernel
theorem dX9_sheet_50 : decode cX9_sheet 50 = .ok (.if_icmp .ge 22, 3) := by decide +kernel
theorem dX9_sheet_53 : decode cX9_sheet 53 = .ok (.aload_n 0, 1) := by decide +kernel
theorem dX9_sheet_54 : decode cX9_sheet 54 = .ok (.getfield 58, 3) := by decide +kernel
theorem dX9_sheet_57 : decode cX9_sheet 57 = .ok (.bipush 16, 2) := by decide +kernel
theorem dX9_sheet_59 : decode cX9_sheet 59 = .ok (.iload_n 1, 1) := by decide +kernel
theorem dX9_sheet_60 : decode cX9_sheet 60 = .ok (.imul, 1) := by decide +kernel
theorem dX9_sheet_61 : decode cX9_sheet 61 = .ok (.iload 4, 2) := by decide +kernel
theorem dX9_sheet_63 : decode cX9_sheet 63 = .ok (.iadd, 1) := by decide +kernel
theorem dX9_sheet_64 : decode cX9_sheet 64 = .ok (.iconst 0, 1) := by decide +kernel
theorem dX9_sheet_65 : decode cX9_sheet 65 = .ok (.iastore, 1) := by decide +kernel
theorem dX9_sheet_66 : decode cX9_sheet 66 = .ok (.iinc 4 1, 3) := by decide +kernel
theorem dX9_sheet_69 : decode cX9_sheet 69 = .ok (.goto (-23), 3) := by decide +kernel
theorem dX9_sheet_72 : decode cX9_sheet 72 = .ok (.iload_n 3, 1) := by decide +kernel
theorem dX9_sheet_73 : decode cX9_sheet 73 = .ok (.ireturn, 1) := by decide +kernel
theorem dX9_drop_0 : decode cX9_drop 0 = .ok (.iload_n 1, 1) := by decide +kernel
theorem dX9_drop_1 : decode cX9_drop 1 = .ok (.invokestatic 229, 3) := by decide +kernel
theorem dX9_drop_4 : decode cX9_drop 4 = .ok (.ifCond .ne 5, 3) := by decide +kernel
theorem dX9_drop_7 : decode cX9_drop 7 = .ok (.iconst (-1), 1) := by decide +kernel
theorem dX9_drop_8 : decode cX9_drop 8 = .ok (.ireturn, 1) := by decide +kernel
theorem dX9_drop_9 : decode cX9_drop 9 = .ok (.aload_n 0, 1) := by decide +kernel
theorem dX9_drop_10 : decode cX9_drop 10 = .ok (.getfield 52, 3) := by decide +kernel
theorem dX9_drop_13 : decode cX9_drop 13 = .ok (.iload_n 1, 1) := by decide +kernel
theorem dX9_drop_14 : decode cX9_drop 14 = .ok (.iaload, 1) := by decide +kernel
theorem dX9_drop_15 : decode cX9_drop 15 = .ok (.ifCond .ge 6, 3) := by decide +kernel
theorem dX9_drop_18 : decode cX9_drop 18 = .ok (.bipush (-11), 2) := by decide +kernel
theorem dX9_drop_20 : decode cX9_drop 20 = .ok (.ireturn, 1) := by decide +kernel
theorem dX9_drop_21 : decode cX9_drop 21 = .ok (.aload_n 0, 1) := by decide +kernel
theorem dX9_drop_22 : decode cX9_drop 22 = .ok (.getfield 52, 3) := by decide +kernel
theorem dX9_drop_25 : decode cX9_drop 25 = .ok (.iload_n 1, 1) := by decide +kernel
theorem dX9_drop_26 : decode cX9_drop 26 = .ok (.iconst (-1), 1) := by decide +kernel
theorem dX9_drop_27 : decode cX9_drop 27 = .ok (.iastore, 1) := by decide +kernel
theorem dX9_drop_28 : decode cX9_drop 28 = .ok (.aload_n 0, 1) := by decide +kernel
theorem dX9_drop_29 : decode cX9_drop 29 = .ok (.getfield 55, 3) := by decide +kernel
theorem dX9_drop_32 : decode cX9_drop 32 = .ok (.iload_n 1, 1) := by decide +kernel
theorem dX9_drop_33 : decode cX9_drop 33 = .ok (.iaload, 1) := by decide +kernel
theorem dX9_drop_34 : decode cX9_drop 34 = .ok (.ireturn, 1) := by decide +kernel
theorem dX9_item_0 : decode cX9_item 0 = .ok (.iload_n 1, 1) := by decide +kernel
theorem dX9_item_1 : decode cX9_item 1 = .ok (.invokestatic 229, 3) := by decide +kernel
theorem dX9_item_4 : decode cX9_item 4 = .ok (.ifCond .eq 10, 3) := by decide +kernel
theorem dX9_item_7 : decode cX9_item 7 = .ok (.iload_n 2, 1) := by decide +kernel
theorem dX9_item_8 : decode cX9_item 8 = .ok (.invokestatic 232, 3) := by decide +kernel
theorem dX9_item_11 : decode cX9_item 11 = .ok (.ifCond .ne 5, 3) := by decide +kernel
theorem dX9_item_14 : decode cX9_item 14 = .ok (.iconst (-1), 1) := by decide +kernel
theorem dX9_item_15 : decode cX9_item 15 = .ok (.ireturn, 1) := by decide +kernel
theorem dX9_item_16 : decode cX9_item 16 = .ok (.aload_n 0, 1) := by decide +kernel
theorem dX9_item_17 : decode cX9_item 17 = .ok (.iload_n 1, 1) := by decide +kernel
theorem dX9_item_18 : decode cX9_item 18 = .ok (.iload_n 2, 1) := by decide +kernel
theorem dX9_item_19 : decode cX9_item 19 = .ok (.iload_n 3, 1) := by decide +kernel
theorem dX9_item_20 : decode cX9_item 20 = .ok (.iconst 1, 1) := by decide +kernel
theorem dX9_item_21 : decode cX9_item 21 = .ok (.invokevirtual 237, 3) := by decide +kernel
theorem dX9_item_24 : decode cX9_item 24 = .ok (.istore 5, 2) := by decide +kernel
theorem dX9_item_26 : decode cX9_item 26 = .ok (.iload 5, 2) := by decide +kernel
theorem dX9_item_28 : decode cX9_item 28 = .ok (.ifCond .ge 6, 3) := by decide +kernel
theorem dX9_item_31 : decode cX9_item 31 = .ok (.iload 5, 2) := by decide +kernel
theorem dX9_item_33 : decode cX9_item 33 = .ok (.ireturn, 1) := by decide +kernel
theorem dX9_item_34 : decode cX9_item 34 = .ok (.aload_n 0, 1) := by decide +kernel
theorem dX9_item_35 : decode cX9_item 35 = .ok (.getfield 58, 3) := by decide +kernel
theorem dX9_item_38 : decode cX9_item 38 = .ok (.bipush 16, 2) := by decide +kernel
theorem dX9_item_40 : decode cX9_item 40 = .ok (.iload_n 1, 1) := by decide +kernel
theorem dX9_item_41 : decode cX9_item 41 = .ok (.imul, 1) := by decide +kernel
theorem dX9_item_42 : decode cX9_item 42 = .ok (.iload_n 3, 1) := by decide +kernel
theorem dX9_item_43 : decode cX9_item 43 = .ok (.iadd, 1) := by decide +kernel
theorem dX9_item_44 : decode cX9_item 44 = .ok (.iload_n 2, 1) := by decide +kernel
theorem dX9_item_45 : decode cX9_item 45 = .ok (.ifCond .ne 9, 3) := by decide +kernel
theorem dX9_item_48 : decode cX9_item 48 = .ok (.iload 4, 2) := by decide +kernel
theorem dX9_item_50 : decode cX9_item 50 = .ok (.i2b, 1) := by decide +kernel
theorem dX9_item_51 : decode cX9_item 51 = .ok (.goto 16, 3) := by decide +kernel
theorem dX9_item_54 : decode cX9_item 54 = .ok (.iload_n 2, 1) := by decide +kernel
theorem dX9_item_55 : decode cX9_item 55 = .ok (.iconst 1, 1) := by decide +kernel
theorem dX9_item_56 : decode cX9_item 56 = .ok (.if_icmp .ne 9, 3) := by decide +kernel
theorem dX9_item_59 : decode cX9_item 59 = .ok (.iload 4, 2) := by decide +kernel
theorem dX9_item_61 : decode cX9_item 61 = .ok (.i2s, 1) := by decide +kernel
theorem dX9_item_62 : decode cX9_item 62 = .ok (.goto 5, 3) := by decide +kernel
theorem dX9_item_65 : decode cX9_item 65 = .ok (.iload 4, 2) := by decide +kernel
theorem dX9_item_67 : decode cX9_item 67 = .ok (.iastore, 1) := by decide +kernel
theorem dX9_item_68 : decode cX9_item 68 = .ok (.iconst 1, 1) := by decide +kernel
theorem dX9_item_69 : decode cX9_item 69 = .ok (.ireturn, 1) := by decide +kernel
theorem dX9_copy_0 : decode cX9_copy 0 = .ok (.iload_n 1, 1) := by decide +kernel
theorem dX9_copy_1 : decode cX9_copy 1 = .ok (.invokestatic 229, 3) := by decide +kernel
theorem dX9_copy_4 : decode cX9_copy 4 = .ok (.ifCond .eq 10, 3) := by decide +kernel
theorem dX9_copy_7 : decode cX9_copy 7 = .ok (.iload_n 3, 1) := by decide +kernel
theorem dX9_copy_8 : decode cX9_copy 8 = .ok (.invokestatic 229, 3) := by decide +kernel
theorem dX9_copy_11 : decode cX9_copy 11 = .ok (.ifCond .ne 5, 3) := by decide +kernel
theorem dX9_copy_14 : decode cX9_copy 14 = .ok (.iconst (-1), 1) := by decide +kernel
theorem dX9_copy_15 : decode cX9_copy 15 = .ok (.ireturn, 1) := by decide +kernel
theorem dX9_copy_16 : decode cX9_copy 16 = .ok (.aload_n 0, 1) := by decide +kernel
theorem dX9_copy_17 : decode cX9_copy 17 = .ok (.getfield 52, 3) := by decide +kernel
theorem dX9_copy_20 : decode cX9_copy 20 = .ok (.iload_n 1, 1) := by decide +kernel
theorem dX9_copy_21 : decode cX9_copy 21 = .ok (.iaload, 1) := by decide +kernel
theorem dX9_copy_22 : decode cX9_copy 22 = .ok (.ifCond .lt 12, 3) := by decide +kernel
theorem dX9_copy_25 : decode cX9_copy 25 = .ok (.aload_n 0, 1) := by decide +kernel
theorem dX9_copy_26 : decode cX9_copy 26 = .ok (.getfield 52, 3) := by decide +kernel
theorem dX9_copy_29 : decode cX9_copy 29 = .ok (.iload_n 3, 1) := by decide +kernel
theorem dX9_copy_30 : decode cX9_copy 30 = .ok (.iaload, 1) := by decide +kernel
theorem dX9_copy_31 : decode cX9_copy 31 = .ok (.ifCond .ge 6, 3) := by decide +kernel
theorem dX9_copy_34 : decode cX9_copy 34 = .ok (.bipush (-11), 2) := by decide +kernel
theorem dX9_copy_36 : decode cX9_copy 36 = .ok (.ireturn, 1) := by decide +kernel
theorem dX9_copy_37 : decode cX9_copy 37 = .ok (.aload_n 0, 1) := by decide +kernel
theorem dX9_copy_38 : decode cX9_copy 38 = .ok (.getfield 52, 3) := by decide +kernel
theorem dX9_copy_41 : decode cX9_copy 41 = .ok (.iload_n 1, 1) := by decide +kernel
theorem dX9_copy_42 : decode cX9_copy 42 = .ok (.iaload, 1) := by decide +kernel
theorem dX9_copy_43 : decode cX9_copy 43 = .ok (.aload_n 0, 1) := by decide +kernel
theorem dX9_copy_44 : decode cX9_copy 44 = .ok (.getfield 52, 3) := by decide +kernel
theorem dX9_copy_47 : decode cX9_copy 47 = .ok (.iload_n 3, 1) := by decide +kernel
theorem dX9_copy_48 : decode cX9_copy 48 = .ok (.iaload, 1) := by decide +kernel
theorem dX9_copy_49 : decode cX9_copy 49 = .ok (.if_icmp .eq 6, 3) := by decide +kernel
theorem dX9_copy_52 : decode cX9_copy 52 = .ok (.bipush (-12), 2) := by decide +kernel
theorem dX9_copy_54 : decode cX9_copy 54 = .ok (.ireturn, 1) := by decide +kernel
theorem dX9_copy_55 : decode cX9_copy 55 = .ok (.iload 5, 2) := by decide +kernel
theorem dX9_copy_57 : decode cX9_copy 57 = .ok (.ifCond .lt 38, 3) := by decide +kernel
theorem dX9_copy_60 : decode cX9_copy 60 = .ok (.aload_n 0, 1) := by decide +kernel
theorem dX9_copy_61 : decode cX9_copy 61 = .ok (.iload_n 1, 1) := by decide +kernel
theorem dX9_copy_62 : decode cX9_copy 62 = .ok (.aload_n 0, 1) := by decide +kernel
theorem dX9_copy_63 : decode cX9_copy 63 = .ok (.getfield 52, 3) := by decide +kernel
theorem dX9_copy_66 : decode cX9_copy 66 = .ok (.iload_n 1, 1) := by decide +kernel
theorem dX9_copy_67 : decode cX9_copy 67 = .ok (.iaload, 1) := by decide +kernel
theorem dX9_copy_68 : decode cX9_copy 68 = .ok (.iload_n 2, 1) := by decide +kernel
theorem dX9_copy_69 : decode cX9_copy 69 = .ok (.iload 5, 2) := by decide +kernel
theorem dX9_copy_71 : decode cX9_copy 71 = .ok (.invokevirtual 237, 3) := by decide +kernel
theorem dX9_copy_74 : decode cX9_copy 74 = .ok (.ifCond .lt 21, 3) := by decide +kernel
theorem dX9_copy_77 : decode cX9_copy 77 = .ok (.aload_n 0, 1) := by decide +kernel
theorem dX9_copy_78 : decode cX9_copy 78 = .ok (.iload_n 3, 1) := by decide +kernel
theorem dX9_copy_79 : decode cX9_copy 79 = .ok (.aload_n 0, 1) := by decide +kernel
theorem dX9_copy_80 : decode cX9_copy 80 = .ok (.getfield 52, 3) := by decide +kernel
theorem dX9_copy_83 : decode cX9_copy 83 = .ok (.iload_n 3, 1) := by decide +kernel
theorem dX9_copy_84 : decode cX9_copy 84 = .ok (.iaload, 1) := by decide +kernel
theorem dX9_copy_85 : decode cX9_copy 85 = .ok (.iload 4, 2) := by decide +kernel
theorem dX9_copy_87 : decode cX9_copy 87 = .ok (.iload 5, 2) := by decide +kernel
theorem dX9_copy_89 : decode cX9_copy 89 = .ok (.invokevirtual 237, 3) := by decide +kernel
theorem dX9_copy_92 : decode cX9_copy 92 = .ok (.ifCond .ge 6, 3) := by decide +kernel
theorem dX9_copy_95 : decode cX9_copy 95 = .ok (.bipush (-13), 2) := by decide +kernel
theorem dX9_copy_97 : decode cX9_copy 97 = .ok (.ireturn, 1) := by decide +kernel
theorem dX9_copy_98 : decode cX9_copy 98 = .ok (.iconst 0, 1) := by decide +kernel
theorem dX9_copy_99 : decode cX9_copy 99 = .ok (.istore 6, 2) := by decide +kernel
theorem dX9_copy_101 : decode cX9_copy 101 = .ok (.iload 6, 2) := by decide +kernel
theorem dX9_copy_103 : decode cX9_copy 103 = .ok (.iload 5, 2) := by decide +kernel
theorem dX9_copy_105 : decode cX9_copy 105 = .ok (.if_icmp .ge 30, 3) := by decide +kernel
theorem dX9_copy_108 : decode cX9_copy 108 = .ok (.aload_n 0, 1) := by decide +kernel
theorem dX9_copy_109 : decode cX9_copy 109 = .ok (.getfield 61, 3) := by decide +kernel
theorem dX9_copy_112 : decode cX9_copy 112 = .ok (.iload 6, 2) := by decide +kernel
theorem dX9_copy_114 : decode cX9_copy 114 = .ok (.aload_n 0, 1) := by decide +kernel
theorem dX9_copy_115 : decode cX9_copy 115 = .ok (.getfield 58, 3) := by decide +kernel
theorem dX9_copy_118 : decode cX9_copy 118 = .ok (.bipush 16, 2) := by decide +kernel
theorem dX9_copy_120 : decode cX9_copy 120 = .ok (.iload_n 1, 1) := by decide +kernel
theorem dX9_copy_121 : decode cX9_copy 121 = .ok (.imul, 1) := by decide +kernel
theorem dX9_copy_122 : decode cX9_copy 122 = .ok (.iload_n 2, 1) := by decide +kernel
theorem dX9_copy_123 : decode cX9_copy 123 = .ok (.iadd, 1) := by decide +kernel
theorem dX9_copy_124 : decode cX9_copy 124 = .ok (.iload 6, 2) := by decide +kernel
theorem dX9_copy_126 : decode cX9_copy 126 = .ok (.iadd, 1) := by decide +kernel
theorem dX9_copy_127 : decode cX9_copy 127 = .ok (.iaload, 1) := by decide +kernel
theorem dX9_copy_128 : decode cX9_copy 128 = .ok (.iastore, 1) := by decide +kernel
theorem dX9_copy_129 : decode cX9_copy 129 = .ok (.iinc 6 1, 3) := by decide +kernel
theorem dX9_copy_132 : decode cX9_copy 132 = .ok (.goto (-31), 3) := by decide +kernel
theorem dX9_copy_135 : decode cX9_copy 135 = .ok (.iconst 0, 1) := by decide +kernel
theorem dX9_copy_136 : decode cX9_copy 136 = .ok (.istore 6, 2) := by decide +kernel
theorem dX9_copy_138 : decode cX9_copy 138 = .ok (.iload 6, 2) := by decide +kernel
theorem dX9_copy_140 : decode cX9_copy 140 = .ok (.iload 5, 2) := by decide +kernel
theorem dX9_copy_142 : decode cX9_copy 142 = .ok (.if_icmp .ge 31, 3) := by decide +kernel
theorem dX9_copy_145 : decode cX9_copy 145 = .ok (.aload_n 0, 1) := by decide +kernel
theorem dX9_copy_146 : decode cX9_copy 146 = .ok (.getfield 58, 3) := by decide +kernel
theorem dX9_copy_149 : decode cX9_copy 149 = .ok (.bipush 16, 2) := by decide +kernel
theorem dX9_copy_151 : decode cX9_copy 151 = .ok (.iload_n 3, 1) := by decide +kernel
theorem dX9_copy_152 : decode cX9_copy 152 = .ok (.imul, 1) := by decide +kernel
theorem dX9_copy_153 : decode cX9_copy 153 = .ok (.iload 4, 2) := by decide +kernel
theorem dX9_copy_155 : decode cX9_copy 155 = .ok (.iadd, 1) := by decide +kernel
theorem dX9_copy_156 : decode cX9_copy 156 = .ok (.iload 6, 2) := by decide +kernel
theorem dX9_copy_158 : decode cX9_copy 158 = .ok (.iadd, 1) := by decide +kernel
theorem dX9_copy_159 : decode cX9_copy 159 = .ok (.aload_n 0, 1) := by decide +kernel
theorem dX9_copy_160 : decode cX9_copy 160 = .ok (.getfield 61, 3) := by decide +kernel
theorem dX9_copy_163 : decode cX9_copy 163 = .ok (.iload 6, 2) := by decide +kernel
theorem dX9_copy_165 : decode cX9_copy 165 = .ok (.iaload, 1) := by decide +kernel
theorem dX9_copy_166 : decode cX9_copy 166 = .ok (.iastore, 1) := by decide +kernel
theorem dX9_copy_167 : decode cX9_copy 167 = .ok (.iinc 6 1, 3) := by decide +kernel
theorem dX9_copy_170 : decode cX9_copy 170 = .ok (.goto (-32), 3) := by decide +kernel
theorem dX9_copy_173 : decode cX9_copy 173 = .ok (.iload 5, 2) := by decide +kernel
theorem dX9_copy_175 : decode cX9_copy 175 = .ok (.ireturn, 1) := by decide +kernel
end
section
theorem dL_law_0 : decode cL_law 0 = .ok (.new 7, 3) := by decide +kernel
theorem dL_law_3 : decode cL_law 3 = .ok (.dup, 1) := by decide +kernel
theorem dL_law_4 : decode cL_law 4 = .ok (.invokespecial 9, 3) := by decide +kernel
theorem dL_law_7 : decode cL_law 7 = .ok (.astore_n 1, 1) := by decide +kernel
theorem dL_law_8 : decode cL_law 8 = .ok (.new 10, 3) := by decide +kernel
theorem dL_law_11 : decode cL_law 11 = .ok (.dup, 1) := by decide +kernel
theorem dL_law_12 : decode cL_law 12 = .ok (.invokespecial 12, 3) := by decide +kernel
theorem dL_law_15 : decode cL_law 15 = .ok (.astore_n 2, 1) := by decide +kernel
theorem dL_law_16 : decode cL_law 16 = .ok (.iconst 0, 1) := by decide +kernel
theorem dL_law_17 : decode cL_law 17 = .ok (.istore_n 3, 1) := by decide +kernel
theorem dL_law_18 : decode cL_law 18 = .ok (.iload_n 3, 1) := by decide +kernel
theorem dL_law_19 : decode cL_law 19 = .ok (.aload_n 0, 1) := by decide +kernel
theorem dL_law_20 : decode cL_law 20 = .ok (.arraylength, 1) := by decide +kernel
theorem dL_law_21 : decode cL_law 21 = .ok (.bipush 6, 2) := by decide +kernel
theorem dL_law_23 : decode cL_law 23 = .ok (.isub, 1) := by decide +kernel
theorem dL_law_24 : decode cL_law 24 = .ok (.if_icmp .gt 1382, 3) := by decide +kernel
theorem dL_law_27 : decode cL_law 27 = .ok (.aload_n 0, 1) := by decide +kernel
theorem dL_law_28 : decode cL_law 28 = .ok (.iload_n 3, 1) := by decide +kernel
theorem dL_law_29 : decode cL_law 29 = .ok (.iaload, 1) := by decide +kernel
theorem dL_law_30 : decode cL_law 30 = .ok (.bipush 63, 2) := by decide +kernel
theorem dL_law_32 : decode cL_law 32 = .ok (.iand, 1) := by decide +kernel
theorem dL_law_33 : decode cL_law 33 = .ok (.tableswitch 1367 0 35 #[159, 212, 255, 278, 311, 344, 377, 410, 433, 496, 509, 522, 545, 598, 631, 664, 717, 750, 783, 836, 869, 902, 915, 938, 951, 974, 1007, 1030, 1083, 1096, 1109, 1122, 1185, 1228, 1251, 1304], 159) := by decide +kernel
theorem dL_law_192 : decode cL_law 192 = .ok (.aload_n 1, 1) := by decide +kernel
theorem dL_law_193 : decode cL_law 193 = .ok (.aload_n 0, 1) := by decide +kernel
theorem dL_law_194 : decode cL_law 194 = .ok (.iload_n 3, 1) := by decide +kernel
theorem dL_law_195 : decode cL_law 195 = .ok (.iconst 1, 1) := by decide +kernel
theorem dL_law_196 : decode cL_law 196 = .ok (.iadd, 1) := by decide +kernel
theorem dL_law_197 : decode cL_law 197 = .ok (.iaload, 1) := by decide +kernel
theorem dL_law_198 : decode cL_law 198 = .ok (.aload_n 0, 1) := by decide +kernel
theorem dL_law_199 : decode cL_law 199 = .ok (.iload_n 3, 1) := by decide +kernel
theorem dL_law_200 : decode cL_law 200 = .ok (.iconst 2, 1) := by decide +kernel
theorem dL_law_201 : decode cL_law 201 = .ok (.iadd, 1) := by decide +kernel
theorem dL_law_202 : decode cL_law 202 = .ok (.iaload, 1) := by decide +kernel
theorem dL_law_203 : decode cL_law 203 = .ok (.aload_n 0, 1) := by decide +kernel
theorem dL_law_204 : decode cL_law 204 = .ok (.iload_n 3, 1) := by decide +kernel
theorem dL_law_205 : decode cL_law 205 = .ok (.iconst 3, 1) := by decide +kernel
theorem dL_law_206 : decode cL_law 206 = .ok (.iadd, 1) := by decide +kernel
theorem dL_law_207 : decode cL_law 207 = .ok (.iaload, 1) := by decide +kernel
theorem dL_law_208 : decode cL_law 208 = .ok (.aload_n 0, 1) := by decide +kernel
theorem dL_law_209 : decode cL_law 209 = .ok (.iload_n 3, 1) := by decide +kernel
theorem dL_law_210 : decode cL_law 210 = .ok (.iconst 4, 1) := by decide +kernel
theorem dL_law_211 : decode cL_law 211 = .ok (.iadd, 1) := by decide +kernel
theorem dL_law_212 : decode cL_law 212 = .ok (.iaload, 1) := by decide +kernel
theorem dL_law_213 : decode cL_law 213 = .ok (.invokevirtual 13, 3) := by decide +kernel
theorem dL_law_216 : decode cL_law 216 = .ok (.aload_n 2, 1) := by decide +kernel
theorem dL_law_217 : decode cL_law 217 = .ok (.aload_n 0, 1) := by decide +kernel
theorem dL_law_218 : decode cL_law 218 = .ok (.iload_n 3, 1) := by decide +kernel
theorem dL_law_219 : decode cL_law 219 = .ok (.iconst 1, 1) := by decide +kernel
theorem dL_law_220 : decode cL_law 220 = .ok (.iadd, 1) := by decide +kernel
theorem dL_law_221 : decode cL_law 221 = .ok (.iaload, 1) := by decide +kernel
theorem dL_law_222 : decode cL_law 222 = .ok (.aload_n 0, 1) := by decide +kernel
theorem dL_law_223 : decode cL_law 223 = .ok (.iload_n 3, 1) := by decide +kernel
theorem dL_law_224 : decode cL_law 224 = .ok (.iconst 2, 1) := by decide +kernel
theorem dL_law_225 : decode cL_law 225 = .ok (.iadd, 1) := by decide +kernel
theorem dL_law_226 : decode cL_law 226 = .ok (.iaload, 1) := by decide +kernel
theorem dL_law_227 : decode cL_law 227 = .ok (.aload_n 0, 1) := by decide +kernel
theorem dL_law_228 : decode cL_law 228 = .ok (.iload_n 3, 1) := by decide +kernel
theorem dL_law_229 : decode cL_law 229 = .ok (.iconst 3, 1) := by decide +kernel
theorem dL_law_230 : decode cL_law 230 = .ok (.iadd, 1) := by decide +kernel
theorem dL_law_231 : decode cL_law 231 = .ok (.iaload, 1) := by decide +kernel
theorem dL_law_232 : decode cL_law 232 = .ok (.aload_n 0, 1) := by decide +kernel
theorem dL_law_233 : decode cL_law 233 = .ok (.iload_n 3, 1) := by decide +kernel
theorem dL_law_234 : decode cL_law 234 = .ok (.iconst 4, 1) := by decide +kernel
theorem dL_law_235 : decode cL_law 235 = .ok (.iadd, 1) := by decide +kernel
theorem dL_law_236 : decode cL_law 236 = .ok (.iaload, 1) := by decide +kernel
theorem dL_law_237 : decode cL_law 237 = .ok (.invokevirtual 17, 3) := by decide +kernel
theorem dL_law_240 : decode cL_law 240 = .ok (.if_icmp .eq 1160, 3) := by decide +kernel
theorem dL_law_243 : decode cL_law 243 = .ok (.iconst 0, 1) := by decide +kernel
theorem dL_law_244 : decode cL_law 244 = .ok (.ireturn, 1) := by decide +kernel
theorem dL_law_245 : decode cL_law 245 = .ok (.aload_n 1, 1) := by decide +kernel
theorem dL_law_246 : decode cL_law 246 = .ok (.aload_n 0, 1) := by decide +kernel
theorem dL_law_247 : decode cL_law 247 = .ok (.iload_n 3, 1) := by decide +kernel
theorem dL_law_248 : decode cL_law 248 = .ok (.iconst 1, 1) := by decide +kernel
theorem dL_law_249 : decode cL_law 249 = .ok (.iadd, 1) := by decide +kernel
theorem dL_law_250 : decode cL_law 250 = .ok (.iaload, 1) := by decide +kernel
theorem dL_law_251 : decode cL_law 251 = .ok (.aload_n 0, 1) := by decide +kernel
theorem dL_law_252 : decode cL_law 252 = .ok (.iload_n 3, 1) := by decide +kernel
theorem dL_law_253 : decode cL_law 253 = .ok (.iconst 2, 1) := by decide +kernel
theorem dL_law_254 : decode cL_law 254 = .ok (.iadd, 1) := by decide +kernel
theorem dL_law_255 : decode cL_law 255 = .ok (.iaload, 1) := by decide +kernel
theorem dL_law_256 : decode cL_law 256 = .ok (.aload_n 0, 1) := by decide +kernel
theorem dL_law_257 : decode cL_law 257 = .ok (.iload_n 3, 1) := by decide +kernel
theorem dL_law_258 : decode cL_law 258 = .ok (.iconst 3, 1) := by decide +kernel
theorem dL_law_259 : decode cL_law 259 = .ok (.iadd, 1) := by decide +kernel
theorem dL_law_260 : decode cL_law 260 = .ok (.iaload, 1) := by decide +kernel
theorem dL_law_261 : decode cL_law 261 = .ok (.invokevirtual 18, 3) := by decide +kernel
theorem dL_law_264 : decode cL_law 264 = .ok (.aload_n 2, 1) := by decide +kernel
theorem dL_law_265 : decode cL_law 265 = .ok (.aload_n 0, 1) := by decide +kernel
theorem dL_law_266 : decode cL_law 266 = .ok (.iload_n 3, 1) := by decide +kernel
theorem dL_law_267 : decode cL_law 267 = .ok (.iconst 1, 1) := by decide +kernel
theorem dL_law_268 : decode cL_law 268 = .ok (.iadd, 1) := by decide +kernel
theorem dL_law_269 : decode cL_law 269 = .ok (.iaload, 1) := by decide +kernel
theorem dL_law_270 : decode cL_law 270 = .ok (.aload_n 0, 1) := by decide +kernel
theorem dL_law_271 : decode cL_law 271 = .ok (.iload_n 3, 1) := by decide +kernel
theorem dL_law_272 : decode cL_law 272 = .ok (.iconst 2, 1) := by decide +kernel
theorem dL_law_273 : decode cL_law 273 = .ok (.iadd, 1) := by decide +kernel
theorem dL_law_274 : decode cL_law 274 = .ok (.iaload, 1) := by decide +kernel
theorem dL_law_275 : decode cL_law 275 = .ok (.aload_n 0, 1) := by decide +kernel
theorem dL_law_276 : decode cL_law 276 = .ok (.iload_n 3, 1) := by decide +kernel
theorem dL_law_277 : decode cL_law 277 = .ok (.iconst 3, 1) := by decide +kernel
theorem dL_law_278 : decode cL_law 278 = .ok (.iadd, 1) := by decide +kernel
theorem dL_law_279 : decode cL_law 279 = .ok (.iaload, 1) := by decide +kernel
theorem dL_law_280 : decode cL_law 280 = .ok (.invokevirtual 22, 3) := by decide +kernel
theorem dL_law_283 : decode cL_law 283 = .ok (.if_icmp .eq 1117, 3) := by decide +kernel
theorem dL_law_286 : decode cL_law 286 = .ok (.iconst 0, 1) := by decide +kernel
theorem dL_law_287 : decode cL_law 287 = .ok (.ireturn, 1) := by decide +kernel
theorem dL_law_288 : decode cL_law 288 = .ok (.aload_n 1, 1) := by decide +kernel
theorem dL_law_289 : decode cL_law 289 = .ok (.aload_n 0, 1) := by decide +kernel
theorem dL_law_290 : decode cL_law 290 = .ok (.iload_n 3, 1) := by decide +kernel
theorem dL_law_291 : decode cL_law 291 = .ok (.iconst 1, 1) := by decide +kernel
theorem dL_law_292 : decode cL_law 292 = .ok (.iadd, 1) := by decide +kernel
theorem dL_law_293 : decode cL_law 293 = .ok (.iaload, 1) := by decide +kernel
theorem dL_law_294 : decode cL_law 294 = .ok (.invokevirtual 23, 3) := by decide +kernel
theorem dL_law_297 : decode cL_law 297 = .ok (.aload_n 2, 1) := by decide +kernel
theorem dL_law_298 : decode cL_law 298 = .ok (.aload_n 0, 1) := by decide +kernel
theorem dL_law_299 : decode cL_law 299 = .ok (.iload_n 3, 1) := by decide +kernel
theorem dL_law_300 : decode cL_law 300 = .ok (.iconst 1, 1) := by decide +kernel
theorem dL_law_301 : decode cL_law 301 = .ok (.iadd, 1) := by decide +kernel
theorem dL_law_302 : decode cL_law 302 = .ok (.iaload, 1) := by decide +kernel
theorem dL_law_303 : decode cL_law 303 = .ok (.invokevirtual 27, 3) := by decide +kernel
theorem dL_law_306 : decode cL_law 306 = .ok (.if_icmp .eq 1094, 3) := by decide +kernel
theorem dL_law_309 : decode cL_law 309 = .ok (.iconst 0, 1) := by decide +kernel
theorem dL_law_310 : decode cL_law 310 = .ok (.ireturn, 1) := by decide +kernel
theorem dL_law_311 : decode cL_law 311 = .ok (.aload_n 1, 1) := by decide +kernel
theorem dL_law_312 : decode cL_law 312 = .ok (.aload_n 0, 1) := by decide +kernel
theorem dL_law_313 : decode cL_law 313 = .ok (.iload_n 3, 1) := by decide +kernel
theorem dL_law_314 : decode cL_law 314 = .ok (.iconst 1, 1) := by decide +kernel
theorem dL_law_315 : decode cL_law 315 = .ok (.iadd, 1) := by decide +kernel
theorem dL_law_316 : decode cL_law 316 = .ok (.iaload, 1) := by decide +kernel
theorem dL_law_317 : decode cL_law 317 = .ok (.aload_n 0, 1) := by decide +kernel
theorem dL_law_318 : decode cL_law 318 = .ok (.iload_n 3, 1) := by decide +kernel
theorem dL_law_319 : decode cL_law 319 = .ok (.iconst 2, 1) := by decide +kernel
theorem dL_law_320 : decode cL_law 320 = .ok (.iadd, 1) := by decide +kernel
theorem dL_law_321 : decode cL_law 321 = .ok (.iaload, 1) := by decide +kernel
theorem dL_law_322 : decode cL_law 322 = .ok (.invokevirtual 28, 3) := by decide +kernel
theorem dL_law_325 : decode cL_law 325 = .ok (.aload_n 2, 1) := by decide +kernel
theorem dL_law_326 : decode cL_law 326 = .ok (.aload_n 0, 1) := by decide +kernel
theorem dL_law_327 : decode cL_law 327 = .ok (.iload_n 3, 1) := by decide +kernel
theorem dL_law_328 : decode cL_law 328 = .ok (.iconst 1, 1) := by decide +kernel
theorem dL_law_329 : decode cL_law 329 = .ok (.iadd, 1) := by decide +kernel
theorem dL_law_330 : decode cL_law 330 = .ok (.iaload, 1) := by decide +kernel
theorem dL_law_331 : decode cL_law 331 = .ok (.aload_n 0, 1) := by decide +kernel
theorem dL_law_332 : decode cL_law 332 = .ok (.iload_n 3, 1) := by decide +kernel
theorem dL_law_333 : decode cL_law 333 = .ok (.iconst 2, 1) := by decide +kernel
theorem dL_law_334 : decode cL_law 334 = .ok (.iadd, 1) := by decide +kernel
theorem dL_law_335 : decode cL_law 335 = .ok (.iaload, 1) := by decide +kernel
theorem dL_law_336 : decode cL_law 336 = .ok (.invokevirtual 32, 3) := by decide +kernel
theorem dL_law_339 : decode cL_law 339 = .ok (.if_icmp .eq 1061, 3) := by decide +kernel
theorem dL_law_342 : decode cL_law 342 = .ok (.iconst 0, 1) := by decide +kernel
theorem dL_law_343 : decode cL_law 343 = .ok (.ireturn, 1) := by decide +kernel
theorem dL_law_344 : decode cL_law 344 = .ok (.aload_n 1, 1) := by decide +kernel
theorem dL_law_345 : decode cL_law 345 = .ok (.aload_n 0, 1) := by decide +kernel
theorem dL_law_346 : decode cL_law 346 = .ok (.iload_n 3, 1) := by decide +kernel
theorem dL_law_347 : decode cL_law 347 = .ok (.iconst 1, 1) := by decide +kernel
theorem dL_law_348 : decode cL_law 348 = .ok (.iadd, 1) := by decide +kernel
theorem dL_law_349 : decode cL_law 349 = .ok (.iaload, 1) := by decide +kernel
theorem dL_law_350 : decode cL_law 350 = .ok (.aload_n 0, 1) := by decide +kernel
theorem dL_law_351 : decode cL_law 351 = .ok (.iload_n 3, 1) := by decide +kernel
theorem dL_law_352 : decode cL_law 352 = .ok (.iconst 2, 1) := by decide +kernel
theorem dL_law_353 : decode cL_law 353 = .ok (.iadd, 1) := by decide +kernel
theorem dL_law_354 : decode cL_law 354 = .ok (.iaload, 1) := by decide +kernel
theorem dL_law_355 : decode cL_law 355 = .ok (.invokevirtual 33, 3) := by decide +kernel
theorem dL_law_358 : decode cL_law 358 = .ok (.aload_n 2, 1) := by decide +kernel
theorem dL_law_359 : decode cL_law 359 = .ok (.aload_n 0, 1) := by decide +kernel
theorem dL_law_360 : decode cL_law 360 = .ok (.iload_n 3, 1) := by decide +kernel
theorem dL_law_361 : decode cL_law 361 = .ok (.iconst 1, 1) := by decide +kernel
theorem dL_law_362 : decode cL_law 362 = .ok (.iadd, 1) := by decide +kernel
theorem dL_law_363 : decode cL_law 363 = .ok (.iaload, 1) := by decide +kernel
theorem dL_law_364 : decode cL_law 364 = .ok (.aload_n 0, 1) := by decide +kernel
theorem dL_law_365 : decode cL_law 365 = .ok (.iload_n 3, 1) := by decide +kernel
theorem dL_law_366 : decode cL_law 366 = .ok (.iconst 2, 1) := by decide +kernel
theorem dL_law_367 : decode cL_law 367 = .ok (.iadd, 1) := by decide +kernel
theorem dL_law_368 : decode cL_law 368 = .ok (.iaload, 1) := by decide +kernel
theorem dL_law_369 : decode cL_law 369 = .ok (.invokevirtual 36, 3) := by decide +kernel
theorem dL_law_372 : decode cL_law 372 = .ok (.if_icmp .eq 1028, 3) := by decide +kernel
theorem dL_law_375 : decode cL_law 375 = .ok (.iconst 0, 1) := by decide +kernel
theorem dL_law_376 : decode cL_law 376 = .ok (.ireturn, 1) := by decide +kernel
theorem dL_law_377 : decode cL_law 377 = .ok (.aload_n 1, 1) := by decide +kernel
theorem dL_law_378 : decode cL_law 378 = .ok (.aload_n 0, 1) := by decide +kernel
theorem dL_law_379 : decode cL_law 379 = .ok (.iload_n 3, 1) := by decide +kernel
theorem dL_law_380 : decode cL_law 380 = .ok (.iconst 1, 1) := by decide +kernel
theorem dL_law_381 : decode cL_law 381 = .ok (.iadd, 1) := by decide +kernel
theorem dL_law_382 : decode cL_law 382 = .ok (.iaload, 1) := by decide +kernel
theorem dL_law_383 : decode cL_law 383 = .ok (.aload_n 0, 1) := by decide +kernel
theorem dL_law_384 : decode cL_law 384 = .ok (.iload_n 3, 1) := by decide +kernel
theorem dL_law_385 : decode cL_law 385 = .ok (.iconst 2, 1) := by decide +kernel
theorem dL_law_386 : decode cL_law 386 = .ok (.iadd, 1) := by decide +kernel
theorem dL_law_387 : decode cL_law 387 = .ok (.iaload, 1) := by decide +kernel
theorem dL_law_388 : decode cL_law 388 = .ok (.invokevirtual 37, 3) := by decide +kernel
theorem dL_law_391 : decode cL_law 391 = .ok (.aload_n 2, 1) := by decide +kernel
theorem dL_law_392 : decode cL_law 392 = .ok (.aload_n 0, 1) := by decide +kernel
theorem dL_law_393 : decode cL_law 393 = .ok (.iload_n 3, 1) := by decide +kernel
theorem dL_law_394 : decode cL_law 394 = .ok (.iconst 1, 1) := by decide +kernel
theorem dL_law_395 : decode cL_law 395 = .ok (.iadd, 1) := by decide +kernel
theorem dL_law_396 : decode cL_law 396 = .ok (.iaload, 1) := by decide +kernel
theorem dL_law_397 : decode cL_law 397 = .ok (.aload_n 0, 1) := by decide +kernel
theorem dL_law_398 : decode cL_law 398 = .ok (.iload_n 3, 1) := by decide +kernel
theorem dL_law_399 : decode cL_law 399 = .ok (.iconst 2, 1) := by decide +kernel
theorem dL_law_400 : decode cL_law 400 = .ok (.iadd, 1) := by decide +kernel
theorem dL_law_401 : decode cL_law 401 = .ok (.iaload, 1) := by decide +kernel
theorem dL_law_402 : decode cL_law 402 = .ok (.invokevirtual 40, 3) := by decide +kernel
theorem dL_law_405 : decode cL_law 405 = .ok (.if_icmp .eq 995, 3) := by decide +kernel
theorem dL_law_408 : decode cL_law 408 = .ok (.iconst 0, 1) := by decide +kernel
theorem dL_law_409 : decode cL_law 409 = .ok (.ireturn, 1) := by decide +kernel
theorem dL_law_410 : decode cL_law 410 = .ok (.aload_n 1, 1) := by decide +kernel
theorem dL_law_411 : decode cL_law 411 = .ok (.aload_n 0, 1) := by decide +kernel
theorem dL_law_412 : decode cL_law 412 = .ok (.iload_n 3, 1) := by decide +kernel
theorem dL_law_413 : decode cL_law 413 = .ok (.iconst 1, 1) := by decide +kernel
theorem dL_law_414 : decode cL_law 414 = .ok (.iadd, 1) := by decide +kernel
theorem dL_law_415 : decode cL_law 415 = .ok (.iaload, 1) := by decide +kernel
theorem dL_law_416 : decode cL_law 416 = .ok (.aload_n 0, 1) := by decide +kernel
theorem dL_law_417 : decode cL_law 417 = .ok (.iload_n 3, 1) := by decide +kernel
theorem dL_law_418 : decode cL_law 418 = .ok (.iconst 2, 1) := by decide +kernel
theorem dL_law_419 : decode cL_law 419 = .ok (.iadd, 1) := by decide +kernel
theorem dL_law_420 : decode cL_law 420 = .ok (.iaload, 1) := by decide +kernel
theorem dL_law_421 : decode cL_law 421 = .ok (.invokevirtual 41, 3) := by decide +kernel
theorem dL_law_424 : decode cL_law 424 = .ok (.aload_n 2, 1) := by decide +kernel
theorem dL_law_425 : decode cL_law 425 = .ok (.aload_n 0, 1) := by decide +kernel
theorem dL_law_426 : decode cL_law 426 = .ok (.iload_n 3, 1) := by decide +kernel
theorem dL_law_427 : decode cL_law 427 = .ok (.iconst 1, 1) := by decide +kernel
theorem dL_law_428 : decode cL_law 428 = .ok (.iadd, 1) := by decide +kernel
theorem dL_law_429 : decode cL_law 429 = .ok (.iaload, 1) := by decide +kernel
theorem dL_law_430 : decode cL_law 430 = .ok (.aload_n 0, 1) := by decide +kernel
theorem dL_law_431 : decode cL_law 431 = .ok (.iload_n 3, 1) := by decide +kernel
theorem dL_law_432 : decode cL_law 432 = .ok (.iconst 2, 1) := by decide +kernel
theorem dL_law_433 : decode cL_law 433 = .ok (.iadd, 1) := by decide +kernel
theorem dL_law_434 : decode cL_law 434 = .ok (.iaload, 1) := by decide +kernel
theorem dL_law_435 : decode cL_law 435 = .ok (.invokevirtual 44, 3) := by decide +kernel
theorem dL_law_438 : decode cL_law 438 = .ok (.if_icmp .eq 962, 3) := by decide +kernel
theorem dL_law_441 : decode cL_law 441 = .ok (.iconst 0, 1) := by decide +kernel
theorem dL_law_442 : decode cL_law 442 = .ok (.ireturn, 1) := by decide +kernel
theorem dL_law_443 : decode cL_law 443 = .ok (.aload_n 1, 1) := by decide +kernel
theorem dL_law_444 : decode cL_law 444 = .ok (.aload_n 0, 1) := by decide +kernel
theorem dL_law_445 : decode cL_law 445 = .ok (.iload_n 3, 1) := by decide +kernel
theorem dL_law_446 : decode cL_law 446 = .ok (.iconst 1, 1) := by decide +kernel
theorem dL_law_447 : decode cL_law 447 = .ok (.iadd, 1) := by decide +kernel
theorem dL_law_448 : decode cL_law 448 = .ok (.iaload, 1) := by decide +kernel
theorem dL_law_449 : decode cL_law 449 = .ok (.invokevirtual 45, 3) := by decide +kernel
theorem dL_law_452 : decode cL_law 452 = .ok (.aload_n 2, 1) := by decide +kernel
theorem dL_law_453 : decode cL_law 453 = .ok (.aload_n 0, 1) := by decide +kernel
theorem dL_law_454 : decode cL_law 454 = .ok (.iload_n 3, 1) := by decide +kernel
theorem dL_law_455 : decode cL_law 455 = .ok (.iconst 1, 1) := by decide +kernel
theorem dL_law_456 : decode cL_law 456 = .ok (.iadd, 1) := by decide +kernel
theorem dL_law_457 : decode cL_law 457 = .ok (.iaload, 1) := by decide +kernel
theorem dL_law_458 : decode cL_law 458 = .ok (.invokevirtual 48, 3) := by decide +kernel
theorem dL_law_461 : decode cL_law 461 = .ok (.if_icmp .eq 939, 3) := by decide +kernel
theorem dL_law_464 : decode cL_law 464 = .ok (.iconst 0, 1) := by decide +kernel
theorem dL_law_465 : decode cL_law 465 = .ok (.ireturn, 1) := by decide +kernel
theorem dL_law_466 : decode cL_law 466 = .ok (.aload_n 1, 1) := by decide +kernel
theorem dL_law_467 : decode cL_law 467 = .ok (.aload_n 0, 1) := by decide +kernel
theorem dL_law_468 : decode cL_law 468 = .ok (.iload_n 3, 1) := by decide +kernel
theorem dL_law_469 : decode cL_law 469 = .ok (.iconst 1, 1) := by decide +kernel
theorem dL_law_470 : decode cL_law 470 = .ok (.iadd, 1) := by decide +kernel
theorem dL_law_471 : decode cL_law 471 = .ok (.iaload, 1) := by decide +kernel
theorem dL_law_472 : decode cL_law 472 = .ok (.i2l, 1) := by decide +kernel
theorem dL_law_473 : decode cL_law 473 = .ok (.bipush 32, 2) := by decide +kernel
theorem dL_law_475 : decode cL_law 475 = .ok (.lshl, 1) := by decide +kernel
theorem dL_law_476 : decode cL_law 476 = .ok (.aload_n 0, 1) := by decide +kernel
theorem dL_law_477 : decode cL_law 477 = .ok (.iload_n 3, 1) := by decide +kernel
theorem dL_law_478 : decode cL_law 478 = .ok (.iconst 2, 1) := by decide +kernel
theorem dL_law_479 : decode cL_law 479 = .ok (.iadd, 1) := by decide +kernel
theorem dL_law_480 : decode cL_law 480 = .ok (.iaload, 1) := by decide +kernel
theorem dL_law_481 : decode cL_law 481 = .ok (.i2l, 1) := by decide +kernel
theorem dL_law_482 : decode cL_law 482 = .ok (.ldc2_w 49, 3) := by decide +kernel
theorem dL_law_485 : decode cL_law 485 = .ok (.land, 1) := by decide +kernel
theorem dL_law_486 : decode cL_law 486 = .ok (.lor, 1) := by decide +kernel
theorem dL_law_487 : decode cL_law 487 = .ok (.aload_n 0, 1) := by decide +kernel
theorem dL_law_488 : decode cL_law 488 = .ok (.iload_n 3, 1) := by decide +kernel
theorem dL_law_489 : decode cL_law 489 = .ok (.iconst 3, 1) := by decide +kernel
theorem dL_law_490 : decode cL_law 490 = .ok (.iadd, 1) := by decide +kernel
theorem dL_law_491 : decode cL_law 491 = .ok (.iaload, 1) := by decide +kernel
theorem dL_law_492 : decode cL_law 492 = .ok (.invokevirtual 51, 3) := by decide +kernel
theorem dL_law_495 : decode cL_law 495 = .ok (.aload_n 2, 1) := by decide +kernel
theorem dL_law_496 : decode cL_law 496 = .ok (.aload_n 0, 1) := by decide +kernel
theorem dL_law_497 : decode cL_law 497 = .ok (.iload_n 3, 1) := by decide +kernel
theorem dL_law_498 : decode cL_law 498 = .ok (.iconst 1, 1) := by decide +kernel
theorem dL_law_499 : decode cL_law 499 = .ok (.iadd, 1) := by decide +kernel
theorem dL_law_500 : decode cL_law 500 = .ok (.iaload, 1) := by decide +kernel
theorem dL_law_501 : decode cL_law 501 = .ok (.i2l, 1) := by decide +kernel
theorem dL_law_502 : decode cL_law 502 = .ok (.bipush 32, 2) := by decide +kernel
theorem dL_law_504 : decode cL_law 504 = .ok (.lshl, 1) := by decide +kernel
theorem dL_law_505 : decode cL_law 505 = .ok (.aload_n 0, 1) := by decide +kernel
theorem dL_law_506 : decode cL_law 506 = .ok (.iload_n 3, 1) := by decide +kernel
theorem dL_law_507 : decode cL_law 507 = .ok (.iconst 2, 1) := by decide +kernel
theorem dL_law_508 : decode cL_law 508 = .ok (.iadd, 1) := by decide +kernel
theorem dL_law_509 : decode cL_law 509 = .ok (.iaload, 1) := by decide +kernel
theorem dL_law_510 : decode cL_law 510 = .ok (.i2l, 1) := by decide +kernel
theorem dL_law_511 : decode cL_law 511 = .ok (.ldc2_w 49, 3) := by decide +kernel
theorem dL_law_514 : decode cL_law 514 = .ok (.land, 1) := by decide +kernel
theorem dL_law_515 : decode cL_law 515 = .ok (.lor, 1) := by decide +kernel
theorem dL_law_516 : decode cL_law 516 = .ok (.aload_n 0, 1) := by decide +kernel
theorem dL_law_517 : decode cL_law 517 = .ok (.iload_n 3, 1) := by decide +kernel
theorem dL_law_518 : decode cL_law 518 = .ok (.iconst 3, 1) := by decide +kernel
theorem dL_law_519 : decode cL_law 519 = .ok (.iadd, 1) := by decide +kernel
theorem dL_law_520 : decode cL_law 520 = .ok (.iaload, 1) := by decide +kernel
theorem dL_law_521 : decode cL_law 521 = .ok (.invokevirtual 55, 3) := by decide +kernel
theorem dL_law_524 : decode cL_law 524 = .ok (.if_icmp .eq 876, 3) := by decide +kernel
theorem dL_law_527 : decode cL_law 527 = .ok (.iconst 0, 1) := by decide +kernel
theorem dL_law_528 : decode cL_law 528 = .ok (.ireturn, 1) := by decide +kernel
theorem dL_law_529 : decode cL_law 529 = .ok (.aload_n 1, 1) := by decide +kernel
theorem dL_law_530 : decode cL_law 530 = .ok (.invokevirtual 56, 3) := by decide +kernel
theorem dL_law_533 : decode cL_law 533 = .ok (.aload_n 2, 1) := by decide +kernel
theorem dL_law_534 : decode cL_law 534 = .ok (.invokevirtual 60, 3) := by decide +kernel
theorem dL_law_537 : decode cL_law 537 = .ok (.if_icmp .eq 863, 3) := by decide +kernel
theorem dL_law_540 : decode cL_law 540 = .ok (.iconst 0, 1) := by decide +kernel
theorem dL_law_541 : decode cL_law 541 = .ok (.ireturn, 1) := by decide +kernel
theorem dL_law_542 : decode cL_law 542 = .ok (.aload_n 1, 1) := by decide +kernel
theorem dL_law_543 : decode cL_law 543 = .ok (.invokevirtual 61, 3) := by decide +kernel
theorem dL_law_546 : decode cL_law 546 = .ok (.aload_n 2, 1) := by decide +kernel
theorem dL_law_547 : decode cL_law 547 = .ok (.invokevirtual 64, 3) := by decide +kernel
theorem dL_law_550 : decode cL_law 550 = .ok (.if_icmp .eq 850, 3) := by decide +kernel
theorem dL_law_553 : decode cL_law 553 = .ok (.iconst 0, 1) := by decide +kernel
theorem dL_law_554 : decode cL_law 554 = .ok (.ireturn, 1) := by decide +kernel
theorem dL_law_555 : decode cL_law 555 = .ok (.aload_n 1, 1) := by decide +kernel
theorem dL_law_556 : decode cL_law 556 = .ok (.aload_n 0, 1) := by decide +kernel
theorem dL_law_557 : decode cL_law 557 = .ok (.iload_n 3, 1) := by decide +kernel
theorem dL_law_558 : decode cL_law 558 = .ok (.iconst 1, 1) := by decide +kernel
theorem dL_law_559 : decode cL_law 559 = .ok (.iadd, 1) := by decide +kernel
theorem dL_law_560 : decode cL_law 560 = .ok (.iaload, 1) := by decide +kernel
theorem dL_law_561 : decode cL_law 561 = .ok (.invokevirtual 65, 3) := by decide +kernel
theorem dL_law_564 : decode cL_law 564 = .ok (.aload_n 2, 1) := by decide +kernel
theorem dL_law_565 : decode cL_law 565 = .ok (.aload_n 0, 1) := by decide +kernel
theorem dL_law_566 : decode cL_law 566 = .ok (.iload_n 3, 1) := by decide +kernel
theorem dL_law_567 : decode cL_law 567 = .ok (.iconst 1, 1) := by decide +kernel
theorem dL_law_568 : decode cL_law 568 = .ok (.iadd, 1) := by decide +kernel
theorem dL_law_569 : decode cL_law 569 = .ok (.iaload, 1) := by decide +kernel
theorem dL_law_570 : decode cL_law 570 = .ok (.invokevirtual 68, 3) := by decide +kernel
theorem dL_law_573 : decode cL_law 573 = .ok (.if_icmp .eq 827, 3) := by decide +kernel
theorem dL_law_576 : decode cL_law 576 = .ok (.iconst 0, 1) := by decide +kernel
theorem dL_law_577 : decode cL_law 577 = .ok (.ireturn, 1) := by decide +kernel
theorem dL_law_578 : decode cL_law 578 = .ok (.aload_n 1, 1) := by decide +kernel
theorem dL_law_579 : decode cL_law 579 = .ok (.aload_n 0, 1) := by decide +kernel
theorem dL_law_580 : decode cL_law 580 = .ok (.iload_n 3, 1) := by decide +kernel
theorem dL_law_581 : decode cL_law 581 = .ok (.iconst 1, 1) := by decide +kernel
theorem dL_law_582 : decode cL_law 582 = .ok (.iadd, 1) := by decide +kernel
theorem dL_law_583 : decode cL_law 583 = .ok (.iaload, 1) := by decide +kernel
theorem dL_law_584 : decode cL_law 584 = .ok (.aload_n 0, 1) := by decide +kernel
theorem dL_law_585 : decode cL_law 585 = .ok (.iload_n 3, 1) := by decide +kernel
theorem dL_law_586 : decode cL_law 586 = .ok (.iconst 2, 1) := by decide +kernel
theorem dL_law_587 : decode cL_law 587 = .ok (.iadd, 1) := by decide +kernel
theorem dL_law_588 : decode cL_law 588 = .ok (.iaload, 1) := by decide +kernel
theorem dL_law_589 : decode cL_law 589 = .ok (.aload_n 0, 1) := by decide +kernel
theorem dL_law_590 : decode cL_law 590 = .ok (.iload_n 3, 1) := by decide +kernel
theorem dL_law_591 : decode cL_law 591 = .ok (.iconst 3, 1) := by decide +kernel
theorem dL_law_592 : decode cL_law 592 = .ok (.iadd, 1) := by decide +kernel
theorem dL_law_593 : decode cL_law 593 = .ok (.iaload, 1) := by decide +kernel
theorem dL_law_594 : decode cL_law 594 = .ok (.aload_n 0, 1) := by decide +kernel
theorem dL_law_595 : decode cL_law 595 = .ok (.iload_n 3, 1) := by decide +kernel
theorem dL_law_596 : decode cL_law 596 = .ok (.iconst 4, 1) := by decide +kernel
theorem dL_law_597 : decode cL_law 597 = .ok (.iadd, 1) := by decide +kernel
theorem dL_law_598 : decode cL_law 598 = .ok (.iaload, 1) := by decide +kernel
theorem dL_law_599 : decode cL_law 599 = .ok (.invokevirtual 69, 3) := by decide +kernel
theorem dL_law_602 : decode cL_law 602 = .ok (.aload_n 2, 1) := by decide +kernel
theorem dL_law_603 : decode cL_law 603 = .ok (.aload_n 0, 1) := by decide +kernel
theorem dL_law_604 : decode cL_law 604 = .ok (.iload_n 3, 1) := by decide +kernel
theorem dL_law_605 : decode cL_law 605 = .ok (.iconst 1, 1) := by decide +kernel
theorem dL_law_606 : decode cL_law 606 = .ok (.iadd, 1) := by decide +kernel
theorem dL_law_607 : decode cL_law 607 = .ok (.iaload, 1) := by decide +kernel
theorem dL_law_608 : decode cL_law 608 = .ok (.aload_n 0, 1) := by decide +kernel
theorem dL_law_609 : decode cL_law 609 = .ok (.iload_n 3, 1) := by decide +kernel
theorem dL_law_610 : decode cL_law 610 = .ok (.iconst 2, 1) := by decide +kernel
theorem dL_law_611 : decode cL_law 611 = .ok (.iadd, 1) := by decide +kernel
theorem dL_law_612 : decode cL_law 612 = .ok (.iaload, 1) := by decide +kernel
theorem dL_law_613 : decode cL_law 613 = .ok (.aload_n 0, 1) := by decide +kernel
theorem dL_law_614 : decode cL_law 614 = .ok (.iload_n 3, 1) := by decide +kernel
theorem dL_law_615 : decode cL_law 615 = .ok (.iconst 3, 1) := by decide +kernel
theorem dL_law_616 : decode cL_law 616 = .ok (.iadd, 1) := by decide +kernel
theorem dL_law_617 : decode cL_law 617 = .ok (.iaload, 1) := by decide +kernel
theorem dL_law_618 : decode cL_law 618 = .ok (.aload_n 0, 1) := by decide +kernel
theorem dL_law_619 : decode cL_law 619 = .ok (.iload_n 3, 1) := by decide +kernel
theorem dL_law_620 : decode cL_law 620 = .ok (.iconst 4, 1) := by decide +kernel
theorem dL_law_621 : decode cL_law 621 = .ok (.iadd, 1) := by decide +kernel
theorem dL_law_622 : decode cL_law 622 = .ok (.iaload, 1) := by decide +kernel
theorem dL_law_623 : decode cL_law 623 = .ok (.invokevirtual 72, 3) := by decide +kernel
theorem dL_law_626 : decode cL_law 626 = .ok (.if_icmp .eq 774, 3) := by decide +kernel
theorem dL_law_629 : decode cL_law 629 = .ok (.iconst 0, 1) := by decide +kernel
theorem dL_law_630 : decode cL_law 630 = .ok (.ireturn, 1) := by decide +kernel
theorem dL_law_631 : decode cL_law 631 = .ok (.aload_n 1, 1) := by decide +kernel
theorem dL_law_632 : decode cL_law 632 = .ok (.aload_n 0, 1) := by decide +kernel
theorem dL_law_633 : decode cL_law 633 = .ok (.iload_n 3, 1) := by decide +kernel
theorem dL_law_634 : decode cL_law 634 = .ok (.iconst 1, 1) := by decide +kernel
theorem dL_law_635 : decode cL_law 635 = .ok (.iadd, 1) := by decide +kernel
theorem dL_law_636 : decode cL_law 636 = .ok (.iaload, 1) := by decide +kernel
theorem dL_law_637 : decode cL_law 637 = .ok (.aload_n 0, 1) := by decide +kernel
theorem dL_law_638 : decode cL_law 638 = .ok (.iload_n 3, 1) := by decide +kernel
theorem dL_law_639 : decode cL_law 639 = .ok (.iconst 2, 1) := by decide +kernel
theorem dL_law_640 : decode cL_law 640 = .ok (.iadd, 1) := by decide +kernel
theorem dL_law_641 : decode cL_law 641 = .ok (.iaload, 1) := by decide +kernel
theorem dL_law_642 : decode cL_law 642 = .ok (.invokevirtual 73, 3) := by decide +kernel
theorem dL_law_645 : decode cL_law 645 = .ok (.aload_n 2, 1) := by decide +kernel
theorem dL_law_646 : decode cL_law 646 = .ok (.aload_n 0, 1) := by decide +kernel
theorem dL_law_647 : decode cL_law 647 = .ok (.iload_n 3, 1) := by decide +kernel
theorem dL_law_648 : decode cL_law 648 = .ok (.iconst 1, 1) := by decide +kernel
theorem dL_law_649 : decode cL_law 649 = .ok (.iadd, 1) := by decide +kernel
theorem dL_law_650 : decode cL_law 650 = .ok (.iaload, 1) := by decide +kernel
theorem dL_law_651 : decode cL_law 651 = .ok (.aload_n 0, 1) := by decide +kernel
theorem dL_law_652 : decode cL_law 652 = .ok (.iload_n 3, 1) := by decide +kernel
theorem dL_law_653 : decode cL_law 653 = .ok (.iconst 2, 1) := by decide +kernel
theorem dL_law_654 : decode cL_law 654 = .ok (.iadd, 1) := by decide +kernel
theorem dL_law_655 : decode cL_law 655 = .ok (.iaload, 1) := by decide +kernel
theorem dL_law_656 : decode cL_law 656 = .ok (.invokevirtual 76, 3) := by decide +kernel
theorem dL_law_659 : decode cL_law 659 = .ok (.if_icmp .eq 741, 3) := by decide +kernel
theorem dL_law_662 : decode cL_law 662 = .ok (.iconst 0, 1) := by decide +kernel
theorem dL_law_663 : decode cL_law 663 = .ok (.ireturn, 1) := by decide +kernel
theorem dL_law_664 : decode cL_law 664 = .ok (.aload_n 1, 1) := by decide +kernel
theorem dL_law_665 : decode cL_law 665 = .ok (.aload_n 0, 1) := by decide +kernel
theorem dL_law_666 : decode cL_law 666 = .ok (.iload_n 3, 1) := by decide +kernel
theorem dL_law_667 : decode cL_law 667 = .ok (.iconst 1, 1) := by decide +kernel
theorem dL_law_668 : decode cL_law 668 = .ok (.iadd, 1) := by decide +kernel
theorem dL_law_669 : decode cL_law 669 = .ok (.iaload, 1) := by decide +kernel
theorem dL_law_670 : decode cL_law 670 = .ok (.aload_n 0, 1) := by decide +kernel
theorem dL_law_671 : decode cL_law 671 = .ok (.iload_n 3, 1) := by decide +kernel
theorem dL_law_672 : decode cL_law 672 = .ok (.iconst 2, 1) := by decide +kernel
theorem dL_law_673 : decode cL_law 673 = .ok (.iadd, 1) := by decide +kernel
theorem dL_law_674 : decode cL_law 674 = .ok (.iaload, 1) := by decide +kernel
theorem dL_law_675 : decode cL_law 675 = .ok (.invokevirtual 77, 3) := by decide +kernel
theorem dL_law_678 : decode cL_law 678 = .ok (.aload_n 2, 1) := by decide +kernel
theorem dL_law_679 : decode cL_law 679 = .ok (.aload_n 0, 1) := by decide +kernel
theorem dL_law_680 : decode cL_law 680 = .ok (.iload_n 3, 1) := by decide +kernel
theorem dL_law_681 : decode cL_law 681 = .ok (.iconst 1, 1) := by decide +kernel
theorem dL_law_682 : decode cL_law 682 = .ok (.iadd, 1) := by decide +kernel
theorem dL_law_683 : decode cL_law 683 = .ok (.iaload, 1) := by decide +kernel
theorem dL_law_684 : decode cL_law 684 = .ok (.aload_n 0, 1) := by decide +kernel
theorem dL_law_685 : decode cL_law 685 = .ok (.iload_n 3, 1) := by decide +kernel
theorem dL_law_686 : decode cL_law 686 = .ok (.iconst 2, 1) := by decide +kernel
theorem dL_law_687 : decode cL_law 687 = .ok (.iadd, 1) := by decide +kernel
theorem dL_law_688 : decode cL_law 688 = .ok (.iaload, 1) := by decide +kernel
theorem dL_law_689 : decode cL_law 689 = .ok (.invokevirtual 80, 3) := by decide +kernel
theorem dL_law_692 : decode cL_law 692 = .ok (.if_icmp .eq 708, 3) := by decide +kernel
theorem dL_law_695 : decode cL_law 695 = .ok (.iconst 0, 1) := by decide +kernel
theorem dL_law_696 : decode cL_law 696 = .ok (.ireturn, 1) := by decide +kernel
theorem dL_law_697 : decode cL_law 697 = .ok (.aload_n 1, 1) := by decide +kernel
theorem dL_law_698 : decode cL_law 698 = .ok (.aload_n 0, 1) := by decide +kernel
theorem dL_law_699 : decode cL_law 699 = .ok (.iload_n 3, 1) := by decide +kernel
theorem dL_law_700 : decode cL_law 700 = .ok (.iconst 1, 1) := by decide +kernel
theorem dL_law_701 : decode cL_law 701 = .ok (.iadd, 1) := by decide +kernel
theorem dL_law_702 : decode cL_law 702 = .ok (.iaload, 1) := by decide +kernel
theorem dL_law_703 : decode cL_law 703 = .ok (.aload_n 0, 1) := by decide +kernel
theorem dL_law_704 : decode cL_law 704 = .ok (.iload_n 3, 1) := by decide +kernel
theorem dL_law_705 : decode cL_law 705 = .ok (.iconst 2, 1) := by decide +kernel
theorem dL_law_706 : decode cL_law 706 = .ok (.iadd, 1) := by decide +kernel
theorem dL_law_707 : decode cL_law 707 = .ok (.iaload, 1) := by decide +kernel
theorem dL_law_708 : decode cL_law 708 = .ok (.aload_n 0, 1) := by decide +kernel
theorem dL_law_709 : decode cL_law 709 = .ok (.iload_n 3, 1) := by decide +kernel
theorem dL_law_710 : decode cL_law 710 = .ok (.iconst 3, 1) := by decide +kernel
theorem dL_law_711 : decode cL_law 711 = .ok (.iadd, 1) := by decide +kernel
theorem dL_law_712 : decode cL_law 712 = .ok (.iaload, 1) := by decide +kernel
theorem dL_law_713 : decode cL_law 713 = .ok (.aload_n 0, 1) := by decide +kernel
theorem dL_law_714 : decode cL_law 714 = .ok (.iload_n 3, 1) := by decide +kernel
theorem dL_law_715 : decode cL_law 715 = .ok (.iconst 4, 1) := by decide +kernel
theorem dL_law_716 : decode cL_law 716 = .ok (.iadd, 1) := by decide +kernel
theorem dL_law_717 : decode cL_law 717 = .ok (.iaload, 1) := by decide +kernel
theorem dL_law_718 : decode cL_law 718 = .ok (.invokevirtual 81, 3) := by decide +kernel
theorem dL_law_721 : decode cL_law 721 = .ok (.aload_n 2, 1) := by decide +kernel
theorem dL_law_722 : decode cL_law 722 = .ok (.aload_n 0, 1) := by decide +kernel
theorem dL_law_723 : decode cL_law 723 = .ok (.iload_n 3, 1) := by decide +kernel
theorem dL_law_724 : decode cL_law 724 = .ok (.iconst 1, 1) := by decide +kernel
theorem dL_law_725 : decode cL_law 725 = .ok (.iadd, 1) := by decide +kernel
theorem dL_law_726 : decode cL_law 726 = .ok (.iaload, 1) := by decide +kernel
theorem dL_law_727 : decode cL_law 727 = .ok (.aload_n 0, 1) := by decide +kernel
theorem dL_law_728 : decode cL_law 728 = .ok (.iload_n 3, 1) := by decide +kernel
theorem dL_law_729 : decode cL_law 729 = .ok (.iconst 2, 1) := by decide +kernel
theorem dL_law_730 : decode cL_law 730 = .ok (.iadd, 1) := by decide +kernel
theorem dL_law_731 : decode cL_law 731 = .ok (.iaload, 1) := by decide +kernel
theorem dL_law_732 : decode cL_law 732 = .ok (.aload_n 0, 1) := by decide +kernel
theorem dL_law_733 : decode cL_law 733 = .ok (.iload_n 3, 1) := by decide +kernel
theorem dL_law_734 : decode cL_law 734 = .ok (.iconst 3, 1) := by decide +kernel
theorem dL_law_735 : decode cL_law 735 = .ok (.iadd, 1) := by decide +kernel
theorem dL_law_736 : decode cL_law 736 = .ok (.iaload, 1) := by decide +kernel
theorem dL_law_737 : decode cL_law 737 = .ok (.aload_n 0, 1) := by decide +kernel
theorem dL_law_738 : decode cL_law 738 = .ok (.iload_n 3, 1) := by decide +kernel
theorem dL_law_739 : decode cL_law 739 = .ok (.iconst 4, 1) := by decide +kernel
theorem dL_law_740 : decode cL_law 740 = .ok (.iadd, 1) := by decide +kernel
theorem dL_law_741 : decode cL_law 741 = .ok (.iaload, 1) := by decide +kernel
theorem dL_law_742 : decode cL_law 742 = .ok (.invokevirtual 84, 3) := by decide +kernel
theorem dL_law_745 : decode cL_law 745 = .ok (.if_icmp .eq 655, 3) := by decide +kernel
theorem dL_law_748 : decode cL_law 748 = .ok (.iconst 0, 1) := by decide +kernel
theorem dL_law_749 : decode cL_law 749 = .ok (.ireturn, 1) := by decide +kernel
theorem dL_law_750 : decode cL_law 750 = .ok (.aload_n 1, 1) := by decide +kernel
theorem dL_law_751 : decode cL_law 751 = .ok (.aload_n 0, 1) := by decide +kernel
theorem dL_law_752 : decode cL_law 752 = .ok (.iload_n 3, 1) := by decide +kernel
theorem dL_law_753 : decode cL_law 753 = .ok (.iconst 1, 1) := by decide +kernel
theorem dL_law_754 : decode cL_law 754 = .ok (.iadd, 1) := by decide +kernel
theorem dL_law_755 : decode cL_law 755 = .ok (.iaload, 1) := by decide +kernel
theorem dL_law_756 : decode cL_law 756 = .ok (.aload_n 0, 1) := by decide +kernel
theorem dL_law_757 : decode cL_law 757 = .ok (.iload_n 3, 1) := by decide +kernel
theorem dL_law_758 : decode cL_law 758 = .ok (.iconst 2, 1) := by decide +kernel
theorem dL_law_759 : decode cL_law 759 = .ok (.iadd, 1) := by decide +kernel
theorem dL_law_760 : decode cL_law 760 = .ok (.iaload, 1) := by decide +kernel
theorem dL_law_761 : decode cL_law 761 = .ok (.invokevirtual 85, 3) := by decide +kernel
theorem dL_law_764 : decode cL_law 764 = .ok (.aload_n 2, 1) := by decide +kernel
theorem dL_law_765 : decode cL_law 765 = .ok (.aload_n 0, 1) := by decide +kernel
theorem dL_law_766 : decode cL_law 766 = .ok (.iload_n 3, 1) := by decide +kernel
theorem dL_law_767 : decode cL_law 767 = .ok (.iconst 1, 1) := by decide +kernel
theorem dL_law_768 : decode cL_law 768 = .ok (.iadd, 1) := by decide +kernel
theorem dL_law_769 : decode cL_law 769 = .ok (.iaload, 1) := by decide +kernel
theorem dL_law_770 : decode cL_law 770 = .ok (.aload_n 0, 1) := by decide +kernel
theorem dL_law_771 : decode cL_law 771 = .ok (.iload_n 3, 1) := by decide +kernel
theorem dL_law_772 : decode cL_law 772 = .ok (.iconst 2, 1) := by decide +kernel
theorem dL_law_773 : decode cL_law 773 = .ok (.iadd, 1) := by decide +kernel
theorem dL_law_774 : decode cL_law 774 = .ok (.iaload, 1) := by decide +kernel
theorem dL_law_775 : decode cL_law 775 = .ok (.invokevirtual 88, 3) := by decide +kernel
theorem dL_law_778 : decode cL_law 778 = .ok (.if_icmp .eq 622, 3) := by decide +kernel
theorem dL_law_781 : decode cL_law 781 = .ok (.iconst 0, 1) := by decide +kernel
theorem dL_law_782 : decode cL_law 782 = .ok (.ireturn, 1) := by decide +kernel
theorem dL_law_783 : decode cL_law 783 = .ok (.aload_n 1, 1) := by decide +kernel
theorem dL_law_784 : decode cL_law 784 = .ok (.aload_n 0, 1) := by decide +kernel
theorem dL_law_785 : decode cL_law 785 = .ok (.iload_n 3, 1) := by decide +kernel
theorem dL_law_786 : decode cL_law 786 = .ok (.iconst 1, 1) := by decide +kernel
theorem dL_law_787 : decode cL_law 787 = .ok (.iadd, 1) := by decide +kernel
theorem dL_law_788 : decode cL_law 788 = .ok (.iaload, 1) := by decide +kernel
theorem dL_law_789 : decode cL_law 789 = .ok (.aload_n 0, 1) := by decide +kernel
theorem dL_law_790 : decode cL_law 790 = .ok (.iload_n 3, 1) := by decide +kernel
theorem dL_law_791 : decode cL_law 791 = .ok (.iconst 2, 1) := by decide +kernel
theorem dL_law_792 : decode cL_law 792 = .ok (.iadd, 1) := by decide +kernel
theorem dL_law_793 : decode cL_law 793 = .ok (.iaload, 1) := by decide +kernel
theorem dL_law_794 : decode cL_law 794 = .ok (.invokevirtual 89, 3) := by decide +kernel
theorem dL_law_797 : decode cL_law 797 = .ok (.aload_n 2, 1) := by decide +kernel
theorem dL_law_798 : decode cL_law 798 = .ok (.aload_n 0, 1) := by decide +kernel
theorem dL_law_799 : decode cL_law 799 = .ok (.iload_n 3, 1) := by decide +kernel
theorem dL_law_800 : decode cL_law 800 = .ok (.iconst 1, 1) := by decide +kernel
theorem dL_law_801 : decode cL_law 801 = .ok (.iadd, 1) := by decide +kernel
theorem dL_law_802 : decode cL_law 802 = .ok (.iaload, 1) := by decide +kernel
theorem dL_law_803 : decode cL_law 803 = .ok (.aload_n 0, 1) := by decide +kernel
theorem dL_law_804 : decode cL_law 804 = .ok (.iload_n 3, 1) := by decide +kernel
theorem dL_law_805 : decode cL_law 805 = .ok (.iconst 2, 1) := by decide +kernel
theorem dL_law_806 : decode cL_law 806 = .ok (.iadd, 1) := by decide +kernel
theorem dL_law_807 : decode cL_law 807 = .ok (.iaload, 1) := by decide +kernel
theorem dL_law_808 : decode cL_law 808 = .ok (.invokevirtual 92, 3) := by decide +kernel
theorem dL_law_811 : decode cL_law 811 = .ok (.if_icmp .eq 589, 3) := by decide +kernel
theorem dL_law_814 : decode cL_law 814 = .ok (.iconst 0, 1) := by decide +kernel
theorem dL_law_815 : decode cL_law 815 = .ok (.ireturn, 1) := by decide +kernel
theorem dL_law_816 : decode cL_law 816 = .ok (.aload_n 1, 1) := by decide +kernel
theorem dL_law_817 : decode cL_law 817 = .ok (.aload_n 0, 1) := by decide +kernel
theorem dL_law_818 : decode cL_law 818 = .ok (.iload_n 3, 1) := by decide +kernel
theorem dL_law_819 : decode cL_law 819 = .ok (.iconst 1, 1) := by decide +kernel
theorem dL_law_820 : decode cL_law 820 = .ok (.iadd, 1) := by decide +kernel
theorem dL_law_821 : decode cL_law 821 = .ok (.iaload, 1) := by decide +kernel
theorem dL_law_822 : decode cL_law 822 = .ok (.aload_n 0, 1) := by decide +kernel
theorem dL_law_823 : decode cL_law 823 = .ok (.iload_n 3, 1) := by decide +kernel
theorem dL_law_824 : decode cL_law 824 = .ok (.iconst 2, 1) := by decide +kernel
theorem dL_law_825 : decode cL_law 825 = .ok (.iadd, 1) := by decide +kernel
theorem dL_law_826 : decode cL_law 826 = .ok (.iaload, 1) := by decide +kernel
theorem dL_law_827 : decode cL_law 827 = .ok (.aload_n 0, 1) := by decide +kernel
theorem dL_law_828 : decode cL_law 828 = .ok (.iload_n 3, 1) := by decide +kernel
theorem dL_law_829 : decode cL_law 829 = .ok (.iconst 3, 1) := by decide +kernel
theorem dL_law_830 : decode cL_law 830 = .ok (.iadd, 1) := by decide +kernel
theorem dL_law_831 : decode cL_law 831 = .ok (.iaload, 1) := by decide +kernel
theorem dL_law_832 : decode cL_law 832 = .ok (.aload_n 0, 1) := by decide +kernel
theorem dL_law_833 : decode cL_law 833 = .ok (.iload_n 3, 1) := by decide +kernel
theorem dL_law_834 : decode cL_law 834 = .ok (.iconst 4, 1) := by decide +kernel
theorem dL_law_835 : decode cL_law 835 = .ok (.iadd, 1) := by decide +kernel
theorem dL_law_836 : decode cL_law 836 = .ok (.iaload, 1) := by decide +kernel
theorem dL_law_837 : decode cL_law 837 = .ok (.invokevirtual 93, 3) := by decide +kernel
theorem dL_law_840 : decode cL_law 840 = .ok (.aload_n 2, 1) := by decide +kernel
theorem dL_law_841 : decode cL_law 841 = .ok (.aload_n 0, 1) := by decide +kernel
theorem dL_law_842 : decode cL_law 842 = .ok (.iload_n 3, 1) := by decide +kernel
theorem dL_law_843 : decode cL_law 843 = .ok (.iconst 1, 1) := by decide +kernel
theorem dL_law_844 : decode cL_law 844 = .ok (.iadd, 1) := by decide +kernel
theorem dL_law_845 : decode cL_law 845 = .ok (.iaload, 1) := by decide +kernel
theorem dL_law_846 : decode cL_law 846 = .ok (.aload_n 0, 1) := by decide +kernel
theorem dL_law_847 : decode cL_law 847 = .ok (.iload_n 3, 1) := by decide +kernel
theorem dL_law_848 : decode cL_law 848 = .ok (.iconst 2, 1) := by decide +kernel
theorem dL_law_849 : decode cL_law 849 = .ok (.iadd, 1) := by decide +kernel
theorem dL_law_850 : decode cL_law 850 = .ok (.iaload, 1) := by decide +kernel
theorem dL_law_851 : decode cL_law 851 = .ok (.aload_n 0, 1) := by decide +kernel
theorem dL_law_852 : decode cL_law 852 = .ok (.iload_n 3, 1) := by decide +kernel
theorem dL_law_853 : decode cL_law 853 = .ok (.iconst 3, 1) := by decide +kernel
theorem dL_law_854 : decode cL_law 854 = .ok (.iadd, 1) := by decide +kernel
theorem dL_law_855 : decode cL_law 855 = .ok (.iaload, 1) := by decide +kernel
theorem dL_law_856 : decode cL_law 856 = .ok (.aload_n 0, 1) := by decide +kernel
theorem dL_law_857 : decode cL_law 857 = .ok (.iload_n 3, 1) := by decide +kernel
theorem dL_law_858 : decode cL_law 858 = .ok (.iconst 4, 1) := by decide +kernel
theorem dL_law_859 : decode cL_law 859 = .ok (.iadd, 1) := by decide +kernel
theorem dL_law_860 : decode cL_law 860 = .ok (.iaload, 1) := by decide +kernel
theorem dL_law_861 : decode cL_law 861 = .ok (.invokevirtual 96, 3) := by decide +kernel
theorem dL_law_864 : decode cL_law 864 = .ok (.if_icmp .eq 536, 3) := by decide +kernel
theorem dL_law_867 : decode cL_law 867 = .ok (.iconst 0, 1) := by decide +kernel
theorem dL_law_868 : decode cL_law 868 = .ok (.ireturn, 1) := by decide +kernel
theorem dL_law_869 : decode cL_law 869 = .ok (.aload_n 1, 1) := by decide +kernel
theorem dL_law_870 : decode cL_law 870 = .ok (.aload_n 0, 1) := by decide +kernel
theorem dL_law_871 : decode cL_law 871 = .ok (.iload_n 3, 1) := by decide +kernel
theorem dL_law_872 : decode cL_law 872 = .ok (.iconst 1, 1) := by decide +kernel
theorem dL_law_873 : decode cL_law 873 = .ok (.iadd, 1) := by decide +kernel
theorem dL_law_874 : decode cL_law 874 = .ok (.iaload, 1) := by decide +kernel
theorem dL_law_875 : decode cL_law 875 = .ok (.aload_n 0, 1) := by decide +kernel
theorem dL_law_876 : decode cL_law 876 = .ok (.iload_n 3, 1) := by decide +kernel
theorem dL_law_877 : decode cL_law 877 = .ok (.iconst 2, 1) := by decide +kernel
theorem dL_law_878 : decode cL_law 878 = .ok (.iadd, 1) := by decide +kernel
theorem dL_law_879 : decode cL_law 879 = .ok (.iaload, 1) := by decide +kernel
theorem dL_law_880 : decode cL_law 880 = .ok (.invokevirtual 97, 3) := by decide +kernel
theorem dL_law_883 : decode cL_law 883 = .ok (.aload_n 2, 1) := by decide +kernel
theorem dL_law_884 : decode cL_law 884 = .ok (.aload_n 0, 1) := by decide +kernel
theorem dL_law_885 : decode cL_law 885 = .ok (.iload_n 3, 1) := by decide +kernel
theorem dL_law_886 : decode cL_law 886 = .ok (.iconst 1, 1) := by decide +kernel
theorem dL_law_887 : decode cL_law 887 = .ok (.iadd, 1) := by decide +kernel
theorem dL_law_888 : decode cL_law 888 = .ok (.iaload, 1) := by decide +kernel
theorem dL_law_889 : decode cL_law 889 = .ok (.aload_n 0, 1) := by decide +kernel
theorem dL_law_890 : decode cL_law 890 = .ok (.iload_n 3, 1) := by decide +kernel
theorem dL_law_891 : decode cL_law 891 = .ok (.iconst 2, 1) := by decide +kernel
theorem dL_law_892 : decode cL_law 892 = .ok (.iadd, 1) := by decide +kernel
theorem dL_law_893 : decode cL_law 893 = .ok (.iaload, 1) := by decide +kernel
theorem dL_law_894 : decode cL_law 894 = .ok (.invokevirtual 100, 3) := by decide +kernel
theorem dL_law_897 : decode cL_law 897 = .ok (.if_icmp .eq 503, 3) := by decide +kernel
theorem dL_law_900 : decode cL_law 900 = .ok (.iconst 0, 1) := by decide +kernel
theorem dL_law_901 : decode cL_law 901 = .ok (.ireturn, 1) := by decide +kernel
theorem dL_law_902 : decode cL_law 902 = .ok (.aload_n 1, 1) := by decide +kernel
theorem dL_law_903 : decode cL_law 903 = .ok (.aload_n 0, 1) := by decide +kernel
theorem dL_law_904 : decode cL_law 904 = .ok (.iload_n 3, 1) := by decide +kernel
theorem dL_law_905 : decode cL_law 905 = .ok (.iconst 1, 1) := by decide +kernel
theorem dL_law_906 : decode cL_law 906 = .ok (.iadd, 1) := by decide +kernel
theorem dL_law_907 : decode cL_law 907 = .ok (.iaload, 1) := by decide +kernel
theorem dL_law_908 : decode cL_law 908 = .ok (.aload_n 0, 1) := by decide +kernel
theorem dL_law_909 : decode cL_law 909 = .ok (.iload_n 3, 1) := by decide +kernel
theorem dL_law_910 : decode cL_law 910 = .ok (.iconst 2, 1) := by decide +kernel
theorem dL_law_911 : decode cL_law 911 = .ok (.iadd, 1) := by decide +kernel
theorem dL_law_912 : decode cL_law 912 = .ok (.iaload, 1) := by decide +kernel
theorem dL_law_913 : decode cL_law 913 = .ok (.invokevirtual 101, 3) := by decide +kernel
theorem dL_law_916 : decode cL_law 916 = .ok (.aload_n 2, 1) := by decide +kernel
theorem dL_law_917 : decode cL_law 917 = .ok (.aload_n 0, 1) := by decide +kernel
theorem dL_law_918 : decode cL_law 918 = .ok (.iload_n 3, 1) := by decide +kernel
theorem dL_law_919 : decode cL_law 919 = .ok (.iconst 1, 1) := by decide +kernel
theorem dL_law_920 : decode cL_law 920 = .ok (.iadd, 1) := by decide +kernel
theorem dL_law_921 : decode cL_law 921 = .ok (.iaload, 1) := by decide +kernel
theorem dL_law_922 : decode cL_law 922 = .ok (.aload_n 0, 1) := by decide +kernel
theorem dL_law_923 : decode cL_law 923 = .ok (.iload_n 3, 1) := by decide +kernel
theorem dL_law_924 : decode cL_law 924 = .ok (.iconst 2, 1) := by decide +kernel
theorem dL_law_925 : decode cL_law 925 = .ok (.iadd, 1) := by decide +kernel
theorem dL_law_926 : decode cL_law 926 = .ok (.iaload, 1) := by decide +kernel
theorem dL_law_927 : decode cL_law 927 = .ok (.invokevirtual 104, 3) := by decide +kernel
theorem dL_law_930 : decode cL_law 930 = .ok (.if_icmp .eq 470, 3) := by decide +kernel
theorem dL_law_933 : decode cL_law 933 = .ok (.iconst 0, 1) := by decide +kernel
theorem dL_law_934 : decode cL_law 934 = .ok (.ireturn, 1) := by decide +kernel
theorem dL_law_935 : decode cL_law 935 = .ok (.aload_n 1, 1) := by decide +kernel
theorem dL_law_936 : decode cL_law 936 = .ok (.invokevirtual 105, 3) := by decide +kernel
theorem dL_law_939 : decode cL_law 939 = .ok (.aload_n 2, 1) := by decide +kernel
theorem dL_law_940 : decode cL_law 940 = .ok (.invokevirtual 108, 3) := by decide +kernel
theorem dL_law_943 : decode cL_law 943 = .ok (.if_icmp .eq 457, 3) := by decide +kernel
theorem dL_law_946 : decode cL_law 946 = .ok (.iconst 0, 1) := by decide +kernel
theorem dL_law_947 : decode cL_law 947 = .ok (.ireturn, 1) := by decide +kernel
theorem dL_law_948 : decode cL_law 948 = .ok (.aload_n 1, 1) := by decide +kernel
theorem dL_law_949 : decode cL_law 949 = .ok (.aload_n 0, 1) := by decide +kernel
theorem dL_law_950 : decode cL_law 950 = .ok (.iload_n 3, 1) := by decide +kernel
theorem dL_law_951 : decode cL_law 951 = .ok (.iconst 1, 1) := by decide +kernel
theorem dL_law_952 : decode cL_law 952 = .ok (.iadd, 1) := by decide +kernel
theorem dL_law_953 : decode cL_law 953 = .ok (.iaload, 1) := by decide +kernel
theorem dL_law_954 : decode cL_law 954 = .ok (.invokevirtual 109, 3) := by decide +kernel
theorem dL_law_957 : decode cL_law 957 = .ok (.aload_n 2, 1) := by decide +kernel
theorem dL_law_958 : decode cL_law 958 = .ok (.aload_n 0, 1) := by decide +kernel
theorem dL_law_959 : decode cL_law 959 = .ok (.iload_n 3, 1) := by decide +kernel
theorem dL_law_960 : decode cL_law 960 = .ok (.iconst 1, 1) := by decide +kernel
theorem dL_law_961 : decode cL_law 961 = .ok (.iadd, 1) := by decide +kernel
theorem dL_law_962 : decode cL_law 962 = .ok (.iaload, 1) := by decide +kernel
theorem dL_law_963 : decode cL_law 963 = .ok (.invokevirtual 112, 3) := by decide +kernel
theorem dL_law_966 : decode cL_law 966 = .ok (.if_icmp .eq 434, 3) := by decide +kernel
theorem dL_law_969 : decode cL_law 969 = .ok (.iconst 0, 1) := by decide +kernel
theorem dL_law_970 : decode cL_law 970 = .ok (.ireturn, 1) := by decide +kernel
theorem dL_law_971 : decode cL_law 971 = .ok (.aload_n 1, 1) := by decide +kernel
theorem dL_law_972 : decode cL_law 972 = .ok (.invokevirtual 113, 3) := by decide +kernel
theorem dL_law_975 : decode cL_law 975 = .ok (.aload_n 2, 1) := by decide +kernel
theorem dL_law_976 : decode cL_law 976 = .ok (.invokevirtual 116, 3) := by decide +kernel
theorem dL_law_979 : decode cL_law 979 = .ok (.if_icmp .eq 421, 3) := by decide +kernel
theorem dL_law_982 : decode cL_law 982 = .ok (.iconst 0, 1) := by decide +kernel
theorem dL_law_983 : decode cL_law 983 = .ok (.ireturn, 1) := by decide +kernel
theorem dL_law_984 : decode cL_law 984 = .ok (.aload_n 1, 1) := by decide +kernel
theorem dL_law_985 : decode cL_law 985 = .ok (.aload_n 0, 1) := by decide +kernel
theorem dL_law_986 : decode cL_law 986 = .ok (.iload_n 3, 1) := by decide +kernel
theorem dL_law_987 : decode cL_law 987 = .ok (.iconst 1, 1) := by decide +kernel
theorem dL_law_988 : decode cL_law 988 = .ok (.iadd, 1) := by decide +kernel
theorem dL_law_989 : decode cL_law 989 = .ok (.iaload, 1) := by decide +kernel
theorem dL_law_990 : decode cL_law 990 = .ok (.invokevirtual 117, 3) := by decide +kernel
theorem dL_law_993 : decode cL_law 993 = .ok (.aload_n 2, 1) := by decide +kernel
theorem dL_law_994 : decode cL_law 994 = .ok (.aload_n 0, 1) := by decide +kernel
theorem dL_law_995 : decode cL_law 995 = .ok (.iload_n 3, 1) := by decide +kernel
theorem dL_law_996 : decode cL_law 996 = .ok (.iconst 1, 1) := by decide +kernel
theorem dL_law_997 : decode cL_law 997 = .ok (.iadd, 1) := by decide +kernel
theorem dL_law_998 : decode cL_law 998 = .ok (.iaload, 1) := by decide +kernel
theorem dL_law_999 : decode cL_law 999 = .ok (.invokevirtual 120, 3) := by decide +kernel
theorem dL_law_1002 : decode cL_law 1002 = .ok (.if_icmp .eq 398, 3) := by decide +kernel
theorem dL_law_1005 : decode cL_law 1005 = .ok (.iconst 0, 1) := by decide +kernel
theorem dL_law_1006 : decode cL_law 1006 = .ok (.ireturn, 1) := by decide +kernel
theorem dL_law_1007 : decode cL_law 1007 = .ok (.aload_n 1, 1) := by decide +kernel
theorem dL_law_1008 : decode cL_law 1008 = .ok (.aload_n 0, 1) := by decide +kernel
theorem dL_law_1009 : decode cL_law 1009 = .ok (.iload_n 3, 1) := by decide +kernel
theorem dL_law_1010 : decode cL_law 1010 = .ok (.iconst 1, 1) := by decide +kernel
theorem dL_law_1011 : decode cL_law 1011 = .ok (.iadd, 1) := by decide +kernel
theorem dL_law_1012 : decode cL_law 1012 = .ok (.iaload, 1) := by decide +kernel
theorem dL_law_1013 : decode cL_law 1013 = .ok (.aload_n 0, 1) := by decide +kernel
theorem dL_law_1014 : decode cL_law 1014 = .ok (.iload_n 3, 1) := by decide +kernel
theorem dL_law_1015 : decode cL_law 1015 = .ok (.iconst 2, 1) := by decide +kernel
theorem dL_law_1016 : decode cL_law 1016 = .ok (.iadd, 1) := by decide +kernel
theorem dL_law_1017 : decode cL_law 1017 = .ok (.iaload, 1) := by decide +kernel
theorem dL_law_1018 : decode cL_law 1018 = .ok (.invokevirtual 121, 3) := by decide +kernel
theorem dL_law_1021 : decode cL_law 1021 = .ok (.aload_n 2, 1) := by decide +kernel
theorem dL_law_1022 : decode cL_law 1022 = .ok (.aload_n 0, 1) := by decide +kernel
theorem dL_law_1023 : decode cL_law 1023 = .ok (.iload_n 3, 1) := by decide +kernel
theorem dL_law_1024 : decode cL_law 1024 = .ok (.iconst 1, 1) := by decide +kernel
theorem dL_law_1025 : decode cL_law 1025 = .ok (.iadd, 1) := by decide +kernel
theorem dL_law_1026 : decode cL_law 1026 = .ok (.iaload, 1) := by decide +kernel
theorem dL_law_1027 : decode cL_law 1027 = .ok (.aload_n 0, 1) := by decide +kernel
theorem dL_law_1028 : decode cL_law 1028 = .ok (.iload_n 3, 1) := by decide +kernel
theorem dL_law_1029 : decode cL_law 1029 = .ok (.iconst 2, 1) := by decide +kernel
theorem dL_law_1030 : decode cL_law 1030 = .ok (.iadd, 1) := by decide +kernel
theorem dL_law_1031 : decode cL_law 1031 = .ok (.iaload, 1) := by decide +kernel
theorem dL_law_1032 : decode cL_law 1032 = .ok (.invokevirtual 124, 3) := by decide +kernel
theorem dL_law_1035 : decode cL_law 1035 = .ok (.if_icmp .eq 365, 3) := by decide +kernel
theorem dL_law_1038 : decode cL_law 1038 = .ok (.iconst 0, 1) := by decide +kernel
theorem dL_law_1039 : decode cL_law 1039 = .ok (.ireturn, 1) := by decide +kernel
theorem dL_law_1040 : decode cL_law 1040 = .ok (.aload_n 1, 1) := by decide +kernel
theorem dL_law_1041 : decode cL_law 1041 = .ok (.aload_n 0, 1) := by decide +kernel
theorem dL_law_1042 : decode cL_law 1042 = .ok (.iload_n 3, 1) := by decide +kernel
theorem dL_law_1043 : decode cL_law 1043 = .ok (.iconst 1, 1) := by decide +kernel
theorem dL_law_1044 : decode cL_law 1044 = .ok (.iadd, 1) := by decide +kernel
theorem dL_law_1045 : decode cL_law 1045 = .ok (.iaload, 1) := by decide +kernel
theorem dL_law_1046 : decode cL_law 1046 = .ok (.invokevirtual 125, 3) := by decide +kernel
theorem dL_law_1049 : decode cL_law 1049 = .ok (.aload_n 2, 1) := by decide +kernel
theorem dL_law_1050 : decode cL_law 1050 = .ok (.aload_n 0, 1) := by decide +kernel
theorem dL_law_1051 : decode cL_law 1051 = .ok (.iload_n 3, 1) := by decide +kernel
theorem dL_law_1052 : decode cL_law 1052 = .ok (.iconst 1, 1) := by decide +kernel
theorem dL_law_1053 : decode cL_law 1053 = .ok (.iadd, 1) := by decide +kernel
theorem dL_law_1054 : decode cL_law 1054 = .ok (.iaload, 1) := by decide +kernel
theorem dL_law_1055 : decode cL_law 1055 = .ok (.invokevirtual 128, 3) := by decide +kernel
theorem dL_law_1058 : decode cL_law 1058 = .ok (.if_icmp .eq 342, 3) := by decide +kernel
theorem dL_law_1061 : decode cL_law 1061 = .ok (.iconst 0, 1) := by decide +kernel
theorem dL_law_1062 : decode cL_law 1062 = .ok (.ireturn, 1) := by decide +kernel
theorem dL_law_1063 : decode cL_law 1063 = .ok (.aload_n 1, 1) := by decide +kernel
theorem dL_law_1064 : decode cL_law 1064 = .ok (.aload_n 0, 1) := by decide +kernel
theorem dL_law_1065 : decode cL_law 1065 = .ok (.iload_n 3, 1) := by decide +kernel
theorem dL_law_1066 : decode cL_law 1066 = .ok (.iconst 1, 1) := by decide +kernel
theorem dL_law_1067 : decode cL_law 1067 = .ok (.iadd, 1) := by decide +kernel
theorem dL_law_1068 : decode cL_law 1068 = .ok (.iaload, 1) := by decide +kernel
theorem dL_law_1069 : decode cL_law 1069 = .ok (.aload_n 0, 1) := by decide +kernel
theorem dL_law_1070 : decode cL_law 1070 = .ok (.iload_n 3, 1) := by decide +kernel
theorem dL_law_1071 : decode cL_law 1071 = .ok (.iconst 2, 1) := by decide +kernel
theorem dL_law_1072 : decode cL_law 1072 = .ok (.iadd, 1) := by decide +kernel
theorem dL_law_1073 : decode cL_law 1073 = .ok (.iaload, 1) := by decide +kernel
theorem dL_law_1074 : decode cL_law 1074 = .ok (.aload_n 0, 1) := by decide +kernel
theorem dL_law_1075 : decode cL_law 1075 = .ok (.iload_n 3, 1) := by decide +kernel
theorem dL_law_1076 : decode cL_law 1076 = .ok (.iconst 3, 1) := by decide +kernel
theorem dL_law_1077 : decode cL_law 1077 = .ok (.iadd, 1) := by decide +kernel
theorem dL_law_1078 : decode cL_law 1078 = .ok (.iaload, 1) := by decide +kernel
theorem dL_law_1079 : decode cL_law 1079 = .ok (.aload_n 0, 1) := by decide +kernel
theorem dL_law_1080 : decode cL_law 1080 = .ok (.iload_n 3, 1) := by decide +kernel
theorem dL_law_1081 : decode cL_law 1081 = .ok (.iconst 4, 1) := by decide +kernel
theorem dL_law_1082 : decode cL_law 1082 = .ok (.iadd, 1) := by decide +kernel
theorem dL_law_1083 : decode cL_law 1083 = .ok (.iaload, 1) := by decide +kernel
theorem dL_law_1084 : decode cL_law 1084 = .ok (.invokevirtual 129, 3) := by decide +kernel
theorem dL_law_1087 : decode cL_law 1087 = .ok (.aload_n 2, 1) := by decide +kernel
theorem dL_law_1088 : decode cL_law 1088 = .ok (.aload_n 0, 1) := by decide +kernel
theorem dL_law_1089 : decode cL_law 1089 = .ok (.iload_n 3, 1) := by decide +kernel
theorem dL_law_1090 : decode cL_law 1090 = .ok (.iconst 1, 1) := by decide +kernel
theorem dL_law_1091 : decode cL_law 1091 = .ok (.iadd, 1) := by decide +kernel
theorem dL_law_1092 : decode cL_law 1092 = .ok (.iaload, 1) := by decide +kernel
theorem dL_law_1093 : decode cL_law 1093 = .ok (.aload_n 0, 1) := by decide +kernel
theorem dL_law_1094 : decode cL_law 1094 = .ok (.iload_n 3, 1) := by decide +kernel
theorem dL_law_1095 : decode cL_law 1095 = .ok (.iconst 2, 1) := by decide +kernel
theorem dL_law_1096 : decode cL_law 1096 = .ok (.iadd, 1) := by decide +kernel
theorem dL_law_1097 : decode cL_law 1097 = .ok (.iaload, 1) := by decide +kernel
theorem dL_law_1098 : decode cL_law 1098 = .ok (.aload_n 0, 1) := by decide +kernel
theorem dL_law_1099 : decode cL_law 1099 = .ok (.iload_n 3, 1) := by decide +kernel
theorem dL_law_1100 : decode cL_law 1100 = .ok (.iconst 3, 1) := by decide +kernel
theorem dL_law_1101 : decode cL_law 1101 = .ok (.iadd, 1) := by decide +kernel
theorem dL_law_1102 : decode cL_law 1102 = .ok (.iaload, 1) := by decide +kernel
theorem dL_law_1103 : decode cL_law 1103 = .ok (.aload_n 0, 1) := by decide +kernel
theorem dL_law_1104 : decode cL_law 1104 = .ok (.iload_n 3, 1) := by decide +kernel
theorem dL_law_1105 : decode cL_law 1105 = .ok (.iconst 4, 1) := by decide +kernel
theorem dL_law_1106 : decode cL_law 1106 = .ok (.iadd, 1) := by decide +kernel
theorem dL_law_1107 : decode cL_law 1107 = .ok (.iaload, 1) := by decide +kernel
theorem dL_law_1108 : decode cL_law 1108 = .ok (.invokevirtual 132, 3) := by decide +kernel
theorem dL_law_1111 : decode cL_law 1111 = .ok (.if_icmp .eq 289, 3) := by decide +kernel
theorem dL_law_1114 : decode cL_law 1114 = .ok (.iconst 0, 1) := by decide +kernel
theorem dL_law_1115 : decode cL_law 1115 = .ok (.ireturn, 1) := by decide +kernel
theorem dL_law_1116 : decode cL_law 1116 = .ok (.aload_n 1, 1) := by decide +kernel
theorem dL_law_1117 : decode cL_law 1117 = .ok (.invokevirtual 133, 3) := by decide +kernel
theorem dL_law_1120 : decode cL_law 1120 = .ok (.aload_n 2, 1) := by decide +kernel
theorem dL_law_1121 : decode cL_law 1121 = .ok (.invokevirtual 136, 3) := by decide +kernel
theorem dL_law_1124 : decode cL_law 1124 = .ok (.if_icmp .eq 276, 3) := by decide +kernel
theorem dL_law_1127 : decode cL_law 1127 = .ok (.iconst 0, 1) := by decide +kernel
theorem dL_law_1128 : decode cL_law 1128 = .ok (.ireturn, 1) := by decide +kernel
theorem dL_law_1129 : decode cL_law 1129 = .ok (.aload_n 1, 1) := by decide +kernel
theorem dL_law_1130 : decode cL_law 1130 = .ok (.invokevirtual 137, 3) := by decide +kernel
theorem dL_law_1133 : decode cL_law 1133 = .ok (.aload_n 2, 1) := by decide +kernel
theorem dL_law_1134 : decode cL_law 1134 = .ok (.invokevirtual 140, 3) := by decide +kernel
theorem dL_law_1137 : decode cL_law 1137 = .ok (.if_icmp .eq 263, 3) := by decide +kernel
theorem dL_law_1140 : decode cL_law 1140 = .ok (.iconst 0, 1) := by decide +kernel
theorem dL_law_1141 : decode cL_law 1141 = .ok (.ireturn, 1) := by decide +kernel
theorem dL_law_1142 : decode cL_law 1142 = .ok (.aload_n 1, 1) := by decide +kernel
theorem dL_law_1143 : decode cL_law 1143 = .ok (.invokevirtual 141, 3) := by decide +kernel
theorem dL_law_1146 : decode cL_law 1146 = .ok (.aload_n 2, 1) := by decide +kernel
theorem dL_law_1147 : decode cL_law 1147 = .ok (.invokevirtual 144, 3) := by decide +kernel
theorem dL_law_1150 : decode cL_law 1150 = .ok (.if_icmp .eq 250, 3) := by decide +kernel
theorem dL_law_1153 : decode cL_law 1153 = .ok (.iconst 0, 1) := by decide +kernel
theorem dL_law_1154 : decode cL_law 1154 = .ok (.ireturn, 1) := by decide +kernel
theorem dL_law_1155 : decode cL_law 1155 = .ok (.aload_n 1, 1) := by decide +kernel
theorem dL_law_1156 : decode cL_law 1156 = .ok (.aload_n 0, 1) := by decide +kernel
theorem dL_law_1157 : decode cL_law 1157 = .ok (.iload_n 3, 1) := by decide +kernel
theorem dL_law_1158 : decode cL_law 1158 = .ok (.iconst 1, 1) := by decide +kernel
theorem dL_law_1159 : decode cL_law 1159 = .ok (.iadd, 1) := by decide +kernel
theorem dL_law_1160 : decode cL_law 1160 = .ok (.iaload, 1) := by decide +kernel
theorem dL_law_1161 : decode cL_law 1161 = .ok (.aload_n 0, 1) := by decide +kernel
theorem dL_law_1162 : decode cL_law 1162 = .ok (.iload_n 3, 1) := by decide +kernel
theorem dL_law_1163 : decode cL_law 1163 = .ok (.iconst 2, 1) := by decide +kernel
theorem dL_law_1164 : decode cL_law 1164 = .ok (.iadd, 1) := by decide +kernel
theorem dL_law_1165 : decode cL_law 1165 = .ok (.iaload, 1) := by decide +kernel
theorem dL_law_1166 : decode cL_law 1166 = .ok (.aload_n 0, 1) := by decide +kernel
theorem dL_law_1167 : decode cL_law 1167 = .ok (.iload_n 3, 1) := by decide +kernel
theorem dL_law_1168 : decode cL_law 1168 = .ok (.iconst 3, 1) := by decide +kernel
theorem dL_law_1169 : decode cL_law 1169 = .ok (.iadd, 1) := by decide +kernel
theorem dL_law_1170 : decode cL_law 1170 = .ok (.iaload, 1) := by decide +kernel
theorem dL_law_1171 : decode cL_law 1171 = .ok (.aload_n 0, 1) := by decide +kernel
theorem dL_law_1172 : decode cL_law 1172 = .ok (.iload_n 3, 1) := by decide +kernel
theorem dL_law_1173 : decode cL_law 1173 = .ok (.iconst 4, 1) := by decide +kernel
theorem dL_law_1174 : decode cL_law 1174 = .ok (.iadd, 1) := by decide +kernel
theorem dL_law_1175 : decode cL_law 1175 = .ok (.iaload, 1) := by decide +kernel
theorem dL_law_1176 : decode cL_law 1176 = .ok (.aload_n 0, 1) := by decide +kernel
theorem dL_law_1177 : decode cL_law 1177 = .ok (.iload_n 3, 1) := by decide +kernel
theorem dL_law_1178 : decode cL_law 1178 = .ok (.iconst 5, 1) := by decide +kernel
theorem dL_law_1179 : decode cL_law 1179 = .ok (.iadd, 1) := by decide +kernel
theorem dL_law_1180 : decode cL_law 1180 = .ok (.iaload, 1) := by decide +kernel
theorem dL_law_1181 : decode cL_law 1181 = .ok (.invokevirtual 145, 3) := by decide +kernel
theorem dL_law_1184 : decode cL_law 1184 = .ok (.aload_n 2, 1) := by decide +kernel
theorem dL_law_1185 : decode cL_law 1185 = .ok (.aload_n 0, 1) := by decide +kernel
theorem dL_law_1186 : decode cL_law 1186 = .ok (.iload_n 3, 1) := by decide +kernel
theorem dL_law_1187 : decode cL_law 1187 = .ok (.iconst 1, 1) := by decide +kernel
theorem dL_law_1188 : decode cL_law 1188 = .ok (.iadd, 1) := by decide +kernel
theorem dL_law_1189 : decode cL_law 1189 = .ok (.iaload, 1) := by decide +kernel
theorem dL_law_1190 : decode cL_law 1190 = .ok (.aload_n 0, 1) := by decide +kernel
theorem dL_law_1191 : decode cL_law 1191 = .ok (.iload_n 3, 1) := by decide +kernel
theorem dL_law_1192 : decode cL_law 1192 = .ok (.iconst 2, 1) := by decide +kernel
theorem dL_law_1193 : decode cL_law 1193 = .ok (.iadd, 1) := by decide +kernel
theorem dL_law_1194 : decode cL_law 1194 = .ok (.iaload, 1) := by decide +kernel
theorem dL_law_1195 : decode cL_law 1195 = .ok (.aload_n 0, 1) := by decide +kernel
theorem dL_law_1196 : decode cL_law 1196 = .ok (.iload_n 3, 1) := by decide +kernel
theorem dL_law_1197 : decode cL_law 1197 = .ok (.iconst 3, 1) := by decide +kernel
theorem dL_law_1198 : decode cL_law 1198 = .ok (.iadd, 1) := by decide +kernel
theorem dL_law_1199 : decode cL_law 1199 = .ok (.iaload, 1) := by decide +kernel
theorem dL_law_1200 : decode cL_law 1200 = .ok (.aload_n 0, 1) := by decide +kernel
theorem dL_law_1201 : decode cL_law 1201 = .ok (.iload_n 3, 1) := by decide +kernel
theorem dL_law_1202 : decode cL_law 1202 = .ok (.iconst 4, 1) := by decide +kernel
theorem dL_law_1203 : decode cL_law 1203 = .ok (.iadd, 1) := by decide +kernel
theorem dL_law_1204 : decode cL_law 1204 = .ok (.iaload, 1) := by decide +kernel
theorem dL_law_1205 : decode cL_law 1205 = .ok (.aload_n 0, 1) := by decide +kernel
theorem dL_law_1206 : decode cL_law 1206 = .ok (.iload_n 3, 1) := by decide +kernel
theorem dL_law_1207 : decode cL_law 1207 = .ok (.iconst 5, 1) := by decide +kernel
theorem dL_law_1208 : decode cL_law 1208 = .ok (.iadd, 1) := by decide +kernel
theorem dL_law_1209 : decode cL_law 1209 = .ok (.iaload, 1) := by decide +kernel
theorem dL_law_1210 : decode cL_law 1210 = .ok (.invokevirtual 149, 3) := by decide +kernel
theorem dL_law_1213 : decode cL_law 1213 = .ok (.if_icmp .eq 187, 3) := by decide +kernel
theorem dL_law_1216 : decode cL_law 1216 = .ok (.iconst 0, 1) := by decide +kernel
theorem dL_law_1217 : decode cL_law 1217 = .ok (.ireturn, 1) := by decide +kernel
theorem dL_law_1218 : decode cL_law 1218 = .ok (.aload_n 1, 1) := by decide +kernel
theorem dL_law_1219 : decode cL_law 1219 = .ok (.aload_n 0, 1) := by decide +kernel
theorem dL_law_1220 : decode cL_law 1220 = .ok (.iload_n 3, 1) := by decide +kernel
theorem dL_law_1221 : decode cL_law 1221 = .ok (.iconst 1, 1) := by decide +kernel
theorem dL_law_1222 : decode cL_law 1222 = .ok (.iadd, 1) := by decide +kernel
theorem dL_law_1223 : decode cL_law 1223 = .ok (.iaload, 1) := by decide +kernel
theorem dL_law_1224 : decode cL_law 1224 = .ok (.aload_n 0, 1) := by decide +kernel
theorem dL_law_1225 : decode cL_law 1225 = .ok (.iload_n 3, 1) := by decide +kernel
theorem dL_law_1226 : decode cL_law 1226 = .ok (.iconst 2, 1) := by decide +kernel
theorem dL_law_1227 : decode cL_law 1227 = .ok (.iadd, 1) := by decide +kernel
theorem dL_law_1228 : decode cL_law 1228 = .ok (.iaload, 1) := by decide +kernel
theorem dL_law_1229 : decode cL_law 1229 = .ok (.aload_n 0, 1) := by decide +kernel
theorem dL_law_1230 : decode cL_law 1230 = .ok (.iload_n 3, 1) := by decide +kernel
theorem dL_law_1231 : decode cL_law 1231 = .ok (.iconst 3, 1) := by decide +kernel
theorem dL_law_1232 : decode cL_law 1232 = .ok (.iadd, 1) := by decide +kernel
theorem dL_law_1233 : decode cL_law 1233 = .ok (.iaload, 1) := by decide +kernel
theorem dL_law_1234 : decode cL_law 1234 = .ok (.invokevirtual 150, 3) := by decide +kernel
theorem dL_law_1237 : decode cL_law 1237 = .ok (.aload_n 2, 1) := by decide +kernel
theorem dL_law_1238 : decode cL_law 1238 = .ok (.aload_n 0, 1) := by decide +kernel
theorem dL_law_1239 : decode cL_law 1239 = .ok (.iload_n 3, 1) := by decide +kernel
theorem dL_law_1240 : decode cL_law 1240 = .ok (.iconst 1, 1) := by decide +kernel
theorem dL_law_1241 : decode cL_law 1241 = .ok (.iadd, 1) := by decide +kernel
theorem dL_law_1242 : decode cL_law 1242 = .ok (.iaload, 1) := by decide +kernel
theorem dL_law_1243 : decode cL_law 1243 = .ok (.aload_n 0, 1) := by decide +kernel
theorem dL_law_1244 : decode cL_law 1244 = .ok (.iload_n 3, 1) := by decide +kernel
theorem dL_law_1245 : decode cL_law 1245 = .ok (.iconst 2, 1) := by decide +kernel
theorem dL_law_1246 : decode cL_law 1246 = .ok (.iadd, 1) := by decide +kernel
theorem dL_law_1247 : decode cL_law 1247 = .ok (.iaload, 1) := by decide +kernel
theorem dL_law_1248 : decode cL_law 1248 = .ok (.aload_n 0, 1) := by decide +kernel
theorem dL_law_1249 : decode cL_law 1249 = .ok (.iload_n 3, 1) := by decide +kernel
theorem dL_law_1250 : decode cL_law 1250 = .ok (.iconst 3, 1) := by decide +kernel
theorem dL_law_1251 : decode cL_law 1251 = .ok (.iadd, 1) := by decide +kernel
theorem dL_law_1252 : decode cL_law 1252 = .ok (.iaload, 1) := by decide +kernel
theorem dL_law_1253 : decode cL_law 1253 = .ok (.invokevirtual 153, 3) := by decide +kernel
theorem dL_law_1256 : decode cL_law 1256 = .ok (.if_icmp .eq 144, 3) := by decide +kernel
theorem dL_law_1259 : decode cL_law 1259 = .ok (.iconst 0, 1) := by decide +kernel
theorem dL_law_1260 : decode cL_law 1260 = .ok (.ireturn, 1) := by decide +kernel
theorem dL_law_1261 : decode cL_law 1261 = .ok (.aload_n 1, 1) := by decide +kernel
theorem dL_law_1262 : decode cL_law 1262 = .ok (.aload_n 0, 1) := by decide +kernel
theorem dL_law_1263 : decode cL_law 1263 = .ok (.iload_n 3, 1) := by decide +kernel
theorem dL_law_1264 : decode cL_law 1264 = .ok (.iconst 1, 1) := by decide +kernel
theorem dL_law_1265 : decode cL_law 1265 = .ok (.iadd, 1) := by decide +kernel
theorem dL_law_1266 : decode cL_law 1266 = .ok (.iaload, 1) := by decide +kernel
theorem dL_law_1267 : decode cL_law 1267 = .ok (.invokevirtual 154, 3) := by decide +kernel
theorem dL_law_1270 : decode cL_law 1270 = .ok (.aload_n 2, 1) := by decide +kernel
theorem dL_law_1271 : decode cL_law 1271 = .ok (.aload_n 0, 1) := by decide +kernel
theorem dL_law_1272 : decode cL_law 1272 = .ok (.iload_n 3, 1) := by decide +kernel
theorem dL_law_1273 : decode cL_law 1273 = .ok (.iconst 1, 1) := by decide +kernel
theorem dL_law_1274 : decode cL_law 1274 = .ok (.iadd, 1) := by decide +kernel
theorem dL_law_1275 : decode cL_law 1275 = .ok (.iaload, 1) := by decide +kernel
theorem dL_law_1276 : decode cL_law 1276 = .ok (.invokevirtual 157, 3) := by decide +kernel
theorem dL_law_1279 : decode cL_law 1279 = .ok (.if_icmp .eq 121, 3) := by decide +kernel
theorem dL_law_1282 : decode cL_law 1282 = .ok (.iconst 0, 1) := by decide +kernel
theorem dL_law_1283 : decode cL_law 1283 = .ok (.ireturn, 1) := by decide +kernel
theorem dL_law_1284 : decode cL_law 1284 = .ok (.aload_n 1, 1) := by decide +kernel
theorem dL_law_1285 : decode cL_law 1285 = .ok (.aload_n 0, 1) := by decide +kernel
theorem dL_law_1286 : decode cL_law 1286 = .ok (.iload_n 3, 1) := by decide +kernel
theorem dL_law_1287 : decode cL_law 1287 = .ok (.iconst 1, 1) := by decide +kernel
theorem dL_law_1288 : decode cL_law 1288 = .ok (.iadd, 1) := by decide +kernel
theorem dL_law_1289 : decode cL_law 1289 = .ok (.iaload, 1) := by decide +kernel
theorem dL_law_1290 : decode cL_law 1290 = .ok (.aload_n 0, 1) := by decide +kernel
theorem dL_law_1291 : decode cL_law 1291 = .ok (.iload_n 3, 1) := by decide +kernel
theorem dL_law_1292 : decode cL_law 1292 = .ok (.iconst 2, 1) := by decide +kernel
theorem dL_law_1293 : decode cL_law 1293 = .ok (.iadd, 1) := by decide +kernel
theorem dL_law_1294 : decode cL_law 1294 = .ok (.iaload, 1) := by decide +kernel
theorem dL_law_1295 : decode cL_law 1295 = .ok (.aload_n 0, 1) := by decide +kernel
theorem dL_law_1296 : decode cL_law 1296 = .ok (.iload_n 3, 1) := by decide +kernel
theorem dL_law_1297 : decode cL_law 1297 = .ok (.iconst 3, 1) := by decide +kernel
theorem dL_law_1298 : decode cL_law 1298 = .ok (.iadd, 1) := by decide +kernel
theorem dL_law_1299 : decode cL_law 1299 = .ok (.iaload, 1) := by decide +kernel
theorem dL_law_1300 : decode cL_law 1300 = .ok (.aload_n 0, 1) := by decide +kernel
theorem dL_law_1301 : decode cL_law 1301 = .ok (.iload_n 3, 1) := by decide +kernel
theorem dL_law_1302 : decode cL_law 1302 = .ok (.iconst 4, 1) := by decide +kernel
theorem dL_law_1303 : decode cL_law 1303 = .ok (.iadd, 1) := by decide +kernel
theorem dL_law_1304 : decode cL_law 1304 = .ok (.iaload, 1) := by decide +kernel
theorem dL_law_1305 : decode cL_law 1305 = .ok (.invokevirtual 158, 3) := by decide +kernel
theorem dL_law_1308 : decode cL_law 1308 = .ok (.aload_n 2, 1) := by decide +kernel
theorem dL_law_1309 : decode cL_law 1309 = .ok (.aload_n 0, 1) := by decide +kernel
theorem dL_law_1310 : decode cL_law 1310 = .ok (.iload_n 3, 1) := by decide +kernel
theorem dL_law_1311 : decode cL_law 1311 = .ok (.iconst 1, 1) := by decide +kernel
theorem dL_law_1312 : decode cL_law 1312 = .ok (.iadd, 1) := by decide +kernel
theorem dL_law_1313 : decode cL_law 1313 = .ok (.iaload, 1) := by decide +kernel
theorem dL_law_1314 : decode cL_law 1314 = .ok (.aload_n 0, 1) := by decide +kernel
theorem dL_law_1315 : decode cL_law 1315 = .ok (.iload_n 3, 1) := by decide +kernel
theorem dL_law_1316 : decode cL_law 1316 = .ok (.iconst 2, 1) := by decide +kernel
theorem dL_law_1317 : decode cL_law 1317 = .ok (.iadd, 1) := by decide +kernel
theorem dL_law_1318 : decode cL_law 1318 = .ok (.iaload, 1) := by decide +kernel
theorem dL_law_1319 : decode cL_law 1319 = .ok (.aload_n 0, 1) := by decide +kernel
theorem dL_law_1320 : decode cL_law 1320 = .ok (.iload_n 3, 1) := by decide +kernel
theorem dL_law_1321 : decode cL_law 1321 = .ok (.iconst 3, 1) := by decide +kernel
theorem dL_law_1322 : decode cL_law 1322 = .ok (.iadd, 1) := by decide +kernel
theorem dL_law_1323 : decode cL_law 1323 = .ok (.iaload, 1) := by decide +kernel
theorem dL_law_1324 : decode cL_law 1324 = .ok (.aload_n 0, 1) := by decide +kernel
theorem dL_law_1325 : decode cL_law 1325 = .ok (.iload_n 3, 1) := by decide +kernel
theorem dL_law_1326 : decode cL_law 1326 = .ok (.iconst 4, 1) := by decide +kernel
theorem dL_law_1327 : decode cL_law 1327 = .ok (.iadd, 1) := by decide +kernel
theorem dL_law_1328 : decode cL_law 1328 = .ok (.iaload, 1) := by decide +kernel
theorem dL_law_1329 : decode cL_law 1329 = .ok (.invokevirtual 161, 3) := by decide +kernel
theorem dL_law_1332 : decode cL_law 1332 = .ok (.if_icmp .eq 68, 3) := by decide +kernel
theorem dL_law_1335 : decode cL_law 1335 = .ok (.iconst 0, 1) := by decide +kernel
theorem dL_law_1336 : decode cL_law 1336 = .ok (.ireturn, 1) := by decide +kernel
theorem dL_law_1337 : decode cL_law 1337 = .ok (.aload_n 1, 1) := by decide +kernel
theorem dL_law_1338 : decode cL_law 1338 = .ok (.aload_n 0, 1) := by decide +kernel
theorem dL_law_1339 : decode cL_law 1339 = .ok (.iload_n 3, 1) := by decide +kernel
theorem dL_law_1340 : decode cL_law 1340 = .ok (.iconst 1, 1) := by decide +kernel
theorem dL_law_1341 : decode cL_law 1341 = .ok (.iadd, 1) := by decide +kernel
theorem dL_law_1342 : decode cL_law 1342 = .ok (.iaload, 1) := by decide +kernel
theorem dL_law_1343 : decode cL_law 1343 = .ok (.aload_n 0, 1) := by decide +kernel
theorem dL_law_1344 : decode cL_law 1344 = .ok (.iload_n 3, 1) := by decide +kernel
theorem dL_law_1345 : decode cL_law 1345 = .ok (.iconst 2, 1) := by decide +kernel
theorem dL_law_1346 : decode cL_law 1346 = .ok (.iadd, 1) := by decide +kernel
theorem dL_law_1347 : decode cL_law 1347 = .ok (.iaload, 1) := by decide +kernel
theorem dL_law_1348 : decode cL_law 1348 = .ok (.aload_n 0, 1) := by decide +kernel
theorem dL_law_1349 : decode cL_law 1349 = .ok (.iload_n 3, 1) := by decide +kernel
theorem dL_law_1350 : decode cL_law 1350 = .ok (.iconst 3, 1) := by decide +kernel
theorem dL_law_1351 : decode cL_law 1351 = .ok (.iadd, 1) := by decide +kernel
theorem dL_law_1352 : decode cL_law 1352 = .ok (.iaload, 1) := by decide +kernel
theorem dL_law_1353 : decode cL_law 1353 = .ok (.aload_n 0, 1) := by decide +kernel
theorem dL_law_1354 : decode cL_law 1354 = .ok (.iload_n 3, 1) := by decide +kernel
theorem dL_law_1355 : decode cL_law 1355 = .ok (.iconst 4, 1) := by decide +kernel
theorem dL_law_1356 : decode cL_law 1356 = .ok (.iadd, 1) := by decide +kernel
theorem dL_law_1357 : decode cL_law 1357 = .ok (.iaload, 1) := by decide +kernel
theorem dL_law_1358 : decode cL_law 1358 = .ok (.aload_n 0, 1) := by decide +kernel
theorem dL_law_1359 : decode cL_law 1359 = .ok (.iload_n 3, 1) := by decide +kernel
theorem dL_law_1360 : decode cL_law 1360 = .ok (.iconst 5, 1) := by decide +kernel
theorem dL_law_1361 : decode cL_law 1361 = .ok (.iadd, 1) := by decide +kernel
theorem dL_law_1362 : decode cL_law 1362 = .ok (.iaload, 1) := by decide +kernel
theorem dL_law_1363 : decode cL_law 1363 = .ok (.invokevirtual 162, 3) := by decide +kernel
theorem dL_law_1366 : decode cL_law 1366 = .ok (.aload_n 2, 1) := by decide +kernel
theorem dL_law_1367 : decode cL_law 1367 = .ok (.aload_n 0, 1) := by decide +kernel
theorem dL_law_1368 : decode cL_law 1368 = .ok (.iload_n 3, 1) := by decide +kernel
theorem dL_law_1369 : decode cL_law 1369 = .ok (.iconst 1, 1) := by decide +kernel
theorem dL_law_1370 : decode cL_law 1370 = .ok (.iadd, 1) := by decide +kernel
theorem dL_law_1371 : decode cL_law 1371 = .ok (.iaload, 1) := by decide +kernel
theorem dL_law_1372 : decode cL_law 1372 = .ok (.aload_n 0, 1) := by decide +kernel
theorem dL_law_1373 : decode cL_law 1373 = .ok (.iload_n 3, 1) := by decide +kernel
theorem dL_law_1374 : decode cL_law 1374 = .ok (.iconst 2, 1) := by decide +kernel
theorem dL_law_1375 : decode cL_law 1375 = .ok (.iadd, 1) := by decide +kernel
theorem dL_law_1376 : decode cL_law 1376 = .ok (.iaload, 1) := by decide +kernel
theorem dL_law_1377 : decode cL_law 1377 = .ok (.aload_n 0, 1) := by decide +kernel
theorem dL_law_1378 : decode cL_law 1378 = .ok (.iload_n 3, 1) := by decide +kernel
theorem dL_law_1379 : decode cL_law 1379 = .ok (.iconst 3, 1) := by decide +kernel
theorem dL_law_1380 : decode cL_law 1380 = .ok (.iadd, 1) := by decide +kernel
theorem dL_law_1381 : decode cL_law 1381 = .ok (.iaload, 1) := by decide +kernel
theorem dL_law_1382 : decode cL_law 1382 = .ok (.aload_n 0, 1) := by decide +kernel
theorem dL_law_1383 : decode cL_law 1383 = .ok (.iload_n 3, 1) := by decide +kernel
theorem dL_law_1384 : decode cL_law 1384 = .ok (.iconst 4, 1) := by decide +kernel
theorem dL_law_1385 : decode cL_law 1385 = .ok (.iadd, 1) := by decide +kernel
theorem dL_law_1386 : decode cL_law 1386 = .ok (.iaload, 1) := by decide +kernel
theorem dL_law_1387 : decode cL_law 1387 = .ok (.aload_n 0, 1) := by decide +kernel
theorem dL_law_1388 : decode cL_law 1388 = .ok (.iload_n 3, 1) := by decide +kernel
theorem dL_law_1389 : decode cL_law 1389 = .ok (.iconst 5, 1) := by decide +kernel
theorem dL_law_1390 : decode cL_law 1390 = .ok (.iadd, 1) := by decide +kernel
theorem dL_law_1391 : decode cL_law 1391 = .ok (.iaload, 1) := by decide +kernel
theorem dL_law_1392 : decode cL_law 1392 = .ok (.invokevirtual 165, 3) := by decide +kernel
theorem dL_law_1395 : decode cL_law 1395 = .ok (.if_icmp .eq 5, 3) := by decide +kernel
theorem dL_law_1398 : decode cL_law 1398 = .ok (.iconst 0, 1) := by decide +kernel
theorem dL_law_1399 : decode cL_law 1399 = .ok (.ireturn, 1) := by decide +kernel
theorem dL_law_1400 : decode cL_law 1400 = .ok (.iinc 3 6, 3) := by decide +kernel
theorem dL_law_1403 : decode cL_law 1403 = .ok (.goto (-1385), 3) := by decide +kernel
theorem dL_law_1406 : decode cL_law 1406 = .ok (.iconst 1, 1) := by decide +kernel
theorem dL_law_1407 : decode cL_law 1407 = .ok (.ireturn, 1) := by decide +kernel
end
section
/-! THE ABSTRACT MACHINE (mine): pictures of frames and heaps, and a judgement over them whose rows are the kit's rows. An abstract reference k is the cell b + k; .float t stands for a fixed array that nobody writes (sa t). -/
def am_TB : List Cond := lw_tbl.filter goodWord
def am_isN : Cond → Bool
  | .methodLinkNest .. => true
  | .fieldLinkNest .. => true
  | _ => false
def am_NW : List Cond := lw_tbl.filter am_isN
theorem am_mem {w : Cond} (i : Nat) (h : lw_tbl[i]? = some w) (hg : goodWord w = true) : w ∈ am_TB := List.mem_filter.mpr ⟨List.mem_of_getElem? h, hg⟩
theorem am_memN {w : Cond} (i : Nat) (h : lw_tbl[i]? = some w) (hg : am_isN w = true) : w ∈ am_NW := List.mem_filter.mpr ⟨List.mem_of_getElem? h, hg⟩
theorem am_TB_good {w : Cond} (h : w ∈ am_TB) : (w.onTables && w.keeps) = true ∨ ∃ ty, w = .arrayClass ty := good_of_word (List.mem_filter.mp h).2
abbrev am_E : Type := (Nat × (Nat → Int32)) ⊕ (Nat × List Value)
abbrev am_H : Type := List am_E
def am_v (b : Nat) (sa : Nat → Nat) : Value → Value
  | .ref k => .ref (b + k)
  | .float t => .ref (sa t.toNat)
  | .int x => .int x
  | .long x => .long x
  | .double x => .double x
  | .null => .null
  | .retAddr k => .retAddr k
theorem am_v_cat (b : Nat) (sa : Nat → Nat) (v : Value) : (am_v b sa v).category = v.category := by cases v <;> rfl
def am_e (b : Nat) (sa : Nat → Nat) (cI : ClassId) : am_E → va_E
  | .inl (n, f) => .inl (cI, n, .inl f)
  | .inr (ci, fs) => .inr (ci, fs.map (am_v b sa))
def am_ws (b : Nat) (sa : Nat → Nat) (cI : ClassId) (h : am_H) : va_W := h.mapIdx (fun k e => (b + k, am_e b sa cI e))
def am_one : am_E → Nat
  | .inl (n, _) => n
  | .inr (_, fs) => fs.length
def am_sz (h : am_H) : Nat := (h.map am_one).sum
theorem am_ws_len {b : Nat} {sa : Nat → Nat} {cI : ClassId} {h : am_H} : (am_ws b sa cI h).length = h.length := by simp [am_ws]
theorem am_ws_get {b : Nat} {sa : Nat → Nat} {cI : ClassId} {h : am_H} {k : Nat} {e : am_E} (hk : h[k]? = some e) : (am_ws b sa cI h)[k]? = some (b + k, am_e b sa cI e) := by
  simp [am_ws, List.getElem?_mapIdx, hk]
theorem am_ws_inv {b : Nat} {sa : Nat → Nat} {cI : ClassId} {h : am_H} {k : Nat} {q : Nat × va_E} (hk : (am_ws b sa cI h)[k]? = some q) : ∃ e, h[k]? = some e ∧ q = (b + k, am_e b sa cI e) := by
  rw [am_ws, List.getElem?_mapIdx] at hk
  cases hh : h[k]? with
  | none => rw [hh] at hk; cases hk
  | some e => rw [hh] at hk; exact ⟨e, rfl, (Option.some.inj hk).symm⟩
theorem am_ws_set {b : Nat} {sa : Nat → Nat} {cI : ClassId} {h : am_H} {k : Nat} {e : am_E} : (am_ws b sa cI h).set k (b + k, am_e b sa cI e) = am_ws b sa cI (h.set k e) := by
  apply List.ext_getElem?
  intro i
  by_cases hi : k = i
  · subst hi
    by_cases hl : k < h.length
    · rw [List.getElem?_set_self (by rw [am_ws_len]; exact hl), am_ws_get (List.getElem?_set_self hl)]
    · rw [List.getElem?_eq_none (by rw [List.length_set, am_ws_len]; omega), List.getElem?_eq_none (by rw [am_ws_len, List.length_set]; omega)]
  · rw [List.getElem?_set_ne hi]
    simp only [am_ws, List.getElem?_mapIdx]
    rw [List.getElem?_set_ne hi]
theorem am_ws_app {b : Nat} {sa : Nat → Nat} {cI : ClassId} {h : am_H} {e : am_E} : am_ws b sa cI (h ++ [e]) = am_ws b sa cI h ++ [(b + h.length, am_e b sa cI e)] := by
  simp [am_ws, List.mapIdx_append]
theorem am_D {b : Nat} {sa : Nat → Nat} {cI : ClassId} {h : am_H} : va_D (fun q => b ≤ q) (am_ws b sa cI h) := by
  refine ⟨fun i j p q hi hj he => ?_, fun k q hk => ?_⟩
  · obtain ⟨e1, -, rfl⟩ := am_ws_inv hi
    obtain ⟨e2, -, rfl⟩ := am_ws_inv hj
    have : b + i = b + j := he
    omega
  · obtain ⟨e1, -, rfl⟩ := am_ws_inv hk
    exact Nat.le_add_right b k
/-! locals -/
def am_L (nL b : Nat) (sa : Nat → Nat) (cls : Array Slot) (ls : List Value) : Prop := cls.size = nL ∧ lv_wf cls ∧ ls.length ≤ nL ∧ ∀ (i : Nat) (v : Value), ls[i]? = some v → v ≠ .null → cls[i]? = some (.val (am_v b sa v))
def am_ps (b : Nat) (sa : Nat → Nat) (ls : List Value) : List (Nat × Value) := ls.zipIdx.filterMap (fun q => if q.1 = .null then none else some (q.2, am_v b sa q.1))
theorem am_ps_mem {b : Nat} {sa : Nat → Nat} {ls : List Value} {j : Nat} {w : Value} (h : ls[j]? = some w) (hw : w ≠ .null) : (j, am_v b sa w) ∈ am_ps b sa ls := by
  refine List.mem_filterMap.mpr ⟨(w, j), ?_, by simp [hw]⟩
  rw [List.mem_zipIdx_iff_getElem?]
  exact h
theorem am_ps_inv {b : Nat} {sa : Nat → Nat} {ls : List Value} {q : Nat × Value} (h : q ∈ am_ps b sa ls) : ∃ w, ls[q.1]? = some w ∧ w ≠ .null ∧ q.2 = am_v b sa w := by
  obtain ⟨⟨w, j⟩, h1, h2⟩ := List.mem_filterMap.mp h
  rw [List.mem_zipIdx_iff_getElem?] at h1
  by_cases hw : w = .null
  · simp [hw] at h2
  · simp [hw] at h2
    subst h2
    exact ⟨w, h1, hw, rfl⟩
theorem am_L.has {nL b : Nat} {sa : Nat → Nat} {cls : Array Slot} {ls : List Value} (h : am_L nL b sa cls ls) : lv_has cls nL (am_ps b sa ls) := by
  refine ⟨h.1, h.2.1, fun q hq => ?_⟩
  obtain ⟨w, h1, h2, h3⟩ := am_ps_inv hq
  rw [h3]
  exact h.2.2.2 q.1 w h1 h2
def am_c1 (ls : List Value) : Nat → Bool
  | 0 => true
  | j + 1 => (ls.getD j .null).category == 1
theorem am_L.st1 {nL b i : Nat} {sa : Nat → Nat} {cls : Array Slot} {ls : List Value} {v : Value} (hlen : ls.length ≤ nL) (hc : am_c1 ls i = true)
    (h : lv_has cls nL ((i, am_v b sa v) :: (am_ps b sa ls).filter (fun q => !(q.1 == i) && !(q.1 + 1 == i && q.2.category == 2)))) : am_L nL b sa cls (ls.set i v) := by
  refine ⟨h.1, h.2.1, by rw [List.length_set]; exact hlen, fun j w hj hw => ?_⟩
  by_cases hij : i = j
  · subst hij
    have hl : i < ls.length := by
      have := (List.getElem?_eq_some_iff.mp hj).1
      rwa [List.length_set] at this
    rw [List.getElem?_set_self hl] at hj
    cases hj
    exact h.2.2 (i, am_v b sa v) List.mem_cons_self
  · rw [List.getElem?_set_ne hij] at hj
    refine h.2.2 (j, am_v b sa w) (List.mem_cons_of_mem _ (List.mem_filter.mpr ⟨am_ps_mem hj hw, ?_⟩))
    have h1 : (j == i) = false := by simp; omega
    have h2 : ((j + 1 == i) && ((am_v b sa w).category == 2)) = false := by
      by_cases hji : j + 1 = i
      · subst hji
        have h3 : (ls.getD j .null).category = 1 := by simpa [am_c1] using hc
        have h4 : ls.getD j .null = w := by simp [List.getD, hj]
        rw [h4] at h3
        simp [am_v_cat, h3]
      · have : (j + 1 == i) = false := by simp; omega
        simp [this]
    simp [h1, h2]
theorem am_L.st2 {nL b i : Nat} {sa : Nat → Nat} {cls : Array Slot} {ls : List Value} {v : Value} (hlen : ls.length ≤ nL) (hc : am_c1 ls i = true)
    (h : lv_has cls nL ((i, am_v b sa v) :: (am_ps b sa ls).filter (fun q => !(q.1 == i) && (!(q.1 == i + 1) && !(q.1 + 1 == i && q.2.category == 2))))) : am_L nL b sa cls ((ls.set i v).set (i + 1) .null) := by
  refine ⟨h.1, h.2.1, by rw [List.length_set, List.length_set]; exact hlen, fun j w hj hw => ?_⟩
  by_cases hj1 : i + 1 = j
  · subst hj1
    have hl : i + 1 < (ls.set i v).length := by
      have := (List.getElem?_eq_some_iff.mp hj).1
      rwa [List.length_set] at this
    rw [List.getElem?_set_self hl] at hj
    cases hj
    exact absurd rfl hw
  rw [List.getElem?_set_ne hj1] at hj
  by_cases hij : i = j
  · subst hij
    have hl : i < ls.length := by
      have := (List.getElem?_eq_some_iff.mp hj).1
      rwa [List.length_set] at this
    rw [List.getElem?_set_self hl] at hj
    cases hj
    exact h.2.2 (i, am_v b sa v) List.mem_cons_self
  · rw [List.getElem?_set_ne hij] at hj
    refine h.2.2 (j, am_v b sa w) (List.mem_cons_of_mem _ (List.mem_filter.mpr ⟨am_ps_mem hj hw, ?_⟩))
    have h1 : (j == i) = false := by simp; omega
    have h0 : (j == i + 1) = false := by simp; omega
    have h2 : ((j + 1 == i) && ((am_v b sa w).category == 2)) = false := by
      by_cases hji : j + 1 = i
      · subst hji
        have h3 : (ls.getD j .null).category = 1 := by simpa [am_c1] using hc
        have h4 : ls.getD j .null = w := by simp [List.getD, hj]
        rw [h4] at h3
        simp [am_v_cat, h3]
      · have : (j + 1 == i) = false := by simp; omega
        simp [this]
    simp [h1, h0, h2]
/-! a method's first locals -/
def am_sl : List Value → List Value
  | [] => []
  | v :: vs => if v.category = 2 then v :: .null :: am_sl vs else v :: am_sl vs
def am_ini (n : Nat) (as : List Value) : List Value := am_sl as ++ List.replicate (n - (am_sl as).length) .null
theorem am_sl_at {b : Nat} {sa : Nat → Nat} : ∀ (as : List Value) (k i : Nat) (v : Value), (am_sl as)[i]? = some v → v ≠ .null → (k + i, am_v b sa v) ∈ lv_args k (as.map (am_v b sa))
  | [], k, i, v, h, _ => by simp [am_sl] at h
  | a :: as, k, i, v, h, hv => by
    simp only [List.map_cons, lv_args, am_v_cat]
    by_cases hc : a.category = 2
    · simp only [am_sl, hc, if_true] at h ⊢
      match i, h with
      | 0, h => simp at h; subst h; exact List.mem_cons_self
      | 1, h => simp at h; exact absurd h.symm hv
      | i + 2, h =>
        have := am_sl_at (b := b) (sa := sa) as (k + 2) i v (by simpa using h) hv
        rw [show k + (i + 2) = k + 2 + i by omega]
        exact List.mem_cons_of_mem _ this
    · simp only [am_sl, hc, if_false] at h ⊢
      match i, h with
      | 0, h => simp at h; subst h; exact List.mem_cons_self
      | i + 1, h =>
        have := am_sl_at (b := b) (sa := sa) as (k + 1) i v (by simpa using h) hv
        rw [show k + (i + 1) = k + 1 + i by omega]
        exact List.mem_cons_of_mem _ this
theorem am_sl_len {b : Nat} {sa : Nat → Nat} : ∀ as : List Value, (lg_sl (as.map (am_v b sa))).length = (am_sl as).length
  | [] => rfl
  | a :: as => by
    have ih := am_sl_len (b := b) (sa := sa) as
    by_cases hc : a.category = 2
    · simp only [lg_sl, List.map_cons, List.flatMap_cons, am_v_cat, hc, if_true, am_sl] at ih ⊢
      simp only [List.length_append, List.length_cons, List.length_nil]
      omega
    · simp only [lg_sl, List.map_cons, List.flatMap_cons, am_v_cat, hc, if_false, am_sl] at ih ⊢
      simp only [List.length_append, List.length_cons, List.length_nil]
      omega
theorem am_ini_L {n b : Nat} {sa : Nat → Nat} {as : List Value} (hn : (am_sl as).length ≤ n) : am_L n b sa ((lg_sl (as.map (am_v b sa)) ++ List.replicate (n - (lg_sl (as.map (am_v b sa))).length) Slot.unset).toArray) (am_ini n as) := by
  have hl := lv_entry (as.map (am_v b sa)) (n := n) (by rw [am_sl_len]; exact hn)
  refine ⟨hl.1, hl.2.1, by simp [am_ini]; omega, fun i v hi hv => ?_⟩
  have : (am_sl as)[i]? = some v := by
    by_cases hi2 : i < (am_sl as).length
    · rwa [am_ini, List.getElem?_append_left hi2] at hi
    · rw [am_ini, List.getElem?_append_right (by omega)] at hi
      rw [List.getElem?_replicate] at hi
      split at hi
      · cases hi; exact absurd rfl hv
      · cases hi
  have h2 := am_sl_at (b := b) (sa := sa) as 0 i v this hv
  rw [Nat.zero_add] at h2
  exact hl.2.2 _ h2
end
section
/-! THE TABLES OF THE ABSTRACT MACHINE: methods, links, constants, by program (wip/whole/tab.py) -/
/-- own class, name, bytes, locals, type, kind (0 of an object, 1 static, 2 a constructor), parameters, room -/
abbrev am_M : Type := Nat × MethodName × ByteArray × Nat × Option FieldType × Nat × Nat × Room
def am_own (oc : Nat) : String := match oc with
  | 0 => RX0
  | 1 => RX1
  | 2 => RX2
  | 3 => RX3
  | 4 => RX4
  | 5 => RX5
  | 6 => RX6
  | 7 => RX7
  | 8 => RX8
  | 9 => RX9
  | _ => "CoinNotThereLaw"
abbrev am_m0 : am_M := (0, yX0_init, cX0_init, 1, none, 2, 0, { frames := 1, cells := 4, slots := 32, locals := 20 })
abbrev am_m1 : am_M := (0, yX0_become, cX0_become, 2, none, 0, 1, { frames := 1, cells := 0, slots := 0, locals := 26 })
abbrev am_m2 : am_M := (0, yX0_add, cX0_add, 5, none, 0, 4, { frames := 0, cells := 0, slots := 0, locals := 0 })
abbrev am_m3 : am_M := (0, yX0_costOf, cX0_costOf, 4, some .int, 0, 1, { frames := 0, cells := 0, slots := 0, locals := 0 })
abbrev am_m4 : am_M := (0, yX0_layOn, cX0_layOn, 4, none, 0, 2, { frames := 0, cells := 0, slots := 0, locals := 0 })
abbrev am_m5 : am_M := (1, yX1_init, cX1_init, 1, none, 2, 0, { frames := 1, cells := 3, slots := 36, locals := 20 })
abbrev am_m6 : am_M := (1, yX1_become, cX1_become, 2, none, 0, 1, { frames := 1, cells := 0, slots := 0, locals := 26 })
abbrev am_m7 : am_M := (1, yX1_isTaken, cX1_isTaken, 3, some .boolean, 0, 1, { frames := 0, cells := 0, slots := 0, locals := 0 })
abbrev am_m8 : am_M := (1, yX1_admit, cX1_admit, 3, none, 0, 2, { frames := 0, cells := 0, slots := 0, locals := 0 })
abbrev am_m9 : am_M := (1, yX1_dismiss, cX1_dismiss, 3, none, 0, 1, { frames := 0, cells := 0, slots := 0, locals := 0 })
abbrev am_m10 : am_M := (1, yX1_warnPlainOnes, cX1_warnPlainOnes, 2, none, 0, 0, { frames := 0, cells := 0, slots := 0, locals := 0 })
abbrev am_m11 : am_M := (2, yX2_init, cX2_init, 1, none, 2, 0, { frames := 1, cells := 2, slots := 48, locals := 20 })
abbrev am_m12 : am_M := (2, yX2_become, cX2_become, 2, none, 0, 1, { frames := 1, cells := 0, slots := 0, locals := 26 })
abbrev am_m13 : am_M := (2, yX2_add, cX2_add, 3, none, 0, 2, { frames := 0, cells := 0, slots := 0, locals := 0 })
abbrev am_m14 : am_M := (3, yX3_init, cX3_init, 1, none, 2, 0, { frames := 1, cells := 5, slots := 80, locals := 20 })
abbrev am_m15 : am_M := (3, yX3_become, cX3_become, 2, none, 0, 1, { frames := 1, cells := 0, slots := 0, locals := 26 })
abbrev am_m16 : am_M := (3, yX3_heedIn, cX3_heedIn, 6, some .int, 0, 3, { frames := 1, cells := 0, slots := 0, locals := 21 })
abbrev am_m17 : am_M := (3, yX3_lastSlip, cX3_lastSlip, 2, some .int, 0, 0, { frames := 0, cells := 0, slots := 0, locals := 0 })
abbrev am_m18 : am_M := (4, yX4_init, cX4_init, 1, none, 2, 0, { frames := 1, cells := 3, slots := 72, locals := 20 })
abbrev am_m19 : am_M := (4, yX4_isMissing, cX4_isMissing, 2, some .boolean, 0, 1, { frames := 0, cells := 0, slots := 0, locals := 0 })
abbrev am_m20 : am_M := (4, yX4_refusal, cX4_refusal, 3, some .int, 0, 2, { frames := 1, cells := 0, slots := 0, locals := 21 })
abbrev am_m21 : am_M := (4, yX4_hasItems, cX4_hasItems, 4, some .boolean, 0, 3, { frames := 0, cells := 0, slots := 0, locals := 0 })
abbrev am_m22 : am_M := (4, yX4_lay, cX4_lay, 5, none, 0, 3, { frames := 0, cells := 0, slots := 0, locals := 0 })
abbrev am_m23 : am_M := (4, yX4_itemAt, cX4_itemAt, 3, some .int, 0, 2, { frames := 0, cells := 0, slots := 0, locals := 0 })
abbrev am_m24 : am_M := (4, yX4_write, cX4_write, 5, none, 0, 3, { frames := 0, cells := 0, slots := 0, locals := 0 })
abbrev am_m25 : am_M := (4, yX4_transfer, cX4_transfer, 6, none, 0, 5, { frames := 1, cells := 0, slots := 0, locals := 26 })
abbrev am_m26 : am_M := (4, yX4_placesAmong, cX4_placesAmong, 7, some .int, 0, 3, { frames := 1, cells := 0, slots := 0, locals := 22 })
abbrev am_m27 : am_M := (5, yX5_init, cX5_init, 1, none, 2, 0, { frames := 2, cells := 20, slots := 222, locals := 40 })
abbrev am_m28 : am_M := (5, yX5_become, cX5_become, 2, none, 0, 1, { frames := 2, cells := 0, slots := 0, locals := 47 })
abbrev am_m29 : am_M := (5, yX5_drawPulls, cX5_drawPulls, 9, none, 0, 4, { frames := 0, cells := 0, slots := 0, locals := 0 })
abbrev am_m30 : am_M := (5, yX5_weigh, cX5_weigh, 11, none, 0, 4, { frames := 1, cells := 0, slots := 0, locals := 28 })
abbrev am_m31 : am_M := (5, yX5_seesOfSlip, cX5_seesOfSlip, 7, some .int, 0, 2, { frames := 2, cells := 0, slots := 0, locals := 58 })
abbrev am_m32 : am_M := (5, yX5_seesOfAll, cX5_seesOfAll, 4, some .int, 0, 1, { frames := 3, cells := 0, slots := 0, locals := 84 })
abbrev am_m33 : am_M := (5, yX5_someoneCanSeeFrom, cX5_someoneCanSeeFrom, 4, some .boolean, 0, 1, { frames := 1, cells := 0, slots := 0, locals := 23 })
abbrev am_m34 : am_M := (5, yX5_leftAt, cX5_leftAt, 5, some .int, 0, 1, { frames := 3, cells := 0, slots := 0, locals := 84 })
abbrev am_m35 : am_M := (5, yX5_bestShown, cX5_bestShown, 6, some .int, 0, 0, { frames := 4, cells := 0, slots := 0, locals := 108 })
abbrev am_m36 : am_M := (5, yX5_pointsWhereDrawnMost, cX5_pointsWhereDrawnMost, 5, some .int, 0, 0, { frames := 1, cells := 0, slots := 0, locals := 28 })
abbrev am_m37 : am_M := (6, yX6_init, cX6_init, 1, none, 2, 0, { frames := 1, cells := 1, slots := 100, locals := 20 })
abbrev am_m38 : am_M := (6, yX6_isWritable, cX6_isWritable, 5, some .boolean, 1, 2, { frames := 1, cells := 0, slots := 0, locals := 22 })
abbrev am_m39 : am_M := (6, yX6_byteOf, cX6_byteOf, 3, some .int, 1, 2, { frames := 0, cells := 0, slots := 0, locals := 0 })
abbrev am_m40 : am_M := (6, yX6_write, cX6_write, 5, none, 0, 2, { frames := 1, cells := 0, slots := 0, locals := 22 })
abbrev am_m41 : am_M := (6, yX6_readRoutine, cX6_readRoutine, 3, some .int, 0, 1, { frames := 4, cells := 0, slots := 0, locals := 88 })
abbrev am_m42 : am_M := (6, yX6_readHouse, cX6_readHouse, 3, some .int, 0, 1, { frames := 4, cells := 0, slots := 0, locals := 90 })
abbrev am_m43 : am_M := (6, yX6_rewind, cX6_rewind, 1, none, 0, 0, { frames := 0, cells := 0, slots := 0, locals := 0 })
abbrev am_m44 : am_M := (6, yX6_answer, cX6_answer, 2, some .int, 0, 1, { frames := 1, cells := 0, slots := 0, locals := 20 })
abbrev am_m45 : am_M := (6, yX6_readClause, cX6_readClause, 3, none, 0, 1, { frames := 3, cells := 0, slots := 0, locals := 66 })
abbrev am_m46 : am_M := (6, yX6_readWatcher, cX6_readWatcher, 5, none, 0, 1, { frames := 3, cells := 0, slots := 0, locals := 66 })
abbrev am_m47 : am_M := (6, yX6_placeAndSize, cX6_placeAndSize, 2, some .int, 0, 0, { frames := 2, cells := 0, slots := 0, locals := 43 })
abbrev am_m48 : am_M := (6, yX6_next, cX6_next, 1, some .int, 0, 0, { frames := 0, cells := 0, slots := 0, locals := 0 })
abbrev am_m49 : am_M := (6, yX6_accepts, cX6_accepts, 2, some .boolean, 0, 1, { frames := 1, cells := 0, slots := 0, locals := 20 })
abbrev am_m50 : am_M := (6, yX6_digit, cX6_digit, 4, some .int, 0, 2, { frames := 1, cells := 0, slots := 0, locals := 20 })
abbrev am_m51 : am_M := (6, yX6_number, cX6_number, 4, some .int, 0, 1, { frames := 2, cells := 0, slots := 0, locals := 43 })
abbrev am_m52 : am_M := (7, yX7_init, cX7_init, 1, none, 2, 0, { frames := 3, cells := 21, slots := 231, locals := 60 })
abbrev am_m53 : am_M := (7, yX7_seesMoved, cX7_seesMoved, 4, some .int, 0, 3, { frames := 3, cells := 0, slots := 0, locals := 84 })
abbrev am_m54 : am_M := (7, yX7_quietestBeat, cX7_quietestBeat, 7, some .int, 0, 2, { frames := 4, cells := 0, slots := 0, locals := 107 })
abbrev am_m55 : am_M := (7, yX7_seesCovered, cX7_seesCovered, 3, some .int, 0, 2, { frames := 4, cells := 0, slots := 0, locals := 107 })
abbrev am_m56 : am_M := (7, yX7_bestCovers, cX7_bestCovers, 9, some .int, 0, 2, { frames := 5, cells := 0, slots := 0, locals := 129 })
abbrev am_m57 : am_M := (7, yX7_seesWarned, cX7_seesWarned, 2, some .int, 0, 1, { frames := 4, cells := 0, slots := 0, locals := 107 })
abbrev am_m58 : am_M := (7, yX7_fittingPoints, cX7_fittingPoints, 3, some .int, 0, 2, { frames := 3, cells := 0, slots := 0, locals := 68 })
abbrev am_m59 : am_M := (7, yX7_lookThatFits, cX7_lookThatFits, 6, some .int, 0, 1, { frames := 4, cells := 0, slots := 0, locals := 90 })
abbrev am_m60 : am_M := (8, yX8_init, cX8_init, 1, none, 2, 0, { frames := 4, cells := 70, slots := 873, locals := 80 })
abbrev am_m61 : am_M := (8, yX8_act, cX8_act, 6, some .int, 0, 4, { frames := 1, cells := 0, slots := 0, locals := 23 })
abbrev am_m62 : am_M := (8, yX8_cue, cX8_cue, 4, some .int, 0, 3, { frames := 1, cells := 0, slots := 0, locals := 23 })
abbrev am_m63 : am_M := (8, yX8_stand, cX8_stand, 3, some .int, 0, 1, { frames := 1, cells := 0, slots := 0, locals := 21 })
abbrev am_m64 : am_M := (8, yX8_habit, cX8_habit, 3, some .int, 0, 2, { frames := 1, cells := 0, slots := 0, locals := 23 })
abbrev am_m65 : am_M := (8, yX8_watcher, cX8_watcher, 3, some .int, 0, 2, { frames := 1, cells := 0, slots := 0, locals := 22 })
abbrev am_m66 : am_M := (8, yX8_doubt, cX8_doubt, 3, some .int, 0, 2, { frames := 1, cells := 0, slots := 0, locals := 23 })
abbrev am_m67 : am_M := (8, yX8_told, cX8_told, 4, some .int, 0, 2, { frames := 2, cells := 0, slots := 0, locals := 46 })
abbrev am_m68 : am_M := (8, yX8_leave, cX8_leave, 2, some .int, 0, 1, { frames := 1, cells := 0, slots := 0, locals := 22 })
abbrev am_m69 : am_M := (8, yX8_type, cX8_type, 4, some .int, 0, 2, { frames := 2, cells := 0, slots := 0, locals := 46 })
abbrev am_m70 : am_M := (8, yX8_routine, cX8_routine, 3, some .int, 0, 0, { frames := 5, cells := 0, slots := 0, locals := 110 })
abbrev am_m71 : am_M := (8, yX8_house, cX8_house, 3, some .int, 0, 0, { frames := 5, cells := 0, slots := 0, locals := 112 })
abbrev am_m72 : am_M := (8, yX8_count, cX8_count, 2, some .int, 0, 1, { frames := 1, cells := 0, slots := 0, locals := 22 })
abbrev am_m73 : am_M := (8, yX8_pull, cX8_pull, 5, some .int, 0, 4, { frames := 1, cells := 0, slots := 0, locals := 28 })
abbrev am_m74 : am_M := (8, yX8_heed, cX8_heed, 3, some .int, 0, 2, { frames := 2, cells := 0, slots := 0, locals := 46 })
abbrev am_m75 : am_M := (8, yX8_can, cX8_can, 3, some .int, 0, 2, { frames := 1, cells := 0, slots := 0, locals := 23 })
abbrev am_m76 : am_M := (8, yX8_odds, cX8_odds, 6, some .int, 0, 4, { frames := 2, cells := 0, slots := 0, locals := 58 })
abbrev am_m77 : am_M := (8, yX8_sees, cX8_sees, 3, some .int, 0, 2, { frames := 4, cells := 0, slots := 0, locals := 107 })
abbrev am_m78 : am_M := (8, yX8_quiet, cX8_quiet, 4, some .int, 0, 2, { frames := 5, cells := 0, slots := 0, locals := 133 })
abbrev am_m79 : am_M := (8, yX8_cover, cX8_cover, 5, some .int, 0, 4, { frames := 1, cells := 0, slots := 0, locals := 24 })
abbrev am_m80 : am_M := (8, yX8_does, cX8_does, 5, some .int, 0, 2, { frames := 5, cells := 0, slots := 0, locals := 129 })
abbrev am_m81 : am_M := (8, yX8_bought, cX8_bought, 4, some .int, 0, 2, { frames := 6, cells := 0, slots := 0, locals := 157 })
abbrev am_m82 : am_M := (8, yX8_stances, cX8_stances, 3, some .int, 0, 0, { frames := 2, cells := 0, slots := 0, locals := 46 })
abbrev am_m83 : am_M := (8, yX8_often, cX8_often, 3, some .int, 0, 1, { frames := 4, cells := 0, slots := 0, locals := 107 })
abbrev am_m84 : am_M := (8, yX8_warning, cX8_warning, 1, some .int, 0, 0, { frames := 5, cells := 0, slots := 0, locals := 128 })
abbrev am_m85 : am_M := (8, yX8_shown, cX8_shown, 2, some .int, 0, 1, { frames := 5, cells := 0, slots := 0, locals := 133 })
abbrev am_m86 : am_M := (8, yX8_point, cX8_point, 3, some .int, 0, 2, { frames := 1, cells := 0, slots := 0, locals := 22 })
abbrev am_m87 : am_M := (8, yX8_fits, cX8_fits, 3, some .int, 0, 1, { frames := 5, cells := 0, slots := 0, locals := 115 })
abbrev am_m88 : am_M := (8, yX8_apart, cX8_apart, 5, some .int, 0, 4, { frames := 1, cells := 0, slots := 0, locals := 21 })
abbrev am_m89 : am_M := (8, yX8_clear, cX8_clear, 2, some .int, 0, 0, { frames := 0, cells := 0, slots := 0, locals := 0 })
abbrev am_m90 : am_M := (8, yX8_image, cX8_image, 1, some .int, 0, 0, { frames := 3, cells := 0, slots := 0, locals := 68 })
abbrev am_m91 : am_M := (8, yX8_restore, cX8_restore, 1, some .int, 0, 0, { frames := 3, cells := 0, slots := 0, locals := 68 })
abbrev am_m92 : am_M := (8, yX8_eyes, cX8_eyes, 10, some .int, 0, 5, { frames := 2, cells := 0, slots := 0, locals := 48 })
abbrev am_m93 : am_M := (8, yX8_sheet, cX8_sheet, 4, some .int, 0, 3, { frames := 1, cells := 0, slots := 0, locals := 24 })
abbrev am_m94 : am_M := (8, yX8_drop, cX8_drop, 2, some .int, 0, 1, { frames := 1, cells := 0, slots := 0, locals := 21 })
abbrev am_m95 : am_M := (8, yX8_item, cX8_item, 6, some .int, 0, 4, { frames := 2, cells := 0, slots := 0, locals := 43 })
abbrev am_m96 : am_M := (8, yX8_copy, cX8_copy, 6, some .int, 0, 5, { frames := 2, cells := 0, slots := 0, locals := 51 })
abbrev am_m97 : am_M := (8, yX8_isBelow, cX8_isBelow, 2, some .boolean, 1, 2, { frames := 0, cells := 0, slots := 0, locals := 0 })
abbrev am_m98 : am_M := (8, yX8_isShowing, cX8_isShowing, 1, some .boolean, 1, 1, { frames := 0, cells := 0, slots := 0, locals := 0 })
abbrev am_m99 : am_M := (8, yX8_exchange, cX8_exchange, 4, some .int, 1, 3, { frames := 0, cells := 0, slots := 0, locals := 0 })
abbrev am_m100 : am_M := (8, yX8_toldIn, cX8_toldIn, 3, some .int, 1, 1, { frames := 0, cells := 0, slots := 0, locals := 0 })
abbrev am_m101 : am_M := (8, yX8_thousandths, cX8_thousandths, 2, some .int, 1, 2, { frames := 0, cells := 0, slots := 0, locals := 0 })
abbrev am_m102 : am_M := (8, yX8_commonDivisor, cX8_commonDivisor, 4, some .int, 1, 2, { frames := 0, cells := 0, slots := 0, locals := 0 })
abbrev am_m103 : am_M := (8, yX8_canSee, cX8_canSee, 4, some .boolean, 1, 3, { frames := 0, cells := 0, slots := 0, locals := 0 })
abbrev am_m104 : am_M := (9, yX9_in, cX9_in, 6, some .boolean, 1, 3, { frames := 0, cells := 0, slots := 0, locals := 0 })
abbrev am_m105 : am_M := (9, yX9_init, cX9_init, 2, none, 2, 0, { frames := 1, cells := 18, slots := 689, locals := 20 })
abbrev am_m106 : am_M := (9, yX9_isBeat, cX9_isBeat, 1, some .boolean, 1, 1, { frames := 1, cells := 0, slots := 0, locals := 25 })
abbrev am_m107 : am_M := (9, yX9_isPlace, cX9_isPlace, 1, some .boolean, 1, 1, { frames := 1, cells := 0, slots := 0, locals := 25 })
abbrev am_m108 : am_M := (9, yX9_isOne, cX9_isOne, 2, some .boolean, 0, 1, { frames := 1, cells := 0, slots := 0, locals := 25 })
abbrev am_m109 : am_M := (9, yX9_act, cX9_act, 7, some .int, 0, 4, { frames := 2, cells := 0, slots := 0, locals := 45 })
abbrev am_m110 : am_M := (9, yX9_cue, cX9_cue, 5, some .int, 0, 3, { frames := 2, cells := 0, slots := 0, locals := 45 })
abbrev am_m111 : am_M := (9, yX9_stand, cX9_stand, 3, some .int, 0, 1, { frames := 1, cells := 0, slots := 0, locals := 25 })
abbrev am_m112 : am_M := (9, yX9_habit, cX9_habit, 4, some .int, 0, 2, { frames := 1, cells := 0, slots := 0, locals := 25 })
abbrev am_m113 : am_M := (9, yX9_isTaken, cX9_isTaken, 4, some .boolean, 0, 1, { frames := 0, cells := 0, slots := 0, locals := 0 })
abbrev am_m114 : am_M := (9, yX9_comes, cX9_comes, 3, some .int, 0, 2, { frames := 0, cells := 0, slots := 0, locals := 0 })
abbrev am_m115 : am_M := (9, yX9_watcher, cX9_watcher, 3, some .int, 0, 2, { frames := 1, cells := 0, slots := 0, locals := 25 })
abbrev am_m116 : am_M := (9, yX9_doubt, cX9_doubt, 4, some .int, 0, 2, { frames := 2, cells := 0, slots := 0, locals := 46 })
abbrev am_m117 : am_M := (9, yX9_told, cX9_told, 3, some .int, 0, 2, { frames := 2, cells := 0, slots := 0, locals := 46 })
abbrev am_m118 : am_M := (9, yX9_leave, cX9_leave, 3, some .int, 0, 1, { frames := 2, cells := 0, slots := 0, locals := 46 })
abbrev am_m119 : am_M := (9, yX9_type, cX9_type, 5, some .int, 0, 2, { frames := 1, cells := 0, slots := 0, locals := 25 })
abbrev am_m120 : am_M := (9, yX9_here, cX9_here, 1, some .int, 0, 0, { frames := 0, cells := 0, slots := 0, locals := 0 })
abbrev am_m121 : am_M := (9, yX9_has, cX9_has, 3, some .boolean, 0, 1, { frames := 1, cells := 0, slots := 0, locals := 20 })
abbrev am_m122 : am_M := (9, yX9_number, cX9_number, 4, some .int, 0, 1, { frames := 1, cells := 0, slots := 0, locals := 25 })
abbrev am_m123 : am_M := (9, yX9_digit, cX9_digit, 4, some .int, 0, 2, { frames := 1, cells := 0, slots := 0, locals := 25 })
abbrev am_m124 : am_M := (9, yX9_both, cX9_both, 2, some .int, 0, 0, { frames := 2, cells := 0, slots := 0, locals := 48 })
abbrev am_m125 : am_M := (9, yX9_beatClause, cX9_beatClause, 2, none, 0, 1, { frames := 3, cells := 0, slots := 0, locals := 69 })
abbrev am_m126 : am_M := (9, yX9_seatClause, cX9_seatClause, 5, none, 0, 1, { frames := 2, cells := 0, slots := 0, locals := 48 })
abbrev am_m127 : am_M := (9, yX9_readAll, cX9_readAll, 4, some .int, 0, 1, { frames := 4, cells := 0, slots := 0, locals := 90 })
abbrev am_m128 : am_M := (9, yX9_routine, cX9_routine, 3, some .int, 0, 0, { frames := 5, cells := 0, slots := 0, locals := 113 })
abbrev am_m129 : am_M := (9, yX9_house, cX9_house, 3, some .int, 0, 0, { frames := 5, cells := 0, slots := 0, locals := 113 })
abbrev am_m130 : am_M := (9, yX9_count, cX9_count, 4, some .int, 0, 1, { frames := 1, cells := 0, slots := 0, locals := 25 })
abbrev am_m131 : am_M := (9, yX9_pullOn, cX9_pullOn, 8, some .int, 0, 5, { frames := 0, cells := 0, slots := 0, locals := 0 })
abbrev am_m132 : am_M := (9, yX9_pull, cX9_pull, 5, some .int, 0, 4, { frames := 2, cells := 0, slots := 0, locals := 46 })
abbrev am_m133 : am_M := (9, yX9_heedOf, cX9_heedOf, 5, some .int, 0, 2, { frames := 0, cells := 0, slots := 0, locals := 0 })
abbrev am_m134 : am_M := (9, yX9_heed, cX9_heed, 3, some .int, 0, 2, { frames := 2, cells := 0, slots := 0, locals := 46 })
abbrev am_m135 : am_M := (9, yX9_sight, cX9_sight, 5, some .boolean, 0, 3, { frames := 0, cells := 0, slots := 0, locals := 0 })
abbrev am_m136 : am_M := (9, yX9_can, cX9_can, 3, some .int, 0, 2, { frames := 2, cells := 0, slots := 0, locals := 45 })
abbrev am_m137 : am_M := (9, yX9_oddsOf, cX9_oddsOf, 12, none, 0, 3, { frames := 1, cells := 0, slots := 0, locals := 27 })
abbrev am_m138 : am_M := (9, yX9_odds, cX9_odds, 11, some .int, 0, 4, { frames := 2, cells := 0, slots := 0, locals := 58 })
abbrev am_m139 : am_M := (9, yX9_seesAt, cX9_seesAt, 5, some .int, 0, 2, { frames := 2, cells := 0, slots := 0, locals := 58 })
abbrev am_m140 : am_M := (9, yX9_seesAll, cX9_seesAll, 4, some .int, 0, 1, { frames := 3, cells := 0, slots := 0, locals := 82 })
abbrev am_m141 : am_M := (9, yX9_sees, cX9_sees, 3, some .int, 0, 2, { frames := 4, cells := 0, slots := 0, locals := 105 })
abbrev am_m142 : am_M := (9, yX9_quiet, cX9_quiet, 9, some .int, 0, 2, { frames := 3, cells := 0, slots := 0, locals := 82 })
abbrev am_m143 : am_M := (9, yX9_cover, cX9_cover, 5, some .int, 0, 4, { frames := 2, cells := 0, slots := 0, locals := 45 })
abbrev am_m144 : am_M := (9, yX9_seesWith, cX9_seesWith, 6, some .int, 0, 1, { frames := 4, cells := 0, slots := 0, locals := 105 })
abbrev am_m145 : am_M := (9, yX9_does, cX9_does, 5, some .int, 0, 2, { frames := 5, cells := 0, slots := 0, locals := 130 })
abbrev am_m146 : am_M := (9, yX9_bought, cX9_bought, 9, some .int, 0, 2, { frames := 5, cells := 0, slots := 0, locals := 130 })
abbrev am_m147 : am_M := (9, yX9_stances, cX9_stances, 6, some .int, 0, 0, { frames := 1, cells := 0, slots := 0, locals := 24 })
abbrev am_m148 : am_M := (9, yX9_often, cX9_often, 3, some .int, 0, 1, { frames := 4, cells := 0, slots := 0, locals := 105 })
abbrev am_m149 : am_M := (9, yX9_warning, cX9_warning, 5, some .int, 0, 0, { frames := 4, cells := 0, slots := 0, locals := 105 })
abbrev am_m150 : am_M := (9, yX9_shownAt, cX9_shownAt, 5, some .int, 0, 1, { frames := 3, cells := 0, slots := 0, locals := 82 })
abbrev am_m151 : am_M := (9, yX9_shown, cX9_shown, 8, some .int, 0, 1, { frames := 4, cells := 0, slots := 0, locals := 106 })
abbrev am_m152 : am_M := (9, yX9_pointed, cX9_pointed, 3, none, 0, 2, { frames := 0, cells := 0, slots := 0, locals := 0 })
abbrev am_m153 : am_M := (9, yX9_point, cX9_point, 3, some .int, 0, 2, { frames := 2, cells := 0, slots := 0, locals := 45 })
abbrev am_m154 : am_M := (9, yX9_fits, cX9_fits, 11, some .int, 0, 1, { frames := 1, cells := 0, slots := 0, locals := 27 })
abbrev am_m155 : am_M := (9, yX9_share, cX9_share, 2, some .int, 1, 2, { frames := 0, cells := 0, slots := 0, locals := 0 })
abbrev am_m156 : am_M := (9, yX9_apart, cX9_apart, 5, some .int, 0, 4, { frames := 1, cells := 0, slots := 0, locals := 25 })
abbrev am_m157 : am_M := (9, yX9_clear, cX9_clear, 2, some .int, 0, 0, { frames := 0, cells := 0, slots := 0, locals := 0 })
abbrev am_m158 : am_M := (9, yX9_saves, cX9_saves, 4, some .int, 1, 3, { frames := 0, cells := 0, slots := 0, locals := 0 })
abbrev am_m159 : am_M := (9, yX9_gives, cX9_gives, 4, some .int, 1, 3, { frames := 0, cells := 0, slots := 0, locals := 0 })
abbrev am_m160 : am_M := (9, yX9_image, cX9_image, 2, some .int, 0, 0, { frames := 1, cells := 0, slots := 0, locals := 23 })
abbrev am_m161 : am_M := (9, yX9_restore, cX9_restore, 2, some .int, 0, 0, { frames := 1, cells := 0, slots := 0, locals := 23 })
abbrev am_m162 : am_M := (9, yX9_isSheet, cX9_isSheet, 1, some .boolean, 1, 1, { frames := 1, cells := 0, slots := 0, locals := 25 })
abbrev am_m163 : am_M := (9, yX9_isLane, cX9_isLane, 1, some .boolean, 1, 1, { frames := 1, cells := 0, slots := 0, locals := 25 })
abbrev am_m164 : am_M := (9, yX9_finds, cX9_finds, 5, some .int, 0, 4, { frames := 0, cells := 0, slots := 0, locals := 0 })
abbrev am_m165 : am_M := (9, yX9_eyes, cX9_eyes, 10, some .int, 0, 5, { frames := 2, cells := 0, slots := 0, locals := 45 })
abbrev am_m166 : am_M := (9, yX9_sheet, cX9_sheet, 5, some .int, 0, 3, { frames := 2, cells := 0, slots := 0, locals := 45 })
abbrev am_m167 : am_M := (9, yX9_drop, cX9_drop, 2, some .int, 0, 1, { frames := 2, cells := 0, slots := 0, locals := 45 })
abbrev am_m168 : am_M := (9, yX9_item, cX9_item, 6, some .int, 0, 4, { frames := 2, cells := 0, slots := 0, locals := 45 })
abbrev am_m169 : am_M := (9, yX9_copy, cX9_copy, 7, some .int, 0, 5, { frames := 2, cells := 0, slots := 0, locals := 45 })
abbrev am_m170 : am_M := (10, x, code, 4, some .boolean, 1, 1, room_1)
def am_ms : List am_M := [am_m0, am_m1, am_m2, am_m3, am_m4, am_m5, am_m6, am_m7, am_m8, am_m9, am_m10, am_m11, am_m12, am_m13, am_m14, am_m15, am_m16, am_m17, am_m18, am_m19, am_m20, am_m21, am_m22, am_m23, am_m24, am_m25, am_m26, am_m27, am_m28, am_m29, am_m30, am_m31, am_m32, am_m33, am_m34, am_m35, am_m36, am_m37, am_m38, am_m39, am_m40, am_m41, am_m42, am_m43, am_m44, am_m45, am_m46, am_m47, am_m48, am_m49, am_m50, am_m51, am_m52, am_m53, am_m54, am_m55, am_m56, am_m57, am_m58, am_m59, am_m60, am_m61, am_m62, am_m63, am_m64, am_m65, am_m66, am_m67, am_m68, am_m69, am_m70, am_m71, am_m72, am_m73, am_m74, am_m75, am_m76, am_m77, am_m78, am_m79, am_m80, am_m81, am_m82, am_m83, am_m84, am_m85, am_m86, am_m87, am_m88, am_m89, am_m90, am_m91, am_m92, am_m93, am_m94, am_m95, am_m96, am_m97, am_m98, am_m99, am_m100, am_m101, am_m102, am_m103, am_m104, am_m105, am_m106, am_m107, am_m108, am_m109, am_m110, am_m111, am_m112, am_m113, am_m114, am_m115, am_m116, am_m117, am_m118, am_m119, am_m120, am_m121, am_m122, am_m123, am_m124, am_m125, am_m126, am_m127, am_m128, am_m129, am_m130, am_m131, am_m132, am_m133, am_m134, am_m135, am_m136, am_m137, am_m138, am_m139, am_m140, am_m141, am_m142, am_m143, am_m144, am_m145, am_m146, am_m147, am_m148, am_m149, am_m150, am_m151, am_m152, am_m153, am_m154, am_m155, am_m156, am_m157, am_m158, am_m159, am_m160, am_m161, am_m162, am_m163, am_m164, am_m165, am_m166, am_m167, am_m168, am_m169, am_m170]
/-- where a method's words stand in lw_tbl: its code, its class, static or of objects, what its call selects -/
def am_mw : List (Nat × Nat × Nat × Nat) := [(130, 35, 129, 0), (509, 35, 507, 508), (526, 35, 524, 525), (552, 35, 550, 551), (539, 35, 537, 538), (103, 34, 102, 0), (413, 34, 411, 412), (312, 34, 310, 311), (316, 34, 314, 315), (342, 34, 340, 341), (579, 34, 577, 578), (154, 36, 153, 0), (514, 36, 512, 513), (604, 36, 602, 603), (61, 33, 60, 0), (365, 33, 363, 364), (328, 33, 326, 327), (591, 33, 589, 590), (248, 39, 247, 0), (652, 39, 650, 651), (648, 39, 646, 647), (656, 39, 654, 655), (674, 39, 672, 673), (664, 39, 662, 663), (687, 39, 685, 686), (695, 39, 693, 694), (660, 39, 658, 659), (55, 32, 54, 0), (503, 32, 501, 502), (444, 32, 442, 443), (463, 32, 461, 462), (481, 32, 479, 480), (477, 32, 475, 476), (562, 32, 560, 561), (595, 32, 593, 594), (587, 32, 585, 586), (620, 32, 618, 619), (228, 38, 227, 0), (349, 38, 348, 0), (352, 38, 351, 0), (357, 38, 355, 356), (372, 38, 370, 371), (418, 38, 416, 417), (376, 38, 375, 0), (405, 38, 404, 7), (380, 38, 379, 1), (422, 38, 421, 8), (401, 38, 400, 6), (388, 38, 387, 3), (397, 38, 396, 5), (392, 38, 391, 4), (384, 38, 383, 2), (215, 37, 214, 0), (499, 37, 497, 498), (495, 37, 493, 494), (535, 37, 533, 534), (548, 37, 546, 547), (575, 37, 573, 574), (616, 37, 614, 615), (612, 37, 610, 611), (47, 31, 46, 0), (284, 31, 282, 283), (294, 31, 292, 293), (298, 31, 296, 297), (302, 31, 300, 301), (308, 31, 306, 307), (320, 31, 318, 319), (324, 31, 322, 323), (338, 31, 336, 337), (346, 31, 344, 345), (361, 31, 359, 360), (409, 31, 407, 408), (430, 31, 428, 429), (437, 31, 435, 436), (448, 31, 446, 447), (452, 31, 450, 451), (459, 31, 457, 458), (473, 31, 471, 472), (491, 31, 489, 490), (522, 31, 520, 521), (530, 31, 528, 529), (544, 31, 542, 543), (558, 31, 556, 557), (566, 31, 564, 565), (571, 31, 569, 570), (583, 31, 581, 582), (600, 31, 598, 599), (608, 31, 606, 607), (626, 31, 624, 625), (631, 31, 629, 630), (635, 31, 633, 634), (640, 31, 638, 639), (644, 31, 642, 643), (670, 31, 668, 669), (678, 31, 676, 677), (683, 31, 681, 682), (691, 31, 689, 690), (287, 31, 286, 0), (440, 31, 439, 0), (290, 31, 289, 0), (433, 31, 432, 0), (486, 31, 485, 0), (469, 31, 468, 0), (455, 31, 454, 0), (798, 40, 797, 0), (701, 40, 700, 0), (794, 40, 793, 0), (801, 40, 800, 0), (840, 40, 839, 11), (791, 40, 789, 790), (807, 40, 805, 806), (813, 40, 811, 812), (817, 40, 815, 816), (828, 40, 827, 9), (832, 40, 831, 10), (823, 40, 821, 822), (836, 40, 834, 835), (844, 40, 842, 843), (852, 40, 850, 851), (856, 40, 854, 855), (880, 40, 879, 16), (886, 40, 885, 17), (876, 40, 875, 15), (894, 40, 893, 19), (890, 40, 889, 18), (872, 40, 871, 14), (898, 40, 897, 20), (868, 40, 867, 13), (864, 40, 862, 863), (902, 40, 900, 901), (906, 40, 904, 905), (915, 40, 914, 21), (911, 40, 909, 910), (848, 40, 847, 12), (919, 40, 917, 918), (927, 40, 926, 22), (923, 40, 921, 922), (935, 40, 934, 23), (931, 40, 929, 930), (948, 40, 947, 25), (944, 40, 943, 24), (940, 40, 938, 939), (953, 40, 951, 952), (957, 40, 955, 956), (967, 40, 966, 26), (962, 40, 960, 961), (971, 40, 969, 970), (976, 40, 974, 975), (980, 40, 978, 979), (985, 40, 983, 984), (993, 40, 992, 27), (989, 40, 987, 988), (1001, 40, 1000, 28), (997, 40, 995, 996), (1005, 40, 1003, 1004), (1012, 40, 1011, 0), (1009, 40, 1007, 1008), (1016, 40, 1014, 1015), (1023, 40, 1022, 0), (1030, 40, 1029, 0), (1020, 40, 1018, 1019), (1027, 40, 1025, 1026), (1037, 40, 1036, 0), (1040, 40, 1039, 0), (1045, 40, 1044, 29), (1034, 40, 1032, 1033), (1049, 40, 1047, 1048), (1053, 40, 1051, 1052), (1057, 40, 1055, 1056), (1061, 40, 1059, 1060)]
/-- own class, place in the pool, class, slot, word -/
def am_fls : List (Nat × Nat × Nat × Nat × Nat) := [(3, 9, 3, 0, 63), (8, 48, 3, 0, 64), (5, 78, 3, 0, 65), (0, 34, 3, 0, 66), (6, 58, 3, 0, 67), (3, 15, 3, 1, 68), (7, 26, 3, 1, 69), (8, 54, 3, 1, 70), (5, 81, 3, 1, 71), (6, 79, 3, 1, 72), (3, 18, 3, 2, 73), (5, 72, 3, 2, 74), (8, 64, 3, 2, 75), (0, 39, 3, 2, 76), (6, 66, 3, 2, 77), (3, 21, 3, 3, 78), (5, 75, 3, 3, 79), (8, 67, 3, 3, 80), (0, 42, 3, 3, 81), (6, 73, 3, 3, 82), (3, 24, 3, 4, 83), (8, 61, 3, 4, 84), (0, 45, 3, 4, 85), (6, 76, 3, 4, 86), (1, 9, 1, 0, 105), (5, 94, 1, 0, 106), (8, 103, 1, 0, 107), (1, 15, 1, 1, 108), (5, 84, 1, 1, 109), (8, 97, 1, 1, 110), (1, 18, 1, 2, 111), (5, 87, 1, 2, 112), (8, 100, 1, 2, 113), (1, 27, 1, 3, 114), (5, 114, 1, 3, 115), (8, 90, 1, 3, 116), (0, 9, 0, 0, 132), (0, 15, 0, 1, 133), (0, 18, 0, 2, 134), (0, 21, 0, 3, 135), (0, 30, 0, 4, 136), (7, 54, 0, 4, 137), (8, 151, 0, 4, 138), (2, 9, 2, 0, 156), (5, 135, 2, 0, 157), (2, 15, 2, 1, 158), (5, 138, 2, 1, 159), (2, 24, 2, 2, 160), (5, 134, 2, 2, 161), (8, 158, 2, 2, 162), (5, 12, 5, 0, 170), (7, 22, 5, 0, 171), (8, 44, 5, 0, 172), (5, 21, 5, 1, 173), (7, 65, 5, 1, 174), (8, 80, 5, 1, 175), (5, 28, 5, 2, 176), (7, 40, 5, 2, 177), (8, 147, 5, 2, 178), (5, 35, 5, 3, 179), (8, 154, 5, 3, 180), (5, 39, 5, 4, 181), (8, 77, 5, 4, 182), (7, 74, 5, 4, 183), (5, 43, 5, 5, 184), (8, 70, 5, 5, 185), (5, 47, 5, 6, 186), (8, 168, 5, 6, 187), (5, 107, 5, 7, 188), (8, 178, 5, 7, 189), (5, 50, 5, 8, 190), (8, 181, 5, 8, 191), (7, 12, 7, 0, 219), (8, 125, 7, 0, 220), (6, 9, 6, 0, 230), (6, 21, 6, 1, 231), (8, 118, 6, 1, 232), (6, 44, 6, 2, 233), (6, 47, 6, 3, 234), (4, 9, 4, 0, 250), (8, 269, 4, 0, 251), (4, 15, 4, 1, 252), (8, 272, 4, 1, 253), (4, 18, 4, 2, 254), (8, 10, 8, 0, 262), (8, 16, 8, 1, 263), (8, 245, 8, 2, 264), (8, 22, 8, 3, 265), (8, 29, 8, 4, 266), (8, 36, 8, 5, 267), (9, 7, 9, 0, 703), (9, 13, 9, 1, 704), (9, 16, 9, 2, 705), (9, 19, 9, 3, 706), (9, 22, 9, 4, 707), (9, 64, 9, 5, 708), (9, 25, 9, 6, 709), (9, 76, 9, 7, 710), (9, 28, 9, 8, 711), (9, 31, 9, 9, 712), (9, 119, 9, 10, 713), (9, 122, 9, 11, 714), (9, 125, 9, 12, 715), (9, 34, 9, 13, 716), (9, 177, 9, 14, 717), (9, 183, 9, 15, 718), (9, 163, 9, 16, 719), (9, 37, 9, 17, 720), (9, 40, 9, 18, 721), (9, 166, 9, 19, 722), (9, 43, 9, 20, 723), (9, 46, 9, 21, 724), (9, 49, 9, 22, 725), (9, 222, 9, 23, 726), (9, 52, 9, 24, 727), (9, 55, 9, 25, 728), (9, 58, 9, 26, 729), (9, 61, 9, 27, 730)]
/-- own class, place in the pool, which static array, word, nest -/
def am_gss : List (Nat × Nat × Nat × Nat × Nat) := [(8, 74, 0, 303, 0), (6, 88, 1, 424, 1), (7, 84, 0, 621, 1)]
/-- own class, place in the pool, kind (0 by name, 1 by nest, 6 to 9 the JDK's), method, word -/
def am_mls : List (Nat × Nat × Nat × Nat × Nat) := [(0, 3, 6, 0, 131), (0, 24, 9, 0, 510), (1, 3, 6, 0, 104), (1, 21, 9, 0, 414), (2, 3, 6, 0, 155), (2, 18, 9, 0, 515), (3, 3, 6, 0, 62), (3, 27, 9, 0, 366), (3, 33, 8, 0, 329), (3, 39, 7, 0, 332), (4, 3, 6, 0, 249), (4, 21, 0, 19, 649), (4, 25, 9, 0, 696), (4, 31, 0, 23, 661), (4, 35, 1, 97, 665), (5, 3, 6, 0, 56), (5, 11, 1, 14, 59), (5, 20, 1, 5, 101), (5, 27, 1, 0, 128), (5, 34, 1, 11, 152), (5, 53, 0, 15, 504), (5, 57, 0, 6, 505), (5, 60, 0, 1, 506), (5, 63, 0, 12, 511), (5, 66, 9, 0, 516), (5, 90, 0, 29, 464), (5, 97, 7, 0, 465), (5, 103, 1, 103, 466), (5, 110, 0, 16, 482), (5, 117, 0, 30, 483), (5, 120, 1, 101, 484), (5, 123, 0, 31, 478), (5, 126, 0, 17, 588), (5, 130, 0, 34, 592), (6, 3, 6, 0, 229), (6, 15, 0, 39, 350), (6, 25, 0, 43, 373), (6, 28, 0, 45, 377), (6, 32, 0, 49, 394), (6, 36, 0, 44, 402), (6, 40, 0, 46, 419), (6, 51, 0, 48, 385), (6, 55, 0, 51, 381), (6, 63, 0, 47, 398), (6, 69, 0, 50, 389), (6, 82, 0, 7, 423), (6, 92, 0, 8, 426), (6, 96, 8, 0, 393), (7, 3, 6, 0, 216), (7, 11, 1, 27, 218), (7, 18, 0, 28, 500), (7, 32, 0, 31, 517), (7, 36, 0, 53, 496), (7, 44, 0, 4, 536), (7, 50, 0, 32, 540), (7, 58, 0, 3, 549), (7, 61, 0, 55, 553), (7, 69, 0, 10, 576), (7, 77, 0, 36, 617), (7, 81, 0, 58, 613), (8, 1, 6, 0, 48), (8, 9, 1, 27, 53), (8, 21, 1, 52, 213), (8, 28, 1, 37, 226), (8, 35, 1, 18, 246), (8, 40, 0, 97, 285), (8, 57, 0, 99, 288), (8, 84, 0, 7, 309), (8, 93, 0, 8, 313), (8, 106, 0, 16, 325), (8, 110, 0, 9, 339), (8, 114, 0, 38, 347), (8, 121, 0, 40, 354), (8, 128, 0, 15, 362), (8, 132, 0, 41, 369), (8, 136, 0, 6, 410), (8, 139, 0, 42, 415), (8, 143, 0, 100, 431), (8, 161, 0, 98, 438), (8, 164, 0, 29, 441), (8, 171, 0, 103, 453), (8, 175, 0, 30, 460), (8, 184, 0, 102, 467), (8, 188, 0, 32, 474), (8, 192, 0, 31, 487), (8, 195, 0, 54, 492), (8, 199, 0, 53, 518), (8, 203, 0, 2, 523), (8, 207, 0, 55, 532), (8, 210, 0, 56, 545), (8, 213, 0, 3, 554), (8, 216, 0, 33, 559), (8, 220, 0, 57, 572), (8, 224, 0, 35, 584), (8, 228, 0, 34, 596), (8, 231, 0, 13, 601), (8, 233, 0, 59, 609), (8, 236, 0, 58, 622), (8, 239, 0, 101, 627), (8, 242, 0, 28, 636), (8, 249, 0, 20, 645), (8, 252, 0, 21, 653), (8, 255, 0, 26, 657), (8, 259, 0, 23, 666), (8, 262, 0, 22, 671), (8, 266, 0, 19, 679), (8, 275, 0, 24, 684), (8, 277, 0, 25, 692), (9, 1, 6, 0, 702), (9, 70, 0, 104, 796), (9, 79, 0, 106, 792), (9, 83, 0, 107, 799), (9, 98, 0, 113, 825), (9, 101, 0, 114, 829), (9, 105, 0, 108, 837), (9, 108, 0, 133, 845), (9, 129, 0, 120, 877), (9, 137, 0, 123, 891), (9, 140, 0, 122, 873), (9, 144, 0, 121, 883), (9, 147, 0, 124, 887), (9, 150, 0, 125, 869), (9, 154, 0, 126, 895), (9, 157, 0, 127, 865), (9, 169, 0, 131, 912), (9, 173, 0, 135, 924), (9, 186, 0, 137, 932), (9, 192, 0, 139, 945), (9, 195, 0, 140, 941), (9, 201, 0, 144, 964), (9, 208, 0, 150, 990), (9, 211, 0, 152, 998), (9, 215, 0, 155, 1010), (9, 218, 0, 158, 1021), (9, 225, 0, 159, 1028), (9, 229, 0, 162, 1035), (9, 232, 0, 163, 1038), (9, 237, 0, 164, 1042), (10, 9, 0, 60, 45), (10, 12, 0, 105, 699), (10, 13, 0, 61, 281), (10, 17, 0, 109, 788), (10, 18, 0, 62, 291), (10, 22, 0, 110, 804), (10, 23, 0, 63, 295), (10, 27, 0, 111, 810), (10, 28, 0, 64, 299), (10, 32, 0, 112, 814), (10, 33, 0, 65, 305), (10, 36, 0, 115, 820), (10, 37, 0, 66, 317), (10, 40, 0, 116, 833), (10, 41, 0, 67, 321), (10, 44, 0, 117, 841), (10, 45, 0, 68, 335), (10, 48, 0, 118, 849), (10, 51, 0, 69, 343), (10, 55, 0, 119, 853), (10, 56, 0, 70, 358), (10, 60, 0, 128, 861), (10, 61, 0, 71, 406), (10, 64, 0, 129, 899), (10, 65, 0, 72, 427), (10, 68, 0, 130, 903), (10, 69, 0, 73, 434), (10, 72, 0, 132, 908), (10, 73, 0, 74, 445), (10, 76, 0, 134, 916), (10, 77, 0, 75, 449), (10, 80, 0, 136, 920), (10, 81, 0, 76, 456), (10, 84, 0, 138, 928), (10, 85, 0, 77, 470), (10, 88, 0, 141, 937), (10, 89, 0, 78, 488), (10, 92, 0, 142, 950), (10, 93, 0, 79, 519), (10, 96, 0, 143, 954), (10, 97, 0, 80, 527), (10, 100, 0, 145, 959), (10, 101, 0, 81, 541), (10, 104, 0, 146, 968), (10, 105, 0, 82, 555), (10, 108, 0, 147, 973), (10, 109, 0, 83, 563), (10, 112, 0, 148, 977), (10, 113, 0, 84, 568), (10, 116, 0, 149, 982), (10, 117, 0, 85, 580), (10, 120, 0, 151, 986), (10, 121, 0, 86, 597), (10, 124, 0, 153, 994), (10, 125, 0, 87, 605), (10, 128, 0, 154, 1002), (10, 129, 0, 88, 623), (10, 132, 0, 156, 1006), (10, 133, 0, 89, 628), (10, 136, 0, 157, 1013), (10, 137, 0, 90, 632), (10, 140, 0, 160, 1017), (10, 141, 0, 91, 637), (10, 144, 0, 161, 1024), (10, 145, 0, 92, 641), (10, 149, 0, 165, 1031), (10, 150, 0, 93, 667), (10, 153, 0, 166, 1046), (10, 154, 0, 94, 675), (10, 157, 0, 167, 1050), (10, 158, 0, 95, 680), (10, 161, 0, 168, 1054), (10, 162, 0, 96, 688), (10, 165, 0, 169, 1058)]
def am_cis : List (Nat × Nat × Int32 × Nat) := [(8, 206, (-100001 : Int32), 531), (8, 219, (99999 : Int32), 567), (9, 200, (-100001 : Int32), 963)]
def am_cls : List (Nat × Nat × Int64 × Nat) := [(6, 19, (255 : Int64), 353), (9, 68, (15 : Int64), 795), (9, 74, (3 : Int64), 802), (9, 86, (9 : Int64), 803), (9, 88, (2 : Int64), 808), (9, 90, (-1 : Int64), 809), (9, 92, (4 : Int64), 818), (9, 94, (10 : Int64), 819), (9, 96, (11 : Int64), 824), (9, 111, (8 : Int64), 857), (9, 113, (255 : Int64), 858), (9, 115, (32 : Int64), 859), (9, 117, (126 : Int64), 860), (9, 133, (48 : Int64), 881), (9, 135, (57 : Int64), 882), (9, 161, (5 : Int64), 907), (9, 181, (81 : Int64), 936), (9, 190, (1000 : Int64), 949), (9, 198, (99 : Int64), 958), (9, 204, (999 : Int64), 972), (9, 206, (99999 : Int64), 981), (9, 235, (16 : Int64), 1041), (10, 49, (4294967295 : Int64), 1062)]
/-- own class, place in the pool, class, words -/
def am_cns : List (Nat × Nat × Nat × Nat × Nat × Nat) := [(10, 7, 8, 43, 44, 31), (8, 7, 5, 51, 52, 32), (5, 9, 3, 57, 58, 33), (5, 18, 1, 99, 100, 34), (5, 25, 0, 126, 127, 35), (5, 32, 2, 150, 151, 36), (8, 19, 7, 211, 212, 37), (7, 9, 5, 217, 52, 32), (8, 26, 6, 224, 225, 38), (8, 33, 4, 244, 245, 39), (10, 10, 9, 697, 698, 40)]
end
section
/-! THE ABSTRACT MACHINE's RUN: a step of it is a step of the machine over a picture of the heap -/
abbrev am_V : Type := Nat → Nat × (Nat → Int32)
def am_fl (oc i : Nat) : Option (Nat × Nat) := (am_fls.find? (fun q => q.1 == oc && q.2.1 == i)).map (fun q => (q.2.2.1, q.2.2.2.1))
def am_gs (oc i : Nat) : Option Nat := (am_gss.find? (fun q => q.1 == oc && q.2.1 == i)).map (fun q => q.2.2.1)
def am_ml (oc i : Nat) : Option (Nat × Nat) := (am_mls.find? (fun q => q.1 == oc && q.2.1 == i)).map (fun q => (q.2.2.1, q.2.2.2.1))
def am_ci (oc i : Nat) : Option Int32 := (am_cis.find? (fun q => q.1 == oc && q.2.1 == i)).map (fun q => q.2.2.1)
def am_cl (oc i : Nat) : Option Int64 := (am_cls.find? (fun q => q.1 == oc && q.2.1 == i)).map (fun q => q.2.2.1)
def am_cn (oc i : Nat) : Option Nat := (am_cns.find? (fun q => q.1 == oc && q.2.1 == i)).map (fun q => q.2.2.1)
def am_ty (ci : Nat) : Nat → FieldType := match ci with
  | 0 => tyX0
  | 1 => tyX1
  | 2 => tyX2
  | 3 => tyX3
  | 4 => tyX4
  | 5 => tyX5
  | 6 => tyX6
  | 7 => tyX7
  | 8 => tyX8
  | _ => tyX9
def am_N (ci : Nat) : Nat := ((vwCl[ci]?).map (fun q => q.2.2)).getD 0
def am_fin (ci k : Nat) : Bool := ((vwCl[ci]?).map (fun q => (q.2.1 k).2.2.2)).getD true
def am_def (ci : Nat) : List Value := (List.range (am_N ci)).map (fun k => defaultValue (am_ty ci k))
def am_cs (st : List Value) : Nat := (st.map fun v => v.category).sum
def am_len : Instr → Nat
  | .iconst _ => 1
  | .bipush _ => 2
  | .sipush _ => 3
  | .ldc _ => 2
  | .ldc2_w _ => 3
  | .iload _ => 2
  | .lload _ => 2
  | .istore _ => 2
  | .lstore _ => 2
  | .iinc _ _ => 3
  | .goto _ => 3
  | .ifCond _ _ => 3
  | .if_icmp _ _ => 3
  | .getfield _ => 3
  | .putfield _ => 3
  | .getstatic _ => 3
  | .invokevirtual _ => 3
  | .invokestatic _ => 3
  | .invokespecial _ => 3
  | .new _ => 3
  | .newarray _ => 2
  | _ => 1
def am_ldi (ls : List Value) (k : Nat) (st : List Value) : Option (List Value × List Value) := match ls[k]? with
  | some (.int x) => some (ls, .int x :: st)
  | _ => none
def am_ldl (ls : List Value) (k : Nat) (st : List Value) : Option (List Value × List Value) := match ls[k]? with
  | some (.long x) => some (ls, .long x :: st)
  | _ => none
def am_lda (ls : List Value) (k : Nat) (st : List Value) : Option (List Value × List Value) := match ls[k]? with
  | some (.ref x) => some (ls, .ref x :: st)
  | some (.float x) => some (ls, .float x :: st)
  | _ => none
def am_sti (ls : List Value) (k : Nat) (st : List Value) : Option (List Value × List Value) := match st with
  | .int x :: r => if k < ls.length ∧ am_c1 ls k = true then some (ls.set k (.int x), r) else none
  | _ => none
def am_stl (ls : List Value) (k : Nat) (st : List Value) : Option (List Value × List Value) := match st with
  | .long x :: r => if k + 1 < ls.length ∧ am_c1 ls k = true then some ((ls.set k (.long x)).set (k + 1) .null, r) else none
  | _ => none
def am_sta (ls : List Value) (k : Nat) (st : List Value) : Option (List Value × List Value) := match st with
  | .ref x :: r => if k < ls.length ∧ am_c1 ls k = true then some (ls.set k (.ref x), r) else none
  | _ => none
def am_inc (ls : List Value) (k : Nat) (d : Int) (st : List Value) : Option (List Value × List Value) := match ls[k]? with
  | some (.int x) => if am_c1 ls k = true then some (ls.set k (.int (x + Int32.ofInt d)), st) else none
  | _ => none
/-- numbers, locals -/
def am_pu (oc : Nat) (i : Instr) (ls st : List Value) : Option (List Value × List Value) := match i with
  | .iconst k => some (ls, .int (Int32.ofInt k) :: st)
  | .bipush k => some (ls, .int ((Int8.ofInt k).toInt32) :: st)
  | .sipush k => some (ls, .int ((Int16.ofInt k).toInt32) :: st)
  | .lconst k => some (ls, .long (Int64.ofNat (k : Nat)) :: st)
  | .ldc k => (am_ci oc k).map (fun v => (ls, .int v :: st))
  | .ldc2_w k => (am_cl oc k).map (fun v => (ls, .long v :: st))
  | .iload_n k => am_ldi ls (k : Nat) st
  | .iload k => am_ldi ls k st
  | .lload_n k => am_ldl ls (k : Nat) st
  | .lload k => am_ldl ls k st
  | .aload_n k => am_lda ls (k : Nat) st
  | .istore_n k => am_sti ls (k : Nat) st
  | .istore k => am_sti ls k st
  | .lstore k => am_stl ls k st
  | .astore_n k => am_sta ls (k : Nat) st
  | .iinc k d => am_inc ls k d st
  | _ => none
/-- arithmetic of ints -/
def am_ai (i : Instr) (st : List Value) : Option (List Value) := match i, st with
  | .iadd, .int y :: .int x :: r => some (.int (x + y) :: r)
  | .isub, .int y :: .int x :: r => some (.int (x - y) :: r)
  | .imul, .int y :: .int x :: r => some (.int (x * y) :: r)
  | .idiv, .int y :: .int x :: r => if y = 0 then none else some (.int (x / y) :: r)
  | .irem, .int y :: .int x :: r => if y = 0 then none else some (.int (x - x / y * y) :: r)
  | .iand, .int y :: .int x :: r => some (.int (x &&& y) :: r)
  | .ior, .int y :: .int x :: r => some (.int (x ||| y) :: r)
  | .ixor, .int y :: .int x :: r => some (.int (x ^^^ y) :: r)
  | .ishl, .int y :: .int x :: r => some (.int (x <<< (y &&& 31)) :: r)
  | .ishr, .int y :: .int x :: r => some (.int (x >>> (y &&& 31)) :: r)
  | .ineg, .int x :: r => some (.int (-x) :: r)
  | .i2l, .int x :: r => some (.long x.toInt64 :: r)
  | .i2b, .int x :: r => some (.int x.toInt8.toInt32 :: r)
  | .i2s, .int x :: r => some (.int x.toInt16.toInt32 :: r)
  | _, _ => none
/-- arithmetic of longs, the stack -/
def am_al (i : Instr) (st : List Value) : Option (List Value) := match i, st with
  | .ladd, .long y :: .long x :: r => some (.long (x + y) :: r)
  | .lsub, .long y :: .long x :: r => some (.long (x - y) :: r)
  | .lmul, .long y :: .long x :: r => some (.long (x * y) :: r)
  | .ldiv, .long y :: .long x :: r => if y = 0 then none else some (.long (x / y) :: r)
  | .lrem, .long y :: .long x :: r => if y = 0 then none else some (.long (x - x / y * y) :: r)
  | .land, .long y :: .long x :: r => some (.long (x &&& y) :: r)
  | .lor, .long y :: .long x :: r => some (.long (x ||| y) :: r)
  | .lshl, .int y :: .long x :: r => some (.long (x <<< (y.toInt64 &&& 63)) :: r)
  | .lshr, .int y :: .long x :: r => some (.long (x >>> (y.toInt64 &&& 63)) :: r)
  | .lcmp, .long y :: .long x :: r => some (.int (lg_cmp x y) :: r)
  | .l2i, .long x :: r => some (.int x.toInt32 :: r)
  | .dup, v :: r => if v.category = 1 then some (v :: v :: r) else none
  | .pop, v :: r => if v.category = 1 then some r else none
  | .dup2, v :: w :: r => if v.category = 1 ∧ w.category = 1 then some (v :: w :: v :: w :: r) else none
  | _, _ => none
def am_if (t : Bool) (pc : Nat) (off : Int) (r : List Value) : Option (Nat × List Value) := if 0 ≤ (pc : Int) + off then some (if t then ((pc : Int) + off).toNat else pc + 3, r) else none
def am_z (c : ClassFile.Cond) (x y : Int32) : Bool := match c with
  | .eq => decide (x = y)
  | .ne => decide (¬ x = y)
  | .lt => decide (x < y)
  | .ge => decide (y ≤ x)
  | .gt => decide (y < x)
  | .le => decide (x ≤ y)
def am_sw (pc : Nat) (dflt lo hi : Int) (offs : Array Int) (x : Int32) (r : List Value) : Option (Nat × List Value) :=
  if x.toInt < lo ∨ hi < x.toInt then (if 0 ≤ (pc : Int) + dflt then some (((pc : Int) + dflt).toNat, r) else none)
  else match offs[(x.toInt - lo).toNat]? with
    | some off => if 0 ≤ (pc : Int) + off then some (((pc : Int) + off).toNat, r) else none
    | none => none
/-- branches -/
def am_br (i : Instr) (pc len : Nat) (st : List Value) : Option (Nat × List Value) := match i, st with
  | .goto off, r => if len = 3 then am_if true pc off r else none
  | .ifCond c off, .int x :: r => if len = 3 then am_if (am_z c x 0) pc off r else none
  | .if_icmp c off, .int y :: .int x :: r => if len = 3 then am_if (am_z c x y) pc off r else none
  | .tableswitch dflt lo hi offs, .int x :: r => am_sw pc dflt lo hi offs x r
  | _, _ => none
def am_vz (ty : FieldType) (v : Value) : Bool := match ty, v with
  | .int, .int _ => true
  | .long, .long _ => true
  | .boolean, .int x => x == 0 || x == 1
  | .object _, .ref _ => true
  | .array _, .ref _ => true
  | _, _ => false
/-- an end -/
def am_rt (rt : Option FieldType) (i : Instr) (len : Nat) (st : List Value) : Option (Option Value) := match i, st with
  | .ireturn, .int x :: [] => if len = 1 then (match rt with
    | some .int => some (some (.int x))
    | some .boolean => if x = 0 ∨ x = 1 then some (some (.int x)) else none
    | _ => none) else none
  | .return_, [] => if len = 1 ∧ rt = none then some none else none
  | _, _ => none
def am_gf (h : am_H) (a ci k : Nat) (r : List Value) : Option (List Value) := match h[a]? with
  | some (.inr (c, fs)) => if c = ci then (match fs[k]? with
    | some v => some (v :: r)
    | none => none) else none
  | _ => none
def am_pf (oc kd : Nat) (h : am_H) (a ci k : Nat) (v : Value) : Option am_H := match h[a]? with
  | some (.inr (c, fs)) => if c = ci ∧ k < fs.length ∧ am_vz (am_ty ci k) v = true ∧ (am_fin ci k = false ∨ (kd = 2 ∧ ci = oc)) then some (h.set a (.inr (c, fs.set k v))) else none
  | _ => none
def am_in (i : Int32) (n : Nat) : Bool := decide (0 ≤ i.toInt ∧ i.toInt < n)
def am_ial (sv : am_V) (h : am_H) (v : Value) (i : Int32) (r : List Value) : Option (List Value) := match v with
  | .ref a => (match h[a]? with
    | some (.inl (n, f)) => if am_in i n then some (.int (f i.toNatClampNeg) :: r) else none
    | _ => none)
  | .float t => if t = 0 ∧ am_in i (sv 0).1 = true then some (.int ((sv 0).2 i.toNatClampNeg) :: r) else if t = 2 ∧ am_in i (sv 2).1 = true then some (.int ((sv 2).2 i.toNatClampNeg) :: r) else none
  | _ => none
def am_ias (h : am_H) (a : Nat) (i x : Int32) : Option am_H := match h[a]? with
  | some (.inl (n, f)) => if am_in i n then some (h.set a (.inl (n, upd f i.toNatClampNeg x))) else none
  | _ => none
def am_aln (sv : am_V) (h : am_H) (v : Value) : Option Int32 := match v with
  | .ref a => (match h[a]? with
    | some (.inl (n, _)) => some (Int32.ofNat n)
    | _ => none)
  | .float t => if t = 2 then some (Int32.ofNat (sv 2).1) else none
  | _ => none
def am_cpy (h : am_H) (a0 : Nat) (sp : Int32) (a1 : Nat) (dp n : Int32) : Option am_H := match h[a0]?, h[a1]? with
  | some (.inl (n0, f)), some (.inl (n1, g)) => if (0 ≤ sp.toInt ∧ 0 ≤ dp.toInt ∧ 0 ≤ n.toInt) ∧ sp.toNatClampNeg + n.toNatClampNeg ≤ n0 ∧ dp.toNatClampNeg + n.toNatClampNeg ≤ n1 then some (h.set a1 (.inl (n1, va_cpy f g sp.toNatClampNeg dp.toNatClampNeg n.toNatClampNeg))) else none
  | _, _ => none
/-- the JDK's static methods -/
def am_js (q : Option (Nat × Nat)) (rm : Room) (st : List Value) (h : am_H) (cu su : Nat) : Option (List Value × am_H × Nat × Nat) := match q, st with
  | some (9, _), .int n :: .int dp :: .ref a1 :: .int sp :: .ref a0 :: r => if 1 ≤ rm.frames ∧ am_cs r + 18 ≤ rm.locals then (am_cpy h a0 sp a1 dp n).map (fun h' => (r, h', cu, su)) else none
  | some (7, _), .int y :: .int x :: r => if 1 ≤ rm.frames ∧ am_cs r + 13 ≤ rm.locals ∧ cu ≤ rm.cells ∧ su ≤ rm.slots then some (.int (if x < y then y else x) :: r, h, cu, su) else none
  | some (8, _), .int y :: .int x :: r => if 1 ≤ rm.frames ∧ am_cs r + 13 ≤ rm.locals ∧ cu ≤ rm.cells ∧ su ≤ rm.slots then some (.int (if y < x then y else x) :: r, h, cu, su) else none
  | _, _ => none
/-- fields, arrays, what is made, the JDK's four -/
def am_hp (sv : am_V) (oc kd : Nat) (rm : Room) (i : Instr) (st : List Value) (h : am_H) (cu su : Nat) : Option (List Value × am_H × Nat × Nat) := match i, st with
  | .getfield k, .ref a :: r => (am_fl oc k).bind (fun q => (am_gf h a q.1 q.2 r).map (fun st' => (st', h, cu, su)))
  | .putfield k, v :: .ref a :: r => (am_fl oc k).bind (fun q => (am_pf oc kd h a q.1 q.2 v).map (fun h' => (r, h', cu, su)))
  | .iaload, .int j :: v :: r => (am_ial sv h v j r).map (fun st' => (st', h, cu, su))
  | .caload, .int j :: .float t :: r => if t = 1 ∧ am_in j (sv 1).1 = true then some (.int ((sv 1).2 j.toNatClampNeg) :: r, h, cu, su) else none
  | .iastore, .int x :: .int j :: .ref a :: r => (am_ias h a j x).map (fun h' => (r, h', cu, su))
  | .arraylength, v :: r => (am_aln sv h v).map (fun n => (.int n :: r, h, cu, su))
  | .getstatic k, r => (am_gs oc k).map (fun t => (.float (UInt32.ofNat t) :: r, h, cu, su))
  | .new k, r => (am_cn oc k).bind (fun ci => if cu + 1 ≤ rm.cells ∧ su + am_N ci ≤ rm.slots then some (.ref h.length :: r, h ++ [.inr (ci, am_def ci)], cu + 1, su + am_N ci) else none)
  | .newarray .int, .int n :: r => if 0 ≤ n.toInt ∧ n.toNatClampNeg ≤ 1000 ∧ cu + 1 ≤ rm.cells ∧ su + n.toNatClampNeg ≤ rm.slots then some (.ref h.length :: r, h ++ [.inl (n.toNatClampNeg, fun _ => 0)], cu + 1, su + n.toNatClampNeg) else none
  | .invokespecial k, .ref _ :: r => if (am_ml oc k).map (fun q => q.1) = some 6 ∧ 1 ≤ rm.frames ∧ am_cs r + 12 ≤ rm.locals then some (r, h, cu, su) else none
  | .invokestatic k, st => am_js (am_ml oc k) rm st h cu su
  | _, _ => none
/-- a call: the method, its arguments, what stays on the stack -/
def am_ca (oc : Nat) (i : Instr) (st : List Value) (h : am_H) : Option (Nat × List Value × List Value) := match i with
  | .invokestatic k => (am_ml oc k).bind (fun q => if q.1 ≤ 1 then (am_ms[q.2]?).bind (fun Y => if Y.2.2.2.2.2.1 = 1 ∧ Y.2.2.2.2.2.2.1 ≤ st.length then some (q.2, (st.take Y.2.2.2.2.2.2.1).reverse, st.drop Y.2.2.2.2.2.2.1) else none) else none)
  | .invokevirtual k => (am_ml oc k).bind (fun q => if q.1 ≤ 1 then (am_ms[q.2]?).bind (fun Y => if Y.2.2.2.2.2.1 = 0 ∧ Y.2.2.2.2.2.2.1 ≤ st.length then (match st.drop Y.2.2.2.2.2.2.1 with
    | .ref a :: r => (match h[a]? with
      | some (.inr (c, _)) => if c = Y.1 then some (q.2, .ref a :: (st.take Y.2.2.2.2.2.2.1).reverse, r) else none
      | _ => none)
    | _ => none) else none) else none)
  | .invokespecial k => (am_ml oc k).bind (fun q => if q.1 ≤ 1 then (am_ms[q.2]?).bind (fun Y => if Y.2.2.2.2.2.1 = 2 ∧ Y.2.2.2.2.2.2.1 ≤ st.length then (match st.drop Y.2.2.2.2.2.2.1 with
    | .ref a :: r => some (q.2, .ref a :: (st.take Y.2.2.2.2.2.2.1).reverse, r)
    | _ => none) else none) else none)
  | _ => none
abbrev am_R : Type := (Nat × List Value × List Value × am_H × Nat × Nat) ⊕ (Option Value ⊕ (Nat × List Value × List Value))
def am_step (sv : am_V) (M : am_M) (pc : Nat) (i : Instr) (len : Nat) (ls st : List Value) (h : am_H) (cu su : Nat) : Option am_R :=
  match am_br i pc len st with
  | some q => some (.inl (q.1, ls, q.2, h, cu, su))
  | none => match am_rt M.2.2.2.2.1 i len st with
    | some v => some (.inr (.inl v))
    | none => if len = am_len i then (match am_pu M.1 i ls st with
      | some q => some (.inl (pc + len, q.1, q.2, h, cu, su))
      | none => match am_ai i st with
        | some st' => some (.inl (pc + len, ls, st', h, cu, su))
        | none => match am_al i st with
          | some st' => some (.inl (pc + len, ls, st', h, cu, su))
          | none => match am_hp sv M.1 M.2.2.2.2.2.1 M.2.2.2.2.2.2.2 i st h cu su with
            | some q => some (.inl (pc + len, ls, q.1, q.2.1, q.2.2.1, q.2.2.2))
            | none => (am_ca M.1 i st h).map (fun q => .inr (.inr q))) else none
/-- the callee's room in the caller's, what stays on the stack is small -/
def am_rc (M Y : am_M) (rest : List Value) (cu su : Nat) : Bool := decide (Y.2.2.2.2.2.2.2.frames + 1 ≤ M.2.2.2.2.2.2.2.frames ∧ 8 + (Y.2.2.2.1 + 11) + Y.2.2.2.2.2.2.2.locals ≤ M.2.2.2.2.2.2.2.locals ∧ cu + Y.2.2.2.2.2.2.2.cells ≤ M.2.2.2.2.2.2.2.cells ∧ su + Y.2.2.2.2.2.2.2.slots ≤ M.2.2.2.2.2.2.2.slots ∧ am_cs rest ≤ 8)
def am_run (sv : am_V) : Nat → Nat → Nat → List Value → List Value → am_H → Nat → Nat → Option (Option Value × am_H)
  | 0, _, _, _, _, _, _, _ => none
  | n + 1, mi, pc, ls, st, h, cu, su => match am_ms[mi]? with
    | none => none
    | some M => match decode M.2.2.1 pc with
      | .error _ => none
      | .ok q => match am_step sv M pc q.1 q.2 ls st h cu su with
        | none => none
        | some (.inl w) => am_run sv n mi w.1 w.2.1 w.2.2.1 w.2.2.2.1 w.2.2.2.2.1 w.2.2.2.2.2
        | some (.inr (.inl v)) => if cu = M.2.2.2.2.2.2.2.cells ∧ su = M.2.2.2.2.2.2.2.slots then some (v, h) else none
        | some (.inr (.inr w)) => match am_ms[w.1]? with
          | none => none
          | some Y => if w.1 < 170 ∧ (am_sl w.2.1).length ≤ Y.2.2.2.1 ∧ am_rc M Y w.2.2 cu su = true then (match am_run sv n w.1 0 (am_ini Y.2.2.2.1 w.2.1) [] h 0 0 with
            | none => none
            | some u => am_run sv n mi (pc + 3) ls (u.1.toList ++ w.2.2) u.2 (cu + Y.2.2.2.2.2.2.2.cells) (su + Y.2.2.2.2.2.2.2.slots)) else none
end
section
/-! the tables hold -/
def am_mchk (q : am_M × Nat × Nat × Nat × Nat) : Bool := decide (lw_tbl[q.2.2.1]? = some (.initialized q.1.2.1.cls)) && (if q.1.2.2.2.2.2.1 = 1 then decide (lw_tbl[q.2.2.2.1]? = some (.static q.1.2.1)) else decide (lw_tbl[q.2.2.2.1]? = some (.instanceMethod q.1.2.1))) && (if q.1.2.2.2.2.2.1 = 0 then decide (lw_tbl[q.2.2.2.2]? = some (.selects q.1.2.1.cls q.1.2.1 q.1.2.1)) else true) && decide (q.1.2.1.cls = am_own q.1.1) && decide ((parseMethodDescriptor q.1.2.1.desc).map (fun d => d.parameters.length) = some q.1.2.2.2.2.2.2.1) && plainName q.1.2.1.cls && decide (q.1.2.1.cls ≠ "java/lang/invoke/MethodHandle" ∧ q.1.2.1.cls ≠ "java/lang/invoke/VarHandle") && (if q.1.2.2.2.2.2.1 = 2 then decide (q.1.2.1.name = "<init>" ∧ q.1.2.2.2.2.1 = none) else true) && (decide (q.1.2.2.2.2.1 = none) || decide (q.1.2.2.2.2.1 = some .int) || decide (q.1.2.2.2.2.1 = some .boolean)) && decide (q.1.1 < 10)
set_option maxRecDepth 100000 in
theorem am_mchk_ok : (am_ms.zip am_mw).all am_mchk = true := by decide +kernel
set_option maxRecDepth 100000 in
theorem am_cd : (am_ms.take 170).map (fun M => Cond.code M.2.1 M.2.2.1 M.2.2.2.1 M.2.2.2.2.1) = am_mw.filterMap (fun w => lw_tbl[w.1]?) := rfl
theorem am_lens : am_ms.length = 171 ∧ am_mw.length = 170 := by decide +kernel
def am_flc (q : Nat × Nat × Nat × Nat × Nat) : Bool := match vwCl[q.2.2.1]? with
  | some r => decide (q.2.2.2.1 < r.2.2) && decide (lw_tbl[q.2.2.2.2]? = some (.fieldLink (am_own q.1) q.2.1 (r.2.1 q.2.2.2.1).1 (r.2.1 q.2.2.2.1).2.1 (r.2.1 q.2.2.2.1).2.2.1)) && decide ((r.2.1 q.2.2.2.1).1 = r.1)
  | none => false
set_option maxRecDepth 100000 in
theorem am_flc_ok : am_fls.all am_flc = true := by decide +kernel
def am_gsn (t : Nat) : String × String := match t with
  | 0 => ("GREATEST_LAW", "[I")
  | _ => ("LETTER_OF_KIND", "[C")
def am_gsc (q : Nat × Nat × Nat × Nat × Nat) : Bool := decide (q.2.2.1 < 2) && (if q.2.2.2.2 = 0 then decide (lw_tbl[q.2.2.2.1]? = some (.fieldLink (am_own q.1) q.2.1 "CoinNotThere" (am_gsn q.2.2.1).1 (am_gsn q.2.2.1).2)) else decide (lw_tbl[q.2.2.2.1]? = some (.fieldLinkNest (am_own q.1) q.2.1 "CoinNotThere" (am_gsn q.2.2.1).1 (am_gsn q.2.2.1).2 "CoinNotThere")))
set_option maxRecDepth 100000 in
theorem am_gsc_ok : am_gss.all am_gsc = true := by decide +kernel
def am_mlc (q : Nat × Nat × Nat × Nat × Nat) : Bool := match q.2.2.1 with
  | 0 => (match am_ms[q.2.2.2.1]? with
    | some M => decide (q.2.2.2.1 < 170) && decide (lw_tbl[q.2.2.2.2]? = some (.methodLink (am_own q.1) q.2.1 M.2.1))
    | none => false)
  | 1 => (match am_ms[q.2.2.2.1]? with
    | some M => decide (q.2.2.2.1 < 170) && decide (lw_tbl[q.2.2.2.2]? = some (.methodLinkNest (am_own q.1) q.2.1 M.2.1 "CoinNotThere"))
    | none => false)
  | 6 => decide (lw_tbl[q.2.2.2.2]? = some (.methodLink (am_own q.1) q.2.1 objectInit))
  | 7 => decide (lw_tbl[q.2.2.2.2]? = some (.methodLink (am_own q.1) q.2.1 Lib.Math.max.name))
  | 8 => decide (lw_tbl[q.2.2.2.2]? = some (.methodLink (am_own q.1) q.2.1 Lib.Math.min.name))
  | 9 => decide (lw_tbl[q.2.2.2.2]? = some (.methodLink (am_own q.1) q.2.1 arraycopyName))
  | _ => false
set_option maxRecDepth 100000 in
theorem am_mlc_ok : am_mls.all am_mlc = true := by decide +kernel
set_option maxRecDepth 100000 in
theorem am_cic_ok : am_cis.all (fun q => decide (lw_tbl[q.2.2.2]? = some (.constant (am_own q.1) q.2.1 q.2.2.1))) = true := by decide +kernel
set_option maxRecDepth 100000 in
theorem am_clc_ok : am_cls.all (fun q => decide (lw_tbl[q.2.2.2]? = some (.constantLong (am_own q.1) q.2.1 q.2.2.1))) = true := by decide +kernel
def am_cnc (q : Nat × Nat × Nat × Nat × Nat × Nat) : Bool := match vwCl[q.2.2.1]? with
  | some r => decide (lw_tbl[q.2.2.2.1]? = some (.classLink (am_own q.1) q.2.1 r.1)) && decide (lw_tbl[q.2.2.2.2.1]? = some (.instantiable r.1 r.2.2)) && decide (lw_tbl[q.2.2.2.2.2]? = some (.initialized r.1))
  | none => false
set_option maxRecDepth 100000 in
theorem am_cnc_ok : am_cns.all am_cnc = true := by decide +kernel
set_option maxRecDepth 100000 in
theorem am_jdk : lw_tbl[333]? = some (.static Lib.Math.max.name) ∧ lw_tbl[330]? = some (.static Lib.Math.min.name) ∧ lw_tbl[41]? = some (.initialized "java/lang/Math") ∧ lw_tbl[367]? = some (.static arraycopyName) ∧ lw_tbl[368]? = some (.native arraycopyName) ∧ lw_tbl[42]? = some (.initialized "java/lang/System") ∧ lw_tbl[49]? = some (.instanceMethod objectInit) ∧ lw_tbl[98]? = some (.arrayClass .int) := by decide +kernel
set_option maxRecDepth 100000 in
theorem am_jmax : lw_tbl[334]? = some (.code Lib.Math.max.name Lib.Math.max.code 2 (some .int)) := rfl
set_option maxRecDepth 100000 in
theorem am_jmin : lw_tbl[331]? = some (.code Lib.Math.min.name Lib.Math.min.code 2 (some .int)) := rfl
set_option maxRecDepth 100000 in
theorem am_joc : lw_tbl[50]? = some (.code objectInit ⟨#[0xb1]⟩ 1 none) := rfl
/-! the words, out of the tables -/
theorem am_find {α : Type} {l : List α} {p ok : α → Bool} (hall : l.all ok = true) {q : α} (h : l.find? p = some q) : p q = true ∧ ok q = true :=
  ⟨List.find?_some h, List.all_eq_true.mp hall q (List.mem_of_find?_eq_some h)⟩
theorem am_two {oc i a b : Nat} (h : (a == oc && b == i) = true) : a = oc ∧ b = i := by simpa using h
theorem am_fl_ok {oc i ci k : Nat} (h : am_fl oc i = some (ci, k)) : ∃ r : vw_C, vwCl[ci]? = some r ∧ k < r.2.2 ∧ Cond.fieldLink (am_own oc) i (r.2.1 k).1 (r.2.1 k).2.1 (r.2.1 k).2.2.1 ∈ am_TB ∧ (r.2.1 k).1 = r.1 := by
  unfold am_fl at h
  obtain ⟨q, h1, h2⟩ := Option.map_eq_some_iff.mp h
  obtain ⟨h3, h4⟩ := am_find am_flc_ok h1
  obtain ⟨rfl, rfl⟩ := am_two h3
  obtain ⟨rfl, rfl⟩ := Prod.mk.inj h2
  unfold am_flc at h4
  split at h4
  · rename_i r hr
    simp only [Bool.and_eq_true, decide_eq_true_eq] at h4
    exact ⟨r, hr, h4.1.1, am_mem _ h4.1.2 rfl, h4.2⟩
  · cases h4
theorem am_gs_ok {oc i t : Nat} (h : am_gs oc i = some t) : t < 2 ∧ (Cond.fieldLink (am_own oc) i "CoinNotThere" (am_gsn t).1 (am_gsn t).2 ∈ am_TB ∨ Cond.fieldLinkNest (am_own oc) i "CoinNotThere" (am_gsn t).1 (am_gsn t).2 "CoinNotThere" ∈ am_NW) := by
  unfold am_gs at h
  obtain ⟨q, h1, h2⟩ := Option.map_eq_some_iff.mp h
  obtain ⟨h3, h4⟩ := am_find am_gsc_ok h1
  obtain ⟨rfl, rfl⟩ := am_two h3
  subst h2
  unfold am_gsc at h4
  simp only [Bool.and_eq_true, decide_eq_true_eq] at h4
  refine ⟨h4.1, ?_⟩
  have h5 := h4.2
  split at h5
  · exact Or.inl (am_mem _ (of_decide_eq_true h5) rfl)
  · exact Or.inr (am_memN _ (of_decide_eq_true h5) rfl)
theorem am_ml_ok {oc i kd y : Nat} (h : am_ml oc i = some (kd, y)) : (kd = 0 ∧ ∃ M, am_ms[y]? = some M ∧ y < 170 ∧ Cond.methodLink (am_own oc) i M.2.1 ∈ am_TB) ∨ (kd = 1 ∧ ∃ M, am_ms[y]? = some M ∧ y < 170 ∧ Cond.methodLinkNest (am_own oc) i M.2.1 "CoinNotThere" ∈ am_NW) ∨ (kd = 6 ∧ Cond.methodLink (am_own oc) i objectInit ∈ am_TB) ∨ (kd = 7 ∧ Cond.methodLink (am_own oc) i Lib.Math.max.name ∈ am_TB) ∨ (kd = 8 ∧ Cond.methodLink (am_own oc) i Lib.Math.min.name ∈ am_TB) ∨ (kd = 9 ∧ Cond.methodLink (am_own oc) i arraycopyName ∈ am_TB) := by
  unfold am_ml at h
  obtain ⟨q, h1, h2⟩ := Option.map_eq_some_iff.mp h
  obtain ⟨h3, h4⟩ := am_find am_mlc_ok h1
  obtain ⟨rfl, rfl⟩ := am_two h3
  obtain ⟨rfl, rfl⟩ := Prod.mk.inj h2
  unfold am_mlc at h4
  split at h4
  · rename_i hk
    split at h4
    · rename_i M hM
      simp only [Bool.and_eq_true, decide_eq_true_eq] at h4
      exact Or.inl ⟨hk, M, hM, h4.1, am_mem _ h4.2 rfl⟩
    · cases h4
  · rename_i hk
    split at h4
    · rename_i M hM
      simp only [Bool.and_eq_true, decide_eq_true_eq] at h4
      exact Or.inr (Or.inl ⟨hk, M, hM, h4.1, am_memN _ h4.2 rfl⟩)
    · cases h4
  · rename_i hk
    exact Or.inr (Or.inr (Or.inl ⟨hk, am_mem _ (of_decide_eq_true h4) rfl⟩))
  · rename_i hk
    exact Or.inr (Or.inr (Or.inr (Or.inl ⟨hk, am_mem _ (of_decide_eq_true h4) rfl⟩)))
  · rename_i hk
    exact Or.inr (Or.inr (Or.inr (Or.inr (Or.inl ⟨hk, am_mem _ (of_decide_eq_true h4) rfl⟩))))
  · rename_i hk
    exact Or.inr (Or.inr (Or.inr (Or.inr (Or.inr ⟨hk, am_mem _ (of_decide_eq_true h4) rfl⟩))))
  · cases h4
theorem am_ci_ok {oc i : Nat} {v : Int32} (h : am_ci oc i = some v) : Cond.constant (am_own oc) i v ∈ am_TB := by
  unfold am_ci at h
  obtain ⟨q, h1, h2⟩ := Option.map_eq_some_iff.mp h
  obtain ⟨h3, h4⟩ := am_find am_cic_ok h1
  obtain ⟨rfl, rfl⟩ := am_two h3
  subst h2
  exact am_mem _ (of_decide_eq_true h4) rfl
theorem am_cl_ok {oc i : Nat} {v : Int64} (h : am_cl oc i = some v) : Cond.constantLong (am_own oc) i v ∈ am_TB := by
  unfold am_cl at h
  obtain ⟨q, h1, h2⟩ := Option.map_eq_some_iff.mp h
  obtain ⟨h3, h4⟩ := am_find am_clc_ok h1
  obtain ⟨rfl, rfl⟩ := am_two h3
  subst h2
  exact am_mem _ (of_decide_eq_true h4) rfl
theorem am_cn_ok {oc i ci : Nat} (h : am_cn oc i = some ci) : ∃ r : vw_C, vwCl[ci]? = some r ∧ Cond.classLink (am_own oc) i r.1 ∈ am_TB ∧ Cond.instantiable r.1 r.2.2 ∈ am_TB ∧ Cond.initialized r.1 ∈ am_TB := by
  unfold am_cn at h
  obtain ⟨q, h1, h2⟩ := Option.map_eq_some_iff.mp h
  obtain ⟨h3, h4⟩ := am_find am_cnc_ok h1
  obtain ⟨rfl, rfl⟩ := am_two h3
  subst h2
  unfold am_cnc at h4
  split at h4
  · rename_i r hr
    simp only [Bool.and_eq_true, decide_eq_true_eq] at h4
    exact ⟨r, hr, am_mem _ h4.1.1 rfl, am_mem _ h4.1.2 rfl, am_mem _ h4.2 rfl⟩
  · cases h4
theorem am_jdkT : Cond.static Lib.Math.max.name ∈ am_TB ∧ Cond.static Lib.Math.min.name ∈ am_TB ∧ Cond.initialized "java/lang/Math" ∈ am_TB ∧ Cond.static arraycopyName ∈ am_TB ∧ Cond.native arraycopyName ∈ am_TB ∧ Cond.initialized "java/lang/System" ∈ am_TB ∧ Cond.instanceMethod objectInit ∈ am_TB ∧ Cond.arrayClass .int ∈ am_TB ∧ Cond.code Lib.Math.max.name Lib.Math.max.code 2 (some .int) ∈ am_TB ∧ Cond.code Lib.Math.min.name Lib.Math.min.code 2 (some .int) ∈ am_TB ∧ Cond.code objectInit ⟨#[0xb1]⟩ 1 none ∈ am_TB := by
  obtain ⟨h1, h2, h3, h4, h5, h6, h7, h8⟩ := am_jdk
  exact ⟨am_mem _ h1 rfl, am_mem _ h2 rfl, am_mem _ h3 rfl, am_mem _ h4 rfl, am_mem _ h5 rfl, am_mem _ h6 rfl, am_mem _ h7 rfl, am_mem _ h8 rfl, am_mem _ am_jmax rfl, am_mem _ am_jmin rfl, am_mem _ am_joc rfl⟩
/-- a method's own words -/
theorem am_m_ok {mi : Nat} {M : am_M} (h : am_ms[mi]? = some M) (hl : mi < 170) : Cond.code M.2.1 M.2.2.1 M.2.2.2.1 M.2.2.2.2.1 ∈ am_TB ∧ Cond.initialized M.2.1.cls ∈ am_TB ∧ (M.2.2.2.2.2.1 = 1 → Cond.static M.2.1 ∈ am_TB) ∧ (M.2.2.2.2.2.1 ≠ 1 → Cond.instanceMethod M.2.1 ∈ am_TB) ∧ (M.2.2.2.2.2.1 = 0 → Cond.selects M.2.1.cls M.2.1 M.2.1 ∈ am_TB) ∧ M.2.1.cls = am_own M.1 ∧ ((parseMethodDescriptor M.2.1.desc).map (fun d => d.parameters.length) = some M.2.2.2.2.2.2.1) ∧ plainName M.2.1.cls = true ∧ (M.2.1.cls ≠ "java/lang/invoke/MethodHandle" ∧ M.2.1.cls ≠ "java/lang/invoke/VarHandle") ∧ (M.2.2.2.2.2.1 = 2 → M.2.1.name = "<init>" ∧ M.2.2.2.2.1 = none) ∧ (M.2.2.2.2.1 = none ∨ M.2.2.2.2.1 = some .int ∨ M.2.2.2.2.1 = some .boolean) ∧ M.1 < 10 := by
  have hw : mi < am_mw.length := by rw [am_lens.2]; exact hl
  have hz : (am_ms.zip am_mw)[mi]? = some (M, am_mw[mi]) := by
    rw [List.getElem?_zip_eq_some]
    exact ⟨h, List.getElem?_eq_getElem hw⟩
  have h1 := List.all_eq_true.mp am_mchk_ok _ (List.mem_of_getElem? hz)
  have hc : Cond.code M.2.1 M.2.2.1 M.2.2.2.1 M.2.2.2.2.1 ∈ am_TB := by
    have h2 : Cond.code M.2.1 M.2.2.1 M.2.2.2.1 M.2.2.2.2.1 ∈ (am_ms.take 170).map (fun M => Cond.code M.2.1 M.2.2.1 M.2.2.2.1 M.2.2.2.2.1) := by
      refine List.mem_map.mpr ⟨M, List.mem_of_getElem? (i := mi) ?_, rfl⟩
      rw [List.getElem?_take, if_pos hl]
      exact h
    rw [am_cd] at h2
    obtain ⟨w, -, h3⟩ := List.mem_filterMap.mp h2
    exact am_mem _ h3 rfl
  unfold am_mchk at h1
  simp only [Bool.and_eq_true, Bool.or_eq_true, decide_eq_true_eq] at h1
  obtain ⟨⟨⟨⟨⟨⟨⟨⟨⟨h2, h3⟩, h4⟩, h5⟩, h6⟩, h7⟩, h8⟩, h9⟩, h10⟩, h11⟩ := h1
  refine ⟨hc, am_mem _ h2 rfl, fun hk => ?_, fun hk => ?_, fun hk => ?_, h5, h6, h7, h8, fun hk => ?_, ?_, h11⟩
  · rw [if_pos hk] at h3
    exact am_mem _ (of_decide_eq_true h3) rfl
  · rw [if_neg hk] at h3
    exact am_mem _ (of_decide_eq_true h3) rfl
  · rw [if_pos hk] at h4
    exact am_mem _ (of_decide_eq_true h4) rfl
  · rw [if_pos hk] at h9
    exact of_decide_eq_true h9
  · rcases h10 with (h | h) | h
    · exact Or.inl h
    · exact Or.inr (Or.inl h)
    · exact Or.inr (Or.inr h)
/-! the classes' words -/
set_option maxRecDepth 100000 in
theorem am_lay0 : (vwCl.all (fun r => (u_ws r.1 r.2.1 r.2.2).all (fun w => decide (w ∈ lw_tbl) && goodWord w))) = true := by decide +kernel
theorem am_lay {ci : Nat} {r : vw_C} (h : vwCl[ci]? = some r) : ∀ w ∈ u_ws r.1 r.2.1 r.2.2, w ∈ am_TB := by
  intro w hw
  have h1 := List.all_eq_true.mp am_lay0 r (List.mem_of_getElem? h)
  have h2 := List.all_eq_true.mp h1 w hw
  simp only [Bool.and_eq_true, decide_eq_true_eq] at h2
  exact List.mem_filter.mpr h2
theorem am_lt10 {ci : Nat} {r : vw_C} (h : vwCl[ci]? = some r) : ci < 10 := by
  have := (List.getElem?_eq_some_iff.mp h).1
  simpa [vwCl] using this
theorem am_tyk {ci : Nat} {r : vw_C} (h : vwCl[ci]? = some r) : (∀ k, k < r.2.2 → parseFieldDescriptor (r.2.1 k).2.2.1 = some (am_ty ci k)) ∧ (∀ a, a < r.2.2 → ∀ b, b < r.2.2 → a ≠ b → (r.2.1 a).2.1 ≠ (r.2.1 b).2.1) ∧ am_N ci = r.2.2 ∧ ∀ k, am_fin ci k = (r.2.1 k).2.2.2 := by
  have hl := am_lt10 h
  have h3 : am_N ci = r.2.2 ∧ ∀ k, am_fin ci k = (r.2.1 k).2.2.2 := by
    constructor
    · simp only [am_N, h]; rfl
    · intro k; simp only [am_fin, h]; rfl
  match ci, hl, h with
  | 0, _, h => cases h; exact ⟨tyX0_ok, nmX0, h3⟩
  | 1, _, h => cases h; exact ⟨tyX1_ok, nmX1, h3⟩
  | 2, _, h => cases h; exact ⟨tyX2_ok, nmX2, h3⟩
  | 3, _, h => cases h; exact ⟨tyX3_ok, nmX3, h3⟩
  | 4, _, h => cases h; exact ⟨tyX4_ok, nmX4, h3⟩
  | 5, _, h => cases h; exact ⟨tyX5_ok, nmX5, h3⟩
  | 6, _, h => cases h; exact ⟨tyX6_ok, nmX6, h3⟩
  | 7, _, h => cases h; exact ⟨tyX7_ok, nmX7, h3⟩
  | 8, _, h => cases h; exact ⟨tyX8_ok, nmX8, h3⟩
  | 9, _, h => cases h; exact ⟨tyX9_ok, nmX9, h3⟩
end
section
/-! a step of the abstract machine is a step of the machine: numbers, locals, arithmetic, branches -/
section AMS
variable {p : Program} {l : Launch} {e : Env} {R : Room} {s : State} {m : MethodId} {args : Array Value} {below : List Frame} {meth : Method} {c : Code} {H : Heap} {locs : List Loc} {cells slots : Nat} {Q : State → Prop}
variable {cc : ByteArray} {pc nL b : Nat} {sa : Nat → Nat} {cls : Array Slot} {ls ls' st st' : List Value} {oc : Nat}
theorem am_L.at {nL b : Nat} {sa : Nat → Nat} {cls : Array Slot} {ls : List Value} (h : am_L nL b sa cls ls) {k : Nat} {v : Value} (hk : ls[k]? = some v) (hv : v ≠ .null) : cls[k]? = some (.val (am_v b sa v)) := h.2.2.2 k v hk hv
theorem am_ldi_inv {k : Nat} (h : am_ldi ls k st = some (ls', st')) : ∃ x, ls[k]? = some (.int x) ∧ ls' = ls ∧ st' = .int x :: st := by
  unfold am_ldi at h
  split at h
  · rename_i x hx
    cases h
    exact ⟨x, hx, rfl, rfl⟩
  · cases h
theorem am_ldl_inv {k : Nat} (h : am_ldl ls k st = some (ls', st')) : ∃ x, ls[k]? = some (.long x) ∧ ls' = ls ∧ st' = .long x :: st := by
  unfold am_ldl at h
  split at h
  · rename_i x hx
    cases h
    exact ⟨x, hx, rfl, rfl⟩
  · cases h
theorem am_lda_inv {k : Nat} (h : am_lda ls k st = some (ls', st')) : ∃ v a, ls[k]? = some v ∧ v ≠ .null ∧ am_v b sa v = .ref a ∧ ls' = ls ∧ st' = v :: st := by
  unfold am_lda at h
  split at h
  · rename_i x hx
    cases h
    exact ⟨.ref x, b + x, hx, by simp, rfl, rfl, rfl⟩
  · rename_i x hx
    cases h
    exact ⟨.float x, sa x.toNat, hx, by simp, rfl, rfl, rfl⟩
  · cases h
theorem am_sti_inv {k : Nat} (h : am_sti ls k st = some (ls', st')) : ∃ x, st = .int x :: st' ∧ k < ls.length ∧ am_c1 ls k = true ∧ ls' = ls.set k (.int x) := by
  unfold am_sti at h
  split at h
  · rename_i x r
    split at h
    · rename_i hc
      cases h
      exact ⟨x, rfl, hc.1, hc.2, rfl⟩
    · cases h
  · cases h
theorem am_stl_inv {k : Nat} (h : am_stl ls k st = some (ls', st')) : ∃ x, st = .long x :: st' ∧ k + 1 < ls.length ∧ am_c1 ls k = true ∧ ls' = (ls.set k (.long x)).set (k + 1) .null := by
  unfold am_stl at h
  split at h
  · rename_i x r
    split at h
    · rename_i hc
      cases h
      exact ⟨x, rfl, hc.1, hc.2, rfl⟩
    · cases h
  · cases h
theorem am_sta_inv {k : Nat} (h : am_sta ls k st = some (ls', st')) : ∃ x, st = .ref x :: st' ∧ k < ls.length ∧ am_c1 ls k = true ∧ ls' = ls.set k (.ref x) := by
  unfold am_sta at h
  split at h
  · rename_i x r
    split at h
    · rename_i hc
      cases h
      exact ⟨x, rfl, hc.1, hc.2, rfl⟩
    · cases h
  · cases h
theorem am_inc_inv {k : Nat} {d : Int} (h : am_inc ls k d st = some (ls', st')) : ∃ x, ls[k]? = some (.int x) ∧ am_c1 ls k = true ∧ ls' = ls.set k (.int (x + Int32.ofInt d)) ∧ st' = st := by
  unfold am_inc at h
  split at h
  · rename_i x hx
    split at h
    · rename_i hc
      cases h
      exact ⟨x, hx, hc, rfl, rfl⟩
    · cases h
  · cases h
theorem am_pu_ok (hx : p.tables.exec = Jvm.exec) (hb : c.code = cc) (hown : s.vm.findClass (am_own oc) = some m.cls) (hts : ∀ w ∈ am_TB, w.before args s = true) {i : Instr} (hd : decode cc pc = .ok (i, am_len i)) (hL : am_L nL b sa cls ls) (h : am_pu oc i ls st = some (ls', st'))
    (k : ∀ cls', am_L nL b sa cls' ls' → W p l e R s m args below meth c H locs cells slots Q (F0 m (pc + am_len i) cls' (st'.map (am_v b sa)))) : W p l e R s m args below meth c H locs cells slots Q (F0 m pc cls (st.map (am_v b sa))) := by
  unfold am_pu at h
  split at h
  · cases h; exact lv_iconst hx hb hd rfl (k _ hL)
  · cases h; exact lv_bipush hx hb hd rfl (k _ hL)
  · cases h; exact lv_sipush hx hb hd rfl (k _ hL)
  · cases h; exact lv_lconst hx hb hd rfl (k _ hL)
  · obtain ⟨v, h1, h2⟩ := Option.map_eq_some_iff.mp h
    cases h2
    exact lv_ldc hx hb hown (hts _ (am_ci_ok h1)) hd (k _ hL)
  · obtain ⟨v, h1, h2⟩ := Option.map_eq_some_iff.mp h
    cases h2
    exact lv_ldc2 hx hb hown (hts _ (am_cl_ok h1)) hd (k _ hL)
  · obtain ⟨x, h1, rfl, rfl⟩ := am_ldi_inv h
    exact lv_iload_n hx hb hd rfl (hL.at h1 (by simp)) (k _ hL)
  · obtain ⟨x, h1, rfl, rfl⟩ := am_ldi_inv h
    exact lv_iload hx hb hd (hL.at h1 (by simp)) (k _ hL)
  · obtain ⟨x, h1, rfl, rfl⟩ := am_ldl_inv h
    exact lv_lload_n hx hb hd rfl (hL.at h1 (by simp)) (k _ hL)
  · obtain ⟨x, h1, rfl, rfl⟩ := am_ldl_inv h
    exact lv_lload hx hb hd (hL.at h1 (by simp)) (k _ hL)
  · obtain ⟨v, a, h1, hn, h2, rfl, rfl⟩ := am_lda_inv (b := b) (sa := sa) h
    have h3 := hL.at h1 hn
    rw [h2] at h3
    refine lv_aload_n hx hb hd rfl h3 ?_
    have h4 := k _ hL
    rw [List.map_cons, h2] at h4
    exact h4
  · obtain ⟨x, rfl, h1, h2, rfl⟩ := am_sti_inv h
    exact lv_istore_n hx hb hd rfl hL.has (Nat.lt_of_lt_of_le h1 hL.2.2.1) rfl (fun ls' hl => k _ (am_L.st1 (v := .int x) hL.2.2.1 h2 hl))
  · obtain ⟨x, rfl, h1, h2, rfl⟩ := am_sti_inv h
    exact lv_istore hx hb hd hL.has (Nat.lt_of_lt_of_le h1 hL.2.2.1) rfl (fun ls' hl => k _ (am_L.st1 (v := .int x) hL.2.2.1 h2 hl))
  · obtain ⟨x, rfl, h1, h2, rfl⟩ := am_stl_inv h
    exact lv_lstore hx hb hd hL.has (Nat.lt_of_lt_of_le h1 hL.2.2.1) rfl (fun ls' hl => k _ (am_L.st2 (v := .long x) hL.2.2.1 h2 hl))
  · obtain ⟨x, rfl, h1, h2, rfl⟩ := am_sta_inv h
    exact lv_astore_n hx hb hd rfl hL.has (Nat.lt_of_lt_of_le h1 hL.2.2.1) rfl (fun ls' hl => k _ (am_L.st1 (v := .ref x) hL.2.2.1 h2 hl))
  · obtain ⟨x, h1, h2, rfl, rfl⟩ := am_inc_inv h
    obtain ⟨q, hq⟩ := List.getElem?_of_mem (am_ps_mem (b := b) (sa := sa) h1 (by simp))
    exact lv_iinc hx hb hd hL.has hq rfl (Nat.lt_of_lt_of_le (List.getElem?_eq_some_iff.mp h1).1 hL.2.2.1) rfl (fun ls' hl => k _ (am_L.st1 (v := .int _) hL.2.2.1 h2 hl))
  · cases h
theorem am_ai_ok (hx : p.tables.exec = Jvm.exec) (hb : c.code = cc) {i : Instr} (hd : decode cc pc = .ok (i, am_len i)) (h : am_ai i st = some st')
    (k : W p l e R s m args below meth c H locs cells slots Q (F0 m (pc + am_len i) cls (st'.map (am_v b sa)))) : W p l e R s m args below meth c H locs cells slots Q (F0 m pc cls (st.map (am_v b sa))) := by
  unfold am_ai at h
  split at h
  · cases h; exact lv_iadd hx hb hd k
  · cases h; exact lv_isub hx hb hd k
  · cases h; exact lv_imul hx hb hd k
  · split at h
    · cases h
    · rename_i hy; cases h; exact lv_idiv hx hb hd hy k
  · split at h
    · cases h
    · rename_i hy; cases h; exact lv_irem hx hb hd hy k
  · cases h; exact lv_iand hx hb hd k
  · cases h; exact lv_ior hx hb hd k
  · cases h; exact lv_ixor hx hb hd k
  · cases h; exact lv_ishl hx hb hd k
  · cases h; exact lv_ishr hx hb hd k
  · cases h; exact lv_ineg hx hb hd k
  · cases h; exact lv_i2l hx hb hd rfl k
  · cases h; exact lv_i2b hx hb hd rfl k
  · cases h; exact lv_i2s hx hb hd rfl k
  · cases h
theorem am_al_ok (hx : p.tables.exec = Jvm.exec) (hb : c.code = cc) {i : Instr} (hd : decode cc pc = .ok (i, am_len i)) (h : am_al i st = some st')
    (k : W p l e R s m args below meth c H locs cells slots Q (F0 m (pc + am_len i) cls (st'.map (am_v b sa)))) : W p l e R s m args below meth c H locs cells slots Q (F0 m pc cls (st.map (am_v b sa))) := by
  unfold am_al at h
  split at h
  · cases h; exact lv_ladd hx hb hd k
  · cases h; exact lv_lsub hx hb hd k
  · cases h; exact lv_lmul hx hb hd k
  · split at h
    · cases h
    · rename_i hy; cases h; exact lv_ldiv hx hb hd hy k
  · split at h
    · cases h
    · rename_i hy; cases h; exact lv_lrem hx hb hd hy k
  · cases h; exact lv_land hx hb hd k
  · cases h; exact lv_lor hx hb hd k
  · cases h; exact lv_lshl hx hb hd rfl k
  · cases h; exact lv_lshr hx hb hd rfl k
  · cases h; exact W.lcmp hx hb hd k
  · cases h; exact lv_l2i hx hb hd rfl k
  · split at h
    · rename_i hv; cases h; exact lv_dup hx hb hd (by rw [am_v_cat]; exact hv) k
    · cases h
  · split at h
    · rename_i hv; cases h; exact lv_pop hx hb hd (by rw [am_v_cat]; exact hv) k
    · cases h
  · split at h
    · rename_i hv; cases h; exact lv_dup2_11 hx hb hd (by rw [am_v_cat]; exact hv.1) (by rw [am_v_cat]; exact hv.2) k
    · cases h
  · cases h
theorem am_if_inv {t : Bool} {off : Int} {pc' : Nat} {r : List Value} (h : am_if t pc off r = some (pc', st')) : (pc : Int) + off = ((((pc : Int) + off).toNat : Nat) : Int) ∧ pc' = (if t then ((pc : Int) + off).toNat else pc + 3) ∧ st' = r := by
  unfold am_if at h
  split at h
  · rename_i h0
    cases h
    exact ⟨(Int.toNat_of_nonneg h0).symm, rfl, rfl⟩
  · cases h
theorem am_sw_ok (hx : p.tables.exec = Jvm.exec) (hb : c.code = cc) {dflt lo hi : Int} {offs : Array Int} {len pc' : Nat} {x : Int32} {r : List Value} (hd : decode cc pc = .ok (.tableswitch dflt lo hi offs, len)) (h : am_sw pc dflt lo hi offs x r = some (pc', st'))
    (k : W p l e R s m args below meth c H locs cells slots Q (F0 m pc' cls (st'.map (am_v b sa)))) : W p l e R s m args below meth c H locs cells slots Q (F0 m pc cls (.int x :: r.map (am_v b sa))) := by
  unfold am_sw at h
  split at h
  · rename_i ho
    split at h
    · rename_i h0
      cases h
      exact lv_tableOut hx hb hd ho (Int.toNat_of_nonneg h0).symm k
    · cases h
  · rename_i ho
    split at h
    · rename_i off hoff
      split at h
      · rename_i h0
        cases h
        exact lv_tableIn hx hb hd (fun q => ho (Or.inl q)) (fun q => ho (Or.inr q)) hoff (Int.toNat_of_nonneg h0).symm k
      · cases h
    · cases h
theorem am_br_ok (hx : p.tables.exec = Jvm.exec) (hb : c.code = cc) {i : Instr} {len pc' : Nat} (hd : decode cc pc = .ok (i, len)) (h : am_br i pc len st = some (pc', st'))
    (k : W p l e R s m args below meth c H locs cells slots Q (F0 m pc' cls (st'.map (am_v b sa)))) : W p l e R s m args below meth c H locs cells slots Q (F0 m pc cls (st.map (am_v b sa))) := by
  unfold am_br at h
  split at h
  · split at h
    · rename_i h3
      subst h3
      obtain ⟨h1, rfl, rfl⟩ := am_if_inv h
      exact lv_goto hx hb hd h1 k
    · cases h
  · rename_i cd off x r
    split at h
    · rename_i h3
      subst h3
      obtain ⟨h1, rfl, rfl⟩ := am_if_inv h
      cases cd with
      | eq => exact lv_if_eq hx hb hd h1 (fun q => by simpa [am_z, q] using k) (fun q => by simpa [am_z, q] using k)
      | ne => exact lv_if_ne hx hb hd h1 (fun q => by simpa [am_z, q] using k) (fun q => by simpa [am_z, q] using k)
      | lt => exact lv_if_lt hx hb hd h1 (fun q => by simpa [am_z, q] using k) (fun q => by simpa [am_z, q] using k)
      | ge => exact lv_if_ge hx hb hd h1 (fun q => by simpa [am_z, q] using k) (fun q => by simpa [am_z, q] using k)
      | gt => exact lv_if_gt hx hb hd h1 (fun q => by simpa [am_z, q] using k) (fun q => by simpa [am_z, q] using k)
      | le => exact lv_if_le hx hb hd h1 (fun q => by simpa [am_z, q] using k) (fun q => by simpa [am_z, q] using k)
    · cases h
  · rename_i cd off y x r
    split at h
    · rename_i h3
      subst h3
      obtain ⟨h1, rfl, rfl⟩ := am_if_inv h
      cases cd with
      | eq => exact lv_icmp_eq hx hb hd h1 (fun q => by simpa [am_z, q] using k) (fun q => by simpa [am_z, q] using k)
      | ne => exact lv_icmp_ne hx hb hd h1 (fun q => by simpa [am_z, q] using k) (fun q => by simpa [am_z, q] using k)
      | lt => exact lv_icmp_lt hx hb hd h1 (fun q => by simpa [am_z, q] using k) (fun q => by simpa [am_z, q] using k)
      | ge => exact lv_icmp_ge hx hb hd h1 (fun q => by simpa [am_z, q] using k) (fun q => by simpa [am_z, q] using k)
      | gt => exact lv_icmp_gt hx hb hd h1 (fun q => by simpa [am_z, q] using k) (fun q => by simpa [am_z, q] using k)
      | le => exact lv_icmp_le hx hb hd h1 (fun q => by simpa [am_z, q] using k) (fun q => by simpa [am_z, q] using k)
    · cases h
  · exact am_sw_ok hx hb hd h k
  · cases h
end AMS
end
section
/-! a step of the abstract machine is a step of the machine: the heap -/
def am_A (b : Nat) : Nat → Prop := fun q => b ≤ q
/-- what holds of a state whatever the law has done: the classes, the static arrays, the nest's words -/
def am_G (D : va_G) (cI : ClassId) (b : Nat) (sa : Nat → Nat) (sv : am_V) (U : State) (H : Heap) : Prop :=
  va_K D vwCl [(cI, .int)] U ∧ (∀ t, t < 2 → va_Z "CoinNotThere" (am_gsn t).1 (am_gsn t).2 (.ref (sa t)) (am_A b) U H) ∧ va_T .int (sa 0) (sv 0).1 (fun j => .int ((sv 0).2 j)) (am_A b) U H ∧ va_T .char (sa 1) (sv 1).1 (fun j => .int ((sv 1).2 j)) (am_A b) U H ∧ va_T .int (sa 2) (sv 2).1 (fun j => .int ((sv 2).2 j)) (am_A b) U H ∧ ∀ w ∈ am_NW, va_Nw w U
theorem am_isN_on {w : Cond} (h : am_isN w = true) : w.onTables = true := by
  cases w <;> first | rfl | (simp [am_isN] at h; done)
theorem am_NW_warm {w : Cond} (hw : w ∈ am_NW) {s U : State} (hW : s.WarmedH U.vm) (h : va_Nw w s) : va_Nw w U := by
  have h1 := (List.mem_filter.mp hw).2
  cases w <;> first | (simp [am_isN] at h1; done) | exact va_Nw.warmF hW h | exact va_Nw.warmM hW h
theorem am_G.warm {D : va_G} {cI : ClassId} {b : Nat} {sa : Nat → Nat} {sv : am_V} {s U : State} {H : Heap} (hW : s.WarmedH U.vm) (h : am_G D cI b sa sv s H) : am_G D cI b sa sv U H :=
  ⟨va_K.moved hW.alike h.1, fun t ht => (h.2.1 t ht).moved hW.alike, h.2.2.1.moved hW.alike, h.2.2.2.1.moved hW.alike, h.2.2.2.2.1.moved hW.alike, fun w hw => am_NW_warm hw hW (h.2.2.2.2.2 w hw)⟩
theorem am_G.same {D : va_G} {cI : ClassId} {b : Nat} {sa : Nat → Nat} {sv : am_V} {s U : State} {H : Heap} (hW : s.vm = U.vm) (h : am_G D cI b sa sv s H) : am_G D cI b sa sv U H := by
  have ha : s.vm.Alike U.vm := by rw [hW]; exact Vm.Alike.refl _
  exact ⟨va_K.moved ha h.1, fun t ht => (h.2.1 t ht).moved ha, h.2.2.1.moved ha, h.2.2.2.1.moved ha, h.2.2.2.2.1.moved ha, fun w hw => (h.2.2.2.2.2 w hw).same (am_isN_on (List.mem_filter.mp hw).2) hW⟩
theorem am_G.kept {D : va_G} {cI : ClassId} {b : Nat} {sa : Nat → Nat} {sv : am_V} {s : State} {H H1 : Heap} (hq : ∀ a : Nat, a < H.size → ¬ am_A b a → H1[a]? = H[a]?) (h : am_G D cI b sa sv s H) : am_G D cI b sa sv s H1 :=
  ⟨h.1, fun t ht => (h.2.1 t ht).kept hq, h.2.2.1.kept hq, h.2.2.2.1.kept hq, h.2.2.2.2.1.kept hq, h.2.2.2.2.2⟩
/-- a frame of the method M -/
def am_Fr (D : va_G) (cI : ClassId) (b : Nat) (sa : Nat → Nat) (sv : am_V) (M : am_M) (p : Program) (s : State) (m : MethodId) (args : Array Value) (meth : Method) (c : Code) : Prop :=
  p.tables.exec = Jvm.exec ∧ c.code = M.2.2.1 ∧ c.maxLocals = M.2.2.2.1 ∧ s.vm.findClass (am_own M.1) = some m.cls ∧ (∀ w ∈ am_TB, w.before args s = true) ∧ am_G D cI b sa sv s s.heap ∧ (M.2.2.2.2.2.1 = 2 → meth.name = "<init>")
/-- the heap is as pictured; h0 cells stood when the method began -/
def am_Cf (D : va_G) (cI : ClassId) (b : Nat) (sa : Nat → Nat) (h0 : Nat) (s : State) (h : am_H) (H : Heap) (locs : List Loc) (cu : Nat) : Prop :=
  va_P D vwCl (am_ws b sa cI h) H ∧ va_S (am_A b) s.heap H locs ∧ s.heap.size = b + h0 ∧ h0 + cu = h.length
theorem am_cs_map {b : Nat} {sa : Nat → Nat} (st : List Value) : ((st.map (am_v b sa)).map fun v => v.category).sum = am_cs st := by
  rw [List.map_map]
  unfold am_cs
  congr 1
  apply List.map_congr_left
  intro v _
  exact am_v_cat b sa v
theorem am_ownC {ci : Nat} {r : vw_C} (h : vwCl[ci]? = some r) : r.1 = am_own ci := by
  have hl := am_lt10 h
  match ci, hl, h with
  | 0, _, h => cases h; rfl
  | 1, _, h => cases h; rfl
  | 2, _, h => cases h; rfl
  | 3, _, h => cases h; rfl
  | 4, _, h => cases h; rfl
  | 5, _, h => cases h; rfl
  | 6, _, h => cases h; rfl
  | 7, _, h => cases h; rfl
  | 8, _, h => cases h; rfl
  | 9, _, h => cases h; rfl
theorem am_vz_ok {ty : FieldType} {v : Value} {b : Nat} {sa : Nat → Nat} (h : am_vz ty v = true) : narrow ty (am_v b sa v) = am_v b sa v ∧ fits ty (am_v b sa v) = true := by
  unfold am_vz at h
  split at h
  · exact ⟨rfl, rfl⟩
  · exact ⟨rfl, rfl⟩
  · rename_i x
    simp only [Bool.or_eq_true, beq_iff_eq] at h
    rcases h with rfl | rfl
    · exact ⟨rfl, rfl⟩
    · exact ⟨rfl, rfl⟩
  · exact ⟨rfl, rfl⟩
  · exact ⟨rfl, rfl⟩
  · cases h
theorem am_in_vp {i : Int32} {n : Nat} (h : am_in i n = true) : vp_in i n := vp_in_iff.mpr (of_decide_eq_true h)
theorem am_nneg {i : Int32} (h : 0 ≤ i.toInt) : ¬ i < 0 := by
  intro q
  have := Int32.lt_iff_toInt_lt.mp q
  simp at this
  omega
section AMH
variable {p : Program} {l : Launch} {e : Env} {R : Room} {s : State} {m : MethodId} {args : Array Value} {below : List Frame} {meth : Method} {c : Code} {H : Heap} {locs : List Loc} {cu su : Nat} {Q : State → Prop}
variable {pc b h0 : Nat} {sa : Nat → Nat} {sv : am_V} {cls : Array Slot} {st st' : List Value} {D : va_G} {cI : ClassId} {M : am_M} {h h' : am_H}
theorem am_size {g : JFrame} (k : H.size ≤ s.heap.size + cu → W p l e R s m args below meth c H locs cu su Q g) : W p l e R s m args below meth c H locs cu su Q g := by
  intro T hT X
  have h1 := X.same.2.2.1
  have h2 : T.heap.size ≤ s.heap.size + cu := h1
  exact k (by rw [← hT]; exact h2) T hT X
theorem am_gf_ok (F : am_Fr D cI b sa sv M p s m args meth c) (hC : am_Cf D cI b sa h0 s h H locs cu) {k a ci sl : Nat} {r : List Value} (hd : decode M.2.2.1 pc = .ok (.getfield k, 3)) (hf : am_fl M.1 k = some (ci, sl)) (hg : am_gf h a ci sl r = some st')
    (kk : W p l e R s m args below meth c H locs cu su Q (F0 m (pc + 3) cls (st'.map (am_v b sa)))) : W p l e R s m args below meth c H locs cu su Q (F0 m pc cls ((.ref a :: r).map (am_v b sa))) := by
  obtain ⟨hx, hb, hml, hown, hts, hG, hin⟩ := F
  obtain ⟨rc, h1, h2, h3, h4⟩ := am_fl_ok hf
  unfold am_gf at hg
  split at hg
  · rename_i c' fs ha
    split at hg
    · rename_i hc
      subst hc
      split at hg
      · rename_i v hv
        cases hg
        exact va_get (D := D) hx hb hts (am_lay h1) hown hG.1 hC.1 a (am_ws_get ha) h1 sl h2 (hts _ h3) (fun _ h9 => h9) (v := am_v b sa v) (by rw [List.getElem?_map, hv]; rfl) hd kk
      · cases hg
    · cases hg
  · cases hg
theorem am_pf_ok (F : am_Fr D cI b sa sv M p s m args meth c) (hC : am_Cf D cI b sa h0 s h H locs cu) {k a ci sl : Nat} {r : List Value} {v : Value} (hd : decode M.2.2.1 pc = .ok (.putfield k, 3)) (hf : am_fl M.1 k = some (ci, sl)) (hg : am_pf M.1 M.2.2.2.2.2.1 h a ci sl v = some h')
    (kk : ∀ H' locs', am_Cf D cI b sa h0 s h' H' locs' cu → W p l e R s m args below meth c H' locs' cu su Q (F0 m (pc + 3) cls (r.map (am_v b sa)))) : W p l e R s m args below meth c H locs cu su Q (F0 m pc cls ((v :: .ref a :: r).map (am_v b sa))) := by
  obtain ⟨hx, hb, hml, hown, hts, hG, hin⟩ := F
  obtain ⟨rc, h1, h2, h3, h4⟩ := am_fl_ok hf
  obtain ⟨t1, t2, t3, t4⟩ := am_tyk h1
  unfold am_pf at hg
  split at hg
  · rename_i c' fs ha
    split at hg
    · rename_i hc
      obtain ⟨rfl, hlt, hvz, hfin⟩ := hc
      cases hg
      obtain ⟨n1, n2⟩ := am_vz_ok (b := b) (sa := sa) hvz
      have key : ∀ (H1 : Heap) (locs1 : List Loc), va_P D vwCl ((am_ws b sa cI h).set a (b + a, .inr (c', (fs.map (am_v b sa)).set sl (am_v b sa v)))) H1 → va_D (am_A b) ((am_ws b sa cI h).set a (b + a, .inr (c', (fs.map (am_v b sa)).set sl (am_v b sa v)))) → va_S (am_A b) s.heap H1 locs1 → W p l e R s m args below meth c H1 locs1 cu su Q (F0 m (pc + 3) cls (r.map (am_v b sa))) := by
        intro H1 locs1 hP _ hS
        refine kk H1 locs1 ⟨?_, hS, hC.2.2.1, by rw [List.length_set]; exact hC.2.2.2⟩
        rw [← am_ws_set]
        simp only [am_e, List.map_set]
        exact hP
      rcases hfin with hfin | hfin
      · exact va_put (D := D) hx hb hts (am_lay h1) (am_ty c') t1 t2 hown hG.1 hC.1 am_D hC.2.1 a (am_ws_get ha) h1 sl h2 (hts _ h3) (fun _ h9 => h9) (by rw [← t4]; exact hfin) (t1 sl h2) n1 n2 (by rw [List.length_map]; exact hlt) hd key
      · by_cases hfin2 : am_fin c' sl = false
        · exact va_put (D := D) hx hb hts (am_lay h1) (am_ty c') t1 t2 hown hG.1 hC.1 am_D hC.2.1 a (am_ws_get ha) h1 sl h2 (hts _ h3) (fun _ h9 => h9) (by rw [← t4]; exact hfin2) (t1 sl h2) n1 n2 (by rw [List.length_map]; exact hlt) hd key
        · exact va_putF (D := D) hx hb hts (am_lay h1) (am_ty c') t1 t2 hown hG.1 hC.1 am_D hC.2.1 a (am_ws_get ha) h1 sl h2 (hts _ h3) (fun _ h9 => h9) (by rw [← t4]; simpa using hfin2) (hin hfin.1) (by rw [h4, am_ownC h1, hfin.2]) (t1 sl h2) n1 n2 (by rw [List.length_map]; exact hlt) hd key
    · cases hg
  · cases hg
theorem am_ial_ok (F : am_Fr D cI b sa sv M p s m args meth c) (hC : am_Cf D cI b sa h0 s h H locs cu) {j : Int32} {v : Value} {r : List Value} (hd : decode M.2.2.1 pc = .ok (.iaload, 1)) (hg : am_ial sv h v j r = some st')
    (kk : W p l e R s m args below meth c H locs cu su Q (F0 m (pc + 1) cls (st'.map (am_v b sa)))) : W p l e R s m args below meth c H locs cu su Q (F0 m pc cls ((.int j :: v :: r).map (am_v b sa))) := by
  obtain ⟨hx, hb, hml, hown, hts, hG, hin⟩ := F
  unfold am_ial at hg
  split at hg
  · rename_i a
    split at hg
    · rename_i n f ha
      split at hg
      · rename_i hi
        cases hg
        exact va_iald (D := D) hx hb hG.1 hC.1 a 0 (am_ws_get ha) rfl (am_in_vp hi) hd kk
      · cases hg
    · cases hg
  · rename_i t
    split at hg
    · rename_i ht
      obtain ⟨rfl, hi⟩ := ht
      cases hg
      exact va_ti hx hb hG.2.2.1 hC.2.1 (am_in_vp hi) rfl hd kk
    · split at hg
      · rename_i ht
        obtain ⟨rfl, hi⟩ := ht
        cases hg
        exact va_ti hx hb hG.2.2.2.2.1 hC.2.1 (am_in_vp hi) rfl hd kk
      · cases hg
  · cases hg
theorem am_ias_ok (F : am_Fr D cI b sa sv M p s m args meth c) (hC : am_Cf D cI b sa h0 s h H locs cu) {j x : Int32} {a : Nat} {r : List Value} (hd : decode M.2.2.1 pc = .ok (.iastore, 1)) (hg : am_ias h a j x = some h')
    (kk : ∀ H' locs', am_Cf D cI b sa h0 s h' H' locs' cu → W p l e R s m args below meth c H' locs' cu su Q (F0 m (pc + 1) cls (r.map (am_v b sa)))) : W p l e R s m args below meth c H locs cu su Q (F0 m pc cls ((.int x :: .int j :: .ref a :: r).map (am_v b sa))) := by
  obtain ⟨hx, hb, hml, hown, hts, hG, hin⟩ := F
  unfold am_ias at hg
  split at hg
  · rename_i n f ha
    split at hg
    · rename_i hi
      cases hg
      refine va_iast (D := D) hx hb hG.1 hC.1 am_D hC.2.1 a 0 (am_ws_get ha) rfl (am_in_vp hi) hd (fun H1 locs1 hP _ hS => ?_)
      refine kk H1 locs1 ⟨?_, hS, hC.2.2.1, by rw [List.length_set]; exact hC.2.2.2⟩
      rw [← am_ws_set]
      exact hP
    · cases hg
  · cases hg
theorem am_cpy_ok (F : am_Fr D cI b sa sv M p s m args meth c) (hC : am_Cf D cI b sa h0 s h H locs cu) (hsz : cls.size = M.2.2.2.1) {k a0 a1 : Nat} {sp dp n : Int32} {r : List Value} (hd : decode M.2.2.1 pc = .ok (.invokestatic k, 3)) {y0 : Nat} (hk : am_ml M.1 k = some (9, y0)) (hfr : 1 ≤ R.frames) (hlo : am_cs r + 18 ≤ R.locals) (hg : am_cpy h a0 sp a1 dp n = some h')
    (kk : ∀ H' locs', am_Cf D cI b sa h0 s h' H' locs' cu → W p l e R s m args below meth c H' locs' cu su Q (F0 m (pc + 3) cls (r.map (am_v b sa)))) : W p l e R s m args below meth c H locs cu su Q (F0 m pc cls ((.int n :: .int dp :: .ref a1 :: .int sp :: .ref a0 :: r).map (am_v b sa))) := by
  obtain ⟨hx, hb, hml, hown, hts, hG, hin⟩ := F
  have hl : Cond.methodLink (am_own M.1) k arraycopyName ∈ am_TB := by
    rcases am_ml_ok hk with q | q | q | q | q | q
    · cases q.1
    · cases q.1
    · cases q.1
    · cases q.1
    · cases q.1
    · exact q.2
  obtain ⟨j1, j2, j3, j4, j5, j6, j7, j8, j9, j10, j11⟩ := am_jdkT
  have hnw : nativeFrameWords "java/lang/System" "arraycopy" 5 = 7 := by decide +kernel
  unfold am_cpy at hg
  split at hg
  · rename_i n0 f n1 g ha0 ha1
    split at hg
    · rename_i hc
      obtain ⟨⟨c1, c2, c3⟩, c4, c5⟩ := hc
      cases hg
      refine va_copyi (D := D) hx hb (hml.trans hsz.symm) hown (hts _ hl) (hts _ j5) (hts _ j4) (hts _ j6) hG.1 hC.1 am_D hC.2.1 a0 a1 0 0 (am_ws_get ha0) (am_ws_get ha1) rfl rfl rfl (am_nneg c1) (am_nneg c2) (am_nneg c3) c4 c5 (fun i _ => rfl) hfr (by rw [am_cs_map, hnw]; exact hlo) hd (fun H1 locs1 hP _ hS => ?_)
      refine kk H1 locs1 ⟨?_, hS, hC.2.2.1, by rw [List.length_set]; exact hC.2.2.2⟩
      rw [← am_ws_set]
      exact hP
    · cases hg
  · cases hg
theorem am_addr {e0 : va_E} {q : Nat} {H1 : Heap} (hC : h0 + cu = h.length) (hs : s.heap.size = b + h0) (hz : H1.size ≤ s.heap.size + (cu + 1)) (hP : va_P D vwCl (am_ws b sa cI h ++ [(q, e0)]) H1) (hD : va_D (am_A b) (am_ws b sa cI h ++ [(q, e0)])) : q = b + h.length := by
  have hl : (am_ws b sa cI h ++ [(q, e0)])[h.length]? = some (q, e0) := by
    rw [List.getElem?_append_right (by rw [am_ws_len]; exact Nat.le_refl _), am_ws_len, Nat.sub_self]
    rfl
  have h1 : q < H1.size := (hP _ _ hl).lt
  have h2 : b ≤ q := hD.2 _ _ hl
  by_cases h3 : q < b + h.length
  · have h4 : q - b < h.length := by omega
    obtain ⟨e1, he⟩ : ∃ e1, h[q - b]? = some e1 := ⟨_, List.getElem?_eq_getElem h4⟩
    have h5 : (am_ws b sa cI h ++ [(q, e0)])[q - b]? = some (b + (q - b), am_e b sa cI e1) := by
      rw [List.getElem?_append_left (by rw [am_ws_len]; exact h4)]
      exact am_ws_get he
    have h6 := hD.1 _ _ _ _ h5 hl (by show b + (q - b) = q; omega)
    omega
  · omega
theorem am_new_ok (F : am_Fr D cI b sa sv M p s m args meth c) (hC : am_Cf D cI b sa h0 s h H locs cu) {k ci : Nat} {r : List Value} (hd : decode M.2.2.1 pc = .ok (.new k, 3)) (hk : am_cn M.1 k = some ci) (hc1 : cu + 1 ≤ R.cells) (hc2 : su + am_N ci ≤ R.slots)
    (kk : ∀ H' locs', am_Cf D cI b sa h0 s (h ++ [.inr (ci, am_def ci)]) H' locs' (cu + 1) → W p l e R s m args below meth c H' locs' (cu + 1) (su + am_N ci) Q (F0 m (pc + 3) cls ((.ref h.length :: r).map (am_v b sa)))) : W p l e R s m args below meth c H locs cu su Q (F0 m pc cls (r.map (am_v b sa))) := by
  obtain ⟨hx, hb, hml, hown, hts, hG, hin⟩ := F
  obtain ⟨rc, h1, h2, h3, h4⟩ := am_cn_ok hk
  obtain ⟨t1, t2, t3, t4⟩ := am_tyk h1
  have hdef : ∀ ty : FieldType, am_v b sa (defaultValue ty) = defaultValue ty ∨ ∃ q, ty = .float ∧ q = ty := by
    intro ty
    cases ty <;> first | exact Or.inl rfl | exact Or.inr ⟨_, rfl, rfl⟩
  refine va_new (D := D) (fs := (am_def ci).map (am_v b sa)) hx hb hts (am_lay h1) (am_ty ci) t1 hown (hts _ h2) (hts _ h3) (hts _ h4) hG.1 hC.1 am_D hC.2.1 (fun q hq => by show b ≤ q; have := hC.2.2.1; omega) h1 (fun j hj => ?_) hc1 (by rw [← t3]; exact hc2) hd (fun q H1 hP hD hS => ?_)
  · have hj2 : j < am_N ci := by rw [t3]; exact hj
    have hl := am_lt10 h1
    simp only [vp_V, am_def, List.map_map]
    rw [List.getD_eq_getElem?_getD, List.getElem?_map, List.getElem?_range hj2]
    show defaultValue (am_ty ci j) = am_v b sa (defaultValue (am_ty ci j))
    rcases hdef (am_ty ci j) with q | ⟨q, q1, q2⟩
    · exact q.symm
    · exfalso
      have hp := t1 j hj
      rw [q1] at hp
      revert hp hj
      clear hj2 q1 q2 t1 t2 t4 h2 h3 h4 hdef
      intro hj hp
      have : ∀ r ∈ vwCl, ∀ j, j < r.2.2 → parseFieldDescriptor (r.2.1 j).2.2.1 ≠ some .float := by decide +kernel
      exact this rc (List.mem_of_getElem? h1) j hj hp
  · rw [← t3]
    refine am_size (fun hz => ?_)
    have hq := am_addr hC.2.2.2 hC.2.2.1 hz hP hD
    subst hq
    refine kk H1 locs ⟨?_, hS, hC.2.2.1, by rw [List.length_append]; have := hC.2.2.2; simp; omega⟩
    rw [am_ws_app]
    exact hP
theorem am_newa_ok (F : am_Fr D cI b sa sv M p s m args meth c) (hC : am_Cf D cI b sa h0 s h H locs cu) {n : Int32} {r : List Value} (hd : decode M.2.2.1 pc = .ok (.newarray .int, 2)) (hn : 0 ≤ n.toInt) (hn2 : n.toNatClampNeg ≤ 1000) (hc1 : cu + 1 ≤ R.cells) (hc2 : su + n.toNatClampNeg ≤ R.slots)
    (kk : ∀ H' locs', am_Cf D cI b sa h0 s (h ++ [.inl (n.toNatClampNeg, fun _ => 0)]) H' locs' (cu + 1) → W p l e R s m args below meth c H' locs' (cu + 1) (su + n.toNatClampNeg) Q (F0 m (pc + 2) cls ((.ref h.length :: r).map (am_v b sa)))) : W p l e R s m args below meth c H locs cu su Q (F0 m pc cls ((.int n :: r).map (am_v b sa))) := by
  obtain ⟨hx, hb, hml, hown, hts, hG, hin⟩ := F
  obtain ⟨j1, j2, j3, j4, j5, j6, j7, j8, j9, j10, j11⟩ := am_jdkT
  refine va_newa (D := D) (atype := .int) (a0 := (n.toNatClampNeg, .inl fun _ => 0)) hx hb (hts _ j8) (ty := .int) rfl hG.1 hC.1 am_D hC.2.1 (fun q hq => by show b ≤ q; have := hC.2.2.1; omega) (fun cA => rfl) (am_nneg hn) rfl (by show _ * 4 ≤ _; omega) hc1 hc2 hd (fun q cA H1 hK hP hD hS => ?_)
  refine am_size (fun hz => ?_)
  have hq := am_addr hC.2.2.2 hC.2.2.1 hz hP hD
  subst hq
  have hcA : cA = cI := by
    have e1 := (hK.2 0 (cI, .int) rfl).2
    have e2 := (hK.2 1 (cA, .int) rfl).2
    exact (Option.some.inj ((show s.vm.findClass _ = some cI from e1).symm.trans (show s.vm.findClass _ = some cA from e2))).symm
  subst hcA
  refine kk H1 locs ⟨?_, hS, hC.2.2.1, by rw [List.length_append]; have := hC.2.2.2; simp; omega⟩
  rw [am_ws_app]
  exact hP
end AMH
end
section
/-! the whole step, calls, the run -/
theorem am_ml6 {oc k y : Nat} (h : am_ml oc k = some (6, y)) : Cond.methodLink (am_own oc) k objectInit ∈ am_TB := by
  rcases am_ml_ok h with q | q | q | q | q | q
  · cases q.1
  · cases q.1
  · exact q.2
  · cases q.1
  · cases q.1
  · cases q.1
theorem am_ml7 {oc k y : Nat} (h : am_ml oc k = some (7, y)) : Cond.methodLink (am_own oc) k Lib.Math.max.name ∈ am_TB := by
  rcases am_ml_ok h with q | q | q | q | q | q
  · cases q.1
  · cases q.1
  · cases q.1
  · exact q.2
  · cases q.1
  · cases q.1
theorem am_ml8 {oc k y : Nat} (h : am_ml oc k = some (8, y)) : Cond.methodLink (am_own oc) k Lib.Math.min.name ∈ am_TB := by
  rcases am_ml_ok h with q | q | q | q | q | q
  · cases q.1
  · cases q.1
  · cases q.1
  · cases q.1
  · exact q.2
  · cases q.1
theorem am_ml6' {oc k : Nat} (h : (am_ml oc k).map (fun q => q.1) = some 6) : Cond.methodLink (am_own oc) k objectInit ∈ am_TB := by
  obtain ⟨q, h1, h2⟩ := Option.map_eq_some_iff.mp h
  obtain ⟨a, y⟩ := q
  simp only at h2
  subst h2
  exact am_ml6 h1
section AMC
variable {p : Program} {l : Launch} {e : Env} {R : Room} {s : State} {m : MethodId} {args : Array Value} {below : List Frame} {meth : Method} {c : Code} {H : Heap} {locs : List Loc} {cu su : Nat} {Q : State → Prop}
variable {pc b h0 : Nat} {sa : Nat → Nat} {sv : am_V} {cls : Array Slot} {st st' : List Value} {D : va_G} {cI : ClassId} {M : am_M} {h h' : am_H}
theorem am_hp_ok (F : am_Fr D cI b sa sv M p s m args meth c) (hC : am_Cf D cI b sa h0 s h H locs cu) (hsz : cls.size = M.2.2.2.1) {i : Instr} (hd : decode M.2.2.1 pc = .ok (i, am_len i)) {cu' su' : Nat} (hg : am_hp sv M.1 M.2.2.2.2.2.1 R i st h cu su = some (st', h', cu', su'))
    (kk : ∀ H' locs', am_Cf D cI b sa h0 s h' H' locs' cu' → W p l e R s m args below meth c H' locs' cu' su' Q (F0 m (pc + am_len i) cls (st'.map (am_v b sa)))) : W p l e R s m args below meth c H locs cu su Q (F0 m pc cls (st.map (am_v b sa))) := by
  obtain ⟨hx, hb, hml, hown, hts, hG, hin⟩ := id F
  obtain ⟨j1, j2, j3, j4, j5, j6, j7, j8, j9, j10, j11⟩ := am_jdkT
  unfold am_hp at hg
  split at hg
  · obtain ⟨q, h1, h2⟩ := Option.bind_eq_some_iff.mp hg
    obtain ⟨s2, h3, h4⟩ := Option.map_eq_some_iff.mp h2
    cases h4
    exact am_gf_ok F hC hd h1 h3 (kk H locs hC)
  · obtain ⟨q, h1, h2⟩ := Option.bind_eq_some_iff.mp hg
    obtain ⟨s2, h3, h4⟩ := Option.map_eq_some_iff.mp h2
    cases h4
    exact am_pf_ok F hC hd h1 h3 kk
  · obtain ⟨s2, h3, h4⟩ := Option.map_eq_some_iff.mp hg
    cases h4
    exact am_ial_ok F hC hd h3 (kk H locs hC)
  · split at hg
    · rename_i ht
      obtain ⟨rfl, hi⟩ := ht
      cases hg
      exact va_tc hx hb hG.2.2.2.1 hC.2.1 (am_in_vp hi) rfl hd (kk H locs hC)
    · cases hg
  · obtain ⟨s2, h3, h4⟩ := Option.map_eq_some_iff.mp hg
    cases h4
    exact am_ias_ok F hC hd h3 kk
  · obtain ⟨n, h3, h4⟩ := Option.map_eq_some_iff.mp hg
    cases h4
    unfold am_aln at h3
    split at h3
    · rename_i a
      split at h3
      · rename_i n f ha
        cases h3
        exact va_alen (D := D) hx hb hG.1 hC.1 a 0 (am_ws_get ha) rfl rfl hd (kk H locs hC)
      · cases h3
    · split at h3
      · rename_i t ht
        subst ht
        cases h3
        exact va_tlen hx hb hG.2.2.2.2.1 hC.2.1 rfl hd (kk H locs hC)
      · cases h3
    · cases h3
  · obtain ⟨t, h3, h4⟩ := Option.map_eq_some_iff.mp hg
    cases h4
    obtain ⟨h5, h6⟩ := am_gs_ok h3
    have ht : (UInt32.ofNat t).toNat = t := by
      rcases (show t = 0 ∨ t = 1 by omega) with rfl | rfl <;> rfl
    have k2 := kk H locs hC
    rw [List.map_cons] at k2
    simp only [am_v, ht] at k2
    rcases h6 with h6 | h6
    · exact va_gets hx hb (hG.2.1 t h5) hC.2.1 hown (hts _ h6) (fun _ h9 => h9) hd k2
    · exact va_getsN hx hb (hG.2.1 t h5) hC.2.1 hown ((hG.2.2.2.2.2 _ h6).use rfl) (fun _ h9 => h9) hd k2
  · obtain ⟨ci, h3, h4⟩ := Option.bind_eq_some_iff.mp hg
    split at h4
    · rename_i hc
      cases h4
      exact am_new_ok F hC hd h3 hc.1 hc.2 kk
    · cases h4
  · split at hg
    · rename_i hc
      cases hg
      exact am_newa_ok F hC hd hc.1 hc.2.1 hc.2.2.1 hc.2.2.2 kk
    · cases hg
  · split at hg
    · rename_i a r hc
      cases hg
      refine W.objInit hx hb hown (hts _ (am_ml6' hc.1)) (hts _ j7) (hts _ j11) rfl (hsz.trans hml.symm) rfl hd hc.2.1 ?_ (kk H locs hC)
      have := hc.2.2
      have h7 := am_cs_map (b := b) (sa := sa) st'
      show 2 * 0 + _ + 12 ≤ _
      omega
    · cases hg
  · unfold am_js at hg
    split at hg
    · rename_i hk
      split at hg
      · rename_i hc
        obtain ⟨s2, h3, h4⟩ := Option.map_eq_some_iff.mp hg
        cases h4
        exact am_cpy_ok F hC hsz hd hk hc.1 hc.2 h3 kk
      · cases hg
    · rename_i hk
      split at hg
      · rename_i hc
        cases hg
        exact va_mmax hx hb (hml.trans hsz.symm) hown (hts _ (am_ml7 hk)) (hts _ j1) (hts _ j3) (hts _ j9) hc.1 (by rw [am_cs_map]; exact hc.2.1) hc.2.2.1 hc.2.2.2 hd (kk H locs hC)
      · cases hg
    · rename_i hk
      split at hg
      · rename_i hc
        cases hg
        exact va_mmin hx hb (hml.trans hsz.symm) hown (hts _ (am_ml8 hk)) (hts _ j2) (hts _ j3) (hts _ j10) hc.1 (by rw [am_cs_map]; exact hc.2.1) hc.2.2.1 hc.2.2.2 hd (kk H locs hC)
      · cases hg
    · cases hg
  · cases hg
/-- how many cells a step makes -/
theorem am_hp_len {oc kd : Nat} {i : Instr} {cu' su' : Nat} (hg : am_hp sv oc kd R i st h cu su = some (st', h', cu', su')) : h'.length + cu = h.length + cu' := by
  unfold am_hp at hg
  split at hg
  · obtain ⟨q, h1, h2⟩ := Option.bind_eq_some_iff.mp hg
    obtain ⟨s2, h3, h4⟩ := Option.map_eq_some_iff.mp h2
    cases h4; rfl
  · obtain ⟨q, h1, h2⟩ := Option.bind_eq_some_iff.mp hg
    obtain ⟨s2, h3, h4⟩ := Option.map_eq_some_iff.mp h2
    cases h4
    unfold am_pf at h3
    split at h3
    · split at h3
      · cases h3; rw [List.length_set]
      · cases h3
    · cases h3
  · obtain ⟨s2, h3, h4⟩ := Option.map_eq_some_iff.mp hg
    cases h4; rfl
  · split at hg
    · cases hg; rfl
    · cases hg
  · obtain ⟨s2, h3, h4⟩ := Option.map_eq_some_iff.mp hg
    cases h4
    unfold am_ias at h3
    split at h3
    · split at h3
      · cases h3; rw [List.length_set]
      · cases h3
    · cases h3
  · obtain ⟨n, h3, h4⟩ := Option.map_eq_some_iff.mp hg
    cases h4; rfl
  · obtain ⟨t, h3, h4⟩ := Option.map_eq_some_iff.mp hg
    cases h4; rfl
  · obtain ⟨ci, h3, h4⟩ := Option.bind_eq_some_iff.mp hg
    split at h4
    · cases h4; simp; omega
    · cases h4
  · split at hg
    · cases hg; simp; omega
    · cases hg
  · split at hg
    · cases hg; rfl
    · cases hg
  · unfold am_js at hg
    split at hg
    · split at hg
      · obtain ⟨s2, h3, h4⟩ := Option.map_eq_some_iff.mp hg
        cases h4
        unfold am_cpy at h3
        split at h3
        · split at h3
          · cases h3; rw [List.length_set]
          · cases h3
        · cases h3
      · cases hg
    · split at hg
      · cases hg; rfl
      · cases hg
    · split at hg
      · cases hg; rfl
      · cases hg
    · cases hg
  · cases hg
/-- a step, by its kind -/
theorem am_step_inv {i : Instr} {len : Nat} {ls : List Value} {w : am_R} (hs : am_step sv M pc i len ls st h cu su = some w) :
    (∃ q, am_br i pc len st = some q ∧ w = .inl (q.1, ls, q.2, h, cu, su)) ∨ (∃ v, am_rt M.2.2.2.2.1 i len st = some v ∧ w = .inr (.inl v)) ∨ (len = am_len i ∧ ((∃ q, am_pu M.1 i ls st = some q ∧ w = .inl (pc + len, q.1, q.2, h, cu, su)) ∨ (∃ s2, am_ai i st = some s2 ∧ w = .inl (pc + len, ls, s2, h, cu, su)) ∨ (∃ s2, am_al i st = some s2 ∧ w = .inl (pc + len, ls, s2, h, cu, su)) ∨ (∃ q, am_hp sv M.1 M.2.2.2.2.2.1 M.2.2.2.2.2.2.2 i st h cu su = some q ∧ w = .inl (pc + len, ls, q.1, q.2.1, q.2.2.1, q.2.2.2)) ∨ (∃ q, am_ca M.1 i st h = some q ∧ w = .inr (.inr q)))) := by
  unfold am_step at hs
  split at hs
  · rename_i q hq; cases hs; exact Or.inl ⟨q, hq, rfl⟩
  · split at hs
    · rename_i v hv; cases hs; exact Or.inr (Or.inl ⟨v, hv, rfl⟩)
    · split at hs
      · rename_i hlen
        refine Or.inr (Or.inr ⟨hlen, ?_⟩)
        split at hs
        · rename_i q hq; cases hs; exact Or.inl ⟨q, hq, rfl⟩
        · split at hs
          · rename_i q hq; cases hs; exact Or.inr (Or.inl ⟨q, hq, rfl⟩)
          · split at hs
            · rename_i q hq; cases hs; exact Or.inr (Or.inr (Or.inl ⟨q, hq, rfl⟩))
            · split at hs
              · rename_i q hq; cases hs; exact Or.inr (Or.inr (Or.inr (Or.inl ⟨q, hq, rfl⟩)))
              · obtain ⟨q, h1, h2⟩ := Option.map_eq_some_iff.mp hs
                exact Or.inr (Or.inr (Or.inr (Or.inr ⟨q, h1, h2.symm⟩)))
      · cases hs
/-- a run, by its first step -/
theorem am_run_inv {n mi : Nat} {ls : List Value} {u : Option Value × am_H} (hr : am_run sv (n + 1) mi pc ls st h cu su = some u) :
    ∃ M q w, am_ms[mi]? = some M ∧ decode M.2.2.1 pc = .ok q ∧ am_step sv M pc q.1 q.2 ls st h cu su = some w ∧
      ((∃ z, w = .inl z ∧ am_run sv n mi z.1 z.2.1 z.2.2.1 z.2.2.2.1 z.2.2.2.2.1 z.2.2.2.2.2 = some u) ∨ (∃ v, w = .inr (.inl v) ∧ cu = M.2.2.2.2.2.2.2.cells ∧ su = M.2.2.2.2.2.2.2.slots ∧ u = (v, h)) ∨
       (∃ z Y u1, w = .inr (.inr z) ∧ am_ms[z.1]? = some Y ∧ (z.1 < 170 ∧ (am_sl z.2.1).length ≤ Y.2.2.2.1 ∧ am_rc M Y z.2.2 cu su = true) ∧ am_run sv n z.1 0 (am_ini Y.2.2.2.1 z.2.1) [] h 0 0 = some u1 ∧ am_run sv n mi (pc + 3) ls (u1.1.toList ++ z.2.2) u1.2 (cu + Y.2.2.2.2.2.2.2.cells) (su + Y.2.2.2.2.2.2.2.slots) = some u)) := by
  rw [am_run] at hr
  split at hr
  · cases hr
  · rename_i M hM
    split at hr
    · cases hr
    · rename_i q hq
      split at hr
      · cases hr
      · rename_i z hz
        exact ⟨M, q, _, hM, hq, hz, Or.inl ⟨z, rfl, hr⟩⟩
      · rename_i v hv
        split at hr
        · rename_i hc
          cases hr
          exact ⟨M, q, _, hM, hq, hv, Or.inr (Or.inl ⟨v, rfl, hc.1, hc.2, rfl⟩)⟩
        · cases hr
      · rename_i z hz
        split at hr
        · cases hr
        · rename_i Y hY
          split at hr
          · rename_i hc
            split at hr
            · cases hr
            · rename_i u1 hu
              exact ⟨M, q, _, hM, hq, hz, Or.inr (Or.inr ⟨z, Y, u1, rfl, hY, hc, hu, hr⟩)⟩
          · cases hr
theorem am_run_len : ∀ (n : Nat) {mi pc : Nat} {ls st : List Value} {h : am_H} {cu su : Nat} {u : Option Value × am_H} {M : am_M}, am_run sv n mi pc ls st h cu su = some u → am_ms[mi]? = some M → u.2.length + cu = h.length + M.2.2.2.2.2.2.2.cells := by
  intro n
  induction n with
  | zero => intro mi pc ls st h cu su u M hr _; cases hr
  | succ n ih =>
    intro mi pc ls st h cu su u M hr hM
    obtain ⟨M', q, w, hM', hq, hs, hw⟩ := am_run_inv hr
    cases hM.symm.trans hM'
    rcases hw with ⟨z, rfl, h1⟩ | ⟨v, rfl, h1, h2, rfl⟩ | ⟨z, Y, u1, rfl, hY, hc, h1, h2⟩
    · have h3 := ih h1 hM
      rcases am_step_inv hs with ⟨q, -, h5⟩ | ⟨v, -, h5⟩ | ⟨-, ⟨q, -, h5⟩ | ⟨q, -, h5⟩ | ⟨q, -, h5⟩ | ⟨q, h4, h5⟩ | ⟨q, -, h5⟩⟩
      · cases h5; exact h3
      · cases h5
      · cases h5; exact h3
      · cases h5; exact h3
      · cases h5; exact h3
      · obtain ⟨s2, hh, c2, u2⟩ := q
        cases h5
        have h6 := am_hp_len h4
        simp only at h3
        omega
      · cases h5
    · show h.length + cu = h.length + _
      omega
    · have h3 := ih h1 hY
      have h4 := ih h2 hM
      try simp only at h3 h4
      omega
/-- a call that comes back -/
theorem am_callW {mc ms : Nat} {rest st0 : List Value} {Qa : State → Outcome → State → Prop} {free : Addr → Prop} (hr : va_Run p l e R s m args below meth c H locs cu su mc ms (F0 m pc cls st0) rest Qa free)
    (kk : ∀ (v : Option Value) (s0 t : State) (L : List Loc), s0.heap = H → Qa s0 (.returned v) t → (∀ q ∈ L, free q.base) → W p l e R s m args below meth c t.heap (locs ++ L) (cu + mc) (su + ms) Q (F0 m (pc + 3) cls (v.toList ++ rest))) : W p l e R s m args below meth c H locs cu su Q (F0 m pc cls st0) := by
  intro T hT X
  obtain ⟨v, s0, t, T', L, e0, X', hL, e1, e2, hq, stp⟩ := hr T hT X
  obtain ⟨t2, a1, b1⟩ := kk v s0 t L e0 hq hL T' e1 X'
  exact ⟨t2, stp t2 a1, b1⟩
end AMC
/-- the world of a call -/
def am_Wd (D : va_G) (cI : ClassId) (b : Nat) (sa : Nat → Nat) (sv : am_V) (h : am_H) (U : State) : Prop := U.heap.size = b + h.length ∧ va_P D vwCl (am_ws b sa cI h) U.heap ∧ am_G D cI b sa sv U U.heap
def am_Qc (D : va_G) (cI : ClassId) (b : Nat) (sa : Nat → Nat) (r : Option Value) (h' : am_H) : Array Value → State → Outcome → State → Prop := fun _ s0 o t => o = .returned (r.map (am_v b sa)) ∧ va_P D vwCl (am_ws b sa cI h') t.heap ∧ va_F (am_A b) s0 t
def am_wsM (M : am_M) : List Cond := Cond.code M.2.1 M.2.2.1 M.2.2.2.1 M.2.2.2.2.1 :: am_TB
/-- a method's contract at one call -/
def am_Met (l : Launch) (D : va_G) (cI : ClassId) (b : Nat) (sa : Nat → Nat) (sv : am_V) (M : am_M) (as : List Value) (h : am_H) (r : Option Value) (h' : am_H) : Prop :=
  Met l M.2.1 (am_wsM M) M.2.2.2.2.2.2.2 (va_Pc (as.map (am_v b sa)) (am_Wd D cI b sa sv h)) (am_Qc D cI b sa r h') M.2.2.2.2.2.2.2.cells M.2.2.2.2.2.2.2.slots (am_A b)
theorem am_good {M : am_M} {mi : Nat} (hM : am_ms[mi]? = some M) (hl : mi < 170) : GoodIn am_TB (am_wsM M) := by
  intro w hw
  rcases List.mem_cons.mp hw with rfl | hw
  · exact ⟨(am_m_ok hM hl).1, am_TB_good (am_m_ok hM hl).1⟩
  · exact ⟨hw, am_TB_good hw⟩
section AMD
variable {p : Program} {l : Launch} {e : Env} {R : Room} {s : State} {m : MethodId} {args : Array Value} {below : List Frame} {meth : Method} {c : Code} {H : Heap} {locs : List Loc} {cu su : Nat} {Q : State → Prop}
variable {pc b h0 : Nat} {sa : Nat → Nat} {sv : am_V} {cls : Array Slot} {st st' : List Value} {D : va_G} {cI : ClassId} {M : am_M} {h h' : am_H}
theorem am_blind {as : List Value} : FrameBlind (va_Pc (as.map (am_v b sa)) (am_Wd D cI b sa sv h)) := fun a U g mk q => ⟨q.1, q.2.1, q.2.2.1, am_G.same (s := U) (U := U.calling g mk a) rfl q.2.2.2⟩
theorem am_Cf.G (hC : am_Cf D cI b sa h0 s h H locs cu) (hG : am_G D cI b sa sv s s.heap) : am_G D cI b sa sv s H := hG.kept hC.2.1.2.1
theorem am_Cf.sz (hC : am_Cf D cI b sa h0 s h H locs cu) (hz : H.size ≤ s.heap.size + cu) : H.size = b + h.length := by
  have h1 := hC.2.2.1
  have h2 := hC.2.2.2
  have h3 := hC.2.1.1
  by_cases h4 : h.length = 0
  · omega
  · obtain ⟨e1, he⟩ : ∃ e1, h[h.length - 1]? = some e1 := ⟨_, List.getElem?_eq_getElem (by omega)⟩
    have h5 := (hC.1 _ _ (am_ws_get he)).lt
    simp only at h5
    omega
theorem am_Cf.pre (hC : am_Cf D cI b sa h0 s h H locs cu) (hG : am_G D cI b sa sv s s.heap) (hz : H.size ≤ s.heap.size + cu) (as : List Value) : ∀ U : State, U.heap = H → s.WarmedH U.vm → va_Pc (as.map (am_v b sa)) (am_Wd D cI b sa sv h) (as.map (am_v b sa)).toArray U :=
  fun U hU hW => ⟨rfl, by rw [hU]; exact hC.sz hz, by rw [hU]; exact hC.1, by rw [hU]; exact (hC.G hG).warm hW⟩
theorem am_Cf.back (hC : am_Cf D cI b sa h0 s h H locs cu) {mc : Nat} {s0 t : State} {L : List Loc} {r v : Option Value} {a : Array Value} (e0 : s0.heap = H) (hq : am_Qc D cI b sa r h' a s0 (.returned v) t) (hL : ∀ q ∈ L, am_A b q.base) (hlen : h'.length = h.length + mc) : am_Cf D cI b sa h0 s h' t.heap (locs ++ L) (cu + mc) := by
  refine ⟨hq.2.1, ⟨?_, ?_, ?_⟩, hC.2.2.1, by rw [hlen, ← hC.2.2.2]; omega⟩
  · have := hq.2.2.1
    rw [e0] at this
    exact Nat.le_trans hC.2.1.1 this
  · intro q h1 h2
    have := hq.2.2.2 q (by rw [e0]; exact Nat.lt_of_lt_of_le h1 hC.2.1.1) h2
    rw [this, e0]
    exact hC.2.1.2.1 q h1 h2
  · intro q h1
    rcases List.mem_append.mp h1 with h2 | h2
    · exact hC.2.1.2.2 q h2
    · exact hL q h2
theorem am_rev (as rest : List Value) (f : Value → Value) : (as.reverse ++ rest).map f = (as.map f).reverse ++ rest.map f := by simp
theorem am_ca_ok (F : am_Fr D cI b sa sv M p s m args meth c) (hR : R = M.2.2.2.2.2.2.2) (hC : am_Cf D cI b sa h0 s h H locs cu) (hsz : cls.size = M.2.2.2.1) {i : Instr} (hd : decode M.2.2.1 pc = .ok (i, am_len i)) {z : Nat × List Value × List Value} (hz : am_ca M.1 i st h = some z) {Y : am_M} (hY : am_ms[z.1]? = some Y) (hl : z.1 < 170) (hrc : am_rc M Y z.2.2 cu su = true) {r : Option Value} (hM : am_Met l D cI b sa sv Y z.2.1 h r h') (hlen : h'.length = h.length + Y.2.2.2.2.2.2.2.cells)
    (kk : ∀ H' locs', am_Cf D cI b sa h0 s h' H' locs' (cu + Y.2.2.2.2.2.2.2.cells) → W p l e R s m args below meth c H' locs' (cu + Y.2.2.2.2.2.2.2.cells) (su + Y.2.2.2.2.2.2.2.slots) Q (F0 m (pc + 3) cls ((r.toList ++ z.2.2).map (am_v b sa)))) : W p l e R s m args below meth c H locs cu su Q (F0 m pc cls (st.map (am_v b sa))) := by
  subst hR
  obtain ⟨hx, hb, hml, hown, hts, hG, hin⟩ := F
  obtain ⟨y1, y2, y3, y4, y5, y6, y7, y8, y9, y10, y11, y12⟩ := am_m_ok hY hl
  have hgood := am_good hY hl
  obtain ⟨r1, r2, r3, r4, r5⟩ := of_decide_eq_true hrc
  have goes : ∀ {Q0 : Array Value} {st0 : List Value}, va_Run p l e M.2.2.2.2.2.2.2 s m args below meth c H locs cu su Y.2.2.2.2.2.2.2.cells Y.2.2.2.2.2.2.2.slots (F0 m pc cls st0) (z.2.2.map (am_v b sa)) (am_Qc D cI b sa r h' Q0) (am_A b) → W p l e M.2.2.2.2.2.2.2 s m args below meth c H locs cu su Q (F0 m pc cls st0) := by
    intro Q0 st0 hrun
    refine am_callW hrun (fun v s0 t L e0 hq hL => ?_)
    have hv : v = r.map (am_v b sa) := by have := hq.1; cases this; rfl
    have k2 := kk t.heap (locs ++ L) (hC.back e0 hq hL hlen)
    rw [List.map_append] at k2
    have e3 : r.toList.map (am_v b sa) = v.toList := by rw [hv]; cases r <;> rfl
    rw [e3] at k2
    exact k2
  refine am_size (fun hzz => ?_)
  have hroom : 2 * (F0 m pc cls (st.map (am_v b sa))).monitorRoom + ((z.2.2.map (am_v b sa)).map fun v => v.category).sum ≤ 8 := by
    rw [am_cs_map]
    show 2 * 0 + _ ≤ 8
    omega
  unfold am_ca at hz
  split at hz
  · obtain ⟨q, h1, h2⟩ := Option.bind_eq_some_iff.mp hz
    split at h2
    · rename_i hq1
      obtain ⟨Y', h3, h4⟩ := Option.bind_eq_some_iff.mp h2
      split at h4
      · rename_i hk
        cases h4
        cases h3.symm.trans hY
        have hst : st.map (am_v b sa) = (((st.take Y.2.2.2.2.2.2.1).reverse.map (am_v b sa)).reverse) ++ (st.drop Y.2.2.2.2.2.2.1).map (am_v b sa) := by
          rw [← am_rev, List.reverse_reverse, List.take_append_drop]
        have hn : ((st.take Y.2.2.2.2.2.2.1).reverse.map (am_v b sa)).length = Y.2.2.2.2.2.2.1 := by simp; omega
        rcases am_ml_ok h1 with ⟨q0, M2, q1, q2, q3⟩ | ⟨q0, M2, q1, q2, q3⟩ | ⟨q0, -⟩ | ⟨q0, -⟩ | ⟨q0, -⟩ | ⟨q0, -⟩
        · cases q1.symm.trans hY
          exact goes (va_runS ⟨hx, hb, hml, hown, hts⟩ hM ⟨callB_of _ hts hgood rfl rfl rfl (hts _ y2) (hts _ q3) ⟨y9.1, y9.2, y7⟩ ⟨r1, r2⟩, hts _ (y3 hk.1)⟩ ⟨am_blind, hC.pre hG hzz _⟩ rfl hn hsz hst hroom hd ⟨r3, r4⟩)
        · cases q1.symm.trans hY
          exact goes (va_runSN ⟨hx, hb, hml, hown, hts⟩ hM ⟨va_cnB _ hts hgood rfl rfl rfl (hG.2.2.2.2.2 _ q3) (hts _ y2) ⟨y9.1, y9.2, y7⟩ ⟨r1, r2⟩, hts _ (y3 hk.1), trivial⟩ ⟨am_blind, hC.pre hG hzz _⟩ rfl hn hsz hst hroom hd ⟨r3, r4⟩)
        · omega
        · omega
        · omega
        · omega
      · cases h4
    · cases h2
  · obtain ⟨q, h1, h2⟩ := Option.bind_eq_some_iff.mp hz
    split at h2
    · rename_i hq1
      obtain ⟨Y', h3, h4⟩ := Option.bind_eq_some_iff.mp h2
      split at h4
      · rename_i hk
        split at h4
        · rename_i a rr hdrop
          split at h4
          · rename_i cc fs ha
            split at h4
            · rename_i hcc
              cases h4
              cases h3.symm.trans hY
              subst hcc
              have hst : st.map (am_v b sa) = (((st.take Y.2.2.2.2.2.2.1).reverse.map (am_v b sa)).reverse) ++ .ref (b + a) :: rr.map (am_v b sa) := by
                have e1 : st.map (am_v b sa) = (((st.take Y.2.2.2.2.2.2.1).reverse.map (am_v b sa)).reverse) ++ (st.drop Y.2.2.2.2.2.2.1).map (am_v b sa) := by
                  rw [← am_rev, List.reverse_reverse, List.take_append_drop]
                rw [hdrop] at e1
                exact e1
              have hn : ((st.take Y.2.2.2.2.2.2.1).reverse.map (am_v b sa)).length = Y.2.2.2.2.2.2.1 := by simp; omega
              obtain ⟨rc, hrc2⟩ : ∃ rc, vwCl[Y.1]? = some rc := ⟨_, List.getElem?_eq_getElem (by show Y.1 < 10; exact y12)⟩
              have hrecv := va_recv hG.1 hC.1 hrc2 (am_ws_get ha)
              rw [am_ownC hrc2, ← y6] at hrecv
              rcases am_ml_ok h1 with ⟨q0, M2, q1, q2, q3⟩ | ⟨q0, M2, q1, q2, q3⟩ | ⟨q0, -⟩ | ⟨q0, -⟩ | ⟨q0, -⟩ | ⟨q0, -⟩
              · cases q1.symm.trans hY
                exact goes (va_runV (C := Y.2.1.cls) ⟨hx, hb, hml, hown, hts⟩ hM ⟨callB_of _ hts hgood rfl rfl rfl (hts _ y2) (hts _ q3) ⟨y9.1, y9.2, y7⟩ ⟨r1, r2⟩, hts _ (y4 (by omega)), hts _ (y5 hk.1)⟩ ⟨am_blind, hrecv, hC.pre hG hzz (.ref a :: _)⟩ rfl hn hsz hst hroom hd ⟨r3, r4⟩)
              · cases q1.symm.trans hY
                exact goes (va_runVN (C := Y.2.1.cls) ⟨hx, hb, hml, hown, hts⟩ hM ⟨va_cnB _ hts hgood rfl rfl rfl (hG.2.2.2.2.2 _ q3) (hts _ y2) ⟨y9.1, y9.2, y7⟩ ⟨r1, r2⟩, hts _ (y4 (by omega)), hts _ (y5 hk.1)⟩ ⟨am_blind, hrecv, hC.pre hG hzz (.ref a :: _)⟩ rfl hn hsz hst hroom hd ⟨r3, r4⟩)
              · omega
              · omega
              · omega
              · omega
            · cases h4
          · cases h4
        · cases h4
      · cases h4
    · cases h2
  · obtain ⟨q, h1, h2⟩ := Option.bind_eq_some_iff.mp hz
    split at h2
    · rename_i hq1
      obtain ⟨Y', h3, h4⟩ := Option.bind_eq_some_iff.mp h2
      split at h4
      · rename_i hk
        split at h4
        · rename_i a rr hdrop
          cases h4
          cases h3.symm.trans hY
          have hst : st.map (am_v b sa) = (((st.take Y.2.2.2.2.2.2.1).reverse.map (am_v b sa)).reverse) ++ .ref (b + a) :: rr.map (am_v b sa) := by
            have e1 : st.map (am_v b sa) = (((st.take Y.2.2.2.2.2.2.1).reverse.map (am_v b sa)).reverse) ++ (st.drop Y.2.2.2.2.2.2.1).map (am_v b sa) := by
              rw [← am_rev, List.reverse_reverse, List.take_append_drop]
            rw [hdrop] at e1
            exact e1
          have hn : ((st.take Y.2.2.2.2.2.2.1).reverse.map (am_v b sa)).length = Y.2.2.2.2.2.2.1 := by simp; omega
          have hnone := (y10 hk.1).2
          rcases am_ml_ok h1 with ⟨q0, M2, q1, q2, q3⟩ | ⟨q0, M2, q1, q2, q3⟩ | ⟨q0, -⟩ | ⟨q0, -⟩ | ⟨q0, -⟩ | ⟨q0, -⟩
          · cases q1.symm.trans hY
            have hgood2 : am_wsM Y = Cond.code Y.2.1 Y.2.2.1 Y.2.2.2.1 none :: am_TB := by unfold am_wsM; rw [hnone]
            exact goes (va_runI ⟨hx, hb, hml, hown, hts⟩ hM ⟨callB_of _ hts hgood hgood2 rfl rfl (hts _ y2) (hts _ q3) ⟨y9.1, y9.2, y7⟩ ⟨r1, r2⟩, (y10 hk.1).1, hts _ (y4 (by omega))⟩ ⟨am_blind, hC.pre hG hzz (.ref a :: _)⟩ rfl hn hsz hst hroom hd ⟨r3, r4⟩)
          · cases q1.symm.trans hY
            have hgood2 : am_wsM Y = Cond.code Y.2.1 Y.2.2.1 Y.2.2.2.1 none :: am_TB := by unfold am_wsM; rw [hnone]
            exact goes (va_runIN ⟨hx, hb, hml, hown, hts⟩ hM ⟨va_cnB _ hts hgood hgood2 rfl rfl (hG.2.2.2.2.2 _ q3) (hts _ y2) ⟨y9.1, y9.2, y7⟩ ⟨r1, r2⟩, (y10 hk.1).1, hts _ (y4 (by omega))⟩ ⟨am_blind, hC.pre hG hzz (.ref a :: _)⟩ rfl hn hsz hst hroom hd ⟨r3, r4⟩)
          · omega
          · omega
          · omega
          · omega
        · cases h4
      · cases h4
    · cases h2
  · cases hz
end AMD
end
section
/-! THE RUN IS THE MACHINE's -/
def am_cast {l : Launch} {D : va_G} {cI : ClassId} {b : Nat} {sa : Nat → Nat} {sv : am_V} (n : Nat) : Prop :=
  ∀ {mi : Nat} {M : am_M} {pc : Nat} {ls st : List Value} {h : am_H} {cu su : Nat} {u : Option Value × am_H}, am_ms[mi]? = some M → am_run sv n mi pc ls st h cu su = some u →
  ∀ {p : Program} {e : Env} {s : State} {m : MethodId} {args : Array Value} {below : List Frame} {meth : Method} {c : Code} {Q : State → Prop} {H : Heap} {locs : List Loc} {cls : Array Slot} {h0 : Nat},
  am_Fr D cI b sa sv M p s m args meth c → am_L M.2.2.2.1 b sa cls ls → am_Cf D cI b sa h0 s h H locs cu →
  (∀ (H' : Heap) (locs' : List Loc) (cls' : Array Slot) (pc' : Nat) (i : Instr) (len : Nat) (st' : List Value), decode M.2.2.1 pc' = .ok (i, len) → am_rt M.2.2.2.2.1 i len st' = some u.1 → am_Cf D cI b sa h0 s u.2 H' locs' M.2.2.2.2.2.2.2.cells → W p l e M.2.2.2.2.2.2.2 s m args below meth c H' locs' M.2.2.2.2.2.2.2.cells M.2.2.2.2.2.2.2.slots Q (F0 m pc' cls' (st'.map (am_v b sa)))) →
  W p l e M.2.2.2.2.2.2.2 s m args below meth c H locs cu su Q (F0 m pc cls (st.map (am_v b sa)))
theorem am_met_of {l : Launch} {D : va_G} {cI : ClassId} {b : Nat} {sa : Nat → Nat} {sv : am_V} {n : Nat} (ih : am_cast (l := l) (D := D) (cI := cI) (b := b) (sa := sa) (sv := sv) n) {mi : Nat} {Y : am_M} (hY : am_ms[mi]? = some Y) (hl : mi < 170) {as : List Value} {h : am_H} {u : Option Value × am_H} (hlen : (am_sl as).length ≤ Y.2.2.2.1) (hrun : am_run sv n mi 0 (am_ini Y.2.2.2.1 as) [] h 0 0 = some u) : am_Met l D cI b sa sv Y as h u.1 u.2 := by
  obtain ⟨y1, y2, y3, y4, y5, y6, y7, y8, y9, y10, y11, y12⟩ := am_m_ok hY hl
  refine Met.ofW (cc := Y.2.2.1) (maxL := Y.2.2.2.1) (ret := Y.2.2.2.2.1) y8 rfl ?_
  intro p e s m args below meth c s₁ B hml hv
  obtain ⟨rfl, hsz, hP, hG⟩ := hv
  have hts := atoms_spec (ws := am_wsM Y) B.pre
  have hown : s.vm.findClass Y.2.1.cls = some m.cls := findClass_of_methodNamed B.named
  have hlocks := B.notSynchronized
  have hx := B.exec
  have hb := B.bytes
  have hr := B.returns
  rw [lg_entry_eq]
  refine ih hY hrun (h0 := h.length) ⟨hx, hb, hml, by rw [← y6]; exact hown, fun w hw => hts w (List.mem_cons_of_mem _ hw), hG, fun hk => ((name_of_methodNamed B.named B.method).1).trans (y10 hk).1⟩ (am_ini_L hlen) ⟨hP, va_S.rf, hsz, rfl⟩ ?_
  intro H' locs' cls' pc' i len st' hd hrt hC
  unfold am_rt at hrt
  split at hrt
  · rename_i x
    split at hrt
    · rename_i hl1
      subst hl1
      split at hrt
      · rename_i hrty
        have hu : u.1 = some (.int x) := (Option.some.inj hrt).symm
        exact W.iret hx hb (hr.trans hrty) (fun t ht hW => ⟨by rw [hu]; rfl, by rw [ht]; exact hC.1, hC.2.1.F ht⟩) hC.2.1.2.2 hd
      · rename_i hrty
        split at hrt
        · rename_i hx01
          have hu : u.1 = some (.int x) := (Option.some.inj hrt).symm
          exact W.zret hx hb (hr.trans hrty) (by rcases hx01 with rfl | rfl <;> rfl) (fun t ht hW => ⟨by rw [hu]; rfl, by rw [ht]; exact hC.1, hC.2.1.F ht⟩) hC.2.1.2.2 hd
        · cases hrt
      · cases hrt
    · cases hrt
  · split at hrt
    · rename_i hl1
      obtain ⟨rfl, hrty⟩ := hl1
      have hu : u.1 = none := (Option.some.inj hrt).symm
      exact W.vret hx hb (hr.trans hrty) (fun t ht hW => ⟨by rw [hu]; rfl, by rw [ht]; exact hC.1, hC.2.1.F ht⟩) hC.2.1.2.2 hd
    · cases hrt
  · cases hrt
theorem am_sound {l : Launch} {D : va_G} {cI : ClassId} {b : Nat} {sa : Nat → Nat} {sv : am_V} : ∀ n : Nat, am_cast (l := l) (D := D) (cI := cI) (b := b) (sa := sa) (sv := sv) n := by
  intro n
  induction n with
  | zero =>
    intro mi M pc ls st h cu su u hM hr
    cases hr
  | succ n ih =>
    intro mi M pc ls st h cu su u hM hr p e s m args below meth c Q H locs cls h0 F hL hC hret
    obtain ⟨M', q, w, hM', hq, hs, hw⟩ := am_run_inv hr
    cases hM.symm.trans hM'
    obtain ⟨i, len⟩ := q
    obtain ⟨hx, hb, hml, hown, hts, hG, hin⟩ := id F
    rcases am_step_inv hs with ⟨q, h4, h5⟩ | ⟨v, h4, h5⟩ | ⟨hlen, ⟨q, h4, h5⟩ | ⟨s2, h4, h5⟩ | ⟨s2, h4, h5⟩ | ⟨q, h4, h5⟩ | ⟨q, h4, h5⟩⟩
    · subst h5
      rcases hw with ⟨z, hz, h1⟩ | ⟨v, hz, h1⟩ | ⟨z, Y, u1, hz, h1⟩
      · cases hz
        exact am_br_ok hx hb hq h4 (ih hM h1 F hL hC hret)
      · cases hz
      · cases hz
    · subst h5
      rcases hw with ⟨z, hz, h1⟩ | ⟨v2, hz, h1, h2, rfl⟩ | ⟨z, Y, u1, hz, h1⟩
      · cases hz
      · cases hz
        subst h1
        subst h2
        exact hret H locs cls pc i len st hq h4 hC
      · cases hz
    · subst h5
      simp only at hlen hq
      subst hlen
      rcases hw with ⟨z, hz, h1⟩ | ⟨v, hz, h1⟩ | ⟨z, Y, u1, hz, h1⟩
      · cases hz
        exact am_pu_ok hx hb hown hts hq hL h4 (fun cls' hL' => ih hM h1 F hL' hC hret)
      · cases hz
      · cases hz
    · subst h5
      simp only at hlen hq
      subst hlen
      rcases hw with ⟨z, hz, h1⟩ | ⟨v, hz, h1⟩ | ⟨z, Y, u1, hz, h1⟩
      · cases hz
        exact am_ai_ok hx hb hq h4 (ih hM h1 F hL hC hret)
      · cases hz
      · cases hz
    · subst h5
      simp only at hlen hq
      subst hlen
      rcases hw with ⟨z, hz, h1⟩ | ⟨v, hz, h1⟩ | ⟨z, Y, u1, hz, h1⟩
      · cases hz
        exact am_al_ok hx hb hq h4 (ih hM h1 F hL hC hret)
      · cases hz
      · cases hz
    · subst h5
      simp only at hlen hq
      subst hlen
      rcases hw with ⟨z, hz, h1⟩ | ⟨v, hz, h1⟩ | ⟨z, Y, u1, hz, h1⟩
      · cases hz
        exact am_hp_ok F hC hL.1 hq h4 (fun H' locs' hC' => ih hM h1 F hL hC' hret)
      · cases hz
      · cases hz
    · subst h5
      simp only at hlen hq
      subst hlen
      rcases hw with ⟨z, hz, h1⟩ | ⟨v, hz, h1⟩ | ⟨z, Y, u1, hz, hY, hc, h1, h2⟩
      · cases hz
      · cases hz
      · cases hz
        have hlen2 := am_run_len n h1 hY
        exact am_ca_ok F rfl hC hL.1 hq h4 hY hc.1 hc.2.2 (am_met_of ih hY hc.1 hc.2.1 h1) (by simp only [Nat.add_zero] at hlen2; exact hlen2) (fun H' locs' hC' => ih hM h2 F hL hC' hret)
end
section
/-! THE CLAIM OUT OF ONE WALK OF THE LAW'S BODY. Your part is whole_start (and what it stands on); all else here is the same for every law, but numbers. -/
def R_law : String := "CoinNotThereLaw"
def lw_P (b : Addr) (xs : List Int32) (args : Array Value) (s : State) : Prop := args = #[.ref b] ∧ s.IntsAt b xs ∧ xs.length ≤ 3072 ∧ (Jvm.Cond.and given_1 narrow_1).before args s = true
def lw_Q (_ : Array Value) (s : State) (o : Outcome) (t : State) : Prop := o = .returned (some (.int 1)) ∧ Framed s o t [] 90 1596
def lw_Z (below : List Frame) (a : Array Value) (s : State) : State → Prop := fun t => ∃ o, t.status = .running ∧ Ended t below o ∧ lw_Q a s o t
/-- the law's own end, with 1 on the stack, nothing written that was there before, its room as the claim has it -/
theorem lw_ret {p : Program} {l : Launch} {e : Env} {s : State} {m : MethodId} {below : List Frame} {meth : Method} {c : Code} {b : Nat} (hx : p.tables.exec = Jvm.exec) (hb : c.code = code) (hr : meth.sig.returnType = ret) (hlocks : meth.locks = false) {pc : Nat} {H : Heap} {ls : Array Slot} (hdg : decode code pc = .ok (.ireturn, 1)) : W p l e room_1 s m #[Value.ref b] below meth c H [] 90 1596 (lw_Z below #[Value.ref b] s) (F0 m pc ls [.int 1]) := by
  intro T hT X
  obtain ⟨fs, hret, hrun, hended, hW, hframe⟩ := X.leave (v := some (.int 1)) (hlocks := hlocks) (fun h => by rw [hr] at h; cases h)
  have hmeth' : T.vm.method? m = some meth := X.method'
  refine ⟨T.setFrames fs, ?_, .returned (some (.int 1)), hrun, hended, rfl, ⟨_, rfl⟩, hW, hframe⟩
  jvm_step X.here [X.here.top, hx, hb, hdg, hmeth', hr, ret, narrow_b1]
  (try refine ⟨rfl, ?_⟩); (try refine ⟨rfl, ?_⟩)
  first | (intro acts; rw [hret _ acts rfl rfl rfl]) | rw [hret _ _ rfl rfl rfl]
  exact Steps.refl _
/-- what holds at the law's entry: the machine, the code, the tables' words (any of lw_tbl by 'hts w (by decide +kernel)'), the script of L ints xs at the cell b, what the Statement gives of the start (any of its parts by flat_of_before) -/
def lw_At (p : Program) (s : State) (m : MethodId) (meth : Method) (c : Code) (b L : Nat) (xs : Nat → Int32) : Prop :=
  p.tables.exec = Jvm.exec ∧ c.code = code ∧ meth.sig.returnType = ret ∧ c.maxLocals = 4 ∧ s.vm.findClass R_law = some m.cls ∧ (∀ w ∈ lw_tbl, w.before #[Value.ref b] s = true) ∧ va_X b L xs s s.heap ∧ b < s.heap.size ∧ meth.locks = false ∧ (Jvm.Cond.and given_1 narrow_1).before #[Value.ref b] s = true
/-! THE LAW's START, OUT OF A RUN -/
/-- the static arrays: 0 GREATEST_LAW, 1 LETTER_OF_KIND, 2 the script -/
def am_sv (L : Nat) (xs : Nat → Int32) : am_V := fun t => match t with
  | 0 => (5, fun j => if j = 4 then 10 else 9)
  | 1 => (4, fun j => match j with
    | 0 => 112
    | 1 => 119
    | 2 => 99
    | _ => 120)
  | _ => (L, xs)
theorem am_cases5 {P : Nat → Prop} (h0 : P 0) (h1 : P 1) (h2 : P 2) (h3 : P 3) (h4 : P 4) : ∀ j, j < 5 → P j := by
  intro j hj
  match j, hj with
  | 0, _ => exact h0
  | 1, _ => exact h1
  | 2, _ => exact h2
  | 3, _ => exact h3
  | 4, _ => exact h4
theorem am_cases4 {P : Nat → Prop} (h0 : P 0) (h1 : P 1) (h2 : P 2) (h3 : P 3) : ∀ j, j < 4 → P j := by
  intro j hj
  match j, hj with
  | 0, _ => exact h0
  | 1, _ => exact h1
  | 2, _ => exact h2
  | 3, _ => exact h3
set_option maxRecDepth 100000 in
theorem am_stat : lw_tbl[304]? = some (.laysStatic "CoinNotThere" "GREATEST_LAW" "[I") ∧ lw_tbl[425]? = some (.laysStatic "CoinNotThere" "LETTER_OF_KIND" "[C") ∧ lw_tbl[31]? = some (.initialized "CoinNotThere") := by decide +kernel
set_option maxRecDepth 100000 in
set_option maxHeartbeats 4000000 in
theorem am_start {p : Program} {e : Env} {s : State} {m : MethodId} {below : List Frame} {meth : Method} {c : Code} (l : Launch) {b L : Nat} {xs : Nat → Int32} (C0 : lw_At p s m meth c b L xs) (hrun : ∃ n h', am_run (am_sv L xs) n 170 0 [.float 2, .null, .null, .null] [] [] 0 0 = some (some (.int 1), h')) : W p l e room_1 s m #[Value.ref b] below meth c s.heap [] 0 0 (lw_Z below #[Value.ref b] s) (entryFrame m ([Value.ref b] : List Value).toArray 4) := by
  obtain ⟨hx, hb, hr, hml, hown, hts, hX, hbl, hlocks, hgv⟩ := id C0
  obtain ⟨n, h', hrun⟩ := hrun
  have hts2 : ∀ w ∈ am_TB, w.before #[Value.ref b] s = true := fun w hw => hts w (List.mem_filter.mp hw).1
  have hgs := flat_of_before _ hgv
  -- classes
  have hcls : ∀ k : Nat, ∃ (cC : ClassId) (iS : Nat → Nat), ∀ q : vw_C, vwCl[k]? = some q → u_Kn s q.1 q.2.1 q.2.2 cC iS := by
    intro k
    cases hk : vwCl[k]? with
    | none => exact ⟨0, fun _ => 0, fun q hq => by cases hq⟩
    | some q =>
      obtain ⟨i, hi⟩ : ∃ n, (Cond.instantiable q.1 n).before #[Value.ref b] s = true := by
        have hall : vwCl.all (fun r => am_cns.any (fun z => decide (lw_tbl[z.2.2.2.2.1]? = some (.instantiable r.1 r.2.2)))) = true := by decide +kernel
        have h1 := List.all_eq_true.mp hall q (List.mem_of_getElem? hk)
        obtain ⟨z, -, h2⟩ := List.any_eq_true.mp h1
        exact ⟨_, hts _ (List.mem_of_getElem? (of_decide_eq_true h2))⟩
      obtain ⟨cC, iS, h⟩ := u_known (C := q.1) (T := q.2.1) (N := q.2.2) hts2 (am_lay hk) hi
      exact ⟨cC, iS, fun q' hq' => by cases hq'; exact h⟩
  have hch := fun k => Classical.choose_spec (hcls k)
  have hD : ∃ D : va_G, ∀ (k : Nat) (q : vw_C), vwCl[k]? = some q → u_Kn s q.1 q.2.1 q.2.2 (D.1 k) (D.2 k) := ⟨(fun k => Classical.choose (hcls k), fun k => Classical.choose (hch k)), fun k q hq => Classical.choose_spec (hch k) q hq⟩
  obtain ⟨D, hD⟩ := hD
  -- the array class
  obtain ⟨cI, kA, comp, a1, a2, a3⟩ := Cond.arrayClass_spec (hts2 _ am_jdkT.2.2.2.2.2.2.2.1)
  have hKK : va_K D vwCl [(cI, .int)] s := by
    refine ⟨hD, fun k q hk => ?_⟩
    have hz : k < 1 := (List.getElem?_eq_some_iff.mp hk).1
    rw [show k = 0 by omega] at hk
    cases hk
    exact ⟨fun n z => ⟨fun k h => (by cases h), kA, a2, comp, a3⟩, a1⟩
  have hA : ∀ a : Nat, a < s.heap.size → ¬ am_A s.heap.size a := fun a h q => Nat.not_le.mpr h q
  -- the static arrays
  obtain ⟨t0, ht0, hT0⟩ := va_Tof (args := #[Value.ref b]) (s := s) (tm := .static "CoinNotThere" "GREATEST_LAW" "[I") (ty := .int) (N := 5) (f := fun j => .int (((am_sv L xs) 0).2 j)) (A := am_A s.heap.size) (by decide) (hgs _ (by decide +kernel)) (va_eqt (z := 5) (hgs _ (by decide +kernel)))
    (am_cases5 (va_eqt (z := 9) (hgs _ (by decide +kernel))) (va_eqt (z := 9) (hgs _ (by decide +kernel))) (va_eqt (z := 9) (hgs _ (by decide +kernel))) (va_eqt (z := 9) (hgs _ (by decide +kernel))) (va_eqt (z := 10) (hgs _ (by decide +kernel)))) hA
  obtain ⟨t1, ht1, hT1⟩ := va_Tof (args := #[Value.ref b]) (s := s) (tm := .static "CoinNotThere" "LETTER_OF_KIND" "[C") (ty := .char) (N := 4) (f := fun j => .int (((am_sv L xs) 1).2 j)) (A := am_A s.heap.size) (by decide) (hgs _ (by decide +kernel)) (va_eqt (z := 4) (hgs _ (by decide +kernel)))
    (am_cases4 (va_eqt (z := 112) (hgs _ (by decide +kernel))) (va_eqt (z := 119) (hgs _ (by decide +kernel))) (va_eqt (z := 99) (hgs _ (by decide +kernel))) (va_eqt (z := 120) (hgs _ (by decide +kernel)))) hA
  have hZ0 := va_Zref (A := am_A s.heap.size) (hts _ (List.mem_of_getElem? am_stat.1)) (hts _ (List.mem_of_getElem? am_stat.2.2)) ht0 hA
  have hZ1 := va_Zref (A := am_A s.heap.size) (hts _ (List.mem_of_getElem? am_stat.2.1)) (hts _ (List.mem_of_getElem? am_stat.2.2)) ht1 hA
  have hT2 : va_T .int b L (fun j => .int (xs j)) (am_A s.heap.size) s s.heap := by
    obtain ⟨scr, h1, h2, h3, h4, h5⟩ := hX
    exact ⟨scr, h1, h2, h3, by omega, by rw [h4], h5, hA b hbl⟩
  have hG : am_G D cI s.heap.size (fun t => match t with
    | 0 => t0
    | 1 => t1
    | _ => b) (am_sv L xs) s s.heap := by
    refine ⟨hKK, fun t ht => ?_, hT0, hT1, hT2, fun w hw => va_Nw.of (am_isN_on (List.mem_filter.mp hw).2) (hts w (List.mem_filter.mp hw).1)⟩
    match t, ht with
    | 0, _ => exact hZ0
    | 1, _ => exact hZ1
  have hM : am_ms[170]? = some am_m170 := rfl
  rw [lg_entry_eq]
  refine am_sound (l := l) (D := D) (cI := cI) (b := s.heap.size) (sa := fun t => match t with
    | 0 => t0
    | 1 => t1
    | _ => b) n hM hrun (h0 := 0) ⟨hx, hb, hml, hown, hts2, hG, fun h => by cases h⟩ ?_ ⟨fun k q hk => by simp [am_ws] at hk, va_S.rf, rfl, rfl⟩ ?_
  · have h1 := am_ini_L (n := 4) (b := s.heap.size) (sa := fun t => match t with
      | 0 => t0
      | 1 => t1
      | _ => b) (as := [.float 2]) (by decide)
    exact h1
  · intro H' locs' cls' pc' i len st' hd hrt hC
    refine va_forget (fun q hq => hC.2.1.2.2 q hq) ?_
    unfold am_rt at hrt
    split at hrt
    · rename_i x
      split at hrt
      · rename_i hl1
        subst hl1
        change (if x = 0 ∨ x = 1 then some (some (Value.int x)) else none) = some (some (Value.int 1)) at hrt
        split at hrt
        · have hu := Option.some.inj (Option.some.inj hrt)
          cases hu
          exact lw_ret hx hb hr hlocks hd
        · cases hrt
      · cases hrt
    · split at hrt
      · cases hrt
      · cases hrt
    · cases hrt
end
section
/-! WHAT A RUN COMES TO: AW, as equations, an instruction a row -/
def AW (sv : am_V) (mi pc : Nat) (ls st : List Value) (h : am_H) (cu su : Nat) (Q : Option Value → am_H → Prop) : Prop := ∃ n u, am_run sv n mi pc ls st h cu su = some u ∧ Q u.1 u.2
def am_mx (mi : Nat) : Nat := ((am_ms[mi]?).map (fun M => M.2.2.2.1)).getD 0
def AM (sv : am_V) (mi : Nat) (as : List Value) (h : am_H) (Q : Option Value → am_H → Prop) : Prop := AW sv mi 0 (am_ini (am_mx mi) as) [] h 0 0 Q
theorem am_run_next {sv : am_V} {n mi pc : Nat} {ls st : List Value} {h : am_H} {cu su : Nat} {M : am_M} {i : Instr} {len : Nat} {z : Nat × List Value × List Value × am_H × Nat × Nat} (hM : am_ms[mi]? = some M) (hd : decode M.2.2.1 pc = .ok (i, len)) (hs : am_step sv M pc i len ls st h cu su = some (.inl z)) : am_run sv (n + 1) mi pc ls st h cu su = am_run sv n mi z.1 z.2.1 z.2.2.1 z.2.2.2.1 z.2.2.2.2.1 z.2.2.2.2.2 := by
  rw [am_run]
  simp only [hM, hd, hs]
theorem am_run_ret {sv : am_V} {n mi pc : Nat} {ls st : List Value} {h : am_H} {cu su : Nat} {M : am_M} {i : Instr} {len : Nat} {v : Option Value} (hM : am_ms[mi]? = some M) (hd : decode M.2.2.1 pc = .ok (i, len)) (hs : am_step sv M pc i len ls st h cu su = some (.inr (.inl v))) (hc : cu = M.2.2.2.2.2.2.2.cells ∧ su = M.2.2.2.2.2.2.2.slots) : am_run sv (n + 1) mi pc ls st h cu su = some (v, h) := by
  rw [am_run]
  simp only [hM, hd, hs]
  rw [if_pos hc]
theorem am_run_call {sv : am_V} {n mi pc : Nat} {ls st : List Value} {h : am_H} {cu su : Nat} {M Y : am_M} {i : Instr} {len : Nat} {z : Nat × List Value × List Value} (hM : am_ms[mi]? = some M) (hd : decode M.2.2.1 pc = .ok (i, len)) (hs : am_step sv M pc i len ls st h cu su = some (.inr (.inr z))) (hY : am_ms[z.1]? = some Y) (hc : z.1 < 170 ∧ (am_sl z.2.1).length ≤ Y.2.2.2.1 ∧ am_rc M Y z.2.2 cu su = true) : am_run sv (n + 1) mi pc ls st h cu su = (match am_run sv n z.1 0 (am_ini Y.2.2.2.1 z.2.1) [] h 0 0 with
    | none => none
    | some u => am_run sv n mi (pc + 3) ls (u.1.toList ++ z.2.2) u.2 (cu + Y.2.2.2.2.2.2.2.cells) (su + Y.2.2.2.2.2.2.2.slots)) := by
  rw [am_run]
  simp only [hM, hd, hs, hY]
  rw [if_pos hc]
  cases am_run sv n z.1 0 (am_ini Y.2.2.2.1 z.2.1) [] h 0 0 <;> rfl
theorem am_mono {sv : am_V} : ∀ (n : Nat) {mi pc : Nat} {ls st : List Value} {h : am_H} {cu su : Nat} {u : Option Value × am_H}, am_run sv n mi pc ls st h cu su = some u → am_run sv (n + 1) mi pc ls st h cu su = some u := by
  intro n
  induction n with
  | zero => intro mi pc ls st h cu su u hr; cases hr
  | succ n ih =>
    intro mi pc ls st h cu su u hr
    obtain ⟨M, q, w, hM, hq, hs, hw⟩ := am_run_inv hr
    rcases hw with ⟨z, rfl, h1⟩ | ⟨v, rfl, h1, h2, rfl⟩ | ⟨z, Y, u1, rfl, hY, hc, h1, h2⟩
    · rw [am_run_next hM hq hs]; exact ih h1
    · exact am_run_ret hM hq hs ⟨h1, h2⟩
    · rw [am_run_call hM hq hs hY hc, ih h1]; exact ih h2
theorem am_mono_le {sv : am_V} {n k mi pc : Nat} {ls st : List Value} {h : am_H} {cu su : Nat} {u : Option Value × am_H} (hr : am_run sv n mi pc ls st h cu su = some u) (hk : n ≤ k) : am_run sv k mi pc ls st h cu su = some u := by
  induction k with
  | zero =>
    have : n = 0 := by omega
    subst this; exact hr
  | succ k ih =>
    by_cases h1 : n ≤ k
    · exact am_mono k (ih h1)
    · have : n = k + 1 := by omega
      subst this; exact hr
section AWE
variable {sv : am_V} {mi pc : Nat} {ls st r : List Value} {h : am_H} {cu su : Nat} {Q : Option Value → am_H → Prop} {M : am_M}
theorem AW_next {i : Instr} {len : Nat} {z : Nat × List Value × List Value × am_H × Nat × Nat} (hM : am_ms[mi]? = some M) (hd : decode M.2.2.1 pc = .ok (i, len)) (hs : am_step sv M pc i len ls st h cu su = some (.inl z)) : AW sv mi pc ls st h cu su Q = AW sv mi z.1 z.2.1 z.2.2.1 z.2.2.2.1 z.2.2.2.2.1 z.2.2.2.2.2 Q := by
  apply propext
  constructor
  · rintro ⟨n, u, h1, h2⟩
    cases n with
    | zero => cases h1
    | succ n => rw [am_run_next hM hd hs] at h1; exact ⟨n, u, h1, h2⟩
  · rintro ⟨n, u, h1, h2⟩
    exact ⟨n + 1, u, by rw [am_run_next hM hd hs]; exact h1, h2⟩
theorem AW_ret {i : Instr} {len : Nat} {v : Option Value} (hM : am_ms[mi]? = some M) (hd : decode M.2.2.1 pc = .ok (i, len)) (hs : am_step sv M pc i len ls st h cu su = some (.inr (.inl v))) (hc : cu = M.2.2.2.2.2.2.2.cells ∧ su = M.2.2.2.2.2.2.2.slots) : AW sv mi pc ls st h cu su Q = Q v h := by
  apply propext
  constructor
  · rintro ⟨n, u, h1, h2⟩
    cases n with
    | zero => cases h1
    | succ n => rw [am_run_ret hM hd hs hc] at h1; cases h1; exact h2
  · intro h2
    exact ⟨1, (v, h), am_run_ret hM hd hs hc, h2⟩
theorem AW_call {i : Instr} {len : Nat} {z : Nat × List Value × List Value} {Y : am_M} (hM : am_ms[mi]? = some M) (hd : decode M.2.2.1 pc = .ok (i, len)) (hs : am_step sv M pc i len ls st h cu su = some (.inr (.inr z))) (hY : am_ms[z.1]? = some Y) (hc : z.1 < 170 ∧ (am_sl z.2.1).length ≤ Y.2.2.2.1 ∧ am_rc M Y z.2.2 cu su = true) : AW sv mi pc ls st h cu su Q = AM sv z.1 z.2.1 h (fun v h1 => AW sv mi (pc + 3) ls (v.toList ++ z.2.2) h1 (cu + Y.2.2.2.2.2.2.2.cells) (su + Y.2.2.2.2.2.2.2.slots) Q) := by
  have hx : am_mx z.1 = Y.2.2.2.1 := by unfold am_mx; rw [hY]; rfl
  unfold AM
  rw [hx]
  apply propext
  constructor
  · rintro ⟨n, u, h1, h2⟩
    cases n with
    | zero => cases h1
    | succ n =>
      rw [am_run_call hM hd hs hY hc] at h1
      split at h1
      · cases h1
      · rename_i u1 hu
        exact ⟨n, u1, hu, n, u, h1, h2⟩
  · rintro ⟨n, u1, h1, k, u, h3, h2⟩
    refine ⟨max n k + 1, u, ?_, h2⟩
    rw [am_run_call hM hd hs hY hc, am_mono_le h1 (Nat.le_max_left n k)]
    exact am_mono_le h3 (Nat.le_max_right n k)
/-- what a method answers is one thing: a contract is an equation -/
theorem AW_fun {v : Option Value} {h' : am_H} (hf : AW sv mi pc ls st h cu su (fun a b => a = v ∧ b = h')) : AW sv mi pc ls st h cu su Q = Q v h' := by
  obtain ⟨n, u, h1, rfl, rfl⟩ := hf
  apply propext
  constructor
  · rintro ⟨k, w, h2, h3⟩
    have e1 := am_mono_le h1 (Nat.le_max_left n k)
    have e2 := am_mono_le h2 (Nat.le_max_right n k)
    cases e1.symm.trans e2
    exact h3
  · intro h2
    exact ⟨n, u, h1, h2⟩
theorem AW_mono {Q' : Option Value → am_H → Prop} (hf : AW sv mi pc ls st h cu su Q') (hq : ∀ v h', Q' v h' → Q v h') : AW sv mi pc ls st h cu su Q := by
  obtain ⟨n, u, h1, h2⟩ := hf
  exact ⟨n, u, h1, hq _ _ h2⟩
theorem AW_nx {i : Instr} {len : Nat} {pc' : Nat} {ls' st' : List Value} {h' : am_H} {cu' su' : Nat} (hM : am_ms[mi]? = some M) (hd : decode M.2.2.1 pc = .ok (i, len)) (hs : am_step sv M pc i len ls st h cu su = some (.inl (pc', ls', st', h', cu', su'))) : AW sv mi pc ls st h cu su Q = AW sv mi pc' ls' st' h' cu' su' Q := AW_next hM hd hs
/-! instructions -/
theorem e_iconst {k : Int} (hM : am_ms[mi]? = some M) (hd : decode M.2.2.1 pc = .ok (.iconst k, 1)) : AW sv mi pc ls st h cu su Q = AW sv mi (pc + 1) ls (.int (Int32.ofInt k) :: st) h cu su Q := AW_nx hM hd rfl
theorem e_bipush {k : Int} (hM : am_ms[mi]? = some M) (hd : decode M.2.2.1 pc = .ok (.bipush k, 2)) : AW sv mi pc ls st h cu su Q = AW sv mi (pc + 2) ls (.int ((Int8.ofInt k).toInt32) :: st) h cu su Q := AW_nx hM hd rfl
theorem e_sipush {k : Int} (hM : am_ms[mi]? = some M) (hd : decode M.2.2.1 pc = .ok (.sipush k, 3)) : AW sv mi pc ls st h cu su Q = AW sv mi (pc + 3) ls (.int ((Int16.ofInt k).toInt32) :: st) h cu su Q := AW_nx hM hd rfl
theorem e_lconst {k : Fin 2} (hM : am_ms[mi]? = some M) (hd : decode M.2.2.1 pc = .ok (.lconst k, 1)) : AW sv mi pc ls st h cu su Q = AW sv mi (pc + 1) ls (.long (Int64.ofNat (k : Nat)) :: st) h cu su Q := AW_nx hM hd rfl
theorem e_ldc {k : Nat} {v : Int32} (hM : am_ms[mi]? = some M) (hd : decode M.2.2.1 pc = .ok (.ldc k, 2)) (hc : am_ci M.1 k = some v) : AW sv mi pc ls st h cu su Q = AW sv mi (pc + 2) ls (.int v :: st) h cu su Q := AW_nx hM hd (by simp [am_step, am_br, am_rt, am_len, am_pu, hc])
theorem e_ldc2 {k : Nat} {v : Int64} (hM : am_ms[mi]? = some M) (hd : decode M.2.2.1 pc = .ok (.ldc2_w k, 3)) (hc : am_cl M.1 k = some v) : AW sv mi pc ls st h cu su Q = AW sv mi (pc + 3) ls (.long v :: st) h cu su Q := AW_nx hM hd (by simp [am_step, am_br, am_rt, am_len, am_pu, hc])
theorem e_pu {i : Instr} {q : List Value × List Value} {len : Nat} (hM : am_ms[mi]? = some M) (hd : decode M.2.2.1 pc = .ok (i, len)) (hb : am_br i pc len st = none) (hr : am_rt M.2.2.2.2.1 i len st = none) (hl : len = am_len i) (hp : am_pu M.1 i ls st = some q) : AW sv mi pc ls st h cu su Q = AW sv mi (pc + len) q.1 q.2 h cu su Q := AW_nx hM hd (by
  unfold am_step
  rw [hb, hr]
  simp only
  rw [if_pos hl, hp])
theorem e_hp {i : Instr} {q : List Value × am_H × Nat × Nat} {len : Nat} (hM : am_ms[mi]? = some M) (hd : decode M.2.2.1 pc = .ok (i, len)) (hb : am_br i pc len st = none) (hr : am_rt M.2.2.2.2.1 i len st = none) (hl : len = am_len i) (hp : am_pu M.1 i ls st = none) (hai : am_ai i st = none) (hal : am_al i st = none) (hh : am_hp sv M.1 M.2.2.2.2.2.1 M.2.2.2.2.2.2.2 i st h cu su = some q) : AW sv mi pc ls st h cu su Q = AW sv mi (pc + len) ls q.1 q.2.1 q.2.2.1 q.2.2.2 Q := AW_nx hM hd (by
  unfold am_step
  rw [hb, hr]
  simp only
  rw [if_pos hl, hp, hai, hal, hh])
theorem e_iadd {x y : Int32} (hM : am_ms[mi]? = some M) (hd : decode M.2.2.1 pc = .ok (.iadd, 1)) : AW sv mi pc ls (.int y :: .int x :: r) h cu su Q = AW sv mi (pc + 1) ls (.int (x + y) :: r) h cu su Q := AW_nx hM hd rfl
theorem e_isub {x y : Int32} (hM : am_ms[mi]? = some M) (hd : decode M.2.2.1 pc = .ok (.isub, 1)) : AW sv mi pc ls (.int y :: .int x :: r) h cu su Q = AW sv mi (pc + 1) ls (.int (x - y) :: r) h cu su Q := AW_nx hM hd rfl
theorem e_imul {x y : Int32} (hM : am_ms[mi]? = some M) (hd : decode M.2.2.1 pc = .ok (.imul, 1)) : AW sv mi pc ls (.int y :: .int x :: r) h cu su Q = AW sv mi (pc + 1) ls (.int (x * y) :: r) h cu su Q := AW_nx hM hd rfl
theorem e_idiv {x y : Int32} (hM : am_ms[mi]? = some M) (hd : decode M.2.2.1 pc = .ok (.idiv, 1)) (hy : ¬ y = 0) : AW sv mi pc ls (.int y :: .int x :: r) h cu su Q = AW sv mi (pc + 1) ls (.int (x / y) :: r) h cu su Q := AW_nx hM hd (by simp [am_step, am_br, am_rt, am_len, am_pu, am_ai, hy])
theorem e_irem {x y : Int32} (hM : am_ms[mi]? = some M) (hd : decode M.2.2.1 pc = .ok (.irem, 1)) (hy : ¬ y = 0) : AW sv mi pc ls (.int y :: .int x :: r) h cu su Q = AW sv mi (pc + 1) ls (.int (x - x / y * y) :: r) h cu su Q := AW_nx hM hd (by simp [am_step, am_br, am_rt, am_len, am_pu, am_ai, hy])
theorem e_iand {x y : Int32} (hM : am_ms[mi]? = some M) (hd : decode M.2.2.1 pc = .ok (.iand, 1)) : AW sv mi pc ls (.int y :: .int x :: r) h cu su Q = AW sv mi (pc + 1) ls (.int (x &&& y) :: r) h cu su Q := AW_nx hM hd rfl
theorem e_ior {x y : Int32} (hM : am_ms[mi]? = some M) (hd : decode M.2.2.1 pc = .ok (.ior, 1)) : AW sv mi pc ls (.int y :: .int x :: r) h cu su Q = AW sv mi (pc + 1) ls (.int (x ||| y) :: r) h cu su Q := AW_nx hM hd rfl
theorem e_ixor {x y : Int32} (hM : am_ms[mi]? = some M) (hd : decode M.2.2.1 pc = .ok (.ixor, 1)) : AW sv mi pc ls (.int y :: .int x :: r) h cu su Q = AW sv mi (pc + 1) ls (.int (x ^^^ y) :: r) h cu su Q := AW_nx hM hd rfl
theorem e_ishl {x y : Int32} (hM : am_ms[mi]? = some M) (hd : decode M.2.2.1 pc = .ok (.ishl, 1)) : AW sv mi pc ls (.int y :: .int x :: r) h cu su Q = AW sv mi (pc + 1) ls (.int (x <<< (y &&& 31)) :: r) h cu su Q := AW_nx hM hd rfl
theorem e_ishr {x y : Int32} (hM : am_ms[mi]? = some M) (hd : decode M.2.2.1 pc = .ok (.ishr, 1)) : AW sv mi pc ls (.int y :: .int x :: r) h cu su Q = AW sv mi (pc + 1) ls (.int (x >>> (y &&& 31)) :: r) h cu su Q := AW_nx hM hd rfl
theorem e_ineg {x : Int32} (hM : am_ms[mi]? = some M) (hd : decode M.2.2.1 pc = .ok (.ineg, 1)) : AW sv mi pc ls (.int x :: r) h cu su Q = AW sv mi (pc + 1) ls (.int (-x) :: r) h cu su Q := AW_nx hM hd rfl
theorem e_i2l {x : Int32} (hM : am_ms[mi]? = some M) (hd : decode M.2.2.1 pc = .ok (.i2l, 1)) : AW sv mi pc ls (.int x :: r) h cu su Q = AW sv mi (pc + 1) ls (.long x.toInt64 :: r) h cu su Q := AW_nx hM hd rfl
theorem e_i2b {x : Int32} (hM : am_ms[mi]? = some M) (hd : decode M.2.2.1 pc = .ok (.i2b, 1)) : AW sv mi pc ls (.int x :: r) h cu su Q = AW sv mi (pc + 1) ls (.int x.toInt8.toInt32 :: r) h cu su Q := AW_nx hM hd rfl
theorem e_i2s {x : Int32} (hM : am_ms[mi]? = some M) (hd : decode M.2.2.1 pc = .ok (.i2s, 1)) : AW sv mi pc ls (.int x :: r) h cu su Q = AW sv mi (pc + 1) ls (.int x.toInt16.toInt32 :: r) h cu su Q := AW_nx hM hd rfl
theorem e_ladd {x y : Int64} (hM : am_ms[mi]? = some M) (hd : decode M.2.2.1 pc = .ok (.ladd, 1)) : AW sv mi pc ls (.long y :: .long x :: r) h cu su Q = AW sv mi (pc + 1) ls (.long (x + y) :: r) h cu su Q := AW_nx hM hd rfl
theorem e_lsub {x y : Int64} (hM : am_ms[mi]? = some M) (hd : decode M.2.2.1 pc = .ok (.lsub, 1)) : AW sv mi pc ls (.long y :: .long x :: r) h cu su Q = AW sv mi (pc + 1) ls (.long (x - y) :: r) h cu su Q := AW_nx hM hd rfl
theorem e_lmul {x y : Int64} (hM : am_ms[mi]? = some M) (hd : decode M.2.2.1 pc = .ok (.lmul, 1)) : AW sv mi pc ls (.long y :: .long x :: r) h cu su Q = AW sv mi (pc + 1) ls (.long (x * y) :: r) h cu su Q := AW_nx hM hd rfl
theorem e_ldiv {x y : Int64} (hM : am_ms[mi]? = some M) (hd : decode M.2.2.1 pc = .ok (.ldiv, 1)) (hy : ¬ y = 0) : AW sv mi pc ls (.long y :: .long x :: r) h cu su Q = AW sv mi (pc + 1) ls (.long (x / y) :: r) h cu su Q := AW_nx hM hd (by simp [am_step, am_br, am_rt, am_len, am_pu, am_ai, am_al, hy])
theorem e_lrem {x y : Int64} (hM : am_ms[mi]? = some M) (hd : decode M.2.2.1 pc = .ok (.lrem, 1)) (hy : ¬ y = 0) : AW sv mi pc ls (.long y :: .long x :: r) h cu su Q = AW sv mi (pc + 1) ls (.long (x - x / y * y) :: r) h cu su Q := AW_nx hM hd (by simp [am_step, am_br, am_rt, am_len, am_pu, am_ai, am_al, hy])
theorem e_land {x y : Int64} (hM : am_ms[mi]? = some M) (hd : decode M.2.2.1 pc = .ok (.land, 1)) : AW sv mi pc ls (.long y :: .long x :: r) h cu su Q = AW sv mi (pc + 1) ls (.long (x &&& y) :: r) h cu su Q := AW_nx hM hd rfl
theorem e_lor {x y : Int64} (hM : am_ms[mi]? = some M) (hd : decode M.2.2.1 pc = .ok (.lor, 1)) : AW sv mi pc ls (.long y :: .long x :: r) h cu su Q = AW sv mi (pc + 1) ls (.long (x ||| y) :: r) h cu su Q := AW_nx hM hd rfl
theorem e_lshl {x : Int64} {y : Int32} (hM : am_ms[mi]? = some M) (hd : decode M.2.2.1 pc = .ok (.lshl, 1)) : AW sv mi pc ls (.int y :: .long x :: r) h cu su Q = AW sv mi (pc + 1) ls (.long (x <<< (y.toInt64 &&& 63)) :: r) h cu su Q := AW_nx hM hd rfl
theorem e_lshr {x : Int64} {y : Int32} (hM : am_ms[mi]? = some M) (hd : decode M.2.2.1 pc = .ok (.lshr, 1)) : AW sv mi pc ls (.int y :: .long x :: r) h cu su Q = AW sv mi (pc + 1) ls (.long (x >>> (y.toInt64 &&& 63)) :: r) h cu su Q := AW_nx hM hd rfl
theorem e_lcmp {x y : Int64} (hM : am_ms[mi]? = some M) (hd : decode M.2.2.1 pc = .ok (.lcmp, 1)) : AW sv mi pc ls (.long y :: .long x :: r) h cu su Q = AW sv mi (pc + 1) ls (.int (lg_cmp x y) :: r) h cu su Q := AW_nx hM hd rfl
theorem e_l2i {x : Int64} (hM : am_ms[mi]? = some M) (hd : decode M.2.2.1 pc = .ok (.l2i, 1)) : AW sv mi pc ls (.long x :: r) h cu su Q = AW sv mi (pc + 1) ls (.int x.toInt32 :: r) h cu su Q := AW_nx hM hd rfl
theorem e_dup {v : Value} (hM : am_ms[mi]? = some M) (hd : decode M.2.2.1 pc = .ok (.dup, 1)) (hv : v.category = 1) : AW sv mi pc ls (v :: r) h cu su Q = AW sv mi (pc + 1) ls (v :: v :: r) h cu su Q := AW_nx hM hd (by simp [am_step, am_br, am_rt, am_len, am_pu, am_ai, am_al, hv])
theorem e_pop {v : Value} (hM : am_ms[mi]? = some M) (hd : decode M.2.2.1 pc = .ok (.pop, 1)) (hv : v.category = 1) : AW sv mi pc ls (v :: r) h cu su Q = AW sv mi (pc + 1) ls r h cu su Q := AW_nx hM hd (by simp [am_step, am_br, am_rt, am_len, am_pu, am_ai, am_al, hv])
theorem e_dup2 {v w : Value} (hM : am_ms[mi]? = some M) (hd : decode M.2.2.1 pc = .ok (.dup2, 1)) (hv : v.category = 1) (hw : w.category = 1) : AW sv mi pc ls (v :: w :: r) h cu su Q = AW sv mi (pc + 1) ls (v :: w :: v :: w :: r) h cu su Q := AW_nx hM hd (by simp [am_step, am_br, am_rt, am_len, am_pu, am_ai, am_al, hv, hw])
theorem e_goto {off : Int} {t : Nat} (hM : am_ms[mi]? = some M) (hd : decode M.2.2.1 pc = .ok (.goto off, 3)) (ht : (pc : Int) + off = (t : Int)) : AW sv mi pc ls st h cu su Q = AW sv mi t ls st h cu su Q := AW_nx hM hd (by
  simp [am_step, am_br, am_if, ht])
theorem e_ifz {cd : ClassFile.Cond} {off : Int} {x : Int32} {t : Nat} (hM : am_ms[mi]? = some M) (hd : decode M.2.2.1 pc = .ok (.ifCond cd off, 3)) (ht : (pc : Int) + off = (t : Int)) : AW sv mi pc ls (.int x :: r) h cu su Q = if am_z cd x 0 = true then AW sv mi t ls r h cu su Q else AW sv mi (pc + 3) ls r h cu su Q := by
  rw [AW_nx (pc' := if am_z cd x 0 then t else pc + 3) (ls' := ls) (st' := r) (h' := h) (cu' := cu) (su' := su) hM hd (by simp [am_step, am_br, am_if, ht])]
  split <;> rfl
theorem e_ifc {cd : ClassFile.Cond} {off : Int} {x y : Int32} {t : Nat} (hM : am_ms[mi]? = some M) (hd : decode M.2.2.1 pc = .ok (.if_icmp cd off, 3)) (ht : (pc : Int) + off = (t : Int)) : AW sv mi pc ls (.int y :: .int x :: r) h cu su Q = if am_z cd x y = true then AW sv mi t ls r h cu su Q else AW sv mi (pc + 3) ls r h cu su Q := by
  rw [AW_nx (pc' := if am_z cd x y then t else pc + 3) (ls' := ls) (st' := r) (h' := h) (cu' := cu) (su' := su) hM hd (by simp [am_step, am_br, am_if, ht])]
  split <;> rfl
theorem am_z_eq {x y : Int32} : (am_z .eq x y = true) = (x = y) := by simp [am_z]
theorem am_z_ne {x y : Int32} : (am_z .ne x y = true) = (¬ x = y) := by simp [am_z]
theorem am_z_lt {x y : Int32} : (am_z .lt x y = true) = (x < y) := by simp [am_z]
theorem am_z_ge {x y : Int32} : (am_z .ge x y = true) = (y ≤ x) := by simp [am_z]
theorem am_z_gt {x y : Int32} : (am_z .gt x y = true) = (y < x) := by simp [am_z]
theorem am_z_le {x y : Int32} : (am_z .le x y = true) = (x ≤ y) := by simp [am_z]
theorem e_iret {x : Int32} (hM : am_ms[mi]? = some M) (hd : decode M.2.2.1 pc = .ok (.ireturn, 1)) (hr : M.2.2.2.2.1 = some .int) (hc : cu = M.2.2.2.2.2.2.2.cells ∧ su = M.2.2.2.2.2.2.2.slots) : AW sv mi pc ls [.int x] h cu su Q = Q (some (.int x)) h := AW_ret hM hd (by simp [am_step, am_br, am_rt, hr]) hc
theorem e_zret {x : Int32} (hM : am_ms[mi]? = some M) (hd : decode M.2.2.1 pc = .ok (.ireturn, 1)) (hr : M.2.2.2.2.1 = some .boolean) (hc : cu = M.2.2.2.2.2.2.2.cells ∧ su = M.2.2.2.2.2.2.2.slots) (hx : x = 0 ∨ x = 1) : AW sv mi pc ls [.int x] h cu su Q = Q (some (.int x)) h := AW_ret hM hd (by simp [am_step, am_br, am_rt, hr, hx]) hc
theorem e_vret (hM : am_ms[mi]? = some M) (hd : decode M.2.2.1 pc = .ok (.return_, 1)) (hr : M.2.2.2.2.1 = none) (hc : cu = M.2.2.2.2.2.2.2.cells ∧ su = M.2.2.2.2.2.2.2.slots) : AW sv mi pc ls [] h cu su Q = Q none h := AW_ret hM hd (by simp [am_step, am_br, am_rt, hr]) hc
theorem e_mmax {k y0 : Nat} {x y : Int32} (hM : am_ms[mi]? = some M) (hd : decode M.2.2.1 pc = .ok (.invokestatic k, 3)) (hk : am_ml M.1 k = some (7, y0)) (hrm : 1 ≤ M.2.2.2.2.2.2.2.frames ∧ am_cs r + 13 ≤ M.2.2.2.2.2.2.2.locals ∧ cu ≤ M.2.2.2.2.2.2.2.cells ∧ su ≤ M.2.2.2.2.2.2.2.slots) : AW sv mi pc ls (.int y :: .int x :: r) h cu su Q = AW sv mi (pc + 3) ls (.int (if x < y then y else x) :: r) h cu su Q := e_hp (q := (.int (if x < y then y else x) :: r, h, cu, su)) hM hd rfl rfl rfl rfl rfl rfl (by
  show am_js (am_ml M.1 k) _ _ _ _ _ = _
  rw [hk]
  exact if_pos hrm)
theorem e_mmin {k y0 : Nat} {x y : Int32} (hM : am_ms[mi]? = some M) (hd : decode M.2.2.1 pc = .ok (.invokestatic k, 3)) (hk : am_ml M.1 k = some (8, y0)) (hrm : 1 ≤ M.2.2.2.2.2.2.2.frames ∧ am_cs r + 13 ≤ M.2.2.2.2.2.2.2.locals ∧ cu ≤ M.2.2.2.2.2.2.2.cells ∧ su ≤ M.2.2.2.2.2.2.2.slots) : AW sv mi pc ls (.int y :: .int x :: r) h cu su Q = AW sv mi (pc + 3) ls (.int (if y < x then y else x) :: r) h cu su Q := e_hp (q := (.int (if y < x then y else x) :: r, h, cu, su)) hM hd rfl rfl rfl rfl rfl rfl (by
  show am_js (am_ml M.1 k) _ _ _ _ _ = _
  rw [hk]
  exact if_pos hrm)
end AWE
end
section
/-! THE PICTURE BEHIND THE CONSTRUCTORS: its shape stays, its numbers are a memory -/
abbrev am_S : Type := (Nat → Nat → Int32) × (Nat → Int64)
/-- an array of n; an object of a class, its slots: 0 an int, 1 a long, t + 2 the cell t -/
def am_sh : List (Nat ⊕ (Nat × List Nat)) := [.inr (8, [3, 24, 0, 45, 67, 69]), .inr (5, [4, 10, 14, 19, 22, 0, 23, 0, 0]), .inr (3, [5, 6, 7, 8, 9]), .inl 16, .inl 16, .inl 16, .inl 16, .inl 16, .inr (1, [11, 12, 13, 0]), .inl 12, .inl 12, .inl 12, .inr (0, [15, 16, 17, 18, 0]), .inl 8, .inl 8, .inl 8, .inl 8, .inr (2, [20, 21, 0]), .inl 24, .inl 24, .inl 5, .inl 4, .inr (5, [25, 31, 35, 40, 43, 0, 44, 0, 0]), .inr (3, [26, 27, 28, 29, 30]), .inl 16, .inl 16, .inl 16, .inl 16, .inl 16, .inr (1, [32, 33, 34, 0]), .inl 12, .inl 12, .inl 12, .inr (0, [36, 37, 38, 39, 0]), .inl 8, .inl 8, .inl 8, .inl 8, .inr (2, [41, 42, 0]), .inl 24, .inl 24, .inl 5, .inl 4, .inr (7, [46]), .inr (5, [47, 53, 57, 62, 65, 0, 66, 0, 0]), .inr (3, [48, 49, 50, 51, 52]), .inl 16, .inl 16, .inl 16, .inl 16, .inl 16, .inr (1, [54, 55, 56, 0]), .inl 12, .inl 12, .inl 12, .inr (0, [58, 59, 60, 61, 0]), .inl 8, .inl 8, .inl 8, .inl 8, .inr (2, [63, 64, 0]), .inl 24, .inl 24, .inl 5, .inl 4, .inr (6, [68, 0, 0, 0]), .inl 100, .inr (4, [70, 71, 72]), .inl 4, .inl 4, .inl 64, .inr (9, [74, 75, 76, 77, 78, 0, 79, 0, 80, 81, 0, 0, 0, 82, 1, 1, 0, 83, 84, 0, 85, 86, 87, 0, 88, 89, 90, 91]), .inl 16, .inl 16, .inl 16, .inl 16, .inl 16, .inl 5, .inl 24, .inl 100, .inl 48, .inl 32, .inl 64, .inl 24, .inl 24, .inl 200, .inl 4, .inl 4, .inl 64, .inl 16]
/-- the slots of an object of a class by where it stands -/
def am_ly (ci a : Nat) : List Nat := match ci with
  | 0 => [a + 3, a + 4, a + 5, a + 6, 0]
  | 1 => [a + 3, a + 4, a + 5, 0]
  | 2 => [a + 3, a + 4, 0]
  | 3 => [a + 3, a + 4, a + 5, a + 6, a + 7]
  | 4 => [a + 3, a + 4, a + 5]
  | 5 => [a + 3, a + 9, a + 13, a + 18, a + 21, 0, a + 22, 0, 0]
  | 6 => [a + 3, 0, 0, 0]
  | 7 => [a + 3]
  | 8 => [a + 3, a + 24, 0, a + 45, a + 67, a + 69]
  | 9 => [a + 3, a + 4, a + 5, a + 6, a + 7, 0, a + 8, 0, a + 9, a + 10, 0, 0, 0, a + 11, 1, 1, 0, a + 12, a + 13, 0, a + 14, a + 15, a + 16, 0, a + 17, a + 18, a + 19, a + 20]
  | _ => []
def am_slot (σ : am_S) (k j : Nat) : Nat → Value
  | 0 => .int (σ.1 k j)
  | 1 => .long (σ.2 j)
  | t + 2 => .ref t
def am_cell (σ : am_S) (k : Nat) : Nat ⊕ (Nat × List Nat) → am_E
  | .inl n => .inl (n, σ.1 k)
  | .inr q => .inr (q.1, q.2.mapIdx (fun j t => am_slot σ k j t))
def am_toH (σ : am_S) : am_H := am_sh.mapIdx (fun k c => am_cell σ k c)
def am_is (ci a : Nat) : Prop := am_sh[a]? = some (.inr (ci, am_ly ci a))
def am_ln (a : Nat) : Nat := match am_sh[a]? with
  | some (.inl n) => n
  | _ => 0
def am_wr (σ : am_S) (a : Nat) (f : Nat → Int32) : am_S := (fun k => if k = a then f else σ.1 k, σ.2)
def am_wl (σ : am_S) (j : Nat) (x : Int64) : am_S := (σ.1, fun i => if i = j then x else σ.2 i)
/-- where a Stage stands -/
def am_St (r : Nat) : Prop := r = 1 ∨ r = 22 ∨ r = 44
theorem am_toH_get (σ : am_S) (k : Nat) : (am_toH σ)[k]? = (am_sh[k]?).map (am_cell σ k) := by
  simp [am_toH, List.getElem?_mapIdx]
theorem am_toH_len (σ : am_S) : (am_toH σ).length = 90 := by
  simp [am_toH]; rfl
theorem am_toH_obj {σ : am_S} {ci a : Nat} (h : am_is ci a) : (am_toH σ)[a]? = some (.inr (ci, (am_ly ci a).mapIdx (fun j t => am_slot σ a j t))) := by
  rw [am_toH_get, show am_sh[a]? = _ from h]; rfl
theorem am_toH_arr {σ : am_S} {a : Nat} {i : Int32} (h : am_in i (am_ln a) = true) : (am_toH σ)[a]? = some (.inl (am_ln a, σ.1 a)) := by
  unfold am_ln at h ⊢
  rw [am_toH_get]
  cases hs : am_sh[a]? with
  | none =>
    rw [hs] at h
    have := of_decide_eq_true h
    simp at this; omega
  | some q =>
    cases q with
    | inl n => rfl
    | inr q =>
      rw [hs] at h
      have := of_decide_eq_true h
      simp at this; omega
theorem am_in_pos {i : Int32} {n : Nat} (h : am_in i n = true) : 0 < n := by
  have := of_decide_eq_true h
  omega
theorem am_toH_arr0 {σ : am_S} {a : Nat} (h : 0 < am_ln a) : (am_toH σ)[a]? = some (.inl (am_ln a, σ.1 a)) := by
  unfold am_ln at h ⊢
  rw [am_toH_get]
  cases hs : am_sh[a]? with
  | none => rw [hs] at h; simp at h
  | some q =>
    cases q with
    | inl n => rfl
    | inr q => rw [hs] at h; simp at h
theorem am_cell_of {σ τ : am_S} {k : Nat} (q : Nat ⊕ (Nat × List Nat)) (h1 : τ.1 k = σ.1 k) (h2 : τ.2 = σ.2) : am_cell τ k q = am_cell σ k q := by
  have e : (fun j t => am_slot τ k j t) = fun j t => am_slot σ k j t := by
    funext j t
    match t with
    | 0 => show Value.int (τ.1 k j) = Value.int (σ.1 k j); rw [h1]
    | 1 => show Value.long (τ.2 j) = Value.long (σ.2 j); rw [h2]
    | t + 2 => rfl
  cases q with
  | inl n => show Sum.inl (n, τ.1 k) = Sum.inl (n, σ.1 k); rw [h1]
  | inr q =>
    show Sum.inr (q.1, q.2.mapIdx (fun j t => am_slot τ k j t)) = Sum.inr (q.1, q.2.mapIdx (fun j t => am_slot σ k j t))
    rw [e]
theorem am_wr_ne {σ : am_S} {a k : Nat} {f : Nat → Int32} (h : k ≠ a) : (am_wr σ a f).1 k = σ.1 k := if_neg h
theorem am_wr_eq {σ : am_S} {a : Nat} {f : Nat → Int32} : (am_wr σ a f).1 a = f := if_pos rfl
theorem am_toH_wr_arr {σ : am_S} {a : Nat} {f : Nat → Int32} (h : 0 < am_ln a) : (am_toH σ).set a (.inl (am_ln a, f)) = am_toH (am_wr σ a f) := by
  have h0 := am_toH_arr0 (σ := σ) h
  have hl := (List.getElem?_eq_some_iff.mp h0).1
  apply List.ext_getElem?
  intro k
  by_cases hk : a = k
  · subst hk
    rw [List.getElem?_set_self hl, am_toH_arr0 (σ := am_wr σ a f) h, am_wr_eq]
  · rw [List.getElem?_set_ne hk, am_toH_get, am_toH_get]
    cases am_sh[k]? with
    | none => rfl
    | some q => rw [Option.map_some, Option.map_some, am_cell_of q (am_wr_ne (Ne.symm hk)) rfl]
theorem am_toH_wr_obj {σ : am_S} {ci a j : Nat} {x : Int32} (h : am_is ci a) (hj : (am_ly ci a)[j]? = some 0) : (am_toH σ).set a (.inr (ci, ((am_ly ci a).mapIdx (fun j t => am_slot σ a j t)).set j (.int x))) = am_toH (am_wr σ a (upd (σ.1 a) j x)) := by
  have h0 := am_toH_obj (σ := σ) h
  have hl := (List.getElem?_eq_some_iff.mp h0).1
  have hjl := (List.getElem?_eq_some_iff.mp hj).1
  have e : ((am_ly ci a).mapIdx (fun j t => am_slot σ a j t)).set j (.int x) = (am_ly ci a).mapIdx (fun i t => am_slot (am_wr σ a (upd (σ.1 a) j x)) a i t) := by
    apply List.ext_getElem?
    intro i
    by_cases hi : j = i
    · subst hi
      rw [List.getElem?_set_self (by rw [List.length_mapIdx]; exact hjl), List.getElem?_mapIdx, hj, Option.map_some]
      show some (Value.int x) = some (Value.int ((am_wr σ a (upd (σ.1 a) j x)).1 a j))
      rw [am_wr_eq, upd, if_pos rfl]
    · rw [List.getElem?_set_ne hi, List.getElem?_mapIdx, List.getElem?_mapIdx]
      cases (am_ly ci a)[i]? with
      | none => rfl
      | some t =>
        match t with
        | 0 =>
          show some (Value.int (σ.1 a i)) = some (Value.int ((am_wr σ a (upd (σ.1 a) j x)).1 a i))
          rw [am_wr_eq, upd, if_neg (Ne.symm hi)]
        | 1 => rfl
        | t + 2 => rfl
  apply List.ext_getElem?
  intro k
  by_cases hk : a = k
  · subst hk
    rw [List.getElem?_set_self hl, am_toH_obj (σ := am_wr σ a (upd (σ.1 a) j x)) h, e]
  · rw [List.getElem?_set_ne hk, am_toH_get, am_toH_get]
    cases am_sh[k]? with
    | none => rfl
    | some q => rw [Option.map_some, Option.map_some, am_cell_of q (am_wr_ne (Ne.symm hk)) rfl]
theorem am_long (k : Nat) (q : Nat ⊕ (Nat × List Nat)) (h : am_sh[k]? = some q) (hk : k ≠ 71) : match q with
    | .inl _ => True
    | .inr z => 1 ∉ z.2 := by
  have : (am_sh.zipIdx.all (fun z => z.2 == 71 || (match z.1 with
    | .inl _ => true
    | .inr y => !(y.2.contains 1)))) = true := by decide +kernel
  have h1 := List.all_eq_true.mp this (q, k) (by rw [List.mem_zipIdx_iff_getElem?]; exact h)
  cases q with
  | inl _ => trivial
  | inr z => simpa [hk] using h1
theorem am_is9 : am_is 9 71 := by unfold am_is; decide +kernel
theorem am_toH_wl {σ : am_S} {j : Nat} {x : Int64} (hj : (am_ly 9 71)[j]? = some 1) : (am_toH σ).set 71 (.inr (9, ((am_ly 9 71).mapIdx (fun j t => am_slot σ 71 j t)).set j (.long x))) = am_toH (am_wl σ j x) := by
  have h0 := am_toH_obj (σ := σ) am_is9
  have hl := (List.getElem?_eq_some_iff.mp h0).1
  have hjl := (List.getElem?_eq_some_iff.mp hj).1
  have h1 := am_toH_obj (σ := am_wl σ j x) am_is9
  generalize am_ly 9 71 = ly at *
  have e : (ly.mapIdx (fun j t => am_slot σ 71 j t)).set j (.long x) = ly.mapIdx (fun i t => am_slot (am_wl σ j x) 71 i t) := by
    apply List.ext_getElem?
    intro i
    by_cases hi : j = i
    · subst hi
      rw [List.getElem?_set_self (by rw [List.length_mapIdx]; exact hjl), List.getElem?_mapIdx, hj, Option.map_some]
      show some (Value.long x) = some (Value.long (if j = j then x else σ.2 j))
      rw [if_pos rfl]
    · rw [List.getElem?_set_ne hi, List.getElem?_mapIdx, List.getElem?_mapIdx]
      cases ly[i]? with
      | none => rfl
      | some t =>
        match t with
        | 0 => rfl
        | 1 =>
          show some (Value.long (σ.2 i)) = some (Value.long (if i = j then x else σ.2 i))
          rw [if_neg (Ne.symm hi)]
        | t + 2 => rfl
  apply List.ext_getElem?
  intro k
  by_cases hk : 71 = k
  · subst hk
    rw [List.getElem?_set_self hl, h1, e]
  · rw [List.getElem?_set_ne hk, am_toH_get, am_toH_get]
    cases hs : am_sh[k]? with
    | none => rfl
    | some q =>
      have hlg := am_long k q hs (Ne.symm hk)
      cases q with
      | inl n => rfl
      | inr q =>
        have e2 : q.2.mapIdx (fun i t => am_slot σ k i t) = q.2.mapIdx (fun i t => am_slot (am_wl σ j x) k i t) := by
          apply List.ext_getElem?
          intro i
          rw [List.getElem?_mapIdx, List.getElem?_mapIdx]
          cases ht : q.2[i]? with
          | none => rfl
          | some t =>
            match t, ht with
            | 0, _ => rfl
            | 1, ht => exact absurd (List.mem_of_getElem? ht) hlg
            | t + 2, _ => rfl
        rw [Option.map_some, Option.map_some]
        show some (Sum.inr (q.1, _)) = some (Sum.inr (q.1, _))
        rw [e2]
end
section
theorem am_gf_of {σ : am_S} {ci a j t : Nat} {r : List Value} (ha : am_is ci a) (hs : (am_ly ci a)[j]? = some t) : am_gf (am_toH σ) a ci j r = some (am_slot σ a j t :: r) := by
  have e1 : ((am_ly ci a).mapIdx (fun j t => am_slot σ a j t))[j]? = some (am_slot σ a j t) := by rw [List.getElem?_mapIdx, hs, Option.map_some]
  unfold am_gf
  rw [am_toH_obj ha]
  simp only [if_true]
  rw [e1]
section AWH
variable {sv : am_V} {mi pc : Nat} {ls st r : List Value} {σ : am_S} {cu su : Nat} {Q : Option Value → am_H → Prop} {M : am_M}
theorem e_hq {i : Instr} {st' : List Value} {h h' : am_H} {cu' su' len : Nat} (hM : am_ms[mi]? = some M) (hd : decode M.2.2.1 pc = .ok (i, len)) (hb : am_br i pc len st = none) (hr : am_rt M.2.2.2.2.1 i len st = none) (hl : len = am_len i) (hp : am_pu M.1 i ls st = none) (hai : am_ai i st = none) (hal : am_al i st = none) (hh : am_hp sv M.1 M.2.2.2.2.2.1 M.2.2.2.2.2.2.2 i st h cu su = some (st', h', cu', su')) : AW sv mi pc ls st h cu su Q = AW sv mi (pc + len) ls st' h' cu' su' Q := e_hp hM hd hb hr hl hp hai hal hh
set_option maxHeartbeats 40000 in
theorem e_getI {k ci j a : Nat} (hM : am_ms[mi]? = some M) (hd : decode M.2.2.1 pc = .ok (.getfield k, 3)) (hf : am_fl M.1 k = some (ci, j)) (ha : am_is ci a) (hs : (am_ly ci a)[j]? = some 0) : AW sv mi pc ls (.ref a :: r) (am_toH σ) cu su Q = AW sv mi (pc + 3) ls (.int (σ.1 a j) :: r) (am_toH σ) cu su Q := e_hq hM hd rfl rfl rfl rfl rfl rfl (by
  show (am_fl M.1 k).bind (fun q => (am_gf (am_toH σ) a q.1 q.2 r).map (fun st' => (st', am_toH σ, cu, su))) = _
  rw [hf, Option.bind_some, am_gf_of ha hs]
  rfl)
set_option maxHeartbeats 40000 in
theorem e_getL {k ci j a : Nat} (hM : am_ms[mi]? = some M) (hd : decode M.2.2.1 pc = .ok (.getfield k, 3)) (hf : am_fl M.1 k = some (ci, j)) (ha : am_is ci a) (hs : (am_ly ci a)[j]? = some 1) : AW sv mi pc ls (.ref a :: r) (am_toH σ) cu su Q = AW sv mi (pc + 3) ls (.long (σ.2 j) :: r) (am_toH σ) cu su Q := e_hq hM hd rfl rfl rfl rfl rfl rfl (by
  show (am_fl M.1 k).bind (fun q => (am_gf (am_toH σ) a q.1 q.2 r).map (fun st' => (st', am_toH σ, cu, su))) = _
  rw [hf, Option.bind_some, am_gf_of ha hs]
  rfl)
set_option maxHeartbeats 40000 in
theorem e_getR {k ci j a t : Nat} (hM : am_ms[mi]? = some M) (hd : decode M.2.2.1 pc = .ok (.getfield k, 3)) (hf : am_fl M.1 k = some (ci, j)) (ha : am_is ci a) (hs : (am_ly ci a)[j]? = some (t + 2)) : AW sv mi pc ls (.ref a :: r) (am_toH σ) cu su Q = AW sv mi (pc + 3) ls (.ref t :: r) (am_toH σ) cu su Q := e_hq hM hd rfl rfl rfl rfl rfl rfl (by
  show (am_fl M.1 k).bind (fun q => (am_gf (am_toH σ) a q.1 q.2 r).map (fun st' => (st', am_toH σ, cu, su))) = _
  rw [hf, Option.bind_some, am_gf_of ha hs]
  rfl)
set_option maxHeartbeats 40000 in
theorem e_putI {k ci j a : Nat} {x : Int32} (hM : am_ms[mi]? = some M) (hd : decode M.2.2.1 pc = .ok (.putfield k, 3)) (hf : am_fl M.1 k = some (ci, j)) (ha : am_is ci a) (hs : (am_ly ci a)[j]? = some 0) (hfin : am_fin ci j = false) (hv : am_vz (am_ty ci j) (.int x) = true) : AW sv mi pc ls (.int x :: .ref a :: r) (am_toH σ) cu su Q = AW sv mi (pc + 3) ls r (am_toH (am_wr σ a (upd (σ.1 a) j x))) cu su Q := e_hq hM hd rfl rfl rfl rfl rfl rfl (by
  have hlt := (List.getElem?_eq_some_iff.mp hs).1
  show (am_fl M.1 k).bind (fun q => (am_pf M.1 M.2.2.2.2.2.1 (am_toH σ) _ q.1 q.2 _).map (fun h' => (r, h', cu, su))) = _
  rw [hf, Option.bind_some]
  unfold am_pf
  rw [am_toH_obj ha]
  simp only
  rw [if_pos ⟨trivial, by simpa using hlt, hv, Or.inl hfin⟩, am_toH_wr_obj ha hs]
  rfl)
set_option maxHeartbeats 40000 in
theorem e_putL {k j : Nat} {x : Int64} (hM : am_ms[mi]? = some M) (hd : decode M.2.2.1 pc = .ok (.putfield k, 3)) (hf : am_fl M.1 k = some (9, j)) (hs : (am_ly 9 71)[j]? = some 1) (hfin : am_fin 9 j = false) (hv : am_vz (am_ty 9 j) (.long x) = true) : AW sv mi pc ls (.long x :: .ref 71 :: r) (am_toH σ) cu su Q = AW sv mi (pc + 3) ls r (am_toH (am_wl σ j x)) cu su Q := e_hq hM hd rfl rfl rfl rfl rfl rfl (by
  have hlt := (List.getElem?_eq_some_iff.mp hs).1
  have ha : am_is 9 71 := am_is9
  show (am_fl M.1 k).bind (fun q => (am_pf M.1 M.2.2.2.2.2.1 (am_toH σ) _ q.1 q.2 _).map (fun h' => (r, h', cu, su))) = _
  rw [hf, Option.bind_some]
  unfold am_pf
  rw [am_toH_obj ha]
  simp only
  rw [if_pos ⟨trivial, by simpa using hlt, hv, Or.inl hfin⟩, am_toH_wl hs]
  rfl)
set_option maxHeartbeats 40000 in
theorem e_iald {a : Nat} {i : Int32} (hM : am_ms[mi]? = some M) (hd : decode M.2.2.1 pc = .ok (.iaload, 1)) (hi : am_in i (am_ln a) = true) : AW sv mi pc ls (.int i :: .ref a :: r) (am_toH σ) cu su Q = AW sv mi (pc + 1) ls (.int (σ.1 a i.toNatClampNeg) :: r) (am_toH σ) cu su Q := e_hq hM hd rfl rfl rfl rfl rfl rfl (by
  show (am_ial sv (am_toH σ) (.ref a) i r).map (fun st' => (st', am_toH σ, cu, su)) = _
  unfold am_ial
  simp only
  rw [am_toH_arr hi]
  simp only
  rw [if_pos hi]
  rfl)
set_option maxHeartbeats 40000 in
theorem e_iast {a : Nat} {i x : Int32} (hM : am_ms[mi]? = some M) (hd : decode M.2.2.1 pc = .ok (.iastore, 1)) (hi : am_in i (am_ln a) = true) : AW sv mi pc ls (.int x :: .int i :: .ref a :: r) (am_toH σ) cu su Q = AW sv mi (pc + 1) ls r (am_toH (am_wr σ a (upd (σ.1 a) i.toNatClampNeg x))) cu su Q := e_hq hM hd rfl rfl rfl rfl rfl rfl (by
  show (am_ias (am_toH σ) a i x).map (fun h' => (r, h', cu, su)) = _
  unfold am_ias
  rw [am_toH_arr hi]
  simp only
  rw [if_pos hi, am_toH_wr_arr (am_in_pos hi)]
  rfl)
set_option maxHeartbeats 40000 in
theorem e_alen {a : Nat} (hM : am_ms[mi]? = some M) (hd : decode M.2.2.1 pc = .ok (.arraylength, 1)) (hi : 0 < am_ln a) : AW sv mi pc ls (.ref a :: r) (am_toH σ) cu su Q = AW sv mi (pc + 1) ls (.int (Int32.ofNat (am_ln a)) :: r) (am_toH σ) cu su Q := e_hq hM hd rfl rfl rfl rfl rfl rfl (by
  show (am_aln sv (am_toH σ) (.ref a)).map (fun n => (.int n :: r, am_toH σ, cu, su)) = _
  unfold am_aln
  simp only
  rw [am_toH_arr0 hi]
  rfl)
set_option maxHeartbeats 40000 in
theorem e_cpy {k a0 a1 : Nat} {sp dp n : Int32} (hM : am_ms[mi]? = some M) (hd : decode M.2.2.1 pc = .ok (.invokestatic k, 3)) {y0 : Nat} (hk : am_ml M.1 k = some (9, y0)) (hrm : 1 ≤ M.2.2.2.2.2.2.2.frames ∧ am_cs r + 18 ≤ M.2.2.2.2.2.2.2.locals) (h0 : 0 < am_ln a0) (h1 : 0 < am_ln a1) (hc : (0 ≤ sp.toInt ∧ 0 ≤ dp.toInt ∧ 0 ≤ n.toInt) ∧ sp.toNatClampNeg + n.toNatClampNeg ≤ am_ln a0 ∧ dp.toNatClampNeg + n.toNatClampNeg ≤ am_ln a1) : AW sv mi pc ls (.int n :: .int dp :: .ref a1 :: .int sp :: .ref a0 :: r) (am_toH σ) cu su Q = AW sv mi (pc + 3) ls r (am_toH (am_wr σ a1 (va_cpy (σ.1 a0) (σ.1 a1) sp.toNatClampNeg dp.toNatClampNeg n.toNatClampNeg))) cu su Q := e_hq hM hd rfl rfl rfl rfl rfl rfl (by
  show am_js (am_ml M.1 k) _ _ _ _ _ = _
  rw [hk]
  show (if _ then (am_cpy (am_toH σ) a0 sp a1 dp n).map (fun h' => (r, h', cu, su)) else none) = _
  rw [if_pos hrm]
  unfold am_cpy
  rw [am_toH_arr0 h0, am_toH_arr0 h1]
  simp only
  rw [if_pos hc, am_toH_wr_arr h1]
  rfl)
set_option maxHeartbeats 40000 in
theorem e_cS {k kd y : Nat} {Y : am_M} {as rest : List Value} {h : am_H} (hM : am_ms[mi]? = some M) (hd : decode M.2.2.1 pc = .ok (.invokestatic k, 3)) (hk : am_ml M.1 k = some (kd, y)) (hkd : kd ≤ 1) (hY : am_ms[y]? = some Y) (hs : Y.2.2.2.2.2.1 = 1) (hst : st = as.reverse ++ rest) (hn : as.length = Y.2.2.2.2.2.2.1) (hc : y < 170 ∧ (am_sl as).length ≤ Y.2.2.2.1 ∧ am_rc M Y rest cu su = true) : AW sv mi pc ls st h cu su Q = AM sv y as h (fun v h1 => AW sv mi (pc + 3) ls (v.toList ++ rest) h1 (cu + Y.2.2.2.2.2.2.2.cells) (su + Y.2.2.2.2.2.2.2.slots) Q) := by
  refine AW_call (z := (y, as, rest)) hM hd ?_ hY hc
  have hca : am_ca M.1 (.invokestatic k) st h = some (y, as, rest) := by
    have h1 : (as.reverse ++ rest).take Y.2.2.2.2.2.2.1 = as.reverse := by rw [← hn]; simp
    have h2 : (as.reverse ++ rest).drop Y.2.2.2.2.2.2.1 = rest := by rw [← hn]; simp
    simp only [am_ca, hk, Option.bind_some]
    rw [if_pos hkd, hY]
    simp only [Option.bind_some]
    rw [if_pos ⟨hs, by rw [hst, ← hn]; simp⟩, hst, h1, h2, List.reverse_reverse]
  have hh : am_hp sv M.1 M.2.2.2.2.2.1 M.2.2.2.2.2.2.2 (.invokestatic k) st h cu su = none := by
    show am_js (am_ml M.1 k) _ _ _ _ _ = none
    rw [hk]
    rcases (show kd = 0 ∨ kd = 1 by omega) with rfl | rfl <;> rfl
  unfold am_step
  rw [show am_br (.invokestatic k) pc 3 st = none from rfl, show am_rt M.2.2.2.2.1 (.invokestatic k) 3 st = none from rfl]
  simp only
  rw [if_pos (show 3 = am_len (.invokestatic k) from rfl), show am_pu M.1 (.invokestatic k) ls st = none from rfl, show am_ai (.invokestatic k) st = none from rfl, show am_al (.invokestatic k) st = none from rfl, hh, hca]
  rfl
set_option maxHeartbeats 40000 in
theorem e_cV {k kd y a : Nat} {Y : am_M} {as rest : List Value} (hM : am_ms[mi]? = some M) (hd : decode M.2.2.1 pc = .ok (.invokevirtual k, 3)) (hk : am_ml M.1 k = some (kd, y)) (hkd : kd ≤ 1) (hY : am_ms[y]? = some Y) (hs : Y.2.2.2.2.2.1 = 0) (ha : am_is Y.1 a) (hst : st = as.reverse ++ .ref a :: rest) (hn : as.length = Y.2.2.2.2.2.2.1) (hc : y < 170 ∧ (am_sl (.ref a :: as)).length ≤ Y.2.2.2.1 ∧ am_rc M Y rest cu su = true) : AW sv mi pc ls st (am_toH σ) cu su Q = AM sv y (.ref a :: as) (am_toH σ) (fun v h1 => AW sv mi (pc + 3) ls (v.toList ++ rest) h1 (cu + Y.2.2.2.2.2.2.2.cells) (su + Y.2.2.2.2.2.2.2.slots) Q) := by
  refine AW_call (z := (y, .ref a :: as, rest)) hM hd ?_ hY hc
  have hca : am_ca M.1 (.invokevirtual k) st (am_toH σ) = some (y, .ref a :: as, rest) := by
    have h1 : (as.reverse ++ .ref a :: rest).take Y.2.2.2.2.2.2.1 = as.reverse := by rw [← hn]; simp
    have h2 : (as.reverse ++ .ref a :: rest).drop Y.2.2.2.2.2.2.1 = .ref a :: rest := by rw [← hn]; simp
    simp only [am_ca, hk, Option.bind_some]
    rw [if_pos hkd, hY]
    simp only [Option.bind_some]
    rw [if_pos ⟨hs, by rw [hst, ← hn]; simp⟩, hst, h1, h2, List.reverse_reverse]
    simp only [am_toH_obj ha, if_true]
  unfold am_step
  rw [show am_br (.invokevirtual k) pc 3 st = none from rfl, show am_rt M.2.2.2.2.1 (.invokevirtual k) 3 st = none from rfl]
  simp only
  rw [if_pos (show 3 = am_len (.invokevirtual k) from rfl), show am_pu M.1 (.invokevirtual k) ls st = none from rfl, show am_ai (.invokevirtual k) st = none from rfl, show am_al (.invokevirtual k) st = none from rfl, show am_hp sv M.1 M.2.2.2.2.2.1 M.2.2.2.2.2.2.2 (.invokevirtual k) st (am_toH σ) cu su = none from rfl, hca]
  rfl
end AWH
end
section
/-! THE CONSTRUCTORS, BY THE KERNEL: a run that touches no static array is one, whatever these hold -/
def am_nf (st : List Value) : Bool := st.all (fun v => match v with
  | .float _ => false
  | _ => true)
def am_v0 : am_V := fun _ => (0, fun _ => 0)
def am_run0 : Nat → Nat → Nat → List Value → List Value → am_H → Nat → Nat → Option (Option Value × am_H)
  | 0, _, _, _, _, _, _, _ => none
  | n + 1, mi, pc, ls, st, h, cu, su => if am_nf st = true then (match am_ms[mi]? with
    | none => none
    | some M => match decode M.2.2.1 pc with
      | .error _ => none
      | .ok q => match am_step am_v0 M pc q.1 q.2 ls st h cu su with
        | none => none
        | some (.inl w) => am_run0 n mi w.1 w.2.1 w.2.2.1 w.2.2.2.1 w.2.2.2.2.1 w.2.2.2.2.2
        | some (.inr (.inl v)) => if cu = M.2.2.2.2.2.2.2.cells ∧ su = M.2.2.2.2.2.2.2.slots then some (v, h) else none
        | some (.inr (.inr w)) => match am_ms[w.1]? with
          | none => none
          | some Y => if w.1 < 170 ∧ (am_sl w.2.1).length ≤ Y.2.2.2.1 ∧ am_rc M Y w.2.2 cu su = true then (match am_run0 n w.1 0 (am_ini Y.2.2.2.1 w.2.1) [] h 0 0 with
            | none => none
            | some u => am_run0 n mi (pc + 3) ls (u.1.toList ++ w.2.2) u.2 (cu + Y.2.2.2.2.2.2.2.cells) (su + Y.2.2.2.2.2.2.2.slots)) else none) else none
theorem am_nf_mem {st : List Value} (h : am_nf st = true) {t : UInt32} : Value.float t ∉ st := by
  intro hm
  have := List.all_eq_true.mp h _ hm
  cases this
theorem am_hp_nf {sv sv' : am_V} {oc kd : Nat} {rm : Room} {i : Instr} {st : List Value} {h : am_H} {cu su : Nat} (hf : am_nf st = true) : am_hp sv oc kd rm i st h cu su = am_hp sv' oc kd rm i st h cu su := by
  unfold am_hp
  split
  · rfl
  · rfl
  · rename_i j v r
    have hv : ∀ t, v ≠ .float t := fun t q => am_nf_mem hf (t := t) (by rw [q]; simp)
    cases v with
    | float t => exact absurd rfl (hv t)
    | _ => rfl
  · rename_i j t r
    exact absurd (show Value.float t ∈ _ by simp) (am_nf_mem hf)
  · rfl
  · rename_i v r
    have hv : ∀ t, v ≠ .float t := fun t q => am_nf_mem hf (t := t) (by rw [q]; simp)
    cases v with
    | float t => exact absurd rfl (hv t)
    | _ => rfl
  · rfl
  · rfl
  · rfl
  · rfl
  · rfl
  · rfl
theorem am_step_nf {sv sv' : am_V} {M : am_M} {pc : Nat} {i : Instr} {len : Nat} {ls st : List Value} {h : am_H} {cu su : Nat} (hf : am_nf st = true) : am_step sv M pc i len ls st h cu su = am_step sv' M pc i len ls st h cu su := by
  unfold am_step
  rw [am_hp_nf (sv := sv) (sv' := sv') hf]
theorem am_run0_ok {sv : am_V} : ∀ (n : Nat) {mi pc : Nat} {ls st : List Value} {h : am_H} {cu su : Nat} {u : Option Value × am_H}, am_run0 n mi pc ls st h cu su = some u → am_run sv n mi pc ls st h cu su = some u := by
  intro n
  induction n with
  | zero => intro mi pc ls st h cu su u hr; cases hr
  | succ n ih =>
    intro mi pc ls st h cu su u hr
    rw [am_run0] at hr
    split at hr
    · rename_i hf
      split at hr
      · cases hr
      · rename_i M hM
        split at hr
        · cases hr
        · rename_i q hq
          split at hr
          · cases hr
          · rename_i z hz
            rw [am_step_nf (sv' := sv) hf] at hz
            rw [am_run_next hM hq hz]
            exact ih hr
          · rename_i v hv
            rw [am_step_nf (sv' := sv) hf] at hv
            split at hr
            · rename_i hc
              rw [am_run_ret hM hq hv hc]
              exact hr
            · cases hr
          · rename_i z hz
            rw [am_step_nf (sv' := sv) hf] at hz
            split at hr
            · cases hr
            · rename_i Y hY
              split at hr
              · rename_i hc
                split at hr
                · cases hr
                · rename_i u1 hu
                  rw [am_run_call hM hq hz hY hc, ih hu]
                  exact ih hr
              · cases hr
    · cases hr
def am_code : Value → Nat
  | .int _ => 0
  | .long _ => 1
  | .ref t => t + 2
  | _ => 999
def am_shape : am_E → Nat ⊕ (Nat × List Nat)
  | .inl q => .inl q.1
  | .inr q => .inr (q.1, q.2.map am_code)
def am_c1h : Option (Option Value × am_H) := am_run0 400 60 0 (am_ini 1 [.ref 0]) [] [.inr (8, am_def 8)] 0 0
def am_c2h : Option (Option Value × am_H) := am_c1h.bind (fun u => am_run0 1200 105 0 (am_ini 2 [.ref 71]) [] (u.2 ++ [.inr (9, am_def 9)]) 0 0)
set_option maxRecDepth 100000 in
theorem am_c1_ok : am_c1h.map (fun u => (u.1, u.2.map am_shape)) = some (none, am_sh.take 71) := by decide +kernel
set_option maxRecDepth 100000 in
theorem am_c2_ok : am_c2h.map (fun u => (u.1, u.2.map am_shape)) = some (none, am_sh) := by decide +kernel
def am_obs (h : am_H) : List (List Int32) := h.map (fun c => match c with
  | .inl q => (List.range q.1).map q.2
  | .inr q => q.2.map (fun v => match v with
    | .int x => x
    | _ => 0))
def am_tab0 : List (List Int32) := [[0, 0, 0, 0, 0, 0], [0, 0, 0, 0, 0, 1, 0, 0, 1], [0, 0, 0, 0, 0], [0, 0, 0, 0, 0, 0, 0, 0, 0, 0, 0, 0, 0, 0, 0, 0], [0, 0, 0, 0, 0, 0, 0, 0, 0, 0, 0, 0, 0, 0, 0, 0], [0, 0, 0, 0, 0, 0, 0, 0, 0, 0, 0, 0, 0, 0, 0, 0], [0, 0, 0, 0, 0, 0, 0, 0, 0, 0, 0, 0, 0, 0, 0, 0], [0, 0, 0, 0, 0, 0, 0, 0, 0, 0, 0, 0, 0, 0, 0, 0], [0, 0, 0, 0], [0, 0, 0, 0, 0, 0, 0, 0, 0, 0, 0, 0], [0, 0, 0, 0, 0, 0, 0, 0, 0, 0, 0, 0], [0, 0, 0, 0, 0, 0, 0, 0, 0, 0, 0, 0], [0, 0, 0, 0, 0], [0, 0, 0, 0, 0, 0, 0, 0], [0, 0, 0, 0, 0, 0, 0, 0], [0, 0, 0, 0, 0, 0, 0, 0], [0, 0, 0, 0, 0, 0, 0, 0], [0, 0, 0], [0, 0, 0, 0, 0, 0, 0, 0, 0, 0, 0, 0, 0, 0, 0, 0, 0, 0, 0, 0, 0, 0, 0, 0], [0, 0, 0, 0, 0, 0, 0, 0, 0, 0, 0, 0, 0, 0, 0, 0, 0, 0, 0, 0, 0, 0, 0, 0], [4, 3, 3, 2, 2], [0, 0, 0, 0], [0, 0, 0, 0, 0, 1, 0, 0, 1], [0, 0, 0, 0, 0], [0, 0, 0, 0, 0, 0, 0, 0, 0, 0, 0, 0, 0, 0, 0, 0], [0, 0, 0, 0, 0, 0, 0, 0, 0, 0, 0, 0, 0, 0, 0, 0], [0, 0, 0, 0, 0, 0, 0, 0, 0, 0, 0, 0, 0, 0, 0, 0], [0, 0, 0, 0, 0, 0, 0, 0, 0, 0, 0, 0, 0, 0, 0, 0], [0, 0, 0, 0, 0, 0, 0, 0, 0, 0, 0, 0, 0, 0, 0, 0], [0, 0, 0, 0], [0, 0, 0, 0, 0, 0, 0, 0, 0, 0, 0, 0], [0, 0, 0, 0, 0, 0, 0, 0, 0, 0, 0, 0], [0, 0, 0, 0, 0, 0, 0, 0, 0, 0, 0, 0], [0, 0, 0, 0, 0], [0, 0, 0, 0, 0, 0, 0, 0], [0, 0, 0, 0, 0, 0, 0, 0], [0, 0, 0, 0, 0, 0, 0, 0], [0, 0, 0, 0, 0, 0, 0, 0], [0, 0, 0], [0, 0, 0, 0, 0, 0, 0, 0, 0, 0, 0, 0, 0, 0, 0, 0, 0, 0, 0, 0, 0, 0, 0, 0], [0, 0, 0, 0, 0, 0, 0, 0, 0, 0, 0, 0, 0, 0, 0, 0, 0, 0, 0, 0, 0, 0, 0, 0], [4, 3, 3, 2, 2], [0, 0, 0, 0], [0], [0, 0, 0, 0, 0, 1, 0, 0, 1], [0, 0, 0, 0, 0], [0, 0, 0, 0, 0, 0, 0, 0, 0, 0, 0, 0, 0, 0, 0, 0], [0, 0, 0, 0, 0, 0, 0, 0, 0, 0, 0, 0, 0, 0, 0, 0], [0, 0, 0, 0, 0, 0, 0, 0, 0, 0, 0, 0, 0, 0, 0, 0], [0, 0, 0, 0, 0, 0, 0, 0, 0, 0, 0, 0, 0, 0, 0, 0], [0, 0, 0, 0, 0, 0, 0, 0, 0, 0, 0, 0, 0, 0, 0, 0], [0, 0, 0, 0], [0, 0, 0, 0, 0, 0, 0, 0, 0, 0, 0, 0], [0, 0, 0, 0, 0, 0, 0, 0, 0, 0, 0, 0], [0, 0, 0, 0, 0, 0, 0, 0, 0, 0, 0, 0], [0, 0, 0, 0, 0], [0, 0, 0, 0, 0, 0, 0, 0], [0, 0, 0, 0, 0, 0, 0, 0], [0, 0, 0, 0, 0, 0, 0, 0], [0, 0, 0, 0, 0, 0, 0, 0], [0, 0, 0], [0, 0, 0, 0, 0, 0, 0, 0, 0, 0, 0, 0, 0, 0, 0, 0, 0, 0, 0, 0, 0, 0, 0, 0], [0, 0, 0, 0, 0, 0, 0, 0, 0, 0, 0, 0, 0, 0, 0, 0, 0, 0, 0, 0, 0, 0, 0, 0], [4, 3, 3, 2, 2], [0, 0, 0, 0], [0, 0, 0, 0], [0, 0, 0, 0, 0, 0, 0, 0, 0, 0, 0, 0, 0, 0, 0, 0, 0, 0, 0, 0, 0, 0, 0, 0, 0, 0, 0, 0, 0, 0, 0, 0, 0, 0, 0, 0, 0, 0, 0, 0, 0, 0, 0, 0, 0, 0, 0, 0, 0, 0, 0, 0, 0, 0, 0, 0, 0, 0, 0, 0, 0, 0, 0, 0, 0, 0, 0, 0, 0, 0, 0, 0, 0, 0, 0, 0, 0, 0, 0, 0, 0, 0, 0, 0, 0, 0, 0, 0, 0, 0, 0, 0, 0, 0, 0, 0, 0, 0, 0, 0], [0, 0, 0], [-1, -1, -1, -1], [0, 0, 0, 0], [0, 0, 0, 0, 0, 0, 0, 0, 0, 0, 0, 0, 0, 0, 0, 0, 0, 0, 0, 0, 0, 0, 0, 0, 0, 0, 0, 0, 0, 0, 0, 0, 0, 0, 0, 0, 0, 0, 0, 0, 0, 0, 0, 0, 0, 0, 0, 0, 0, 0, 0, 0, 0, 0, 0, 0, 0, 0, 0, 0, 0, 0, 0, 0], [0, 0, 0, 0, 0, 1, 0, 0, 0, 0, 0, 0, 0, 0, 0, 0, 0, 0, 0, 0, 0, 0, 0, 0, 0, 0, 0, 0], [0, 0, 0, 0, 0, 0, 0, 0, 0, 0, 0, 0, 0, 0, 0, 0], [0, 0, 0, 0, 0, 0, 0, 0, 0, 0, 0, 0, 0, 0, 0, 0], [-1, -1, -1, -1, -1, -1, -1, -1, -1, -1, -1, -1, -1, -1, -1, -1], [-1, -1, -1, -1, -1, -1, -1, -1, -1, -1, -1, -1, -1, -1, -1, -1], [0, 0, 0, 0, 0, 0, 0, 0, 0, 0, 0, 0, 0, 0, 0, 0], [4, 3, 3, 2, 2], [0, 0, 0, 0, 0, 0, 0, 0, 0, 0, 0, 0, 0, 0, 0, 0, 0, 0, 0, 0, 0, 0, 0, 0], [0, 0, 0, 0, 0, 0, 0, 0, 0, 0, 0, 0, 0, 0, 0, 0, 0, 0, 0, 0, 0, 0, 0, 0, 0, 0, 0, 0, 0, 0, 0, 0, 0, 0, 0, 0, 0, 0, 0, 0, 0, 0, 0, 0, 0, 0, 0, 0, 0, 0, 0, 0, 0, 0, 0, 0, 0, 0, 0, 0, 0, 0, 0, 0, 0, 0, 0, 0, 0, 0, 0, 0, 0, 0, 0, 0, 0, 0, 0, 0, 0, 0, 0, 0, 0, 0, 0, 0, 0, 0, 0, 0, 0, 0, 0, 0, 0, 0, 0, 0], [0, 0, 0, 0, 0, 0, 0, 0, 0, 0, 0, 0, 0, 0, 0, 0, 0, 0, 0, 0, 0, 0, 0, 0, 0, 0, 0, 0, 0, 0, 0, 0, 0, 0, 0, 0, 0, 0, 0, 0, 0, 0, 0, 0, 0, 0, 0, 0], [0, 0, 0, 0, 0, 0, 0, 0, 0, 0, 0, 0, 0, 0, 0, 0, 0, 0, 0, 0, 0, 0, 0, 0, 0, 0, 0, 0, 0, 0, 0, 0], [0, 0, 0, 0, 0, 0, 0, 0, 0, 0, 0, 0, 0, 0, 0, 0, 0, 0, 0, 0, 0, 0, 0, 0, 0, 0, 0, 0, 0, 0, 0, 0, 0, 0, 0, 0, 0, 0, 0, 0, 0, 0, 0, 0, 0, 0, 0, 0, 0, 0, 0, 0, 0, 0, 0, 0, 0, 0, 0, 0, 0, 0, 0, 0], [0, 0, 0, 0, 0, 0, 0, 0, 0, 0, 0, 0, 0, 0, 0, 0, 0, 0, 0, 0, 0, 0, 0, 0], [0, 0, 0, 0, 0, 0, 0, 0, 0, 0, 0, 0, 0, 0, 0, 0, 0, 0, 0, 0, 0, 0, 0, 0], [0, 0, 0, 0, 0, 0, 0, 0, 0, 0, 0, 0, 0, 0, 0, 0, 0, 0, 0, 0, 0, 0, 0, 0, 0, 0, 0, 0, 0, 0, 0, 0, 0, 0, 0, 0, 0, 0, 0, 0, 0, 0, 0, 0, 0, 0, 0, 0, 0, 0, 0, 0, 0, 0, 0, 0, 0, 0, 0, 0, 0, 0, 0, 0, 0, 0, 0, 0, 0, 0, 0, 0, 0, 0, 0, 0, 0, 0, 0, 0, 0, 0, 0, 0, 0, 0, 0, 0, 0, 0, 0, 0, 0, 0, 0, 0, 0, 0, 0, 0, 0, 0, 0, 0, 0, 0, 0, 0, 0, 0, 0, 0, 0, 0, 0, 0, 0, 0, 0, 0, 0, 0, 0, 0, 0, 0, 0, 0, 0, 0, 0, 0, 0, 0, 0, 0, 0, 0, 0, 0, 0, 0, 0, 0, 0, 0, 0, 0, 0, 0, 0, 0, 0, 0, 0, 0, 0, 0, 0, 0, 0, 0, 0, 0, 0, 0, 0, 0, 0, 0, 0, 0, 0, 0, 0, 0, 0, 0, 0, 0, 0, 0, 0, 0, 0, 0, 0, 0, 0, 0, 0, 0, 0, 0, 0, 0, 0, 0, 0, 0], [-1, -1, -1, -1], [0, 0, 0, 0], [0, 0, 0, 0, 0, 0, 0, 0, 0, 0, 0, 0, 0, 0, 0, 0, 0, 0, 0, 0, 0, 0, 0, 0, 0, 0, 0, 0, 0, 0, 0, 0, 0, 0, 0, 0, 0, 0, 0, 0, 0, 0, 0, 0, 0, 0, 0, 0, 0, 0, 0, 0, 0, 0, 0, 0, 0, 0, 0, 0, 0, 0, 0, 0], [0, 0, 0, 0, 0, 0, 0, 0, 0, 0, 0, 0, 0, 0, 0, 0]]
set_option maxRecDepth 100000 in
theorem am_c2_val : am_c2h.map (fun u => am_obs u.2) = some am_tab0 := by decide +kernel
end
section
/-- the memory that a picture holds -/
def am_rdi (h : am_H) (k j : Nat) : Int32 := match h[k]? with
  | some (.inl q) => q.2 j
  | some (.inr q) => (match q.2[j]? with
    | some (.int x) => x
    | _ => 0)
  | none => 0
def am_rdl (h : am_H) (j : Nat) : Int64 := match h[(71 : Nat)]? with
  | some (.inr q) => (match q.2[j]? with
    | some (.long x) => x
    | _ => 0)
  | _ => 0
def am_rd (h : am_H) : am_S := (am_rdi h, am_rdl h)
theorem am_rd_ok {h : am_H} (hs : h.map am_shape = am_sh) : h = am_toH (am_rd h) := by
  apply List.ext_getElem?
  intro k
  rw [am_toH_get, ← hs, List.getElem?_map]
  cases hk : h[k]? with
  | none => rfl
  | some c =>
    have hsh : am_sh[k]? = some (am_shape c) := by rw [← hs, List.getElem?_map, hk]; rfl
    simp only [Option.map_some]
    cases c with
    | inl q =>
      obtain ⟨n, f⟩ := q
      have : (am_rd h).1 k = f := by
        funext j
        simp [am_rd, am_rdi, hk]
      show some (Sum.inl (n, f)) = some (Sum.inl (n, (am_rd h).1 k))
      rw [this]
    | inr q =>
      obtain ⟨ci, fs⟩ := q
      have hfs : fs = (fs.map am_code).mapIdx (fun j t => am_slot (am_rd h) k j t) := by
        apply List.ext_getElem?
        intro j
        rw [List.getElem?_mapIdx, List.getElem?_map]
        cases hj : fs[j]? with
        | none => rfl
        | some v =>
          simp only [Option.map_some]
          congr 1
          cases v with
          | int x =>
            show Value.int x = Value.int ((am_rd h).1 k j)
            simp [am_rd, am_rdi, hk, hj]
          | long x =>
            have hk71 : k = 71 := by
              by_cases h71 : k = 71
              · exact h71
              · have := am_long k _ hsh h71
                simp only [am_shape] at this
                exact absurd (List.mem_map.mpr ⟨_, List.mem_of_getElem? hj, rfl⟩) this
            subst hk71
            show Value.long x = Value.long ((am_rd h).2 j)
            simp [am_rd, am_rdl, hk, hj]
          | ref t => rfl
          | _ =>
            exfalso
            have hcode : ∀ q ∈ am_sh, (match q with
              | .inl _ => true
              | .inr z => !(z.2.contains 999)) = true := by decide +kernel
            have h1 := hcode _ (List.mem_of_getElem? hsh)
            simp only [am_shape] at h1
            have h2 : 999 ∈ fs.map am_code := List.mem_map.mpr ⟨_, List.mem_of_getElem? hj, rfl⟩
            have h3 : (fs.map am_code).contains 999 = true := by rw [List.contains_iff_mem]; exact h2
            rw [h3] at h1
            cases h1
      show some (Sum.inr (ci, fs)) = some (Sum.inr (ci, (fs.map am_code).mapIdx (fun j t => am_slot (am_rd h) k j t)))
      rw [← hfs]
theorem am_made : ∃ h1 h2, (∀ (sv : am_V) (Q : Option Value → am_H → Prop), AM sv 60 [.ref 0] [.inr (8, am_def 8)] Q = Q none h1) ∧ h1.length = 71 ∧ (∀ (sv : am_V) (Q : Option Value → am_H → Prop), AM sv 105 [.ref 71] (h1 ++ [.inr (9, am_def 9)]) Q = Q none h2) ∧ h2 = am_toH (am_rd h2) ∧ am_obs h2 = am_tab0 := by
  obtain ⟨u1, e1, e2⟩ := Option.map_eq_some_iff.mp am_c1_ok
  obtain ⟨u2, e3, e4⟩ := Option.map_eq_some_iff.mp am_c2_ok
  obtain ⟨v1, h1⟩ := u1
  obtain ⟨v2, h2⟩ := u2
  simp only [Prod.mk.injEq] at e2 e4
  obtain ⟨rfl, e2⟩ := e2
  obtain ⟨rfl, e4⟩ := e4
  have e6 := am_c2_val
  rw [e3] at e6
  unfold am_c2h at e3
  obtain ⟨w, f1, f2⟩ := Option.bind_eq_some_iff.mp e3
  cases e1.symm.trans f1
  unfold am_c1h at e1
  have x60 : am_mx 60 = 1 := by decide +kernel
  have x105 : am_mx 105 = 2 := by decide +kernel
  refine ⟨h1, h2, fun sv Q => ?_, ?_, fun sv Q => ?_, am_rd_ok e4, Option.some.inj e6⟩
  · unfold AM
    rw [x60]
    exact AW_fun ⟨_, (none, h1), am_run0_ok _ e1, rfl, rfl⟩
  · have := congrArg List.length e2
    rw [List.length_map] at this
    rw [this]
    decide +kernel
  · unfold AM
    rw [x105]
    exact AW_fun ⟨_, (none, h2), am_run0_ok _ f2, rfl, rfl⟩
end
