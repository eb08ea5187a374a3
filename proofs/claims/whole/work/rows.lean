section
-- ===== PART A: goes FIRST, ahead of the names: the tables' words, and 'selects' of the private methods out of them =====
/-- a private method of a class that the tables say can be made, by its rows of tables_1 -/
def lw_okq (q : MethodName × Nat) : Prop := (q.1.cls ≠ "java/lang/invoke/MethodHandle" ∧ q.1.cls ≠ "java/lang/invoke/VarHandle") ∧ Cond.instantiable q.1.cls q.2 ∈ tables_1 ∧ Cond.privateMethod q.1 ∈ tables_1 ∧ Cond.instanceMethod q.1 ∈ tables_1
theorem lw_p0 : lw_okq (⟨"DowryFund$Dues", "rowFor", "(III)I"⟩, 2) := ⟨⟨by decide +kernel, by decide +kernel⟩, List.mem_of_getElem? (i := 109) (by decide +kernel), List.mem_of_getElem? (i := 258) (by decide +kernel), List.mem_of_getElem? (i := 259) (by decide +kernel)⟩
theorem lw_p1 : lw_okq (⟨"DowryFund$Dues", "ahead", "(II)I"⟩, 2) := ⟨⟨by decide +kernel, by decide +kernel⟩, List.mem_of_getElem? (i := 109) (by decide +kernel), List.mem_of_getElem? (i := 274) (by decide +kernel), List.mem_of_getElem? (i := 275) (by decide +kernel)⟩
theorem lw_p2 : lw_okq (⟨"DowryFund$Dues", "beforeCut", "(LDowryFund$Deposit;II)J"⟩, 2) := ⟨⟨by decide +kernel, by decide +kernel⟩, List.mem_of_getElem? (i := 109) (by decide +kernel), List.mem_of_getElem? (i := 301) (by decide +kernel), List.mem_of_getElem? (i := 302) (by decide +kernel)⟩
theorem lw_p3 : lw_okq (⟨"DowryFund$Roll", "call", "(I)V"⟩, 4) := ⟨⟨by decide +kernel, by decide +kernel⟩, List.mem_of_getElem? (i := 147) (by decide +kernel), List.mem_of_getElem? (i := 314) (by decide +kernel), List.mem_of_getElem? (i := 315) (by decide +kernel)⟩
theorem lw_p4 : lw_okq (⟨"DowryFund$Roll", "payWhole", "()V"⟩, 4) := ⟨⟨by decide +kernel, by decide +kernel⟩, List.mem_of_getElem? (i := 147) (by decide +kernel), List.mem_of_getElem? (i := 325) (by decide +kernel), List.mem_of_getElem? (i := 326) (by decide +kernel)⟩
theorem lw_p5 : lw_okq (⟨"DowryFund$Roll", "payTo", "(LDowryFund$Deposit;J)V"⟩, 4) := ⟨⟨by decide +kernel, by decide +kernel⟩, List.mem_of_getElem? (i := 147) (by decide +kernel), List.mem_of_getElem? (i := 329) (by decide +kernel), List.mem_of_getElem? (i := 330) (by decide +kernel)⟩
theorem lw_p6 : lw_okq (⟨"DowryFund$Roll", "payShares", "(JJ)V"⟩, 4) := ⟨⟨by decide +kernel, by decide +kernel⟩, List.mem_of_getElem? (i := 147) (by decide +kernel), List.mem_of_getElem? (i := 355) (by decide +kernel), List.mem_of_getElem? (i := 356) (by decide +kernel)⟩
theorem lw_p7 : lw_okq (⟨"DowryFund$Roll", "payLeftOver", "()V"⟩, 4) := ⟨⟨by decide +kernel, by decide +kernel⟩, List.mem_of_getElem? (i := 147) (by decide +kernel), List.mem_of_getElem? (i := 359) (by decide +kernel), List.mem_of_getElem? (i := 360) (by decide +kernel)⟩
theorem lw_p8 : lw_okq (⟨"DowryFund$Roll", "close", "()V"⟩, 4) := ⟨⟨by decide +kernel, by decide +kernel⟩, List.mem_of_getElem? (i := 147) (by decide +kernel), List.mem_of_getElem? (i := 363) (by decide +kernel), List.mem_of_getElem? (i := 364) (by decide +kernel)⟩
theorem lw_p9 : lw_okq (⟨"DowryFund", "hasFateNow", "(I)Z"⟩, 11) := ⟨⟨by decide +kernel, by decide +kernel⟩, List.mem_of_getElem? (i := 16) (by decide +kernel), List.mem_of_getElem? (i := 449) (by decide +kernel), List.mem_of_getElem? (i := 450) (by decide +kernel)⟩
theorem lw_p10 : lw_okq (⟨"DowryFund", "dowryFor", "(II)J"⟩, 11) := ⟨⟨by decide +kernel, by decide +kernel⟩, List.mem_of_getElem? (i := 16) (by decide +kernel), List.mem_of_getElem? (i := 532) (by decide +kernel), List.mem_of_getElem? (i := 533) (by decide +kernel)⟩
theorem lw_p11 : lw_okq (⟨"DowryFund$Lives", "afterYear", "(JI)J"⟩, 3) := ⟨⟨by decide +kernel, by decide +kernel⟩, List.mem_of_getElem? (i := 168) (by decide +kernel), List.mem_of_getElem? (i := 648) (by decide +kernel), List.mem_of_getElem? (i := 649) (by decide +kernel)⟩
theorem lw_p12 : lw_okq (⟨"DowryFund", "compareWaiting", "()I"⟩, 11) := ⟨⟨by decide +kernel, by decide +kernel⟩, List.mem_of_getElem? (i := 16) (by decide +kernel), List.mem_of_getElem? (i := 678) (by decide +kernel), List.mem_of_getElem? (i := 679) (by decide +kernel)⟩
theorem lw_p13 : lw_okq (⟨"DowryFund", "dueNow", "(LDowryFund$Deposit;)J"⟩, 11) := ⟨⟨by decide +kernel, by decide +kernel⟩, List.mem_of_getElem? (i := 16) (by decide +kernel), List.mem_of_getElem? (i := 682) (by decide +kernel), List.mem_of_getElem? (i := 683) (by decide +kernel)⟩
theorem lw_p14 : lw_okq (⟨"DowryFundModel", "no", "(I)J"⟩, 43) := ⟨⟨by decide +kernel, by decide +kernel⟩, List.mem_of_getElem? (i := 694) (by decide +kernel), List.mem_of_getElem? (i := 838) (by decide +kernel), List.mem_of_getElem? (i := 839) (by decide +kernel)⟩
theorem lw_p15 : lw_okq (⟨"DowryFundModel", "goOn", "()V"⟩, 43) := ⟨⟨by decide +kernel, by decide +kernel⟩, List.mem_of_getElem? (i := 694) (by decide +kernel), List.mem_of_getElem? (i := 843) (by decide +kernel), List.mem_of_getElem? (i := 844) (by decide +kernel)⟩
def lw_privs_1 : List (MethodName × Nat) := [(⟨"DowryFund$Dues", "rowFor", "(III)I"⟩, 2), (⟨"DowryFund$Dues", "ahead", "(II)I"⟩, 2), (⟨"DowryFund$Dues", "beforeCut", "(LDowryFund$Deposit;II)J"⟩, 2), (⟨"DowryFund$Roll", "call", "(I)V"⟩, 4), (⟨"DowryFund$Roll", "payWhole", "()V"⟩, 4), (⟨"DowryFund$Roll", "payTo", "(LDowryFund$Deposit;J)V"⟩, 4), (⟨"DowryFund$Roll", "payShares", "(JJ)V"⟩, 4), (⟨"DowryFund$Roll", "payLeftOver", "()V"⟩, 4), (⟨"DowryFund$Roll", "close", "()V"⟩, 4), (⟨"DowryFund", "hasFateNow", "(I)Z"⟩, 11), (⟨"DowryFund", "dowryFor", "(II)J"⟩, 11), (⟨"DowryFund$Lives", "afterYear", "(JI)J"⟩, 3), (⟨"DowryFund", "compareWaiting", "()I"⟩, 11), (⟨"DowryFund", "dueNow", "(LDowryFund$Deposit;)J"⟩, 11), (⟨"DowryFundModel", "no", "(I)J"⟩, 43), (⟨"DowryFundModel", "goOn", "()V"⟩, 43)]
theorem lw_r1 : ∀ q ∈ lw_privs_1, lw_okq q := List.forall_mem_cons.mpr ⟨lw_p0, List.forall_mem_cons.mpr ⟨lw_p1, List.forall_mem_cons.mpr ⟨lw_p2, List.forall_mem_cons.mpr ⟨lw_p3, List.forall_mem_cons.mpr ⟨lw_p4, List.forall_mem_cons.mpr ⟨lw_p5, List.forall_mem_cons.mpr ⟨lw_p6, List.forall_mem_cons.mpr ⟨lw_p7, List.forall_mem_cons.mpr ⟨lw_p8, List.forall_mem_cons.mpr ⟨lw_p9, List.forall_mem_cons.mpr ⟨lw_p10, List.forall_mem_cons.mpr ⟨lw_p11, List.forall_mem_cons.mpr ⟨lw_p12, List.forall_mem_cons.mpr ⟨lw_p13, List.forall_mem_cons.mpr ⟨lw_p14, List.forall_mem_cons.mpr ⟨lw_p15, fun _ h => absurd h List.not_mem_nil⟩⟩⟩⟩⟩⟩⟩⟩⟩⟩⟩⟩⟩⟩⟩⟩
theorem lw_p16 : lw_okq (⟨"DowryFundModel", "fallOf", "(II)I"⟩, 43) := ⟨⟨by decide +kernel, by decide +kernel⟩, List.mem_of_getElem? (i := 694) (by decide +kernel), List.mem_of_getElem? (i := 847) (by decide +kernel), List.mem_of_getElem? (i := 848) (by decide +kernel)⟩
theorem lw_p17 : lw_okq (⟨"DowryFundModel", "counted", "(III)I"⟩, 43) := ⟨⟨by decide +kernel, by decide +kernel⟩, List.mem_of_getElem? (i := 694) (by decide +kernel), List.mem_of_getElem? (i := 851) (by decide +kernel), List.mem_of_getElem? (i := 852) (by decide +kernel)⟩
theorem lw_p18 : lw_okq (⟨"DowryFundModel", "fateAt", "(II)I"⟩, 43) := ⟨⟨by decide +kernel, by decide +kernel⟩, List.mem_of_getElem? (i := 694) (by decide +kernel), List.mem_of_getElem? (i := 855) (by decide +kernel), List.mem_of_getElem? (i := 856) (by decide +kernel)⟩
theorem lw_p19 : lw_okq (⟨"DowryFundModel", "dueMonth", "(II)I"⟩, 43) := ⟨⟨by decide +kernel, by decide +kernel⟩, List.mem_of_getElem? (i := 694) (by decide +kernel), List.mem_of_getElem? (i := 859) (by decide +kernel), List.mem_of_getElem? (i := 860) (by decide +kernel)⟩
theorem lw_p20 : lw_okq (⟨"DowryFundModel", "inForce", "(III)I"⟩, 43) := ⟨⟨by decide +kernel, by decide +kernel⟩, List.mem_of_getElem? (i := 694) (by decide +kernel), List.mem_of_getElem? (i := 863) (by decide +kernel), List.mem_of_getElem? (i := 864) (by decide +kernel)⟩
theorem lw_p21 : lw_okq (⟨"DowryFundModel", "dueOf", "(III)J"⟩, 43) := ⟨⟨by decide +kernel, by decide +kernel⟩, List.mem_of_getElem? (i := 694) (by decide +kernel), List.mem_of_getElem? (i := 867) (by decide +kernel), List.mem_of_getElem? (i := 868) (by decide +kernel)⟩
theorem lw_p22 : lw_okq (⟨"DowryFundModel", "pay", "(IJ)V"⟩, 43) := ⟨⟨by decide +kernel, by decide +kernel⟩, List.mem_of_getElem? (i := 694) (by decide +kernel), List.mem_of_getElem? (i := 872) (by decide +kernel), List.mem_of_getElem? (i := 873) (by decide +kernel)⟩
theorem lw_p23 : lw_okq (⟨"DowryFundModel", "holderIn", "(II)I"⟩, 43) := ⟨⟨by decide +kernel, by decide +kernel⟩, List.mem_of_getElem? (i := 694) (by decide +kernel), List.mem_of_getElem? (i := 876) (by decide +kernel), List.mem_of_getElem? (i := 877) (by decide +kernel)⟩
theorem lw_p24 : lw_okq (⟨"DowryFundModel", "isChild", "(I)Z"⟩, 43) := ⟨⟨by decide +kernel, by decide +kernel⟩, List.mem_of_getElem? (i := 694) (by decide +kernel), List.mem_of_getElem? (i := 906) (by decide +kernel), List.mem_of_getElem? (i := 907) (by decide +kernel)⟩
theorem lw_p25 : lw_okq (⟨"DowryFundModel", "isDeposit", "(I)Z"⟩, 43) := ⟨⟨by decide +kernel, by decide +kernel⟩, List.mem_of_getElem? (i := 694) (by decide +kernel), List.mem_of_getElem? (i := 926) (by decide +kernel), List.mem_of_getElem? (i := 927) (by decide +kernel)⟩
theorem lw_p26 : lw_okq (⟨"DowryFundModel", "outMany", "()I"⟩, 43) := ⟨⟨by decide +kernel, by decide +kernel⟩, List.mem_of_getElem? (i := 694) (by decide +kernel), List.mem_of_getElem? (i := 960) (by decide +kernel), List.mem_of_getElem? (i := 961) (by decide +kernel)⟩
theorem lw_p27 : lw_okq (⟨"DowryFundModel", "live", "(II)V"⟩, 43) := ⟨⟨by decide +kernel, by decide +kernel⟩, List.mem_of_getElem? (i := 694) (by decide +kernel), List.mem_of_getElem? (i := 980) (by decide +kernel), List.mem_of_getElem? (i := 981) (by decide +kernel)⟩
def lw_privs_2 : List (MethodName × Nat) := [(⟨"DowryFundModel", "fallOf", "(II)I"⟩, 43), (⟨"DowryFundModel", "counted", "(III)I"⟩, 43), (⟨"DowryFundModel", "fateAt", "(II)I"⟩, 43), (⟨"DowryFundModel", "dueMonth", "(II)I"⟩, 43), (⟨"DowryFundModel", "inForce", "(III)I"⟩, 43), (⟨"DowryFundModel", "dueOf", "(III)J"⟩, 43), (⟨"DowryFundModel", "pay", "(IJ)V"⟩, 43), (⟨"DowryFundModel", "holderIn", "(II)I"⟩, 43), (⟨"DowryFundModel", "isChild", "(I)Z"⟩, 43), (⟨"DowryFundModel", "isDeposit", "(I)Z"⟩, 43), (⟨"DowryFundModel", "outMany", "()I"⟩, 43), (⟨"DowryFundModel", "live", "(II)V"⟩, 43)]
theorem lw_r2 : ∀ q ∈ lw_privs_2, lw_okq q := List.forall_mem_cons.mpr ⟨lw_p16, List.forall_mem_cons.mpr ⟨lw_p17, List.forall_mem_cons.mpr ⟨lw_p18, List.forall_mem_cons.mpr ⟨lw_p19, List.forall_mem_cons.mpr ⟨lw_p20, List.forall_mem_cons.mpr ⟨lw_p21, List.forall_mem_cons.mpr ⟨lw_p22, List.forall_mem_cons.mpr ⟨lw_p23, List.forall_mem_cons.mpr ⟨lw_p24, List.forall_mem_cons.mpr ⟨lw_p25, List.forall_mem_cons.mpr ⟨lw_p26, List.forall_mem_cons.mpr ⟨lw_p27, fun _ h => absurd h List.not_mem_nil⟩⟩⟩⟩⟩⟩⟩⟩⟩⟩⟩⟩
def lw_privs : List (MethodName × Nat) := lw_privs_1 ++ (lw_privs_2)
def lw_tbl : List Cond := k2_sels lw_privs ++ tables_1
theorem lw_privs_ok : ∀ q ∈ lw_privs, lw_okq q := by
  show ∀ q ∈ lw_privs_1 ++ (lw_privs_2), lw_okq q
  exact List.forall_mem_append.mpr ⟨lw_r1, lw_r2⟩
end
section
def RX0 : String := "DowryFund$Children"
def TX0 : u_T := fun k => match k with
  | 0 => ("DowryFund$Children", "births", "[I", true)
  | 1 => ("DowryFund$Children", "size", "I", false)
  | 2 => ("DowryFund$Children", "fateChildren", "[I", true)
  | 3 => ("DowryFund$Children", "fates", "[I", true)
  | 4 => ("DowryFund$Children", "fateMonths", "[I", true)
  | 5 => ("DowryFund$Children", "toldIn", "[I", true)
  | _ => ("DowryFund$Children", "fateCount", "I", false)
def tyX0 : Nat → FieldType := fun k => match k with
  | 0 => .array .int
  | 1 => .int
  | 2 => .array .int
  | 3 => .array .int
  | 4 => .array .int
  | 5 => .array .int
  | _ => .int
abbrev wsX00 : List Cond := u_ws RX0 TX0 7
theorem nmX0 : ∀ a, a < 7 → ∀ b, b < 7 → a ≠ b → (TX0 a).2.1 ≠ (TX0 b).2.1 := by decide +kernel
theorem tyX0_ok : ∀ k, k < 7 → parseFieldDescriptor (TX0 k).2.2.1 = some (tyX0 k) := by decide +kernel
abbrev cX0_init : ByteArray := prog_2_method_1_code
def yX0_init : MethodName := ⟨RX0, "<init>", "()V"⟩
abbrev cX0_has : ByteArray := prog_2_method_2_code
def yX0_has : MethodName := ⟨RX0, "has", "(I)Z"⟩
abbrev cX0_isFull : ByteArray := prog_2_method_3_code
def yX0_isFull : MethodName := ⟨RX0, "isFull", "()Z"⟩
abbrev cX0_add : ByteArray := prog_2_method_4_code
def yX0_add : MethodName := ⟨RX0, "add", "(I)V"⟩
abbrev cX0_birthOf : ByteArray := prog_2_method_5_code
def yX0_birthOf : MethodName := ⟨RX0, "birthOf", "(I)I"⟩
abbrev cX0_areFatesFull : ByteArray := prog_2_method_6_code
def yX0_areFatesFull : MethodName := ⟨RX0, "areFatesFull", "()Z"⟩
abbrev cX0_addFate : ByteArray := prog_2_method_7_code
def yX0_addFate : MethodName := ⟨RX0, "addFate", "(IIII)V"⟩
abbrev cX0_fateRow : ByteArray := prog_2_method_8_code
def yX0_fateRow : MethodName := ⟨RX0, "fateRow", "(II)I"⟩
abbrev cX0_fateOf : ByteArray := prog_2_method_9_code
def yX0_fateOf : MethodName := ⟨RX0, "fateOf", "(I)I"⟩
abbrev cX0_monthOf : ByteArray := prog_2_method_10_code
def yX0_monthOf : MethodName := ⟨RX0, "monthOf", "(I)I"⟩
def RX1 : String := "DowryFund$Decrees"
def TX1 : u_T := fun k => match k with
  | 0 => ("DowryFund$Decrees", "kinds", "[I", true)
  | 1 => ("DowryFund$Decrees", "froms", "[I", true)
  | 2 => ("DowryFund$Decrees", "values", "[I", true)
  | 3 => ("DowryFund$Decrees", "toldIn", "[I", true)
  | _ => ("DowryFund$Decrees", "size", "I", false)
def tyX1 : Nat → FieldType := fun k => match k with
  | 0 => .array .int
  | 1 => .array .int
  | 2 => .array .int
  | 3 => .array .int
  | _ => .int
abbrev wsX10 : List Cond := u_ws RX1 TX1 5
theorem nmX1 : ∀ a, a < 5 → ∀ b, b < 5 → a ≠ b → (TX1 a).2.1 ≠ (TX1 b).2.1 := by decide +kernel
theorem tyX1_ok : ∀ k, k < 5 → parseFieldDescriptor (TX1 k).2.2.1 = some (tyX1 k) := by decide +kernel
abbrev cX1_init : ByteArray := prog_3_method_1_code
def yX1_init : MethodName := ⟨RX1, "<init>", "()V"⟩
abbrev cX1_isKind : ByteArray := prog_3_method_2_code
def yX1_isKind : MethodName := ⟨RX1, "isKind", "(I)Z"⟩
abbrev cX1_mayBe : ByteArray := prog_3_method_3_code
def yX1_mayBe : MethodName := ⟨RX1, "mayBe", "(II)Z"⟩
abbrev cX1_isFull : ByteArray := prog_3_method_4_code
def yX1_isFull : MethodName := ⟨RX1, "isFull", "()Z"⟩
abbrev cX1_add : ByteArray := prog_3_method_5_code
def yX1_add : MethodName := ⟨RX1, "add", "(IIII)V"⟩
abbrev cX1_inForce : ByteArray := prog_3_method_6_code
def yX1_inForce : MethodName := ⟨RX1, "inForce", "(III)I"⟩
def RX2 : String := "DowryFund$Deposit"
def TX2 : u_T := fun k => match k with
  | 0 => ("DowryFund$Deposit", "kind", "I", true)
  | 1 => ("DowryFund$Deposit", "child", "I", true)
  | 2 => ("DowryFund$Deposit", "other", "I", true)
  | 3 => ("DowryFund$Deposit", "made", "I", true)
  | 4 => ("DowryFund$Deposit", "sum", "I", false)
  | 5 => ("DowryFund$Deposit", "dowry", "J", false)
  | 6 => ("DowryFund$Deposit", "end", "I", false)
  | 7 => ("DowryFund$Deposit", "holders", "[I", true)
  | 8 => ("DowryFund$Deposit", "heldFrom", "[I", true)
  | 9 => ("DowryFund$Deposit", "lastHolder", "I", false)
  | 10 => ("DowryFund$Deposit", "received", "J", false)
  | 11 => ("DowryFund$Deposit", "paidOut", "Z", false)
  | 12 => ("DowryFund$Deposit", "dueMonth", "I", false)
  | 13 => ("DowryFund$Deposit", "dueSum", "J", false)
  | 14 => ("DowryFund$Deposit", "onRoll", "Z", false)
  | _ => ("DowryFund$Deposit", "owed", "J", false)
def tyX2 : Nat → FieldType := fun k => match k with
  | 0 => .int
  | 1 => .int
  | 2 => .int
  | 3 => .int
  | 4 => .int
  | 5 => .long
  | 6 => .int
  | 7 => .array .int
  | 8 => .array .int
  | 9 => .int
  | 10 => .long
  | 11 => .boolean
  | 12 => .int
  | 13 => .long
  | 14 => .boolean
  | _ => .long
abbrev wsX20 : List Cond := u_ws RX2 TX2 16
theorem nmX2 : ∀ a, a < 16 → ∀ b, b < 16 → a ≠ b → (TX2 a).2.1 ≠ (TX2 b).2.1 := by decide +kernel
theorem tyX2_ok : ∀ k, k < 16 → parseFieldDescriptor (TX2 k).2.2.1 = some (tyX2 k) := by decide +kernel
abbrev cX2_init : ByteArray := prog_4_method_1_code
def yX2_init : MethodName := ⟨RX2, "<init>", "(IIIII)V"⟩
abbrev cX2_setTerms : ByteArray := prog_4_method_2_code
def yX2_setTerms : MethodName := ⟨RX2, "setTerms", "(IJI)V"⟩
abbrev cX2_tellOf : ByteArray := prog_4_method_3_code
def yX2_tellOf : MethodName := ⟨RX2, "tellOf", "(I)J"⟩
abbrev cX2_lastRow : ByteArray := prog_4_method_4_code
def yX2_lastRow : MethodName := ⟨RX2, "lastRow", "()I"⟩
abbrev cX2_latestHolder : ByteArray := prog_4_method_5_code
def yX2_latestHolder : MethodName := ⟨RX2, "latestHolder", "()I"⟩
abbrev cX2_holderIn : ByteArray := prog_4_method_6_code
def yX2_holderIn : MethodName := ⟨RX2, "holderIn", "(I)I"⟩
abbrev cX2_cameIn : ByteArray := prog_4_method_7_code
def yX2_cameIn : MethodName := ⟨RX2, "cameIn", "(I)Z"⟩
abbrev cX2_maySellIn : ByteArray := prog_4_method_8_code
def yX2_maySellIn : MethodName := ⟨RX2, "maySellIn", "(I)Z"⟩
abbrev cX2_handTo : ByteArray := prog_4_method_9_code
def yX2_handTo : MethodName := ⟨RX2, "handTo", "(II)V"⟩
abbrev cX2_comeToRoll : ByteArray := prog_4_method_10_code
def yX2_comeToRoll : MethodName := ⟨RX2, "comeToRoll", "(I)V"⟩
def RX3 : String := "DowryFund$Deposits"
def TX3 : u_T := fun k => match k with
  | 0 => ("DowryFund$Deposits", "rows", "[LDowryFund$Deposit;", true)
  | _ => ("DowryFund$Deposits", "size", "I", false)
def tyX3 : Nat → FieldType := fun k => match k with
  | 0 => .array (.object "DowryFund$Deposit")
  | _ => .int
abbrev wsX30 : List Cond := u_ws RX3 TX3 2
theorem nmX3 : ∀ a, a < 2 → ∀ b, b < 2 → a ≠ b → (TX3 a).2.1 ≠ (TX3 b).2.1 := by decide +kernel
theorem tyX3_ok : ∀ k, k < 2 → parseFieldDescriptor (TX3 k).2.2.1 = some (tyX3 k) := by decide +kernel
abbrev cX3_init : ByteArray := prog_5_method_1_code
def yX3_init : MethodName := ⟨RX3, "<init>", "()V"⟩
abbrev cX3_isFull : ByteArray := prog_5_method_2_code
def yX3_isFull : MethodName := ⟨RX3, "isFull", "()Z"⟩
abbrev cX3_add : ByteArray := prog_5_method_3_code
def yX3_add : MethodName := ⟨RX3, "add", "(LDowryFund$Deposit;)V"⟩
abbrev cX3_find : ByteArray := prog_5_method_4_code
def yX3_find : MethodName := ⟨RX3, "find", "(I)LDowryFund$Deposit;"⟩
abbrev cX3_countPaidOut : ByteArray := prog_5_method_5_code
def yX3_countPaidOut : MethodName := ⟨RX3, "countPaidOut", "()I"⟩
def RX4 : String := "DowryFund$Dues"
def TX4 : u_T := fun k => match k with
  | 0 => ("DowryFund$Dues", "decrees", "LDowryFund$Decrees;", true)
  | _ => ("DowryFund$Dues", "children", "LDowryFund$Children;", true)
def tyX4 : Nat → FieldType := fun k => match k with
  | 0 => .object "DowryFund$Decrees"
  | _ => .object "DowryFund$Children"
abbrev wsX40 : List Cond := u_ws RX4 TX4 2
theorem nmX4 : ∀ a, a < 2 → ∀ b, b < 2 → a ≠ b → (TX4 a).2.1 ≠ (TX4 b).2.1 := by decide +kernel
theorem tyX4_ok : ∀ k, k < 2 → parseFieldDescriptor (TX4 k).2.2.1 = some (tyX4 k) := by decide +kernel
abbrev cX4_init : ByteArray := prog_6_method_1_code
def yX4_init : MethodName := ⟨RX4, "<init>", "(LDowryFund$Decrees;LDowryFund$Children;)V"⟩
abbrev cX4_fallRow : ByteArray := prog_6_method_2_code
def yX4_fallRow : MethodName := ⟨RX4, "fallRow", "(LDowryFund$Deposit;I)I"⟩
abbrev cX4_rowFor : ByteArray := prog_6_method_3_code
def yX4_rowFor : MethodName := ⟨RX4, "rowFor", "(III)I"⟩
abbrev cX4_ahead : ByteArray := prog_6_method_4_code
def yX4_ahead : MethodName := ⟨RX4, "ahead", "(II)I"⟩
abbrev cX4_dueMonth : ByteArray := prog_6_method_5_code
def yX4_dueMonth : MethodName := ⟨RX4, "dueMonth", "(II)I"⟩
abbrev cX4_dueSum : ByteArray := prog_6_method_6_code
def yX4_dueSum : MethodName := ⟨RX4, "dueSum", "(LDowryFund$Deposit;II)J"⟩
abbrev cX4_beforeCut : ByteArray := prog_6_method_7_code
def yX4_beforeCut : MethodName := ⟨RX4, "beforeCut", "(LDowryFund$Deposit;II)J"⟩
def RX5 : String := "DowryFund$Findings"
def TX5 : u_T := fun k => match k with
  | _ => ("DowryFund$Findings", "times", "[I", true)
def tyX5 : Nat → FieldType := fun k => match k with
  | _ => .array .int
abbrev wsX50 : List Cond := u_ws RX5 TX5 1
theorem nmX5 : ∀ a, a < 1 → ∀ b, b < 1 → a ≠ b → (TX5 a).2.1 ≠ (TX5 b).2.1 := by decide +kernel
theorem tyX5_ok : ∀ k, k < 1 → parseFieldDescriptor (TX5 k).2.2.1 = some (tyX5 k) := by decide +kernel
abbrev cX5_init : ByteArray := prog_7_method_1_code
def yX5_init : MethodName := ⟨RX5, "<init>", "()V"⟩
abbrev cX5_answer : ByteArray := prog_7_method_2_code
def yX5_answer : MethodName := ⟨RX5, "answer", "(I)J"⟩
def RX6 : String := "DowryFund$Lives"
def TX6 : u_T := fun k => match k with
  | 0 => ("DowryFund$Lives", "dying", "[I", true)
  | 1 => ("DowryFund$Lives", "wedding", "[I", true)
  | _ => ("DowryFund$Lives", "veiling", "[I", true)
def tyX6 : Nat → FieldType := fun k => match k with
  | 0 => .array .int
  | 1 => .array .int
  | _ => .array .int
abbrev wsX60 : List Cond := u_ws RX6 TX6 3
theorem nmX6 : ∀ a, a < 3 → ∀ b, b < 3 → a ≠ b → (TX6 a).2.1 ≠ (TX6 b).2.1 := by decide +kernel
theorem tyX6_ok : ∀ k, k < 3 → parseFieldDescriptor (TX6 k).2.2.1 = some (tyX6 k) := by decide +kernel
abbrev cX6_init : ByteArray := prog_8_method_1_code
def yX6_init : MethodName := ⟨RX6, "<init>", "()V"⟩
abbrev cX6_isAge : ByteArray := prog_8_method_2_code
def yX6_isAge : MethodName := ⟨RX6, "isAge", "(I)Z"⟩
abbrev cX6_isSpan : ByteArray := prog_8_method_3_code
def yX6_isSpan : MethodName := ⟨RX6, "isSpan", "(II)Z"⟩
abbrev cX6_mayGo : ByteArray := prog_8_method_4_code
def yX6_mayGo : MethodName := ⟨RX6, "mayGo", "(III)Z"⟩
abbrev cX6_set : ByteArray := prog_8_method_5_code
def yX6_set : MethodName := ⟨RX6, "set", "(IIII)V"⟩
abbrev cX6_stillThere : ByteArray := prog_8_method_6_code
def yX6_stillThere : MethodName := ⟨RX6, "stillThere", "(II)J"⟩
abbrev cX6_wedBetween : ByteArray := prog_8_method_7_code
def yX6_wedBetween : MethodName := ⟨RX6, "wedBetween", "(II)J"⟩
abbrev cX6_afterYear : ByteArray := prog_8_method_8_code
def yX6_afterYear : MethodName := ⟨RX6, "afterYear", "(JI)J"⟩
def RX7 : String := "DowryFund$Purse"
def TX7 : u_T := fun k => match k with
  | 0 => ("DowryFund$Purse", "has", "J", false)
  | 1 => ("DowryFund$Purse", "came", "J", false)
  | 2 => ("DowryFund$Purse", "spent", "J", false)
  | _ => ("DowryFund$Purse", "paidTo", "[J", true)
def tyX7 : Nat → FieldType := fun k => match k with
  | 0 => .long
  | 1 => .long
  | 2 => .long
  | _ => .array .long
abbrev wsX70 : List Cond := u_ws RX7 TX7 4
theorem nmX7 : ∀ a, a < 4 → ∀ b, b < 4 → a ≠ b → (TX7 a).2.1 ≠ (TX7 b).2.1 := by decide +kernel
theorem tyX7_ok : ∀ k, k < 4 → parseFieldDescriptor (TX7 k).2.2.1 = some (tyX7 k) := by decide +kernel
abbrev cX7_init : ByteArray := prog_9_method_1_code
def yX7_init : MethodName := ⟨RX7, "<init>", "()V"⟩
abbrev cX7_pay : ByteArray := prog_9_method_2_code
def yX7_pay : MethodName := ⟨RX7, "pay", "(LDowryFund$Deposit;J)V"⟩
def RX8 : String := "DowryFund$Roll"
def TX8 : u_T := fun k => match k with
  | 0 => ("DowryFund$Roll", "deposits", "LDowryFund$Deposits;", true)
  | 1 => ("DowryFund$Roll", "purse", "LDowryFund$Purse;", true)
  | 2 => ("DowryFund$Roll", "owed", "J", false)
  | _ => ("DowryFund$Roll", "size", "I", false)
def tyX8 : Nat → FieldType := fun k => match k with
  | 0 => .object "DowryFund$Deposits"
  | 1 => .object "DowryFund$Purse"
  | 2 => .long
  | _ => .int
abbrev wsX80 : List Cond := u_ws RX8 TX8 4
theorem nmX8 : ∀ a, a < 4 → ∀ b, b < 4 → a ≠ b → (TX8 a).2.1 ≠ (TX8 b).2.1 := by decide +kernel
theorem tyX8_ok : ∀ k, k < 4 → parseFieldDescriptor (TX8 k).2.2.1 = some (tyX8 k) := by decide +kernel
abbrev cX8_init : ByteArray := prog_10_method_1_code
def yX8_init : MethodName := ⟨RX8, "<init>", "(LDowryFund$Deposits;LDowryFund$Purse;)V"⟩
abbrev cX8_learn : ByteArray := prog_10_method_2_code
def yX8_learn : MethodName := ⟨RX8, "learn", "(LDowryFund$Dues;I)V"⟩
abbrev cX8_payFor : ByteArray := prog_10_method_3_code
def yX8_payFor : MethodName := ⟨RX8, "payFor", "(I)V"⟩
abbrev cX8_call : ByteArray := prog_10_method_4_code
def yX8_call : MethodName := ⟨RX8, "call", "(I)V"⟩
abbrev cX8_payWhole : ByteArray := prog_10_method_5_code
def yX8_payWhole : MethodName := ⟨RX8, "payWhole", "()V"⟩
abbrev cX8_payShares : ByteArray := prog_10_method_6_code
def yX8_payShares : MethodName := ⟨RX8, "payShares", "(JJ)V"⟩
abbrev cX8_payLeftOver : ByteArray := prog_10_method_7_code
def yX8_payLeftOver : MethodName := ⟨RX8, "payLeftOver", "()V"⟩
abbrev cX8_payTo : ByteArray := prog_10_method_8_code
def yX8_payTo : MethodName := ⟨RX8, "payTo", "(LDowryFund$Deposit;J)V"⟩
abbrev cX8_close : ByteArray := prog_10_method_9_code
def yX8_close : MethodName := ⟨RX8, "close", "()V"⟩
def RX9 : String := "DowryFund$Waiting"
def TX9 : u_T := fun k => match k with
  | 0 => ("DowryFund$Waiting", "numbers", "[I", true)
  | _ => ("DowryFund$Waiting", "size", "I", false)
def tyX9 : Nat → FieldType := fun k => match k with
  | 0 => .array .int
  | _ => .int
abbrev wsX90 : List Cond := u_ws RX9 TX9 2
theorem nmX9 : ∀ a, a < 2 → ∀ b, b < 2 → a ≠ b → (TX9 a).2.1 ≠ (TX9 b).2.1 := by decide +kernel
theorem tyX9_ok : ∀ k, k < 2 → parseFieldDescriptor (TX9 k).2.2.1 = some (tyX9 k) := by decide +kernel
abbrev cX9_init : ByteArray := prog_11_method_1_code
def yX9_init : MethodName := ⟨RX9, "<init>", "()V"⟩
abbrev cX9_isFull : ByteArray := prog_11_method_2_code
def yX9_isFull : MethodName := ⟨RX9, "isFull", "()Z"⟩
abbrev cX9_add : ByteArray := prog_11_method_3_code
def yX9_add : MethodName := ⟨RX9, "add", "(I)V"⟩
def RX10 : String := "DowryFund"
def TX10 : u_T := fun k => match k with
  | 0 => ("DowryFund", "findings", "LDowryFund$Findings;", true)
  | 1 => ("DowryFund", "decrees", "LDowryFund$Decrees;", true)
  | 2 => ("DowryFund", "rates", "[I", true)
  | 3 => ("DowryFund", "children", "LDowryFund$Children;", true)
  | 4 => ("DowryFund", "deposits", "LDowryFund$Deposits;", true)
  | 5 => ("DowryFund", "dues", "LDowryFund$Dues;", true)
  | 6 => ("DowryFund", "purse", "LDowryFund$Purse;", true)
  | 7 => ("DowryFund", "roll", "LDowryFund$Roll;", true)
  | 8 => ("DowryFund", "tables", "LDowryFund$Lives;", true)
  | 9 => ("DowryFund", "waiting", "LDowryFund$Waiting;", true)
  | _ => ("DowryFund", "now", "I", false)
def tyX10 : Nat → FieldType := fun k => match k with
  | 0 => .object "DowryFund$Findings"
  | 1 => .object "DowryFund$Decrees"
  | 2 => .array .int
  | 3 => .object "DowryFund$Children"
  | 4 => .object "DowryFund$Deposits"
  | 5 => .object "DowryFund$Dues"
  | 6 => .object "DowryFund$Purse"
  | 7 => .object "DowryFund$Roll"
  | 8 => .object "DowryFund$Lives"
  | 9 => .object "DowryFund$Waiting"
  | _ => .int
abbrev wsX100 : List Cond := u_ws RX10 TX10 11
theorem nmX10 : ∀ a, a < 11 → ∀ b, b < 11 → a ≠ b → (TX10 a).2.1 ≠ (TX10 b).2.1 := by decide +kernel
theorem tyX10_ok : ∀ k, k < 11 → parseFieldDescriptor (TX10 k).2.2.1 = some (tyX10 k) := by decide +kernel
abbrev cX10_init : ByteArray := prog_1_method_1_code
def yX10_init : MethodName := ⟨RX10, "<init>", "()V"⟩
abbrev cX10_months : ByteArray := prog_1_method_2_code
def yX10_months : MethodName := ⟨RX10, "months", "(I)J"⟩
abbrev cX10_decree : ByteArray := prog_1_method_3_code
def yX10_decree : MethodName := ⟨RX10, "decree", "(III)J"⟩
abbrev cX10_force : ByteArray := prog_1_method_4_code
def yX10_force : MethodName := ⟨RX10, "force", "(III)J"⟩
abbrev cX10_rate : ByteArray := prog_1_method_5_code
def yX10_rate : MethodName := ⟨RX10, "rate", "(II)J"⟩
abbrev cX10_child : ByteArray := prog_1_method_6_code
def yX10_child : MethodName := ⟨RX10, "child", "(I)J"⟩
abbrev cX10_fate : ByteArray := prog_1_method_7_code
def yX10_fate : MethodName := ⟨RX10, "fate", "(III)J"⟩
abbrev cX10_told : ByteArray := prog_1_method_8_code
def yX10_told : MethodName := ⟨RX10, "told", "(IIZ)J"⟩
abbrev cX10_deposit : ByteArray := prog_1_method_9_code
def yX10_deposit : MethodName := ⟨RX10, "deposit", "(IIIII)J"⟩
abbrev cX10_about : ByteArray := prog_1_method_10_code
def yX10_about : MethodName := ⟨RX10, "about", "(II)J"⟩
abbrev cX10_as : ByteArray := prog_1_method_11_code
def yX10_as : MethodName := ⟨RX10, "as", "(II)J"⟩
abbrev cX10_sell : ByteArray := prog_1_method_12_code
def yX10_sell : MethodName := ⟨RX10, "sell", "(II)J"⟩
abbrev cX10_holder : ByteArray := prog_1_method_13_code
def yX10_holder : MethodName := ⟨RX10, "holder", "(II)J"⟩
abbrev cX10_due : ByteArray := prog_1_method_14_code
def yX10_due : MethodName := ⟨RX10, "due", "(III)J"⟩
abbrev cX10_foretold : ByteArray := prog_1_method_15_code
def yX10_foretold : MethodName := ⟨RX10, "foretold", "(I)J"⟩
abbrev cX10_income : ByteArray := prog_1_method_16_code
def yX10_income : MethodName := ⟨RX10, "income", "(I)J"⟩
abbrev cX10_purse : ByteArray := prog_1_method_17_code
def yX10_purse : MethodName := ⟨RX10, "purse", "(I)J"⟩
abbrev cX10_paid : ByteArray := prog_1_method_18_code
def yX10_paid : MethodName := ⟨RX10, "paid", "(I)J"⟩
abbrev cX10_lives : ByteArray := prog_1_method_19_code
def yX10_lives : MethodName := ⟨RX10, "lives", "(IIII)J"⟩
abbrev cX10_value : ByteArray := prog_1_method_20_code
def yX10_value : MethodName := ⟨RX10, "value", "(III)J"⟩
abbrev cX10_left : ByteArray := prog_1_method_21_code
def yX10_left : MethodName := ⟨RX10, "left", "(II)J"⟩
abbrev cX10_tell : ByteArray := prog_1_method_22_code
def yX10_tell : MethodName := ⟨RX10, "tell", "(I)J"⟩
abbrev cX10_check : ByteArray := prog_1_method_23_code
def yX10_check : MethodName := ⟨RX10, "check", "()J"⟩
abbrev cX10_count : ByteArray := prog_1_method_24_code
def yX10_count : MethodName := ⟨RX10, "count", "(I)J"⟩
abbrev cX10_found : ByteArray := prog_1_method_25_code
def yX10_found : MethodName := ⟨RX10, "found", "(I)J"⟩
abbrev cX10_isWithin : ByteArray := prog_1_method_26_code
def yX10_isWithin : MethodName := ⟨RX10, "isWithin", "(III)Z"⟩
abbrev cX10_isMonth : ByteArray := prog_1_method_27_code
def yX10_isMonth : MethodName := ⟨RX10, "isMonth", "(I)Z"⟩
abbrev cX10_isHolder : ByteArray := prog_1_method_28_code
def yX10_isHolder : MethodName := ⟨RX10, "isHolder", "(I)Z"⟩
abbrev cX10_isDepositKind : ByteArray := prog_1_method_29_code
def yX10_isDepositKind : MethodName := ⟨RX10, "isDepositKind", "(I)Z"⟩
abbrev cX10_thousandths : ByteArray := prog_1_method_30_code
def yX10_thousandths : MethodName := ⟨RX10, "thousandths", "(JI)J"⟩
abbrev cX10_hasFateNow : ByteArray := prog_1_method_31_code
def yX10_hasFateNow : MethodName := ⟨RX10, "hasFateNow", "(I)Z"⟩
abbrev cX10_dowryFor : ByteArray := prog_1_method_32_code
def yX10_dowryFor : MethodName := ⟨RX10, "dowryFor", "(II)J"⟩
abbrev cX10_compareWaiting : ByteArray := prog_1_method_33_code
def yX10_compareWaiting : MethodName := ⟨RX10, "compareWaiting", "()I"⟩
abbrev cX10_dueNow : ByteArray := prog_1_method_34_code
def yX10_dueNow : MethodName := ⟨RX10, "dueNow", "(LDowryFund$Deposit;)J"⟩
def RX11 : String := "DowryFundModel"
def TX11 : u_T := fun k => match k with
  | 0 => ("DowryFundModel", "now", "I", false)
  | 1 => ("DowryFundModel", "findings", "[I", true)
  | 2 => ("DowryFundModel", "decrees", "I", false)
  | 3 => ("DowryFundModel", "decreeKind", "[I", true)
  | 4 => ("DowryFundModel", "decreeFrom", "[I", true)
  | 5 => ("DowryFundModel", "decreeValue", "[I", true)
  | 6 => ("DowryFundModel", "decreeTold", "[I", true)
  | 7 => ("DowryFundModel", "rates", "[I", true)
  | 8 => ("DowryFundModel", "children", "I", false)
  | 9 => ("DowryFundModel", "born", "[I", true)
  | 10 => ("DowryFundModel", "fates", "I", false)
  | 11 => ("DowryFundModel", "fateOf", "[I", true)
  | 12 => ("DowryFundModel", "fateIs", "[I", true)
  | 13 => ("DowryFundModel", "fateMonth", "[I", true)
  | 14 => ("DowryFundModel", "fateTold", "[I", true)
  | 15 => ("DowryFundModel", "deposits", "I", false)
  | 16 => ("DowryFundModel", "kinds", "[I", true)
  | 17 => ("DowryFundModel", "one", "[I", true)
  | 18 => ("DowryFundModel", "two", "[I", true)
  | 19 => ("DowryFundModel", "sums", "[I", true)
  | 20 => ("DowryFundModel", "dowries", "[J", true)
  | 21 => ("DowryFundModel", "ends", "[I", true)
  | 22 => ("DowryFundModel", "made", "[I", true)
  | 23 => ("DowryFundModel", "paidTo", "[J", true)
  | 24 => ("DowryFundModel", "isOut", "[Z", true)
  | 25 => ("DowryFundModel", "soldMany", "[I", true)
  | 26 => ("DowryFundModel", "soldFrom", "[I", true)
  | 27 => ("DowryFundModel", "soldTo", "[I", true)
  | 28 => ("DowryFundModel", "purse", "J", false)
  | 29 => ("DowryFundModel", "came", "J", false)
  | 30 => ("DowryFundModel", "paidAll", "J", false)
  | 31 => ("DowryFundModel", "short0", "J", false)
  | 32 => ("DowryFundModel", "rolled", "I", false)
  | 33 => ("DowryFundModel", "holders", "[J", true)
  | 34 => ("DowryFundModel", "dies", "[I", true)
  | 35 => ("DowryFundModel", "weds", "[I", true)
  | 36 => ("DowryFundModel", "veils", "[I", true)
  | 37 => ("DowryFundModel", "waits", "I", false)
  | 38 => ("DowryFundModel", "waiting", "[I", true)
  | 39 => ("DowryFundModel", "isRolled", "[Z", true)
  | 40 => ("DowryFundModel", "owed", "[J", true)
  | 41 => ("DowryFundModel", "still", "J", false)
  | _ => ("DowryFundModel", "wedded", "J", false)
def tyX11 : Nat → FieldType := fun k => match k with
  | 0 => .int
  | 1 => .array .int
  | 2 => .int
  | 3 => .array .int
  | 4 => .array .int
  | 5 => .array .int
  | 6 => .array .int
  | 7 => .array .int
  | 8 => .int
  | 9 => .array .int
  | 10 => .int
  | 11 => .array .int
  | 12 => .array .int
  | 13 => .array .int
  | 14 => .array .int
  | 15 => .int
  | 16 => .array .int
  | 17 => .array .int
  | 18 => .array .int
  | 19 => .array .int
  | 20 => .array .long
  | 21 => .array .int
  | 22 => .array .int
  | 23 => .array .long
  | 24 => .array .boolean
  | 25 => .array .int
  | 26 => .array .int
  | 27 => .array .int
  | 28 => .long
  | 29 => .long
  | 30 => .long
  | 31 => .long
  | 32 => .int
  | 33 => .array .long
  | 34 => .array .int
  | 35 => .array .int
  | 36 => .array .int
  | 37 => .int
  | 38 => .array .int
  | 39 => .array .boolean
  | 40 => .array .long
  | 41 => .long
  | _ => .long
abbrev wsX110 : List Cond := u_ws RX11 TX11 43
theorem nmX11 : ∀ a, a < 43 → ∀ b, b < 43 → a ≠ b → (TX11 a).2.1 ≠ (TX11 b).2.1 := by decide +kernel
theorem tyX11_ok : ∀ k, k < 43 → parseFieldDescriptor (TX11 k).2.2.1 = some (tyX11 k) := by decide +kernel
abbrev cX11_init : ByteArray := prog_13_method_1_code
def yX11_init : MethodName := ⟨RX11, "<init>", "()V"⟩
abbrev cX11_no : ByteArray := prog_13_method_2_code
def yX11_no : MethodName := ⟨RX11, "no", "(I)J"⟩
abbrev cX11_in : ByteArray := prog_13_method_3_code
def yX11_in : MethodName := ⟨RX11, "in", "(III)Z"⟩
abbrev cX11_isMonth : ByteArray := prog_13_method_4_code
def yX11_isMonth : MethodName := ⟨RX11, "isMonth", "(I)Z"⟩
abbrev cX11_months : ByteArray := prog_13_method_5_code
def yX11_months : MethodName := ⟨RX11, "months", "(I)J"⟩
abbrev cX11_isValue : ByteArray := prog_13_method_6_code
def yX11_isValue : MethodName := ⟨RX11, "isValue", "(II)Z"⟩
abbrev cX11_decree : ByteArray := prog_13_method_7_code
def yX11_decree : MethodName := ⟨RX11, "decree", "(III)J"⟩
abbrev cX11_inForce : ByteArray := prog_13_method_8_code
def yX11_inForce : MethodName := ⟨RX11, "inForce", "(III)I"⟩
abbrev cX11_force : ByteArray := prog_13_method_9_code
def yX11_force : MethodName := ⟨RX11, "force", "(III)J"⟩
abbrev cX11_rate : ByteArray := prog_13_method_10_code
def yX11_rate : MethodName := ⟨RX11, "rate", "(II)J"⟩
abbrev cX11_isChild : ByteArray := prog_13_method_11_code
def yX11_isChild : MethodName := ⟨RX11, "isChild", "(I)Z"⟩
abbrev cX11_isDeposit : ByteArray := prog_13_method_12_code
def yX11_isDeposit : MethodName := ⟨RX11, "isDeposit", "(I)Z"⟩
abbrev cX11_isHolder : ByteArray := prog_13_method_13_code
def yX11_isHolder : MethodName := ⟨RX11, "isHolder", "(I)Z"⟩
abbrev cX11_child : ByteArray := prog_13_method_14_code
def yX11_child : MethodName := ⟨RX11, "child", "(I)J"⟩
abbrev cX11_fate : ByteArray := prog_13_method_15_code
def yX11_fate : MethodName := ⟨RX11, "fate", "(III)J"⟩
abbrev cX11_fateAt : ByteArray := prog_13_method_16_code
def yX11_fateAt : MethodName := ⟨RX11, "fateAt", "(II)I"⟩
abbrev cX11_told : ByteArray := prog_13_method_17_code
def yX11_told : MethodName := ⟨RX11, "told", "(IIZ)J"⟩
abbrev cX11_deposit : ByteArray := prog_13_method_18_code
def yX11_deposit : MethodName := ⟨RX11, "deposit", "(IIIII)J"⟩
abbrev cX11_about : ByteArray := prog_13_method_19_code
def yX11_about : MethodName := ⟨RX11, "about", "(II)J"⟩
abbrev cX11_as : ByteArray := prog_13_method_20_code
def yX11_as : MethodName := ⟨RX11, "as", "(II)J"⟩
abbrev cX11_holderIn : ByteArray := prog_13_method_21_code
def yX11_holderIn : MethodName := ⟨RX11, "holderIn", "(II)I"⟩
abbrev cX11_sell : ByteArray := prog_13_method_22_code
def yX11_sell : MethodName := ⟨RX11, "sell", "(II)J"⟩
abbrev cX11_holder : ByteArray := prog_13_method_23_code
def yX11_holder : MethodName := ⟨RX11, "holder", "(II)J"⟩
abbrev cX11_counted : ByteArray := prog_13_method_24_code
def yX11_counted : MethodName := ⟨RX11, "counted", "(III)I"⟩
abbrev cX11_fallOf : ByteArray := prog_13_method_25_code
def yX11_fallOf : MethodName := ⟨RX11, "fallOf", "(II)I"⟩
abbrev cX11_dueMonth : ByteArray := prog_13_method_26_code
def yX11_dueMonth : MethodName := ⟨RX11, "dueMonth", "(II)I"⟩
abbrev cX11_dueOf : ByteArray := prog_13_method_27_code
def yX11_dueOf : MethodName := ⟨RX11, "dueOf", "(III)J"⟩
abbrev cX11_due : ByteArray := prog_13_method_28_code
def yX11_due : MethodName := ⟨RX11, "due", "(III)J"⟩
abbrev cX11_foretold : ByteArray := prog_13_method_29_code
def yX11_foretold : MethodName := ⟨RX11, "foretold", "(I)J"⟩
abbrev cX11_income : ByteArray := prog_13_method_30_code
def yX11_income : MethodName := ⟨RX11, "income", "(I)J"⟩
abbrev cX11_pay : ByteArray := prog_13_method_31_code
def yX11_pay : MethodName := ⟨RX11, "pay", "(IJ)V"⟩
abbrev cX11_goOn : ByteArray := prog_13_method_32_code
def yX11_goOn : MethodName := ⟨RX11, "goOn", "()V"⟩
abbrev cX11_outMany : ByteArray := prog_13_method_33_code
def yX11_outMany : MethodName := ⟨RX11, "outMany", "()I"⟩
abbrev cX11_purse : ByteArray := prog_13_method_34_code
def yX11_purse : MethodName := ⟨RX11, "purse", "(I)J"⟩
abbrev cX11_paid : ByteArray := prog_13_method_35_code
def yX11_paid : MethodName := ⟨RX11, "paid", "(I)J"⟩
abbrev cX11_lives : ByteArray := prog_13_method_36_code
def yX11_lives : MethodName := ⟨RX11, "lives", "(IIII)J"⟩
abbrev cX11_live : ByteArray := prog_13_method_37_code
def yX11_live : MethodName := ⟨RX11, "live", "(II)V"⟩
abbrev cX11_areAges : ByteArray := prog_13_method_38_code
def yX11_areAges : MethodName := ⟨RX11, "areAges", "(II)Z"⟩
abbrev cX11_value : ByteArray := prog_13_method_39_code
def yX11_value : MethodName := ⟨RX11, "value", "(III)J"⟩
abbrev cX11_left : ByteArray := prog_13_method_40_code
def yX11_left : MethodName := ⟨RX11, "left", "(II)J"⟩
abbrev cX11_tell : ByteArray := prog_13_method_41_code
def yX11_tell : MethodName := ⟨RX11, "tell", "(I)J"⟩
abbrev cX11_check : ByteArray := prog_13_method_42_code
def yX11_check : MethodName := ⟨RX11, "check", "()J"⟩
abbrev cX11_count : ByteArray := prog_13_method_43_code
def yX11_count : MethodName := ⟨RX11, "count", "(I)J"⟩
abbrev cX11_found : ByteArray := prog_13_method_44_code
def yX11_found : MethodName := ⟨RX11, "found", "(I)J"⟩
def RJ9 : String := "java/lang/Math"
def TJ9 : u_T := fun k => match k with
  | _ => ("", "", "", false)
def tyJ9 : Nat → FieldType := fun k => match k with
  | _ => .int
abbrev wsJ90 : List Cond := u_ws RJ9 TJ9 0
theorem nmJ9 : ∀ a, a < 0 → ∀ b, b < 0 → a ≠ b → (TJ9 a).2.1 ≠ (TJ9 b).2.1 := by decide +kernel
theorem tyJ9_ok : ∀ k, k < 0 → parseFieldDescriptor (TJ9 k).2.2.1 = some (tyJ9 k) := by decide +kernel
abbrev cJ9_max_7cf53 : ByteArray := prog_14_method_65_code
def yJ9_max_7cf53 : MethodName := ⟨RJ9, "max", "(II)I"⟩
abbrev cJ9_max_f86c9 : ByteArray := prog_14_method_66_code
def yJ9_max_f86c9 : MethodName := ⟨RJ9, "max", "(JJ)J"⟩
abbrev cJ9_min_7cf53 : ByteArray := prog_14_method_69_code
def yJ9_min_7cf53 : MethodName := ⟨RJ9, "min", "(II)I"⟩
abbrev cJ9_min_f86c9 : ByteArray := prog_14_method_70_code
def yJ9_min_f86c9 : MethodName := ⟨RJ9, "min", "(JJ)J"⟩
def RJ7 : String := "java/util/Arrays"
def TJ7 : u_T := fun k => match k with
  | _ => ("", "", "", false)
def tyJ7 : Nat → FieldType := fun k => match k with
  | _ => .int
abbrev wsJ70 : List Cond := u_ws RJ7 TJ7 0
theorem nmJ7 : ∀ a, a < 0 → ∀ b, b < 0 → a ≠ b → (TJ7 a).2.1 ≠ (TJ7 b).2.1 := by decide +kernel
theorem tyJ7_ok : ∀ k, k < 0 → parseFieldDescriptor (TJ7 k).2.2.1 = some (tyJ7 k) := by decide +kernel
abbrev cJ7_fill_53178 : ByteArray := prog_15_method_103_code
def yJ7_fill_53178 : MethodName := ⟨RJ7, "fill", "([II)V"⟩
def RL : String := "DowryFundLaw"
abbrev cL_law : ByteArray := code
def yL_law : MethodName := ⟨RL, "law", "([I)Z"⟩
abbrev vwCl : List vw_C := [(RX0, TX0, 7), (RX1, TX1, 5), (RX2, TX2, 16), (RX3, TX3, 2), (RX4, TX4, 2), (RX5, TX5, 1), (RX6, TX6, 3), (RX7, TX7, 4), (RX8, TX8, 4), (RX9, TX9, 2), (RX10, TX10, 11), (RX11, TX11, 43)]
end
section
/-- the words that a method may rest on: all of the tables' words that a call hands on -/
def gL : List Cond := lw_tbl.filter goodWord
theorem gL_in {w : Cond} (i : Nat) (h : lw_tbl[i]? = some w) (hg : goodWord w = true) : w ∈ gL := List.mem_filter.mpr ⟨List.mem_of_getElem? h, hg⟩
theorem gL_all {ws : List Cond} (ps : List Nat) (hp : ws = ps.filterMap (fun i => lw_tbl[i]?)) (h : ws.all goodWord = true) : ∀ w ∈ ws, w ∈ gL := by
  intro w hw
  have h1 := List.all_eq_true.mp h w hw
  rw [hp] at hw
  obtain ⟨i, -, hi⟩ := List.mem_filterMap.mp hw
  exact gL_in i hi h1
theorem gL_good : GoodIn gL gL := fun w hw => ⟨hw, good_of_word (List.mem_filter.mp hw).2⟩
theorem gL_tbl : ∀ w ∈ gL, w ∈ lw_tbl := fun _ h => (List.mem_filter.mp h).1
theorem wl_43 : Cond.classLink RL 7 RX10 ∈ gL := gL_in 43 (by decide +kernel) (by decide +kernel)
theorem wl_44 : Cond.instantiable RX10 11 ∈ gL := gL_in 44 (by decide +kernel) (by decide +kernel)
theorem wl_29 : Cond.initialized RX10 ∈ gL := gL_in 29 (by decide +kernel) (by decide +kernel)
theorem wl_721 : Cond.classLink RL 10 RX11 ∈ gL := gL_in 721 (by decide +kernel) (by decide +kernel)
theorem wl_722 : Cond.instantiable RX11 43 ∈ gL := gL_in 722 (by decide +kernel) (by decide +kernel)
theorem wl_40 : Cond.initialized RX11 ∈ gL := gL_in 40 (by decide +kernel) (by decide +kernel)
theorem wl_45 : Cond.methodLink RL 9 yX10_init ∈ gL := gL_in 45 (by decide +kernel) (by decide +kernel)
theorem wl_46 : Cond.instanceMethod yX10_init ∈ gL := gL_in 46 (by decide +kernel) (by decide +kernel)
theorem wl_47 : Cond.code yX10_init cX10_init 1 none ∈ gL := gL_in 47 (by decide +kernel) (by decide +kernel)
theorem wl_48 : Cond.methodLink RX10 1 objectInit ∈ gL := gL_in 48 (by decide +kernel) (by decide +kernel)
theorem wl_49 : Cond.instanceMethod objectInit ∈ gL := gL_in 49 (by decide +kernel) (by decide +kernel)
theorem wl_50 : Cond.code objectInit ⟨#[0xb1]⟩ 1 none ∈ gL := gL_in 50 (by decide +kernel) (by decide +kernel)
theorem wl_51 : Cond.classLink RX10 7 RX5 ∈ gL := gL_in 51 (by decide +kernel) (by decide +kernel)
theorem wl_52 : Cond.instantiable RX5 1 ∈ gL := gL_in 52 (by decide +kernel) (by decide +kernel)
theorem wl_30 : Cond.initialized RX5 ∈ gL := gL_in 30 (by decide +kernel) (by decide +kernel)
theorem wl_226 : Cond.fieldLink RX10 10 "DowryFund" "findings" "LDowryFund$Findings;" ∈ gL := gL_in 226 (by decide +kernel) (by decide +kernel)
theorem wl_63 : Cond.classLink RX10 16 RX1 ∈ gL := gL_in 63 (by decide +kernel) (by decide +kernel)
theorem wl_64 : Cond.instantiable RX1 5 ∈ gL := gL_in 64 (by decide +kernel) (by decide +kernel)
theorem wl_31 : Cond.initialized RX1 ∈ gL := gL_in 31 (by decide +kernel) (by decide +kernel)
theorem wl_227 : Cond.fieldLink RX10 19 "DowryFund" "decrees" "LDowryFund$Decrees;" ∈ gL := gL_in 227 (by decide +kernel) (by decide +kernel)
theorem wl_62 : Cond.arrayClass .int ∈ gL := gL_in 62 (by decide +kernel) (by decide +kernel)
theorem wl_228 : Cond.fieldLink RX10 23 "DowryFund" "rates" "[I" ∈ gL := gL_in 228 (by decide +kernel) (by decide +kernel)
theorem wl_89 : Cond.classLink RX10 33 RX0 ∈ gL := gL_in 89 (by decide +kernel) (by decide +kernel)
theorem wl_90 : Cond.instantiable RX0 7 ∈ gL := gL_in 90 (by decide +kernel) (by decide +kernel)
theorem wl_33 : Cond.initialized RX0 ∈ gL := gL_in 33 (by decide +kernel) (by decide +kernel)
theorem wl_229 : Cond.fieldLink RX10 36 "DowryFund" "children" "LDowryFund$Children;" ∈ gL := gL_in 229 (by decide +kernel) (by decide +kernel)
theorem wl_119 : Cond.classLink RX10 40 RX3 ∈ gL := gL_in 119 (by decide +kernel) (by decide +kernel)
theorem wl_120 : Cond.instantiable RX3 2 ∈ gL := gL_in 120 (by decide +kernel) (by decide +kernel)
theorem wl_34 : Cond.initialized RX3 ∈ gL := gL_in 34 (by decide +kernel) (by decide +kernel)
theorem wl_230 : Cond.fieldLink RX10 43 "DowryFund" "deposits" "LDowryFund$Deposits;" ∈ gL := gL_in 230 (by decide +kernel) (by decide +kernel)
theorem wl_136 : Cond.classLink RX10 47 RX4 ∈ gL := gL_in 136 (by decide +kernel) (by decide +kernel)
theorem wl_137 : Cond.instantiable RX4 2 ∈ gL := gL_in 137 (by decide +kernel) (by decide +kernel)
theorem wl_35 : Cond.initialized RX4 ∈ gL := gL_in 35 (by decide +kernel) (by decide +kernel)
theorem wl_231 : Cond.fieldLink RX10 52 "DowryFund" "dues" "LDowryFund$Dues;" ∈ gL := gL_in 231 (by decide +kernel) (by decide +kernel)
theorem wl_149 : Cond.classLink RX10 56 RX7 ∈ gL := gL_in 149 (by decide +kernel) (by decide +kernel)
theorem wl_150 : Cond.instantiable RX7 4 ∈ gL := gL_in 150 (by decide +kernel) (by decide +kernel)
theorem wl_36 : Cond.initialized RX7 ∈ gL := gL_in 36 (by decide +kernel) (by decide +kernel)
theorem wl_232 : Cond.fieldLink RX10 59 "DowryFund" "purse" "LDowryFund$Purse;" ∈ gL := gL_in 232 (by decide +kernel) (by decide +kernel)
theorem wl_174 : Cond.classLink RX10 63 RX8 ∈ gL := gL_in 174 (by decide +kernel) (by decide +kernel)
theorem wl_175 : Cond.instantiable RX8 4 ∈ gL := gL_in 175 (by decide +kernel) (by decide +kernel)
theorem wl_37 : Cond.initialized RX8 ∈ gL := gL_in 37 (by decide +kernel) (by decide +kernel)
theorem wl_233 : Cond.fieldLink RX10 68 "DowryFund" "roll" "LDowryFund$Roll;" ∈ gL := gL_in 233 (by decide +kernel) (by decide +kernel)
theorem wl_195 : Cond.classLink RX10 72 RX6 ∈ gL := gL_in 195 (by decide +kernel) (by decide +kernel)
theorem wl_196 : Cond.instantiable RX6 3 ∈ gL := gL_in 196 (by decide +kernel) (by decide +kernel)
theorem wl_38 : Cond.initialized RX6 ∈ gL := gL_in 38 (by decide +kernel) (by decide +kernel)
theorem wl_234 : Cond.fieldLink RX10 75 "DowryFund" "tables" "LDowryFund$Lives;" ∈ gL := gL_in 234 (by decide +kernel) (by decide +kernel)
theorem wl_211 : Cond.classLink RX10 79 RX9 ∈ gL := gL_in 211 (by decide +kernel) (by decide +kernel)
theorem wl_212 : Cond.instantiable RX9 2 ∈ gL := gL_in 212 (by decide +kernel) (by decide +kernel)
theorem wl_39 : Cond.initialized RX9 ∈ gL := gL_in 39 (by decide +kernel) (by decide +kernel)
theorem wl_235 : Cond.fieldLink RX10 82 "DowryFund" "waiting" "LDowryFund$Waiting;" ∈ gL := gL_in 235 (by decide +kernel) (by decide +kernel)
theorem wl_236 : Cond.fieldLink RX10 86 "DowryFund" "now" "I" ∈ gL := gL_in 236 (by decide +kernel) (by decide +kernel)
theorem wl_54 : Cond.instanceMethod yX5_init ∈ gL := gL_in 54 (by decide +kernel) (by decide +kernel)
theorem wl_55 : Cond.code yX5_init cX5_init 1 none ∈ gL := gL_in 55 (by decide +kernel) (by decide +kernel)
theorem wl_56 : Cond.methodLink RX5 3 objectInit ∈ gL := gL_in 56 (by decide +kernel) (by decide +kernel)
theorem wl_57 : Cond.fieldLink RX5 9 "DowryFund$Findings" "times" "[I" ∈ gL := gL_in 57 (by decide +kernel) (by decide +kernel)
theorem wl_66 : Cond.instanceMethod yX1_init ∈ gL := gL_in 66 (by decide +kernel) (by decide +kernel)
theorem wl_67 : Cond.code yX1_init cX1_init 1 none ∈ gL := gL_in 67 (by decide +kernel) (by decide +kernel)
theorem wl_68 : Cond.methodLink RX1 3 objectInit ∈ gL := gL_in 68 (by decide +kernel) (by decide +kernel)
theorem wl_69 : Cond.fieldLink RX1 11 "DowryFund$Decrees" "kinds" "[I" ∈ gL := gL_in 69 (by decide +kernel) (by decide +kernel)
theorem wl_70 : Cond.fieldLink RX1 15 "DowryFund$Decrees" "froms" "[I" ∈ gL := gL_in 70 (by decide +kernel) (by decide +kernel)
theorem wl_71 : Cond.fieldLink RX1 18 "DowryFund$Decrees" "values" "[I" ∈ gL := gL_in 71 (by decide +kernel) (by decide +kernel)
theorem wl_72 : Cond.fieldLink RX1 21 "DowryFund$Decrees" "toldIn" "[I" ∈ gL := gL_in 72 (by decide +kernel) (by decide +kernel)
theorem wl_73 : Cond.fieldLink RX1 24 "DowryFund$Decrees" "size" "I" ∈ gL := gL_in 73 (by decide +kernel) (by decide +kernel)
theorem wl_86 : Cond.methodLink RX10 27 yJ7_fill_53178 ∈ gL := gL_in 86 (by decide +kernel) (by decide +kernel)
theorem wl_87 : Cond.static yJ7_fill_53178 ∈ gL := gL_in 87 (by decide +kernel) (by decide +kernel)
theorem wl_32 : Cond.initialized RJ7 ∈ gL := gL_in 32 (by decide +kernel) (by decide +kernel)
theorem wl_88 : Cond.code yJ7_fill_53178 cJ7_fill_53178 4 none ∈ gL := gL_in 88 (by decide +kernel) (by decide +kernel)
theorem wl_92 : Cond.instanceMethod yX0_init ∈ gL := gL_in 92 (by decide +kernel) (by decide +kernel)
theorem wl_93 : Cond.code yX0_init cX0_init 1 none ∈ gL := gL_in 93 (by decide +kernel) (by decide +kernel)
theorem wl_94 : Cond.methodLink RX0 3 objectInit ∈ gL := gL_in 94 (by decide +kernel) (by decide +kernel)
theorem wl_95 : Cond.fieldLink RX0 11 "DowryFund$Children" "births" "[I" ∈ gL := gL_in 95 (by decide +kernel) (by decide +kernel)
theorem wl_96 : Cond.fieldLink RX0 15 "DowryFund$Children" "size" "I" ∈ gL := gL_in 96 (by decide +kernel) (by decide +kernel)
theorem wl_98 : Cond.fieldLink RX0 19 "DowryFund$Children" "fateChildren" "[I" ∈ gL := gL_in 98 (by decide +kernel) (by decide +kernel)
theorem wl_99 : Cond.fieldLink RX0 22 "DowryFund$Children" "fates" "[I" ∈ gL := gL_in 99 (by decide +kernel) (by decide +kernel)
theorem wl_100 : Cond.fieldLink RX0 25 "DowryFund$Children" "fateMonths" "[I" ∈ gL := gL_in 100 (by decide +kernel) (by decide +kernel)
theorem wl_101 : Cond.fieldLink RX0 28 "DowryFund$Children" "toldIn" "[I" ∈ gL := gL_in 101 (by decide +kernel) (by decide +kernel)
theorem wl_102 : Cond.fieldLink RX0 31 "DowryFund$Children" "fateCount" "I" ∈ gL := gL_in 102 (by decide +kernel) (by decide +kernel)
theorem wl_122 : Cond.instanceMethod yX3_init ∈ gL := gL_in 122 (by decide +kernel) (by decide +kernel)
theorem wl_123 : Cond.code yX3_init cX3_init 1 none ∈ gL := gL_in 123 (by decide +kernel) (by decide +kernel)
theorem wl_124 : Cond.methodLink RX3 1 objectInit ∈ gL := gL_in 124 (by decide +kernel) (by decide +kernel)
theorem wl_125 : Cond.classLink RX3 9 RX2 ∈ gL := gL_in 125 (by decide +kernel) (by decide +kernel)
theorem wl_127 : Cond.fieldLink RX3 11 "DowryFund$Deposits" "rows" "[LDowryFund$Deposit;" ∈ gL := gL_in 127 (by decide +kernel) (by decide +kernel)
theorem wl_128 : Cond.fieldLink RX3 15 "DowryFund$Deposits" "size" "I" ∈ gL := gL_in 128 (by decide +kernel) (by decide +kernel)
theorem wl_138 : Cond.methodLink RX10 49 yX4_init ∈ gL := gL_in 138 (by decide +kernel) (by decide +kernel)
theorem wl_139 : Cond.instanceMethod yX4_init ∈ gL := gL_in 139 (by decide +kernel) (by decide +kernel)
theorem wl_140 : Cond.code yX4_init cX4_init 3 none ∈ gL := gL_in 140 (by decide +kernel) (by decide +kernel)
theorem wl_141 : Cond.methodLink RX4 3 objectInit ∈ gL := gL_in 141 (by decide +kernel) (by decide +kernel)
theorem wl_142 : Cond.fieldLink RX4 9 "DowryFund$Dues" "decrees" "LDowryFund$Decrees;" ∈ gL := gL_in 142 (by decide +kernel) (by decide +kernel)
theorem wl_143 : Cond.fieldLink RX4 15 "DowryFund$Dues" "children" "LDowryFund$Children;" ∈ gL := gL_in 143 (by decide +kernel) (by decide +kernel)
theorem wl_152 : Cond.instanceMethod yX7_init ∈ gL := gL_in 152 (by decide +kernel) (by decide +kernel)
theorem wl_153 : Cond.code yX7_init cX7_init 1 none ∈ gL := gL_in 153 (by decide +kernel) (by decide +kernel)
theorem wl_154 : Cond.methodLink RX7 3 objectInit ∈ gL := gL_in 154 (by decide +kernel) (by decide +kernel)
theorem wl_155 : Cond.fieldLink RX7 9 "DowryFund$Purse" "has" "J" ∈ gL := gL_in 155 (by decide +kernel) (by decide +kernel)
theorem wl_158 : Cond.fieldLink RX7 15 "DowryFund$Purse" "came" "J" ∈ gL := gL_in 158 (by decide +kernel) (by decide +kernel)
theorem wl_160 : Cond.fieldLink RX7 18 "DowryFund$Purse" "spent" "J" ∈ gL := gL_in 160 (by decide +kernel) (by decide +kernel)
theorem wl_173 : Cond.arrayClass .long ∈ gL := gL_in 173 (by decide +kernel) (by decide +kernel)
theorem wl_162 : Cond.fieldLink RX7 21 "DowryFund$Purse" "paidTo" "[J" ∈ gL := gL_in 162 (by decide +kernel) (by decide +kernel)
theorem wl_176 : Cond.methodLink RX10 65 yX8_init ∈ gL := gL_in 176 (by decide +kernel) (by decide +kernel)
theorem wl_177 : Cond.instanceMethod yX8_init ∈ gL := gL_in 177 (by decide +kernel) (by decide +kernel)
theorem wl_178 : Cond.code yX8_init cX8_init 3 none ∈ gL := gL_in 178 (by decide +kernel) (by decide +kernel)
theorem wl_179 : Cond.methodLink RX8 3 objectInit ∈ gL := gL_in 179 (by decide +kernel) (by decide +kernel)
theorem wl_182 : Cond.fieldLink RX8 9 "DowryFund$Roll" "owed" "J" ∈ gL := gL_in 182 (by decide +kernel) (by decide +kernel)
theorem wl_184 : Cond.fieldLink RX8 15 "DowryFund$Roll" "size" "I" ∈ gL := gL_in 184 (by decide +kernel) (by decide +kernel)
theorem wl_180 : Cond.fieldLink RX8 19 "DowryFund$Roll" "deposits" "LDowryFund$Deposits;" ∈ gL := gL_in 180 (by decide +kernel) (by decide +kernel)
theorem wl_181 : Cond.fieldLink RX8 23 "DowryFund$Roll" "purse" "LDowryFund$Purse;" ∈ gL := gL_in 181 (by decide +kernel) (by decide +kernel)
theorem wl_198 : Cond.instanceMethod yX6_init ∈ gL := gL_in 198 (by decide +kernel) (by decide +kernel)
theorem wl_199 : Cond.code yX6_init cX6_init 1 none ∈ gL := gL_in 199 (by decide +kernel) (by decide +kernel)
theorem wl_200 : Cond.methodLink RX6 1 objectInit ∈ gL := gL_in 200 (by decide +kernel) (by decide +kernel)
theorem wl_201 : Cond.fieldLink RX6 9 "DowryFund$Lives" "dying" "[I" ∈ gL := gL_in 201 (by decide +kernel) (by decide +kernel)
theorem wl_202 : Cond.fieldLink RX6 13 "DowryFund$Lives" "wedding" "[I" ∈ gL := gL_in 202 (by decide +kernel) (by decide +kernel)
theorem wl_203 : Cond.fieldLink RX6 16 "DowryFund$Lives" "veiling" "[I" ∈ gL := gL_in 203 (by decide +kernel) (by decide +kernel)
theorem wl_214 : Cond.instanceMethod yX9_init ∈ gL := gL_in 214 (by decide +kernel) (by decide +kernel)
theorem wl_215 : Cond.code yX9_init cX9_init 1 none ∈ gL := gL_in 215 (by decide +kernel) (by decide +kernel)
theorem wl_216 : Cond.methodLink RX9 1 objectInit ∈ gL := gL_in 216 (by decide +kernel) (by decide +kernel)
theorem wl_217 : Cond.fieldLink RX9 9 "DowryFund$Waiting" "numbers" "[I" ∈ gL := gL_in 217 (by decide +kernel) (by decide +kernel)
theorem wl_219 : Cond.fieldLink RX9 13 "DowryFund$Waiting" "size" "I" ∈ gL := gL_in 219 (by decide +kernel) (by decide +kernel)
theorem wl_723 : Cond.methodLink RL 12 yX11_init ∈ gL := gL_in 723 (by decide +kernel) (by decide +kernel)
theorem wl_724 : Cond.instanceMethod yX11_init ∈ gL := gL_in 724 (by decide +kernel) (by decide +kernel)
theorem wl_725 : Cond.code yX11_init cX11_init 2 none ∈ gL := gL_in 725 (by decide +kernel) (by decide +kernel)
theorem wl_726 : Cond.methodLink RX11 1 objectInit ∈ gL := gL_in 726 (by decide +kernel) (by decide +kernel)
theorem wl_728 : Cond.fieldLink RX11 7 "DowryFundModel" "findings" "[I" ∈ gL := gL_in 728 (by decide +kernel) (by decide +kernel)
theorem wl_730 : Cond.fieldLink RX11 13 "DowryFundModel" "decreeKind" "[I" ∈ gL := gL_in 730 (by decide +kernel) (by decide +kernel)
theorem wl_731 : Cond.fieldLink RX11 16 "DowryFundModel" "decreeFrom" "[I" ∈ gL := gL_in 731 (by decide +kernel) (by decide +kernel)
theorem wl_732 : Cond.fieldLink RX11 19 "DowryFundModel" "decreeValue" "[I" ∈ gL := gL_in 732 (by decide +kernel) (by decide +kernel)
theorem wl_733 : Cond.fieldLink RX11 22 "DowryFundModel" "decreeTold" "[I" ∈ gL := gL_in 733 (by decide +kernel) (by decide +kernel)
theorem wl_734 : Cond.fieldLink RX11 25 "DowryFundModel" "rates" "[I" ∈ gL := gL_in 734 (by decide +kernel) (by decide +kernel)
theorem wl_736 : Cond.fieldLink RX11 28 "DowryFundModel" "born" "[I" ∈ gL := gL_in 736 (by decide +kernel) (by decide +kernel)
theorem wl_738 : Cond.fieldLink RX11 31 "DowryFundModel" "fateOf" "[I" ∈ gL := gL_in 738 (by decide +kernel) (by decide +kernel)
theorem wl_739 : Cond.fieldLink RX11 34 "DowryFundModel" "fateIs" "[I" ∈ gL := gL_in 739 (by decide +kernel) (by decide +kernel)
theorem wl_740 : Cond.fieldLink RX11 37 "DowryFundModel" "fateMonth" "[I" ∈ gL := gL_in 740 (by decide +kernel) (by decide +kernel)
theorem wl_741 : Cond.fieldLink RX11 40 "DowryFundModel" "fateTold" "[I" ∈ gL := gL_in 741 (by decide +kernel) (by decide +kernel)
theorem wl_743 : Cond.fieldLink RX11 43 "DowryFundModel" "kinds" "[I" ∈ gL := gL_in 743 (by decide +kernel) (by decide +kernel)
theorem wl_744 : Cond.fieldLink RX11 46 "DowryFundModel" "one" "[I" ∈ gL := gL_in 744 (by decide +kernel) (by decide +kernel)
theorem wl_745 : Cond.fieldLink RX11 49 "DowryFundModel" "two" "[I" ∈ gL := gL_in 745 (by decide +kernel) (by decide +kernel)
theorem wl_746 : Cond.fieldLink RX11 52 "DowryFundModel" "sums" "[I" ∈ gL := gL_in 746 (by decide +kernel) (by decide +kernel)
theorem wl_747 : Cond.fieldLink RX11 55 "DowryFundModel" "dowries" "[J" ∈ gL := gL_in 747 (by decide +kernel) (by decide +kernel)
theorem wl_748 : Cond.fieldLink RX11 59 "DowryFundModel" "ends" "[I" ∈ gL := gL_in 748 (by decide +kernel) (by decide +kernel)
theorem wl_749 : Cond.fieldLink RX11 62 "DowryFundModel" "made" "[I" ∈ gL := gL_in 749 (by decide +kernel) (by decide +kernel)
theorem wl_750 : Cond.fieldLink RX11 65 "DowryFundModel" "paidTo" "[J" ∈ gL := gL_in 750 (by decide +kernel) (by decide +kernel)
theorem wl_857 : Cond.arrayClass .boolean ∈ gL := gL_in 857 (by decide +kernel) (by decide +kernel)
theorem wl_751 : Cond.fieldLink RX11 68 "DowryFundModel" "isOut" "[Z" ∈ gL := gL_in 751 (by decide +kernel) (by decide +kernel)
theorem wl_752 : Cond.fieldLink RX11 72 "DowryFundModel" "soldMany" "[I" ∈ gL := gL_in 752 (by decide +kernel) (by decide +kernel)
theorem wl_753 : Cond.fieldLink RX11 75 "DowryFundModel" "soldFrom" "[I" ∈ gL := gL_in 753 (by decide +kernel) (by decide +kernel)
theorem wl_754 : Cond.fieldLink RX11 78 "DowryFundModel" "soldTo" "[I" ∈ gL := gL_in 754 (by decide +kernel) (by decide +kernel)
theorem wl_760 : Cond.fieldLink RX11 81 "DowryFundModel" "holders" "[J" ∈ gL := gL_in 760 (by decide +kernel) (by decide +kernel)
theorem wl_761 : Cond.fieldLink RX11 84 "DowryFundModel" "dies" "[I" ∈ gL := gL_in 761 (by decide +kernel) (by decide +kernel)
theorem wl_762 : Cond.fieldLink RX11 87 "DowryFundModel" "weds" "[I" ∈ gL := gL_in 762 (by decide +kernel) (by decide +kernel)
theorem wl_763 : Cond.fieldLink RX11 90 "DowryFundModel" "veils" "[I" ∈ gL := gL_in 763 (by decide +kernel) (by decide +kernel)
theorem wl_765 : Cond.fieldLink RX11 93 "DowryFundModel" "waiting" "[I" ∈ gL := gL_in 765 (by decide +kernel) (by decide +kernel)
theorem wl_766 : Cond.fieldLink RX11 96 "DowryFundModel" "isRolled" "[Z" ∈ gL := gL_in 766 (by decide +kernel) (by decide +kernel)
theorem wl_767 : Cond.fieldLink RX11 99 "DowryFundModel" "owed" "[J" ∈ gL := gL_in 767 (by decide +kernel) (by decide +kernel)
theorem wl_260 : Cond.methodLink RL 13 yX10_months ∈ gL := gL_in 260 (by decide +kernel) (by decide +kernel)
theorem wl_261 : Cond.instanceMethod yX10_months ∈ gL := gL_in 261 (by decide +kernel) (by decide +kernel)
theorem wl_262 : Cond.selects RX10 yX10_months yX10_months ∈ gL := gL_in 262 (by decide +kernel) (by decide +kernel)
theorem wl_263 : Cond.code yX10_months cX10_months 3 (some .long) ∈ gL := gL_in 263 (by decide +kernel) (by decide +kernel)
theorem wl_264 : Cond.methodLink RX10 90 yX10_isWithin ∈ gL := gL_in 264 (by decide +kernel) (by decide +kernel)
theorem wl_265 : Cond.static yX10_isWithin ∈ gL := gL_in 265 (by decide +kernel) (by decide +kernel)
theorem wl_266 : Cond.code yX10_isWithin cX10_isWithin 3 (some .boolean) ∈ gL := gL_in 266 (by decide +kernel) (by decide +kernel)
theorem wl_267 : Cond.methodLink RX10 94 yX5_answer ∈ gL := gL_in 267 (by decide +kernel) (by decide +kernel)
theorem wl_268 : Cond.instanceMethod yX5_answer ∈ gL := gL_in 268 (by decide +kernel) (by decide +kernel)
theorem wl_269 : Cond.selects RX5 yX5_answer yX5_answer ∈ gL := gL_in 269 (by decide +kernel) (by decide +kernel)
theorem wl_270 : Cond.code yX5_answer cX5_answer 2 (some .long) ∈ gL := gL_in 270 (by decide +kernel) (by decide +kernel)
theorem wl_272 : Cond.constantLong RX5 19 (-1000000000000) ∈ gL := gL_in 272 (by decide +kernel) (by decide +kernel)
theorem wl_273 : Cond.methodLink RX10 98 yX8_learn ∈ gL := gL_in 273 (by decide +kernel) (by decide +kernel)
theorem wl_274 : Cond.instanceMethod yX8_learn ∈ gL := gL_in 274 (by decide +kernel) (by decide +kernel)
theorem wl_275 : Cond.selects RX8 yX8_learn yX8_learn ∈ gL := gL_in 275 (by decide +kernel) (by decide +kernel)
theorem wl_276 : Cond.code yX8_learn cX8_learn 6 none ∈ gL := gL_in 276 (by decide +kernel) (by decide +kernel)
theorem wl_129 : Cond.fieldLink RX8 27 "DowryFund$Deposits" "size" "I" ∈ gL := gL_in 129 (by decide +kernel) (by decide +kernel)
theorem wl_309 : Cond.constant RX8 42 (1000000) ∈ gL := gL_in 309 (by decide +kernel) (by decide +kernel)
theorem wl_518 : Cond.fieldLink RX8 47 "DowryFund$Deposit" "dueMonth" "I" ∈ gL := gL_in 518 (by decide +kernel) (by decide +kernel)
theorem wl_520 : Cond.fieldLink RX8 53 "DowryFund$Deposit" "dueSum" "J" ∈ gL := gL_in 520 (by decide +kernel) (by decide +kernel)
theorem wl_277 : Cond.methodLink RX8 30 yX3_find ∈ gL := gL_in 277 (by decide +kernel) (by decide +kernel)
theorem wl_278 : Cond.instanceMethod yX3_find ∈ gL := gL_in 278 (by decide +kernel) (by decide +kernel)
theorem wl_279 : Cond.selects RX3 yX3_find yX3_find ∈ gL := gL_in 279 (by decide +kernel) (by decide +kernel)
theorem wl_280 : Cond.code yX3_find cX3_find 2 (some (.object "DowryFund$Deposit")) ∈ gL := gL_in 280 (by decide +kernel) (by decide +kernel)
theorem wl_281 : Cond.methodLink RX8 34 yX4_fallRow ∈ gL := gL_in 281 (by decide +kernel) (by decide +kernel)
theorem wl_282 : Cond.instanceMethod yX4_fallRow ∈ gL := gL_in 282 (by decide +kernel) (by decide +kernel)
theorem wl_283 : Cond.selects RX4 yX4_fallRow yX4_fallRow ∈ gL := gL_in 283 (by decide +kernel) (by decide +kernel)
theorem wl_284 : Cond.code yX4_fallRow cX4_fallRow 4 (some .int) ∈ gL := gL_in 284 (by decide +kernel) (by decide +kernel)
theorem wl_499 : Cond.fieldLink RX4 19 "DowryFund$Deposit" "made" "I" ∈ gL := gL_in 499 (by decide +kernel) (by decide +kernel)
theorem wl_495 : Cond.fieldLink RX4 25 "DowryFund$Deposit" "child" "I" ∈ gL := gL_in 495 (by decide +kernel) (by decide +kernel)
theorem wl_492 : Cond.fieldLink RX4 32 "DowryFund$Deposit" "kind" "I" ∈ gL := gL_in 492 (by decide +kernel) (by decide +kernel)
theorem wl_497 : Cond.fieldLink RX4 35 "DowryFund$Deposit" "other" "I" ∈ gL := gL_in 497 (by decide +kernel) (by decide +kernel)
theorem wl_285 : Cond.methodLink RX4 28 yX4_rowFor ∈ gL := gL_in 285 (by decide +kernel) (by decide +kernel)
theorem wl_287 : Cond.instanceMethod yX4_rowFor ∈ gL := gL_in 287 (by decide +kernel) (by decide +kernel)
theorem wl_0 : Cond.selects RX4 yX4_rowFor yX4_rowFor ∈ gL := gL_in 0 (by decide +kernel) (by decide +kernel)
theorem wl_288 : Cond.code yX4_rowFor cX4_rowFor 5 (some .int) ∈ gL := gL_in 288 (by decide +kernel) (by decide +kernel)
theorem wl_289 : Cond.methodLink RX4 42 yX0_fateRow ∈ gL := gL_in 289 (by decide +kernel) (by decide +kernel)
theorem wl_290 : Cond.instanceMethod yX0_fateRow ∈ gL := gL_in 290 (by decide +kernel) (by decide +kernel)
theorem wl_291 : Cond.selects RX0 yX0_fateRow yX0_fateRow ∈ gL := gL_in 291 (by decide +kernel) (by decide +kernel)
theorem wl_292 : Cond.code yX0_fateRow cX0_fateRow 4 (some .int) ∈ gL := gL_in 292 (by decide +kernel) (by decide +kernel)
theorem wl_293 : Cond.methodLink RX0 45 Lib.Math.min.name ∈ gL := gL_in 293 (by decide +kernel) (by decide +kernel)
theorem wl_294 : Cond.static Lib.Math.min.name ∈ gL := gL_in 294 (by decide +kernel) (by decide +kernel)
theorem wl_41 : Cond.initialized "java/lang/Math" ∈ gL := gL_in 41 (by decide +kernel) (by decide +kernel)
theorem wl_295 : Cond.code Lib.Math.min.name Lib.Math.min.code 2 (some .int) ∈ gL := gL_in 295 (by decide +kernel) (by decide +kernel)
theorem wl_296 : Cond.methodLink RX4 47 yX0_monthOf ∈ gL := gL_in 296 (by decide +kernel) (by decide +kernel)
theorem wl_297 : Cond.instanceMethod yX0_monthOf ∈ gL := gL_in 297 (by decide +kernel) (by decide +kernel)
theorem wl_298 : Cond.selects RX0 yX0_monthOf yX0_monthOf ∈ gL := gL_in 298 (by decide +kernel) (by decide +kernel)
theorem wl_299 : Cond.code yX0_monthOf cX0_monthOf 2 (some .int) ∈ gL := gL_in 299 (by decide +kernel) (by decide +kernel)
theorem wl_301 : Cond.methodLink RX4 38 yX4_ahead ∈ gL := gL_in 301 (by decide +kernel) (by decide +kernel)
theorem wl_303 : Cond.instanceMethod yX4_ahead ∈ gL := gL_in 303 (by decide +kernel) (by decide +kernel)
theorem wl_1 : Cond.selects RX4 yX4_ahead yX4_ahead ∈ gL := gL_in 1 (by decide +kernel) (by decide +kernel)
theorem wl_304 : Cond.code yX4_ahead cX4_ahead 5 (some .int) ∈ gL := gL_in 304 (by decide +kernel) (by decide +kernel)
theorem wl_305 : Cond.methodLink RX4 51 yX0_fateOf ∈ gL := gL_in 305 (by decide +kernel) (by decide +kernel)
theorem wl_306 : Cond.instanceMethod yX0_fateOf ∈ gL := gL_in 306 (by decide +kernel) (by decide +kernel)
theorem wl_307 : Cond.selects RX0 yX0_fateOf yX0_fateOf ∈ gL := gL_in 307 (by decide +kernel) (by decide +kernel)
theorem wl_308 : Cond.code yX0_fateOf cX0_fateOf 2 (some .int) ∈ gL := gL_in 308 (by decide +kernel) (by decide +kernel)
theorem wl_310 : Cond.methodLink RX8 43 yX4_dueMonth ∈ gL := gL_in 310 (by decide +kernel) (by decide +kernel)
theorem wl_311 : Cond.instanceMethod yX4_dueMonth ∈ gL := gL_in 311 (by decide +kernel) (by decide +kernel)
theorem wl_312 : Cond.selects RX4 yX4_dueMonth yX4_dueMonth ∈ gL := gL_in 312 (by decide +kernel) (by decide +kernel)
theorem wl_313 : Cond.code yX4_dueMonth cX4_dueMonth 4 (some .int) ∈ gL := gL_in 313 (by decide +kernel) (by decide +kernel)
theorem wl_314 : Cond.methodLink RX4 54 yX1_inForce ∈ gL := gL_in 314 (by decide +kernel) (by decide +kernel)
theorem wl_315 : Cond.instanceMethod yX1_inForce ∈ gL := gL_in 315 (by decide +kernel) (by decide +kernel)
theorem wl_316 : Cond.selects RX1 yX1_inForce yX1_inForce ∈ gL := gL_in 316 (by decide +kernel) (by decide +kernel)
theorem wl_317 : Cond.code yX1_inForce cX1_inForce 8 (some .int) ∈ gL := gL_in 317 (by decide +kernel) (by decide +kernel)
theorem wl_322 : Cond.fieldLink RX1 46 "DowryFund$Decrees" "WITHOUT_ONE" "[I" ∈ gL := gL_in 322 (by decide +kernel) (by decide +kernel)
theorem wl_318 : Cond.methodLink RX1 32 yX1_isKind ∈ gL := gL_in 318 (by decide +kernel) (by decide +kernel)
theorem wl_319 : Cond.static yX1_isKind ∈ gL := gL_in 319 (by decide +kernel) (by decide +kernel)
theorem wl_320 : Cond.code yX1_isKind cX1_isKind 1 (some .boolean) ∈ gL := gL_in 320 (by decide +kernel) (by decide +kernel)
theorem wl_324 : Cond.methodLink RX8 49 yX4_dueSum ∈ gL := gL_in 324 (by decide +kernel) (by decide +kernel)
theorem wl_325 : Cond.instanceMethod yX4_dueSum ∈ gL := gL_in 325 (by decide +kernel) (by decide +kernel)
theorem wl_326 : Cond.selects RX4 yX4_dueSum yX4_dueSum ∈ gL := gL_in 326 (by decide +kernel) (by decide +kernel)
theorem wl_327 : Cond.code yX4_dueSum cX4_dueSum 6 (some .long) ∈ gL := gL_in 327 (by decide +kernel) (by decide +kernel)
theorem wl_328 : Cond.methodLink RX4 59 yX4_beforeCut ∈ gL := gL_in 328 (by decide +kernel) (by decide +kernel)
theorem wl_330 : Cond.instanceMethod yX4_beforeCut ∈ gL := gL_in 330 (by decide +kernel) (by decide +kernel)
theorem wl_2 : Cond.selects RX4 yX4_beforeCut yX4_beforeCut ∈ gL := gL_in 2 (by decide +kernel) (by decide +kernel)
theorem wl_331 : Cond.code yX4_beforeCut cX4_beforeCut 6 (some .long) ∈ gL := gL_in 331 (by decide +kernel) (by decide +kernel)
theorem wl_502 : Cond.fieldLink RX4 70 "DowryFund$Deposit" "sum" "I" ∈ gL := gL_in 502 (by decide +kernel) (by decide +kernel)
theorem wl_505 : Cond.fieldLink RX4 73 "DowryFund$Deposit" "dowry" "J" ∈ gL := gL_in 505 (by decide +kernel) (by decide +kernel)
theorem wl_507 : Cond.fieldLink RX4 77 "DowryFund$Deposit" "end" "I" ∈ gL := gL_in 507 (by decide +kernel) (by decide +kernel)
theorem wl_333 : Cond.static yX10_thousandths ∈ gL := gL_in 333 (by decide +kernel) (by decide +kernel)
theorem wl_334 : Cond.code yX10_thousandths cX10_thousandths 3 (some .long) ∈ gL := gL_in 334 (by decide +kernel) (by decide +kernel)
theorem wl_335 : Cond.constantLong RX10 287 (1000) ∈ gL := gL_in 335 (by decide +kernel) (by decide +kernel)
theorem wl_336 : Cond.methodLink RX4 63 yX4_dueMonth ∈ gL := gL_in 336 (by decide +kernel) (by decide +kernel)
theorem wl_337 : Cond.methodLink RX10 102 yX8_payFor ∈ gL := gL_in 337 (by decide +kernel) (by decide +kernel)
theorem wl_338 : Cond.instanceMethod yX8_payFor ∈ gL := gL_in 338 (by decide +kernel) (by decide +kernel)
theorem wl_339 : Cond.selects RX8 yX8_payFor yX8_payFor ∈ gL := gL_in 339 (by decide +kernel) (by decide +kernel)
theorem wl_340 : Cond.code yX8_payFor cX8_payFor 2 none ∈ gL := gL_in 340 (by decide +kernel) (by decide +kernel)
theorem wl_156 : Cond.fieldLink RX8 59 "DowryFund$Purse" "has" "J" ∈ gL := gL_in 156 (by decide +kernel) (by decide +kernel)
theorem wl_341 : Cond.methodLink RX8 55 yX8_call ∈ gL := gL_in 341 (by decide +kernel) (by decide +kernel)
theorem wl_343 : Cond.instanceMethod yX8_call ∈ gL := gL_in 343 (by decide +kernel) (by decide +kernel)
theorem wl_3 : Cond.selects RX8 yX8_call yX8_call ∈ gL := gL_in 3 (by decide +kernel) (by decide +kernel)
theorem wl_344 : Cond.code yX8_call cX8_call 4 none ∈ gL := gL_in 344 (by decide +kernel) (by decide +kernel)
theorem wl_525 : Cond.fieldLink RX8 80 "DowryFund$Deposit" "owed" "J" ∈ gL := gL_in 525 (by decide +kernel) (by decide +kernel)
theorem wl_522 : Cond.fieldLink RX8 81 "DowryFund$Deposit" "onRoll" "Z" ∈ gL := gL_in 522 (by decide +kernel) (by decide +kernel)
theorem wl_345 : Cond.methodLink RX8 77 yX2_comeToRoll ∈ gL := gL_in 345 (by decide +kernel) (by decide +kernel)
theorem wl_346 : Cond.instanceMethod yX2_comeToRoll ∈ gL := gL_in 346 (by decide +kernel) (by decide +kernel)
theorem wl_347 : Cond.selects RX2 yX2_comeToRoll yX2_comeToRoll ∈ gL := gL_in 347 (by decide +kernel) (by decide +kernel)
theorem wl_42 : Cond.initialized RX2 ∈ gL := gL_in 42 (by decide +kernel) (by decide +kernel)
theorem wl_348 : Cond.code yX2_comeToRoll cX2_comeToRoll 2 none ∈ gL := gL_in 348 (by decide +kernel) (by decide +kernel)
theorem wl_513 : Cond.fieldLink RX2 24 "DowryFund$Deposit" "paidOut" "Z" ∈ gL := gL_in 513 (by decide +kernel) (by decide +kernel)
theorem wl_517 : Cond.fieldLink RX2 29 "DowryFund$Deposit" "dueMonth" "I" ∈ gL := gL_in 517 (by decide +kernel) (by decide +kernel)
theorem wl_521 : Cond.fieldLink RX2 35 "DowryFund$Deposit" "onRoll" "Z" ∈ gL := gL_in 521 (by decide +kernel) (by decide +kernel)
theorem wl_519 : Cond.fieldLink RX2 32 "DowryFund$Deposit" "dueSum" "J" ∈ gL := gL_in 519 (by decide +kernel) (by decide +kernel)
theorem wl_511 : Cond.fieldLink RX2 20 "DowryFund$Deposit" "received" "J" ∈ gL := gL_in 511 (by decide +kernel) (by decide +kernel)
theorem wl_349 : Cond.methodLink RX2 82 Lib.MathLoose.max_long.x ∈ gL := gL_in 349 (by decide +kernel) (by decide +kernel)
theorem wl_350 : Cond.static Lib.MathLoose.max_long.x ∈ gL := gL_in 350 (by decide +kernel) (by decide +kernel)
theorem wl_351 : Cond.code Lib.MathLoose.max_long.x Lib.MathLoose.max_long.code 4 (some .long) ∈ gL := gL_in 351 (by decide +kernel) (by decide +kernel)
theorem wl_523 : Cond.fieldLink RX2 38 "DowryFund$Deposit" "owed" "J" ∈ gL := gL_in 523 (by decide +kernel) (by decide +kernel)
theorem wl_352 : Cond.methodLink RX8 64 yX8_payWhole ∈ gL := gL_in 352 (by decide +kernel) (by decide +kernel)
theorem wl_354 : Cond.instanceMethod yX8_payWhole ∈ gL := gL_in 354 (by decide +kernel) (by decide +kernel)
theorem wl_4 : Cond.selects RX8 yX8_payWhole yX8_payWhole ∈ gL := gL_in 4 (by decide +kernel) (by decide +kernel)
theorem wl_355 : Cond.code yX8_payWhole cX8_payWhole 3 none ∈ gL := gL_in 355 (by decide +kernel) (by decide +kernel)
theorem wl_356 : Cond.methodLink RX8 85 yX8_payTo ∈ gL := gL_in 356 (by decide +kernel) (by decide +kernel)
theorem wl_358 : Cond.instanceMethod yX8_payTo ∈ gL := gL_in 358 (by decide +kernel) (by decide +kernel)
theorem wl_5 : Cond.selects RX8 yX8_payTo yX8_payTo ∈ gL := gL_in 5 (by decide +kernel) (by decide +kernel)
theorem wl_359 : Cond.code yX8_payTo cX8_payTo 6 none ∈ gL := gL_in 359 (by decide +kernel) (by decide +kernel)
theorem wl_360 : Cond.methodLink RX8 89 Lib.MathLoose.min_long.x ∈ gL := gL_in 360 (by decide +kernel) (by decide +kernel)
theorem wl_361 : Cond.static Lib.MathLoose.min_long.x ∈ gL := gL_in 361 (by decide +kernel) (by decide +kernel)
theorem wl_362 : Cond.code Lib.MathLoose.min_long.x Lib.MathLoose.min_long.code 4 (some .long) ∈ gL := gL_in 362 (by decide +kernel) (by decide +kernel)
theorem wl_363 : Cond.methodLink RX8 95 yX7_pay ∈ gL := gL_in 363 (by decide +kernel) (by decide +kernel)
theorem wl_364 : Cond.instanceMethod yX7_pay ∈ gL := gL_in 364 (by decide +kernel) (by decide +kernel)
theorem wl_365 : Cond.selects RX7 yX7_pay yX7_pay ∈ gL := gL_in 365 (by decide +kernel) (by decide +kernel)
theorem wl_366 : Cond.code yX7_pay cX7_pay 5 none ∈ gL := gL_in 366 (by decide +kernel) (by decide +kernel)
theorem wl_512 : Cond.fieldLink RX7 25 "DowryFund$Deposit" "received" "J" ∈ gL := gL_in 512 (by decide +kernel) (by decide +kernel)
theorem wl_524 : Cond.fieldLink RX7 30 "DowryFund$Deposit" "owed" "J" ∈ gL := gL_in 524 (by decide +kernel) (by decide +kernel)
theorem wl_367 : Cond.methodLink RX7 33 yX2_latestHolder ∈ gL := gL_in 367 (by decide +kernel) (by decide +kernel)
theorem wl_368 : Cond.instanceMethod yX2_latestHolder ∈ gL := gL_in 368 (by decide +kernel) (by decide +kernel)
theorem wl_369 : Cond.selects RX2 yX2_latestHolder yX2_latestHolder ∈ gL := gL_in 369 (by decide +kernel) (by decide +kernel)
theorem wl_370 : Cond.code yX2_latestHolder cX2_latestHolder 1 (some .int) ∈ gL := gL_in 370 (by decide +kernel) (by decide +kernel)
theorem wl_508 : Cond.fieldLink RX2 9 "DowryFund$Deposit" "holders" "[I" ∈ gL := gL_in 508 (by decide +kernel) (by decide +kernel)
theorem wl_371 : Cond.methodLink RX2 71 yX2_lastRow ∈ gL := gL_in 371 (by decide +kernel) (by decide +kernel)
theorem wl_372 : Cond.instanceMethod yX2_lastRow ∈ gL := gL_in 372 (by decide +kernel) (by decide +kernel)
theorem wl_373 : Cond.selects RX2 yX2_lastRow yX2_lastRow ∈ gL := gL_in 373 (by decide +kernel) (by decide +kernel)
theorem wl_374 : Cond.code yX2_lastRow cX2_lastRow 1 (some .int) ∈ gL := gL_in 374 (by decide +kernel) (by decide +kernel)
theorem wl_510 : Cond.fieldLink RX2 16 "DowryFund$Deposit" "lastHolder" "I" ∈ gL := gL_in 510 (by decide +kernel) (by decide +kernel)
theorem wl_375 : Cond.methodLink RX2 62 Lib.Math.min.name ∈ gL := gL_in 375 (by decide +kernel) (by decide +kernel)
theorem wl_376 : Cond.methodLink RX2 68 Lib.Math.max.name ∈ gL := gL_in 376 (by decide +kernel) (by decide +kernel)
theorem wl_377 : Cond.static Lib.Math.max.name ∈ gL := gL_in 377 (by decide +kernel) (by decide +kernel)
theorem wl_378 : Cond.code Lib.Math.max.name Lib.Math.max.code 2 (some .int) ∈ gL := gL_in 378 (by decide +kernel) (by decide +kernel)
theorem wl_380 : Cond.static yX10_isHolder ∈ gL := gL_in 380 (by decide +kernel) (by decide +kernel)
theorem wl_381 : Cond.code yX10_isHolder cX10_isHolder 1 (some .boolean) ∈ gL := gL_in 381 (by decide +kernel) (by decide +kernel)
theorem wl_382 : Cond.methodLink RX8 67 yX8_payShares ∈ gL := gL_in 382 (by decide +kernel) (by decide +kernel)
theorem wl_384 : Cond.instanceMethod yX8_payShares ∈ gL := gL_in 384 (by decide +kernel) (by decide +kernel)
theorem wl_6 : Cond.selects RX8 yX8_payShares yX8_payShares ∈ gL := gL_in 6 (by decide +kernel) (by decide +kernel)
theorem wl_385 : Cond.code yX8_payShares cX8_payShares 7 none ∈ gL := gL_in 385 (by decide +kernel) (by decide +kernel)
theorem wl_386 : Cond.methodLink RX8 71 yX8_payLeftOver ∈ gL := gL_in 386 (by decide +kernel) (by decide +kernel)
theorem wl_388 : Cond.instanceMethod yX8_payLeftOver ∈ gL := gL_in 388 (by decide +kernel) (by decide +kernel)
theorem wl_7 : Cond.selects RX8 yX8_payLeftOver yX8_payLeftOver ∈ gL := gL_in 7 (by decide +kernel) (by decide +kernel)
theorem wl_389 : Cond.code yX8_payLeftOver cX8_payLeftOver 2 none ∈ gL := gL_in 389 (by decide +kernel) (by decide +kernel)
theorem wl_390 : Cond.methodLink RX8 74 yX8_close ∈ gL := gL_in 390 (by decide +kernel) (by decide +kernel)
theorem wl_392 : Cond.instanceMethod yX8_close ∈ gL := gL_in 392 (by decide +kernel) (by decide +kernel)
theorem wl_8 : Cond.selects RX8 yX8_close yX8_close ∈ gL := gL_in 8 (by decide +kernel) (by decide +kernel)
theorem wl_393 : Cond.code yX8_close cX8_close 3 none ∈ gL := gL_in 393 (by decide +kernel) (by decide +kernel)
theorem wl_515 : Cond.fieldLink RX8 98 "DowryFund$Deposit" "paidOut" "Z" ∈ gL := gL_in 515 (by decide +kernel) (by decide +kernel)
theorem wl_858 : Cond.methodLink RL 17 yX11_months ∈ gL := gL_in 858 (by decide +kernel) (by decide +kernel)
theorem wl_859 : Cond.instanceMethod yX11_months ∈ gL := gL_in 859 (by decide +kernel) (by decide +kernel)
theorem wl_860 : Cond.selects RX11 yX11_months yX11_months ∈ gL := gL_in 860 (by decide +kernel) (by decide +kernel)
theorem wl_861 : Cond.code yX11_months cX11_months 3 (some .long) ∈ gL := gL_in 861 (by decide +kernel) (by decide +kernel)
theorem wl_727 : Cond.fieldLink RX11 108 "DowryFundModel" "now" "I" ∈ gL := gL_in 727 (by decide +kernel) (by decide +kernel)
theorem wl_862 : Cond.methodLink RX11 104 yX11_in ∈ gL := gL_in 862 (by decide +kernel) (by decide +kernel)
theorem wl_863 : Cond.static yX11_in ∈ gL := gL_in 863 (by decide +kernel) (by decide +kernel)
theorem wl_864 : Cond.code yX11_in cX11_in 3 (some .boolean) ∈ gL := gL_in 864 (by decide +kernel) (by decide +kernel)
theorem wl_865 : Cond.methodLink RX11 112 yX11_no ∈ gL := gL_in 865 (by decide +kernel) (by decide +kernel)
theorem wl_867 : Cond.instanceMethod yX11_no ∈ gL := gL_in 867 (by decide +kernel) (by decide +kernel)
theorem wl_14 : Cond.selects RX11 yX11_no yX11_no ∈ gL := gL_in 14 (by decide +kernel) (by decide +kernel)
theorem wl_868 : Cond.code yX11_no cX11_no 2 (some .long) ∈ gL := gL_in 868 (by decide +kernel) (by decide +kernel)
theorem wl_869 : Cond.constantLong RX11 102 (-1000000000000) ∈ gL := gL_in 869 (by decide +kernel) (by decide +kernel)
theorem wl_870 : Cond.methodLink RX11 116 yX11_goOn ∈ gL := gL_in 870 (by decide +kernel) (by decide +kernel)
theorem wl_872 : Cond.instanceMethod yX11_goOn ∈ gL := gL_in 872 (by decide +kernel) (by decide +kernel)
theorem wl_15 : Cond.selects RX11 yX11_goOn yX11_goOn ∈ gL := gL_in 15 (by decide +kernel) (by decide +kernel)
theorem wl_873 : Cond.code yX11_goOn cX11_goOn 7 none ∈ gL := gL_in 873 (by decide +kernel) (by decide +kernel)
theorem wl_759 : Cond.fieldLink RX11 189 "DowryFundModel" "rolled" "I" ∈ gL := gL_in 759 (by decide +kernel) (by decide +kernel)
theorem wl_742 : Cond.fieldLink RX11 137 "DowryFundModel" "deposits" "I" ∈ gL := gL_in 742 (by decide +kernel) (by decide +kernel)
theorem wl_755 : Cond.fieldLink RX11 177 "DowryFundModel" "purse" "J" ∈ gL := gL_in 755 (by decide +kernel) (by decide +kernel)
theorem wl_758 : Cond.fieldLink RX11 196 "DowryFundModel" "short0" "J" ∈ gL := gL_in 758 (by decide +kernel) (by decide +kernel)
theorem wl_874 : Cond.methodLink RX11 169 yX11_fallOf ∈ gL := gL_in 874 (by decide +kernel) (by decide +kernel)
theorem wl_876 : Cond.instanceMethod yX11_fallOf ∈ gL := gL_in 876 (by decide +kernel) (by decide +kernel)
theorem wl_16 : Cond.selects RX11 yX11_fallOf yX11_fallOf ∈ gL := gL_in 16 (by decide +kernel) (by decide +kernel)
theorem wl_877 : Cond.code yX11_fallOf cX11_fallOf 7 (some .int) ∈ gL := gL_in 877 (by decide +kernel) (by decide +kernel)
theorem wl_878 : Cond.methodLink RX11 161 yX11_counted ∈ gL := gL_in 878 (by decide +kernel) (by decide +kernel)
theorem wl_880 : Cond.instanceMethod yX11_counted ∈ gL := gL_in 880 (by decide +kernel) (by decide +kernel)
theorem wl_17 : Cond.selects RX11 yX11_counted yX11_counted ∈ gL := gL_in 17 (by decide +kernel) (by decide +kernel)
theorem wl_881 : Cond.code yX11_counted cX11_counted 5 (some .int) ∈ gL := gL_in 881 (by decide +kernel) (by decide +kernel)
theorem wl_882 : Cond.methodLink RX11 146 yX11_fateAt ∈ gL := gL_in 882 (by decide +kernel) (by decide +kernel)
theorem wl_884 : Cond.instanceMethod yX11_fateAt ∈ gL := gL_in 884 (by decide +kernel) (by decide +kernel)
theorem wl_18 : Cond.selects RX11 yX11_fateAt yX11_fateAt ∈ gL := gL_in 18 (by decide +kernel) (by decide +kernel)
theorem wl_885 : Cond.code yX11_fateAt cX11_fateAt 5 (some .int) ∈ gL := gL_in 885 (by decide +kernel) (by decide +kernel)
theorem wl_737 : Cond.fieldLink RX11 143 "DowryFundModel" "fates" "I" ∈ gL := gL_in 737 (by decide +kernel) (by decide +kernel)
theorem wl_886 : Cond.methodLink RX11 166 yX11_dueMonth ∈ gL := gL_in 886 (by decide +kernel) (by decide +kernel)
theorem wl_888 : Cond.instanceMethod yX11_dueMonth ∈ gL := gL_in 888 (by decide +kernel) (by decide +kernel)
theorem wl_19 : Cond.selects RX11 yX11_dueMonth yX11_dueMonth ∈ gL := gL_in 19 (by decide +kernel) (by decide +kernel)
theorem wl_889 : Cond.code yX11_dueMonth cX11_dueMonth 3 (some .int) ∈ gL := gL_in 889 (by decide +kernel) (by decide +kernel)
theorem wl_890 : Cond.methodLink RX11 130 yX11_inForce ∈ gL := gL_in 890 (by decide +kernel) (by decide +kernel)
theorem wl_892 : Cond.instanceMethod yX11_inForce ∈ gL := gL_in 892 (by decide +kernel) (by decide +kernel)
theorem wl_20 : Cond.selects RX11 yX11_inForce yX11_inForce ∈ gL := gL_in 20 (by decide +kernel) (by decide +kernel)
theorem wl_893 : Cond.code yX11_inForce cX11_inForce 7 (some .int) ∈ gL := gL_in 893 (by decide +kernel) (by decide +kernel)
theorem wl_729 : Cond.fieldLink RX11 127 "DowryFundModel" "decrees" "I" ∈ gL := gL_in 729 (by decide +kernel) (by decide +kernel)
theorem wl_894 : Cond.methodLink RX11 172 yX11_dueOf ∈ gL := gL_in 894 (by decide +kernel) (by decide +kernel)
theorem wl_896 : Cond.instanceMethod yX11_dueOf ∈ gL := gL_in 896 (by decide +kernel) (by decide +kernel)
theorem wl_21 : Cond.selects RX11 yX11_dueOf yX11_dueOf ∈ gL := gL_in 21 (by decide +kernel) (by decide +kernel)
theorem wl_897 : Cond.code yX11_dueOf cX11_dueOf 7 (some .long) ∈ gL := gL_in 897 (by decide +kernel) (by decide +kernel)
theorem wl_898 : Cond.constantLong RX11 164 (1000) ∈ gL := gL_in 898 (by decide +kernel) (by decide +kernel)
theorem wl_899 : Cond.methodLink RX11 192 yX11_pay ∈ gL := gL_in 899 (by decide +kernel) (by decide +kernel)
theorem wl_901 : Cond.instanceMethod yX11_pay ∈ gL := gL_in 901 (by decide +kernel) (by decide +kernel)
theorem wl_22 : Cond.selects RX11 yX11_pay yX11_pay ∈ gL := gL_in 22 (by decide +kernel) (by decide +kernel)
theorem wl_902 : Cond.code yX11_pay cX11_pay 4 none ∈ gL := gL_in 902 (by decide +kernel) (by decide +kernel)
theorem wl_757 : Cond.fieldLink RX11 186 "DowryFundModel" "paidAll" "J" ∈ gL := gL_in 757 (by decide +kernel) (by decide +kernel)
theorem wl_903 : Cond.methodLink RX11 158 yX11_holderIn ∈ gL := gL_in 903 (by decide +kernel) (by decide +kernel)
theorem wl_905 : Cond.instanceMethod yX11_holderIn ∈ gL := gL_in 905 (by decide +kernel) (by decide +kernel)
theorem wl_23 : Cond.selects RX11 yX11_holderIn yX11_holderIn ∈ gL := gL_in 23 (by decide +kernel) (by decide +kernel)
theorem wl_906 : Cond.code yX11_holderIn cX11_holderIn 5 (some .int) ∈ gL := gL_in 906 (by decide +kernel) (by decide +kernel)
theorem wl_394 : Cond.methodLink RL 18 yX10_decree ∈ gL := gL_in 394 (by decide +kernel) (by decide +kernel)
theorem wl_395 : Cond.instanceMethod yX10_decree ∈ gL := gL_in 395 (by decide +kernel) (by decide +kernel)
theorem wl_396 : Cond.selects RX10 yX10_decree yX10_decree ∈ gL := gL_in 396 (by decide +kernel) (by decide +kernel)
theorem wl_397 : Cond.code yX10_decree cX10_decree 4 (some .long) ∈ gL := gL_in 397 (by decide +kernel) (by decide +kernel)
theorem wl_74 : Cond.fieldLink RX10 125 "DowryFund$Decrees" "size" "I" ∈ gL := gL_in 74 (by decide +kernel) (by decide +kernel)
theorem wl_398 : Cond.methodLink RX10 106 yX1_isKind ∈ gL := gL_in 398 (by decide +kernel) (by decide +kernel)
theorem wl_399 : Cond.methodLink RX10 110 yX10_isMonth ∈ gL := gL_in 399 (by decide +kernel) (by decide +kernel)
theorem wl_400 : Cond.static yX10_isMonth ∈ gL := gL_in 400 (by decide +kernel) (by decide +kernel)
theorem wl_401 : Cond.code yX10_isMonth cX10_isMonth 1 (some .boolean) ∈ gL := gL_in 401 (by decide +kernel) (by decide +kernel)
theorem wl_402 : Cond.methodLink RX10 113 yX1_mayBe ∈ gL := gL_in 402 (by decide +kernel) (by decide +kernel)
theorem wl_403 : Cond.static yX1_mayBe ∈ gL := gL_in 403 (by decide +kernel) (by decide +kernel)
theorem wl_404 : Cond.code yX1_mayBe cX1_mayBe 2 (some .boolean) ∈ gL := gL_in 404 (by decide +kernel) (by decide +kernel)
theorem wl_405 : Cond.fieldLink RX1 36 "DowryFund$Decrees" "LEAST_VALUE" "[I" ∈ gL := gL_in 405 (by decide +kernel) (by decide +kernel)
theorem wl_407 : Cond.fieldLink RX1 39 "DowryFund$Decrees" "MOST_VALUE" "[I" ∈ gL := gL_in 407 (by decide +kernel) (by decide +kernel)
theorem wl_409 : Cond.methodLink RX10 117 yX1_isFull ∈ gL := gL_in 409 (by decide +kernel) (by decide +kernel)
theorem wl_410 : Cond.instanceMethod yX1_isFull ∈ gL := gL_in 410 (by decide +kernel) (by decide +kernel)
theorem wl_411 : Cond.selects RX1 yX1_isFull yX1_isFull ∈ gL := gL_in 411 (by decide +kernel) (by decide +kernel)
theorem wl_412 : Cond.code yX1_isFull cX1_isFull 1 (some .boolean) ∈ gL := gL_in 412 (by decide +kernel) (by decide +kernel)
theorem wl_413 : Cond.methodLink RX10 121 yX1_add ∈ gL := gL_in 413 (by decide +kernel) (by decide +kernel)
theorem wl_414 : Cond.instanceMethod yX1_add ∈ gL := gL_in 414 (by decide +kernel) (by decide +kernel)
theorem wl_415 : Cond.selects RX1 yX1_add yX1_add ∈ gL := gL_in 415 (by decide +kernel) (by decide +kernel)
theorem wl_416 : Cond.code yX1_add cX1_add 5 none ∈ gL := gL_in 416 (by decide +kernel) (by decide +kernel)
theorem wl_417 : Cond.methodLink RX1 42 yX1_isFull ∈ gL := gL_in 417 (by decide +kernel) (by decide +kernel)
theorem wl_907 : Cond.methodLink RL 22 yX11_decree ∈ gL := gL_in 907 (by decide +kernel) (by decide +kernel)
theorem wl_908 : Cond.instanceMethod yX11_decree ∈ gL := gL_in 908 (by decide +kernel) (by decide +kernel)
theorem wl_909 : Cond.selects RX11 yX11_decree yX11_decree ∈ gL := gL_in 909 (by decide +kernel) (by decide +kernel)
theorem wl_910 : Cond.code yX11_decree cX11_decree 4 (some .long) ∈ gL := gL_in 910 (by decide +kernel) (by decide +kernel)
theorem wl_911 : Cond.methodLink RX11 119 yX11_isMonth ∈ gL := gL_in 911 (by decide +kernel) (by decide +kernel)
theorem wl_912 : Cond.static yX11_isMonth ∈ gL := gL_in 912 (by decide +kernel) (by decide +kernel)
theorem wl_913 : Cond.code yX11_isMonth cX11_isMonth 1 (some .boolean) ∈ gL := gL_in 913 (by decide +kernel) (by decide +kernel)
theorem wl_914 : Cond.methodLink RX11 123 yX11_isValue ∈ gL := gL_in 914 (by decide +kernel) (by decide +kernel)
theorem wl_915 : Cond.static yX11_isValue ∈ gL := gL_in 915 (by decide +kernel) (by decide +kernel)
theorem wl_916 : Cond.code yX11_isValue cX11_isValue 2 (some .boolean) ∈ gL := gL_in 916 (by decide +kernel) (by decide +kernel)
theorem wl_418 : Cond.methodLink RL 23 yX10_force ∈ gL := gL_in 418 (by decide +kernel) (by decide +kernel)
theorem wl_419 : Cond.instanceMethod yX10_force ∈ gL := gL_in 419 (by decide +kernel) (by decide +kernel)
theorem wl_420 : Cond.selects RX10 yX10_force yX10_force ∈ gL := gL_in 420 (by decide +kernel) (by decide +kernel)
theorem wl_421 : Cond.code yX10_force cX10_force 4 (some .long) ∈ gL := gL_in 421 (by decide +kernel) (by decide +kernel)
theorem wl_422 : Cond.methodLink RX10 128 yX1_inForce ∈ gL := gL_in 422 (by decide +kernel) (by decide +kernel)
theorem wl_917 : Cond.methodLink RL 26 yX11_force ∈ gL := gL_in 917 (by decide +kernel) (by decide +kernel)
theorem wl_918 : Cond.instanceMethod yX11_force ∈ gL := gL_in 918 (by decide +kernel) (by decide +kernel)
theorem wl_919 : Cond.selects RX11 yX11_force yX11_force ∈ gL := gL_in 919 (by decide +kernel) (by decide +kernel)
theorem wl_920 : Cond.code yX11_force cX11_force 4 (some .long) ∈ gL := gL_in 920 (by decide +kernel) (by decide +kernel)
theorem wl_423 : Cond.methodLink RL 27 yX10_rate ∈ gL := gL_in 423 (by decide +kernel) (by decide +kernel)
theorem wl_424 : Cond.instanceMethod yX10_rate ∈ gL := gL_in 424 (by decide +kernel) (by decide +kernel)
theorem wl_425 : Cond.selects RX10 yX10_rate yX10_rate ∈ gL := gL_in 425 (by decide +kernel) (by decide +kernel)
theorem wl_426 : Cond.code yX10_rate cX10_rate 4 (some .long) ∈ gL := gL_in 426 (by decide +kernel) (by decide +kernel)
theorem wl_921 : Cond.methodLink RL 31 yX11_rate ∈ gL := gL_in 921 (by decide +kernel) (by decide +kernel)
theorem wl_922 : Cond.instanceMethod yX11_rate ∈ gL := gL_in 922 (by decide +kernel) (by decide +kernel)
theorem wl_923 : Cond.selects RX11 yX11_rate yX11_rate ∈ gL := gL_in 923 (by decide +kernel) (by decide +kernel)
theorem wl_924 : Cond.code yX11_rate cX11_rate 4 (some .long) ∈ gL := gL_in 924 (by decide +kernel) (by decide +kernel)
theorem wl_427 : Cond.methodLink RL 32 yX10_child ∈ gL := gL_in 427 (by decide +kernel) (by decide +kernel)
theorem wl_428 : Cond.instanceMethod yX10_child ∈ gL := gL_in 428 (by decide +kernel) (by decide +kernel)
theorem wl_429 : Cond.selects RX10 yX10_child yX10_child ∈ gL := gL_in 429 (by decide +kernel) (by decide +kernel)
theorem wl_430 : Cond.code yX10_child cX10_child 2 (some .long) ∈ gL := gL_in 430 (by decide +kernel) (by decide +kernel)
theorem wl_97 : Cond.fieldLink RX10 135 "DowryFund$Children" "size" "I" ∈ gL := gL_in 97 (by decide +kernel) (by decide +kernel)
theorem wl_431 : Cond.methodLink RX10 132 yX0_isFull ∈ gL := gL_in 431 (by decide +kernel) (by decide +kernel)
theorem wl_432 : Cond.instanceMethod yX0_isFull ∈ gL := gL_in 432 (by decide +kernel) (by decide +kernel)
theorem wl_433 : Cond.selects RX0 yX0_isFull yX0_isFull ∈ gL := gL_in 433 (by decide +kernel) (by decide +kernel)
theorem wl_434 : Cond.code yX0_isFull cX0_isFull 1 (some .boolean) ∈ gL := gL_in 434 (by decide +kernel) (by decide +kernel)
theorem wl_435 : Cond.methodLink RX10 133 yX0_add ∈ gL := gL_in 435 (by decide +kernel) (by decide +kernel)
theorem wl_436 : Cond.instanceMethod yX0_add ∈ gL := gL_in 436 (by decide +kernel) (by decide +kernel)
theorem wl_437 : Cond.selects RX0 yX0_add yX0_add ∈ gL := gL_in 437 (by decide +kernel) (by decide +kernel)
theorem wl_438 : Cond.code yX0_add cX0_add 2 none ∈ gL := gL_in 438 (by decide +kernel) (by decide +kernel)
theorem wl_439 : Cond.methodLink RX0 34 yX0_isFull ∈ gL := gL_in 439 (by decide +kernel) (by decide +kernel)
theorem wl_925 : Cond.methodLink RL 35 yX11_child ∈ gL := gL_in 925 (by decide +kernel) (by decide +kernel)
theorem wl_926 : Cond.instanceMethod yX11_child ∈ gL := gL_in 926 (by decide +kernel) (by decide +kernel)
theorem wl_927 : Cond.selects RX11 yX11_child yX11_child ∈ gL := gL_in 927 (by decide +kernel) (by decide +kernel)
theorem wl_928 : Cond.code yX11_child cX11_child 2 (some .long) ∈ gL := gL_in 928 (by decide +kernel) (by decide +kernel)
theorem wl_735 : Cond.fieldLink RX11 134 "DowryFundModel" "children" "I" ∈ gL := gL_in 735 (by decide +kernel) (by decide +kernel)
theorem wl_440 : Cond.methodLink RL 36 yX10_fate ∈ gL := gL_in 440 (by decide +kernel) (by decide +kernel)
theorem wl_441 : Cond.instanceMethod yX10_fate ∈ gL := gL_in 441 (by decide +kernel) (by decide +kernel)
theorem wl_442 : Cond.selects RX10 yX10_fate yX10_fate ∈ gL := gL_in 442 (by decide +kernel) (by decide +kernel)
theorem wl_443 : Cond.code yX10_fate cX10_fate 4 (some .long) ∈ gL := gL_in 443 (by decide +kernel) (by decide +kernel)
theorem wl_103 : Cond.fieldLink RX10 149 "DowryFund$Children" "fateCount" "I" ∈ gL := gL_in 103 (by decide +kernel) (by decide +kernel)
theorem wl_444 : Cond.methodLink RX10 136 yX0_has ∈ gL := gL_in 444 (by decide +kernel) (by decide +kernel)
theorem wl_445 : Cond.instanceMethod yX0_has ∈ gL := gL_in 445 (by decide +kernel) (by decide +kernel)
theorem wl_446 : Cond.selects RX0 yX0_has yX0_has ∈ gL := gL_in 446 (by decide +kernel) (by decide +kernel)
theorem wl_447 : Cond.code yX0_has cX0_has 2 (some .boolean) ∈ gL := gL_in 447 (by decide +kernel) (by decide +kernel)
theorem wl_448 : Cond.methodLink RX10 139 yX0_birthOf ∈ gL := gL_in 448 (by decide +kernel) (by decide +kernel)
theorem wl_449 : Cond.instanceMethod yX0_birthOf ∈ gL := gL_in 449 (by decide +kernel) (by decide +kernel)
theorem wl_450 : Cond.selects RX0 yX0_birthOf yX0_birthOf ∈ gL := gL_in 450 (by decide +kernel) (by decide +kernel)
theorem wl_451 : Cond.code yX0_birthOf cX0_birthOf 2 (some .int) ∈ gL := gL_in 451 (by decide +kernel) (by decide +kernel)
theorem wl_452 : Cond.methodLink RX10 143 yX0_areFatesFull ∈ gL := gL_in 452 (by decide +kernel) (by decide +kernel)
theorem wl_453 : Cond.instanceMethod yX0_areFatesFull ∈ gL := gL_in 453 (by decide +kernel) (by decide +kernel)
theorem wl_454 : Cond.selects RX0 yX0_areFatesFull yX0_areFatesFull ∈ gL := gL_in 454 (by decide +kernel) (by decide +kernel)
theorem wl_455 : Cond.code yX0_areFatesFull cX0_areFatesFull 1 (some .boolean) ∈ gL := gL_in 455 (by decide +kernel) (by decide +kernel)
theorem wl_456 : Cond.methodLink RX10 146 yX0_addFate ∈ gL := gL_in 456 (by decide +kernel) (by decide +kernel)
theorem wl_457 : Cond.instanceMethod yX0_addFate ∈ gL := gL_in 457 (by decide +kernel) (by decide +kernel)
theorem wl_458 : Cond.selects RX0 yX0_addFate yX0_addFate ∈ gL := gL_in 458 (by decide +kernel) (by decide +kernel)
theorem wl_459 : Cond.code yX0_addFate cX0_addFate 5 none ∈ gL := gL_in 459 (by decide +kernel) (by decide +kernel)
theorem wl_460 : Cond.methodLink RX0 42 yX0_areFatesFull ∈ gL := gL_in 460 (by decide +kernel) (by decide +kernel)
theorem wl_929 : Cond.methodLink RL 39 yX11_fate ∈ gL := gL_in 929 (by decide +kernel) (by decide +kernel)
theorem wl_930 : Cond.instanceMethod yX11_fate ∈ gL := gL_in 930 (by decide +kernel) (by decide +kernel)
theorem wl_931 : Cond.selects RX11 yX11_fate yX11_fate ∈ gL := gL_in 931 (by decide +kernel) (by decide +kernel)
theorem wl_932 : Cond.code yX11_fate cX11_fate 4 (some .long) ∈ gL := gL_in 932 (by decide +kernel) (by decide +kernel)
theorem wl_933 : Cond.methodLink RX11 140 yX11_isChild ∈ gL := gL_in 933 (by decide +kernel) (by decide +kernel)
theorem wl_935 : Cond.instanceMethod yX11_isChild ∈ gL := gL_in 935 (by decide +kernel) (by decide +kernel)
theorem wl_24 : Cond.selects RX11 yX11_isChild yX11_isChild ∈ gL := gL_in 24 (by decide +kernel) (by decide +kernel)
theorem wl_936 : Cond.code yX11_isChild cX11_isChild 2 (some .boolean) ∈ gL := gL_in 936 (by decide +kernel) (by decide +kernel)
theorem wl_461 : Cond.methodLink RL 40 yX10_told ∈ gL := gL_in 461 (by decide +kernel) (by decide +kernel)
theorem wl_462 : Cond.instanceMethod yX10_told ∈ gL := gL_in 462 (by decide +kernel) (by decide +kernel)
theorem wl_463 : Cond.selects RX10 yX10_told yX10_told ∈ gL := gL_in 463 (by decide +kernel) (by decide +kernel)
theorem wl_464 : Cond.code yX10_told cX10_told 5 (some .long) ∈ gL := gL_in 464 (by decide +kernel) (by decide +kernel)
theorem wl_465 : Cond.methodLink RX10 152 yX0_fateRow ∈ gL := gL_in 465 (by decide +kernel) (by decide +kernel)
theorem wl_466 : Cond.methodLink RX10 156 yX0_monthOf ∈ gL := gL_in 466 (by decide +kernel) (by decide +kernel)
theorem wl_467 : Cond.methodLink RX10 159 yX0_fateOf ∈ gL := gL_in 467 (by decide +kernel) (by decide +kernel)
theorem wl_937 : Cond.methodLink RL 44 yX11_told ∈ gL := gL_in 937 (by decide +kernel) (by decide +kernel)
theorem wl_938 : Cond.instanceMethod yX11_told ∈ gL := gL_in 938 (by decide +kernel) (by decide +kernel)
theorem wl_939 : Cond.selects RX11 yX11_told yX11_told ∈ gL := gL_in 939 (by decide +kernel) (by decide +kernel)
theorem wl_940 : Cond.code yX11_told cX11_told 5 (some .long) ∈ gL := gL_in 940 (by decide +kernel) (by decide +kernel)
theorem wl_468 : Cond.methodLink RL 45 yX10_deposit ∈ gL := gL_in 468 (by decide +kernel) (by decide +kernel)
theorem wl_469 : Cond.instanceMethod yX10_deposit ∈ gL := gL_in 469 (by decide +kernel) (by decide +kernel)
theorem wl_470 : Cond.selects RX10 yX10_deposit yX10_deposit ∈ gL := gL_in 470 (by decide +kernel) (by decide +kernel)
theorem wl_471 : Cond.code yX10_deposit cX10_deposit 8 (some .long) ∈ gL := gL_in 471 (by decide +kernel) (by decide +kernel)
theorem wl_484 : Cond.classLink RX10 172 RX2 ∈ gL := gL_in 484 (by decide +kernel) (by decide +kernel)
theorem wl_485 : Cond.instantiable RX2 16 ∈ gL := gL_in 485 (by decide +kernel) (by decide +kernel)
theorem wl_130 : Cond.fieldLink RX10 188 "DowryFund$Deposits" "size" "I" ∈ gL := gL_in 130 (by decide +kernel) (by decide +kernel)
theorem wl_472 : Cond.methodLink RX10 162 yX10_isDepositKind ∈ gL := gL_in 472 (by decide +kernel) (by decide +kernel)
theorem wl_473 : Cond.static yX10_isDepositKind ∈ gL := gL_in 473 (by decide +kernel) (by decide +kernel)
theorem wl_474 : Cond.code yX10_isDepositKind cX10_isDepositKind 1 (some .boolean) ∈ gL := gL_in 474 (by decide +kernel) (by decide +kernel)
theorem wl_475 : Cond.methodLink RX10 165 yX10_isHolder ∈ gL := gL_in 475 (by decide +kernel) (by decide +kernel)
theorem wl_476 : Cond.methodLink RX10 168 yX10_hasFateNow ∈ gL := gL_in 476 (by decide +kernel) (by decide +kernel)
theorem wl_478 : Cond.instanceMethod yX10_hasFateNow ∈ gL := gL_in 478 (by decide +kernel) (by decide +kernel)
theorem wl_9 : Cond.selects RX10 yX10_hasFateNow yX10_hasFateNow ∈ gL := gL_in 9 (by decide +kernel) (by decide +kernel)
theorem wl_479 : Cond.code yX10_hasFateNow cX10_hasFateNow 2 (some .boolean) ∈ gL := gL_in 479 (by decide +kernel) (by decide +kernel)
theorem wl_480 : Cond.methodLink RX10 171 yX3_isFull ∈ gL := gL_in 480 (by decide +kernel) (by decide +kernel)
theorem wl_481 : Cond.instanceMethod yX3_isFull ∈ gL := gL_in 481 (by decide +kernel) (by decide +kernel)
theorem wl_482 : Cond.selects RX3 yX3_isFull yX3_isFull ∈ gL := gL_in 482 (by decide +kernel) (by decide +kernel)
theorem wl_483 : Cond.code yX3_isFull cX3_isFull 1 (some .boolean) ∈ gL := gL_in 483 (by decide +kernel) (by decide +kernel)
theorem wl_486 : Cond.methodLink RX10 174 yX2_init ∈ gL := gL_in 486 (by decide +kernel) (by decide +kernel)
theorem wl_487 : Cond.instanceMethod yX2_init ∈ gL := gL_in 487 (by decide +kernel) (by decide +kernel)
theorem wl_488 : Cond.code yX2_init cX2_init 6 none ∈ gL := gL_in 488 (by decide +kernel) (by decide +kernel)
theorem wl_489 : Cond.methodLink RX2 1 objectInit ∈ gL := gL_in 489 (by decide +kernel) (by decide +kernel)
theorem wl_509 : Cond.fieldLink RX2 13 "DowryFund$Deposit" "heldFrom" "[I" ∈ gL := gL_in 509 (by decide +kernel) (by decide +kernel)
theorem wl_490 : Cond.constant RX2 28 (1000000) ∈ gL := gL_in 490 (by decide +kernel) (by decide +kernel)
theorem wl_491 : Cond.fieldLink RX2 41 "DowryFund$Deposit" "kind" "I" ∈ gL := gL_in 491 (by decide +kernel) (by decide +kernel)
theorem wl_494 : Cond.fieldLink RX2 44 "DowryFund$Deposit" "child" "I" ∈ gL := gL_in 494 (by decide +kernel) (by decide +kernel)
theorem wl_496 : Cond.fieldLink RX2 47 "DowryFund$Deposit" "other" "I" ∈ gL := gL_in 496 (by decide +kernel) (by decide +kernel)
theorem wl_498 : Cond.fieldLink RX2 50 "DowryFund$Deposit" "made" "I" ∈ gL := gL_in 498 (by decide +kernel) (by decide +kernel)
theorem wl_559 : Cond.methodLink RX10 177 yX10_dowryFor ∈ gL := gL_in 559 (by decide +kernel) (by decide +kernel)
theorem wl_561 : Cond.instanceMethod yX10_dowryFor ∈ gL := gL_in 561 (by decide +kernel) (by decide +kernel)
theorem wl_10 : Cond.selects RX10 yX10_dowryFor yX10_dowryFor ∈ gL := gL_in 10 (by decide +kernel) (by decide +kernel)
theorem wl_562 : Cond.code yX10_dowryFor cX10_dowryFor 5 (some .long) ∈ gL := gL_in 562 (by decide +kernel) (by decide +kernel)
theorem wl_563 : Cond.methodLink RX10 289 Lib.Math.min.name ∈ gL := gL_in 563 (by decide +kernel) (by decide +kernel)
theorem wl_564 : Cond.constantLong RX10 294 (100) ∈ gL := gL_in 564 (by decide +kernel) (by decide +kernel)
theorem wl_565 : Cond.methodLink RX10 181 yX2_setTerms ∈ gL := gL_in 565 (by decide +kernel) (by decide +kernel)
theorem wl_566 : Cond.instanceMethod yX2_setTerms ∈ gL := gL_in 566 (by decide +kernel) (by decide +kernel)
theorem wl_567 : Cond.selects RX2 yX2_setTerms yX2_setTerms ∈ gL := gL_in 567 (by decide +kernel) (by decide +kernel)
theorem wl_568 : Cond.code yX2_setTerms cX2_setTerms 5 none ∈ gL := gL_in 568 (by decide +kernel) (by decide +kernel)
theorem wl_501 : Cond.fieldLink RX2 53 "DowryFund$Deposit" "sum" "I" ∈ gL := gL_in 501 (by decide +kernel) (by decide +kernel)
theorem wl_504 : Cond.fieldLink RX2 56 "DowryFund$Deposit" "dowry" "J" ∈ gL := gL_in 504 (by decide +kernel) (by decide +kernel)
theorem wl_506 : Cond.fieldLink RX2 59 "DowryFund$Deposit" "end" "I" ∈ gL := gL_in 506 (by decide +kernel) (by decide +kernel)
theorem wl_569 : Cond.methodLink RX10 185 yX3_add ∈ gL := gL_in 569 (by decide +kernel) (by decide +kernel)
theorem wl_570 : Cond.instanceMethod yX3_add ∈ gL := gL_in 570 (by decide +kernel) (by decide +kernel)
theorem wl_571 : Cond.selects RX3 yX3_add yX3_add ∈ gL := gL_in 571 (by decide +kernel) (by decide +kernel)
theorem wl_572 : Cond.code yX3_add cX3_add 2 none ∈ gL := gL_in 572 (by decide +kernel) (by decide +kernel)
theorem wl_573 : Cond.methodLink RX3 19 yX3_isFull ∈ gL := gL_in 573 (by decide +kernel) (by decide +kernel)
theorem wl_941 : Cond.methodLink RL 49 yX11_deposit ∈ gL := gL_in 941 (by decide +kernel) (by decide +kernel)
theorem wl_942 : Cond.instanceMethod yX11_deposit ∈ gL := gL_in 942 (by decide +kernel) (by decide +kernel)
theorem wl_943 : Cond.selects RX11 yX11_deposit yX11_deposit ∈ gL := gL_in 943 (by decide +kernel) (by decide +kernel)
theorem wl_944 : Cond.code yX11_deposit cX11_deposit 9 (some .long) ∈ gL := gL_in 944 (by decide +kernel) (by decide +kernel)
theorem wl_948 : Cond.constantLong RX11 153 (100) ∈ gL := gL_in 948 (by decide +kernel) (by decide +kernel)
theorem wl_945 : Cond.methodLink RX11 150 yX11_isHolder ∈ gL := gL_in 945 (by decide +kernel) (by decide +kernel)
theorem wl_946 : Cond.static yX11_isHolder ∈ gL := gL_in 946 (by decide +kernel) (by decide +kernel)
theorem wl_947 : Cond.code yX11_isHolder cX11_isHolder 1 (some .boolean) ∈ gL := gL_in 947 (by decide +kernel) (by decide +kernel)
theorem wl_574 : Cond.methodLink RL 50 yX10_about ∈ gL := gL_in 574 (by decide +kernel) (by decide +kernel)
theorem wl_575 : Cond.instanceMethod yX10_about ∈ gL := gL_in 575 (by decide +kernel) (by decide +kernel)
theorem wl_576 : Cond.selects RX10 yX10_about yX10_about ∈ gL := gL_in 576 (by decide +kernel) (by decide +kernel)
theorem wl_577 : Cond.code yX10_about cX10_about 4 (some .long) ∈ gL := gL_in 577 (by decide +kernel) (by decide +kernel)
theorem wl_493 : Cond.fieldLink RX10 193 "DowryFund$Deposit" "kind" "I" ∈ gL := gL_in 493 (by decide +kernel) (by decide +kernel)
theorem wl_578 : Cond.methodLink RX10 189 yX3_find ∈ gL := gL_in 578 (by decide +kernel) (by decide +kernel)
theorem wl_579 : Cond.methodLink RX10 196 yX2_tellOf ∈ gL := gL_in 579 (by decide +kernel) (by decide +kernel)
theorem wl_580 : Cond.instanceMethod yX2_tellOf ∈ gL := gL_in 580 (by decide +kernel) (by decide +kernel)
theorem wl_581 : Cond.selects RX2 yX2_tellOf yX2_tellOf ∈ gL := gL_in 581 (by decide +kernel) (by decide +kernel)
theorem wl_582 : Cond.code yX2_tellOf cX2_tellOf 2 (some .long) ∈ gL := gL_in 582 (by decide +kernel) (by decide +kernel)
theorem wl_949 : Cond.methodLink RL 53 yX11_about ∈ gL := gL_in 949 (by decide +kernel) (by decide +kernel)
theorem wl_950 : Cond.instanceMethod yX11_about ∈ gL := gL_in 950 (by decide +kernel) (by decide +kernel)
theorem wl_951 : Cond.selects RX11 yX11_about yX11_about ∈ gL := gL_in 951 (by decide +kernel) (by decide +kernel)
theorem wl_952 : Cond.code yX11_about cX11_about 3 (some .long) ∈ gL := gL_in 952 (by decide +kernel) (by decide +kernel)
theorem wl_953 : Cond.methodLink RX11 155 yX11_isDeposit ∈ gL := gL_in 953 (by decide +kernel) (by decide +kernel)
theorem wl_955 : Cond.instanceMethod yX11_isDeposit ∈ gL := gL_in 955 (by decide +kernel) (by decide +kernel)
theorem wl_25 : Cond.selects RX11 yX11_isDeposit yX11_isDeposit ∈ gL := gL_in 25 (by decide +kernel) (by decide +kernel)
theorem wl_956 : Cond.code yX11_isDeposit cX11_isDeposit 2 (some .boolean) ∈ gL := gL_in 956 (by decide +kernel) (by decide +kernel)
theorem wl_583 : Cond.methodLink RL 54 yX10_as ∈ gL := gL_in 583 (by decide +kernel) (by decide +kernel)
theorem wl_584 : Cond.instanceMethod yX10_as ∈ gL := gL_in 584 (by decide +kernel) (by decide +kernel)
theorem wl_585 : Cond.selects RX10 yX10_as yX10_as ∈ gL := gL_in 585 (by decide +kernel) (by decide +kernel)
theorem wl_586 : Cond.code yX10_as cX10_as 4 (some .long) ∈ gL := gL_in 586 (by decide +kernel) (by decide +kernel)
theorem wl_503 : Cond.fieldLink RX10 199 "DowryFund$Deposit" "sum" "I" ∈ gL := gL_in 503 (by decide +kernel) (by decide +kernel)
theorem wl_957 : Cond.methodLink RL 57 yX11_as ∈ gL := gL_in 957 (by decide +kernel) (by decide +kernel)
theorem wl_958 : Cond.instanceMethod yX11_as ∈ gL := gL_in 958 (by decide +kernel) (by decide +kernel)
theorem wl_959 : Cond.selects RX11 yX11_as yX11_as ∈ gL := gL_in 959 (by decide +kernel) (by decide +kernel)
theorem wl_960 : Cond.code yX11_as cX11_as 3 (some .long) ∈ gL := gL_in 960 (by decide +kernel) (by decide +kernel)
theorem wl_587 : Cond.methodLink RL 58 yX10_sell ∈ gL := gL_in 587 (by decide +kernel) (by decide +kernel)
theorem wl_588 : Cond.instanceMethod yX10_sell ∈ gL := gL_in 588 (by decide +kernel) (by decide +kernel)
theorem wl_589 : Cond.selects RX10 yX10_sell yX10_sell ∈ gL := gL_in 589 (by decide +kernel) (by decide +kernel)
theorem wl_590 : Cond.code yX10_sell cX10_sell 5 (some .long) ∈ gL := gL_in 590 (by decide +kernel) (by decide +kernel)
theorem wl_516 : Cond.fieldLink RX10 202 "DowryFund$Deposit" "paidOut" "Z" ∈ gL := gL_in 516 (by decide +kernel) (by decide +kernel)
theorem wl_591 : Cond.methodLink RX10 206 yX2_latestHolder ∈ gL := gL_in 591 (by decide +kernel) (by decide +kernel)
theorem wl_592 : Cond.methodLink RX10 210 yX2_maySellIn ∈ gL := gL_in 592 (by decide +kernel) (by decide +kernel)
theorem wl_593 : Cond.instanceMethod yX2_maySellIn ∈ gL := gL_in 593 (by decide +kernel) (by decide +kernel)
theorem wl_594 : Cond.selects RX2 yX2_maySellIn yX2_maySellIn ∈ gL := gL_in 594 (by decide +kernel) (by decide +kernel)
theorem wl_595 : Cond.code yX2_maySellIn cX2_maySellIn 2 (some .boolean) ∈ gL := gL_in 595 (by decide +kernel) (by decide +kernel)
theorem wl_596 : Cond.methodLink RX2 75 yX2_cameIn ∈ gL := gL_in 596 (by decide +kernel) (by decide +kernel)
theorem wl_597 : Cond.instanceMethod yX2_cameIn ∈ gL := gL_in 597 (by decide +kernel) (by decide +kernel)
theorem wl_598 : Cond.selects RX2 yX2_cameIn yX2_cameIn ∈ gL := gL_in 598 (by decide +kernel) (by decide +kernel)
theorem wl_599 : Cond.code yX2_cameIn cX2_cameIn 2 (some .boolean) ∈ gL := gL_in 599 (by decide +kernel) (by decide +kernel)
theorem wl_600 : Cond.methodLink RX10 213 yX2_handTo ∈ gL := gL_in 600 (by decide +kernel) (by decide +kernel)
theorem wl_601 : Cond.instanceMethod yX2_handTo ∈ gL := gL_in 601 (by decide +kernel) (by decide +kernel)
theorem wl_602 : Cond.selects RX2 yX2_handTo yX2_handTo ∈ gL := gL_in 602 (by decide +kernel) (by decide +kernel)
theorem wl_603 : Cond.code yX2_handTo cX2_handTo 3 none ∈ gL := gL_in 603 (by decide +kernel) (by decide +kernel)
theorem wl_604 : Cond.methodLink RX2 79 yX2_maySellIn ∈ gL := gL_in 604 (by decide +kernel) (by decide +kernel)
theorem wl_961 : Cond.methodLink RL 61 yX11_sell ∈ gL := gL_in 961 (by decide +kernel) (by decide +kernel)
theorem wl_962 : Cond.instanceMethod yX11_sell ∈ gL := gL_in 962 (by decide +kernel) (by decide +kernel)
theorem wl_963 : Cond.selects RX11 yX11_sell yX11_sell ∈ gL := gL_in 963 (by decide +kernel) (by decide +kernel)
theorem wl_964 : Cond.code yX11_sell cX11_sell 5 (some .long) ∈ gL := gL_in 964 (by decide +kernel) (by decide +kernel)
theorem wl_605 : Cond.methodLink RL 62 yX10_holder ∈ gL := gL_in 605 (by decide +kernel) (by decide +kernel)
theorem wl_606 : Cond.instanceMethod yX10_holder ∈ gL := gL_in 606 (by decide +kernel) (by decide +kernel)
theorem wl_607 : Cond.selects RX10 yX10_holder yX10_holder ∈ gL := gL_in 607 (by decide +kernel) (by decide +kernel)
theorem wl_608 : Cond.code yX10_holder cX10_holder 4 (some .long) ∈ gL := gL_in 608 (by decide +kernel) (by decide +kernel)
theorem wl_500 : Cond.fieldLink RX10 217 "DowryFund$Deposit" "made" "I" ∈ gL := gL_in 500 (by decide +kernel) (by decide +kernel)
theorem wl_609 : Cond.methodLink RX10 220 yX2_holderIn ∈ gL := gL_in 609 (by decide +kernel) (by decide +kernel)
theorem wl_610 : Cond.instanceMethod yX2_holderIn ∈ gL := gL_in 610 (by decide +kernel) (by decide +kernel)
theorem wl_611 : Cond.selects RX2 yX2_holderIn yX2_holderIn ∈ gL := gL_in 611 (by decide +kernel) (by decide +kernel)
theorem wl_612 : Cond.code yX2_holderIn cX2_holderIn 3 (some .int) ∈ gL := gL_in 612 (by decide +kernel) (by decide +kernel)
theorem wl_965 : Cond.methodLink RL 65 yX11_holder ∈ gL := gL_in 965 (by decide +kernel) (by decide +kernel)
theorem wl_966 : Cond.instanceMethod yX11_holder ∈ gL := gL_in 966 (by decide +kernel) (by decide +kernel)
theorem wl_967 : Cond.selects RX11 yX11_holder yX11_holder ∈ gL := gL_in 967 (by decide +kernel) (by decide +kernel)
theorem wl_968 : Cond.code yX11_holder cX11_holder 4 (some .long) ∈ gL := gL_in 968 (by decide +kernel) (by decide +kernel)
theorem wl_613 : Cond.methodLink RL 66 yX10_due ∈ gL := gL_in 613 (by decide +kernel) (by decide +kernel)
theorem wl_614 : Cond.instanceMethod yX10_due ∈ gL := gL_in 614 (by decide +kernel) (by decide +kernel)
theorem wl_615 : Cond.selects RX10 yX10_due yX10_due ∈ gL := gL_in 615 (by decide +kernel) (by decide +kernel)
theorem wl_616 : Cond.code yX10_due cX10_due 6 (some .long) ∈ gL := gL_in 616 (by decide +kernel) (by decide +kernel)
theorem wl_617 : Cond.methodLink RX10 223 yX4_fallRow ∈ gL := gL_in 617 (by decide +kernel) (by decide +kernel)
theorem wl_618 : Cond.methodLink RX10 227 yX4_dueMonth ∈ gL := gL_in 618 (by decide +kernel) (by decide +kernel)
theorem wl_619 : Cond.methodLink RX10 230 yX4_dueSum ∈ gL := gL_in 619 (by decide +kernel) (by decide +kernel)
theorem wl_969 : Cond.methodLink RL 69 yX11_due ∈ gL := gL_in 969 (by decide +kernel) (by decide +kernel)
theorem wl_970 : Cond.instanceMethod yX11_due ∈ gL := gL_in 970 (by decide +kernel) (by decide +kernel)
theorem wl_971 : Cond.selects RX11 yX11_due yX11_due ∈ gL := gL_in 971 (by decide +kernel) (by decide +kernel)
theorem wl_972 : Cond.code yX11_due cX11_due 5 (some .long) ∈ gL := gL_in 972 (by decide +kernel) (by decide +kernel)
theorem wl_620 : Cond.methodLink RL 70 yX10_foretold ∈ gL := gL_in 620 (by decide +kernel) (by decide +kernel)
theorem wl_621 : Cond.instanceMethod yX10_foretold ∈ gL := gL_in 621 (by decide +kernel) (by decide +kernel)
theorem wl_622 : Cond.selects RX10 yX10_foretold yX10_foretold ∈ gL := gL_in 622 (by decide +kernel) (by decide +kernel)
theorem wl_623 : Cond.code yX10_foretold cX10_foretold 7 (some .long) ∈ gL := gL_in 623 (by decide +kernel) (by decide +kernel)
theorem wl_973 : Cond.methodLink RL 73 yX11_foretold ∈ gL := gL_in 973 (by decide +kernel) (by decide +kernel)
theorem wl_974 : Cond.instanceMethod yX11_foretold ∈ gL := gL_in 974 (by decide +kernel) (by decide +kernel)
theorem wl_975 : Cond.selects RX11 yX11_foretold yX11_foretold ∈ gL := gL_in 975 (by decide +kernel) (by decide +kernel)
theorem wl_976 : Cond.code yX11_foretold cX11_foretold 6 (some .long) ∈ gL := gL_in 976 (by decide +kernel) (by decide +kernel)
theorem wl_624 : Cond.methodLink RL 74 yX10_income ∈ gL := gL_in 624 (by decide +kernel) (by decide +kernel)
theorem wl_625 : Cond.instanceMethod yX10_income ∈ gL := gL_in 625 (by decide +kernel) (by decide +kernel)
theorem wl_626 : Cond.selects RX10 yX10_income yX10_income ∈ gL := gL_in 626 (by decide +kernel) (by decide +kernel)
theorem wl_627 : Cond.code yX10_income cX10_income 2 (some .long) ∈ gL := gL_in 627 (by decide +kernel) (by decide +kernel)
theorem wl_628 : Cond.constant RX10 234 (1000000) ∈ gL := gL_in 628 (by decide +kernel) (by decide +kernel)
theorem wl_157 : Cond.fieldLink RX10 235 "DowryFund$Purse" "has" "J" ∈ gL := gL_in 157 (by decide +kernel) (by decide +kernel)
theorem wl_629 : Cond.constantLong RX10 238 (1000000000) ∈ gL := gL_in 629 (by decide +kernel) (by decide +kernel)
theorem wl_159 : Cond.fieldLink RX10 240 "DowryFund$Purse" "came" "J" ∈ gL := gL_in 159 (by decide +kernel) (by decide +kernel)
theorem wl_977 : Cond.methodLink RL 77 yX11_income ∈ gL := gL_in 977 (by decide +kernel) (by decide +kernel)
theorem wl_978 : Cond.instanceMethod yX11_income ∈ gL := gL_in 978 (by decide +kernel) (by decide +kernel)
theorem wl_979 : Cond.selects RX11 yX11_income yX11_income ∈ gL := gL_in 979 (by decide +kernel) (by decide +kernel)
theorem wl_980 : Cond.code yX11_income cX11_income 2 (some .long) ∈ gL := gL_in 980 (by decide +kernel) (by decide +kernel)
theorem wl_981 : Cond.constant RX11 176 (1000000) ∈ gL := gL_in 981 (by decide +kernel) (by decide +kernel)
theorem wl_982 : Cond.constantLong RX11 181 (1000000000) ∈ gL := gL_in 982 (by decide +kernel) (by decide +kernel)
theorem wl_756 : Cond.fieldLink RX11 183 "DowryFundModel" "came" "J" ∈ gL := gL_in 756 (by decide +kernel) (by decide +kernel)
theorem wl_630 : Cond.methodLink RL 78 yX10_purse ∈ gL := gL_in 630 (by decide +kernel) (by decide +kernel)
theorem wl_631 : Cond.instanceMethod yX10_purse ∈ gL := gL_in 631 (by decide +kernel) (by decide +kernel)
theorem wl_632 : Cond.selects RX10 yX10_purse yX10_purse ∈ gL := gL_in 632 (by decide +kernel) (by decide +kernel)
theorem wl_633 : Cond.code yX10_purse cX10_purse 2 (some .long) ∈ gL := gL_in 633 (by decide +kernel) (by decide +kernel)
theorem wl_161 : Cond.fieldLink RX10 243 "DowryFund$Purse" "spent" "J" ∈ gL := gL_in 161 (by decide +kernel) (by decide +kernel)
theorem wl_183 : Cond.fieldLink RX10 246 "DowryFund$Roll" "owed" "J" ∈ gL := gL_in 183 (by decide +kernel) (by decide +kernel)
theorem wl_185 : Cond.fieldLink RX10 249 "DowryFund$Roll" "size" "I" ∈ gL := gL_in 185 (by decide +kernel) (by decide +kernel)
theorem wl_634 : Cond.methodLink RX10 250 yX3_countPaidOut ∈ gL := gL_in 634 (by decide +kernel) (by decide +kernel)
theorem wl_635 : Cond.instanceMethod yX3_countPaidOut ∈ gL := gL_in 635 (by decide +kernel) (by decide +kernel)
theorem wl_636 : Cond.selects RX3 yX3_countPaidOut yX3_countPaidOut ∈ gL := gL_in 636 (by decide +kernel) (by decide +kernel)
theorem wl_637 : Cond.code yX3_countPaidOut cX3_countPaidOut 4 (some .int) ∈ gL := gL_in 637 (by decide +kernel) (by decide +kernel)
theorem wl_514 : Cond.fieldLink RX3 27 "DowryFund$Deposit" "paidOut" "Z" ∈ gL := gL_in 514 (by decide +kernel) (by decide +kernel)
theorem wl_638 : Cond.methodLink RX3 23 yX3_find ∈ gL := gL_in 638 (by decide +kernel) (by decide +kernel)
theorem wl_983 : Cond.methodLink RL 81 yX11_purse ∈ gL := gL_in 983 (by decide +kernel) (by decide +kernel)
theorem wl_984 : Cond.instanceMethod yX11_purse ∈ gL := gL_in 984 (by decide +kernel) (by decide +kernel)
theorem wl_985 : Cond.selects RX11 yX11_purse yX11_purse ∈ gL := gL_in 985 (by decide +kernel) (by decide +kernel)
theorem wl_986 : Cond.code yX11_purse cX11_purse 2 (some .long) ∈ gL := gL_in 986 (by decide +kernel) (by decide +kernel)
theorem wl_987 : Cond.methodLink RX11 199 yX11_outMany ∈ gL := gL_in 987 (by decide +kernel) (by decide +kernel)
theorem wl_989 : Cond.instanceMethod yX11_outMany ∈ gL := gL_in 989 (by decide +kernel) (by decide +kernel)
theorem wl_26 : Cond.selects RX11 yX11_outMany yX11_outMany ∈ gL := gL_in 26 (by decide +kernel) (by decide +kernel)
theorem wl_990 : Cond.code yX11_outMany cX11_outMany 3 (some .int) ∈ gL := gL_in 990 (by decide +kernel) (by decide +kernel)
theorem wl_639 : Cond.methodLink RL 82 yX10_paid ∈ gL := gL_in 639 (by decide +kernel) (by decide +kernel)
theorem wl_640 : Cond.instanceMethod yX10_paid ∈ gL := gL_in 640 (by decide +kernel) (by decide +kernel)
theorem wl_641 : Cond.selects RX10 yX10_paid yX10_paid ∈ gL := gL_in 641 (by decide +kernel) (by decide +kernel)
theorem wl_642 : Cond.code yX10_paid cX10_paid 2 (some .long) ∈ gL := gL_in 642 (by decide +kernel) (by decide +kernel)
theorem wl_163 : Cond.fieldLink RX10 253 "DowryFund$Purse" "paidTo" "[J" ∈ gL := gL_in 163 (by decide +kernel) (by decide +kernel)
theorem wl_991 : Cond.methodLink RL 85 yX11_paid ∈ gL := gL_in 991 (by decide +kernel) (by decide +kernel)
theorem wl_992 : Cond.instanceMethod yX11_paid ∈ gL := gL_in 992 (by decide +kernel) (by decide +kernel)
theorem wl_993 : Cond.selects RX11 yX11_paid yX11_paid ∈ gL := gL_in 993 (by decide +kernel) (by decide +kernel)
theorem wl_994 : Cond.code yX11_paid cX11_paid 2 (some .long) ∈ gL := gL_in 994 (by decide +kernel) (by decide +kernel)
theorem wl_643 : Cond.methodLink RL 86 yX10_lives ∈ gL := gL_in 643 (by decide +kernel) (by decide +kernel)
theorem wl_644 : Cond.instanceMethod yX10_lives ∈ gL := gL_in 644 (by decide +kernel) (by decide +kernel)
theorem wl_645 : Cond.selects RX10 yX10_lives yX10_lives ∈ gL := gL_in 645 (by decide +kernel) (by decide +kernel)
theorem wl_646 : Cond.code yX10_lives cX10_lives 5 (some .long) ∈ gL := gL_in 646 (by decide +kernel) (by decide +kernel)
theorem wl_647 : Cond.methodLink RX10 257 yX6_isAge ∈ gL := gL_in 647 (by decide +kernel) (by decide +kernel)
theorem wl_648 : Cond.static yX6_isAge ∈ gL := gL_in 648 (by decide +kernel) (by decide +kernel)
theorem wl_649 : Cond.code yX6_isAge cX6_isAge 1 (some .boolean) ∈ gL := gL_in 649 (by decide +kernel) (by decide +kernel)
theorem wl_651 : Cond.methodLink RX10 260 yX6_mayGo ∈ gL := gL_in 651 (by decide +kernel) (by decide +kernel)
theorem wl_652 : Cond.static yX6_mayGo ∈ gL := gL_in 652 (by decide +kernel) (by decide +kernel)
theorem wl_653 : Cond.code yX6_mayGo cX6_mayGo 3 (some .boolean) ∈ gL := gL_in 653 (by decide +kernel) (by decide +kernel)
theorem wl_654 : Cond.constantLong RX6 29 (1000) ∈ gL := gL_in 654 (by decide +kernel) (by decide +kernel)
theorem wl_655 : Cond.methodLink RX10 263 yX6_set ∈ gL := gL_in 655 (by decide +kernel) (by decide +kernel)
theorem wl_656 : Cond.instanceMethod yX6_set ∈ gL := gL_in 656 (by decide +kernel) (by decide +kernel)
theorem wl_657 : Cond.selects RX6 yX6_set yX6_set ∈ gL := gL_in 657 (by decide +kernel) (by decide +kernel)
theorem wl_658 : Cond.code yX6_set cX6_set 5 none ∈ gL := gL_in 658 (by decide +kernel) (by decide +kernel)
theorem wl_659 : Cond.methodLink RX6 25 yX6_isAge ∈ gL := gL_in 659 (by decide +kernel) (by decide +kernel)
theorem wl_995 : Cond.methodLink RL 90 yX11_lives ∈ gL := gL_in 995 (by decide +kernel) (by decide +kernel)
theorem wl_996 : Cond.instanceMethod yX11_lives ∈ gL := gL_in 996 (by decide +kernel) (by decide +kernel)
theorem wl_997 : Cond.selects RX11 yX11_lives yX11_lives ∈ gL := gL_in 997 (by decide +kernel) (by decide +kernel)
theorem wl_998 : Cond.code yX11_lives cX11_lives 5 (some .long) ∈ gL := gL_in 998 (by decide +kernel) (by decide +kernel)
theorem wl_660 : Cond.methodLink RL 91 yX10_value ∈ gL := gL_in 660 (by decide +kernel) (by decide +kernel)
theorem wl_661 : Cond.instanceMethod yX10_value ∈ gL := gL_in 661 (by decide +kernel) (by decide +kernel)
theorem wl_662 : Cond.selects RX10 yX10_value yX10_value ∈ gL := gL_in 662 (by decide +kernel) (by decide +kernel)
theorem wl_663 : Cond.code yX10_value cX10_value 4 (some .long) ∈ gL := gL_in 663 (by decide +kernel) (by decide +kernel)
theorem wl_667 : Cond.constant RX10 269 (100000) ∈ gL := gL_in 667 (by decide +kernel) (by decide +kernel)
theorem wl_679 : Cond.constantLong RX10 273 (1000000) ∈ gL := gL_in 679 (by decide +kernel) (by decide +kernel)
theorem wl_664 : Cond.methodLink RX10 266 yX6_isSpan ∈ gL := gL_in 664 (by decide +kernel) (by decide +kernel)
theorem wl_665 : Cond.static yX6_isSpan ∈ gL := gL_in 665 (by decide +kernel) (by decide +kernel)
theorem wl_666 : Cond.code yX6_isSpan cX6_isSpan 2 (some .boolean) ∈ gL := gL_in 666 (by decide +kernel) (by decide +kernel)
theorem wl_668 : Cond.methodLink RX10 270 yX6_wedBetween ∈ gL := gL_in 668 (by decide +kernel) (by decide +kernel)
theorem wl_669 : Cond.instanceMethod yX6_wedBetween ∈ gL := gL_in 669 (by decide +kernel) (by decide +kernel)
theorem wl_670 : Cond.selects RX6 yX6_wedBetween yX6_wedBetween ∈ gL := gL_in 670 (by decide +kernel) (by decide +kernel)
theorem wl_671 : Cond.code yX6_wedBetween cX6_wedBetween 8 (some .long) ∈ gL := gL_in 671 (by decide +kernel) (by decide +kernel)
theorem wl_672 : Cond.constantLong RX6 31 (1000000) ∈ gL := gL_in 672 (by decide +kernel) (by decide +kernel)
theorem wl_673 : Cond.methodLink RX6 33 Lib.Math.max.name ∈ gL := gL_in 673 (by decide +kernel) (by decide +kernel)
theorem wl_675 : Cond.methodLink RX6 39 yX6_afterYear ∈ gL := gL_in 675 (by decide +kernel) (by decide +kernel)
theorem wl_677 : Cond.instanceMethod yX6_afterYear ∈ gL := gL_in 677 (by decide +kernel) (by decide +kernel)
theorem wl_11 : Cond.selects RX6 yX6_afterYear yX6_afterYear ∈ gL := gL_in 11 (by decide +kernel) (by decide +kernel)
theorem wl_678 : Cond.code yX6_afterYear cX6_afterYear 4 (some .long) ∈ gL := gL_in 678 (by decide +kernel) (by decide +kernel)
theorem wl_999 : Cond.methodLink RL 94 yX11_value ∈ gL := gL_in 999 (by decide +kernel) (by decide +kernel)
theorem wl_1000 : Cond.instanceMethod yX11_value ∈ gL := gL_in 1000 (by decide +kernel) (by decide +kernel)
theorem wl_1001 : Cond.selects RX11 yX11_value yX11_value ∈ gL := gL_in 1001 (by decide +kernel) (by decide +kernel)
theorem wl_1002 : Cond.code yX11_value cX11_value 4 (some .long) ∈ gL := gL_in 1002 (by decide +kernel) (by decide +kernel)
theorem wl_1006 : Cond.constant RX11 214 (100000) ∈ gL := gL_in 1006 (by decide +kernel) (by decide +kernel)
theorem wl_769 : Cond.fieldLink RX11 208 "DowryFundModel" "wedded" "J" ∈ gL := gL_in 769 (by decide +kernel) (by decide +kernel)
theorem wl_1011 : Cond.constantLong RX11 203 (1000000) ∈ gL := gL_in 1011 (by decide +kernel) (by decide +kernel)
theorem wl_1003 : Cond.methodLink RX11 211 yX11_areAges ∈ gL := gL_in 1003 (by decide +kernel) (by decide +kernel)
theorem wl_1004 : Cond.static yX11_areAges ∈ gL := gL_in 1004 (by decide +kernel) (by decide +kernel)
theorem wl_1005 : Cond.code yX11_areAges cX11_areAges 2 (some .boolean) ∈ gL := gL_in 1005 (by decide +kernel) (by decide +kernel)
theorem wl_1007 : Cond.methodLink RX11 215 yX11_live ∈ gL := gL_in 1007 (by decide +kernel) (by decide +kernel)
theorem wl_1009 : Cond.instanceMethod yX11_live ∈ gL := gL_in 1009 (by decide +kernel) (by decide +kernel)
theorem wl_27 : Cond.selects RX11 yX11_live yX11_live ∈ gL := gL_in 27 (by decide +kernel) (by decide +kernel)
theorem wl_1010 : Cond.code yX11_live cX11_live 6 none ∈ gL := gL_in 1010 (by decide +kernel) (by decide +kernel)
theorem wl_768 : Cond.fieldLink RX11 205 "DowryFundModel" "still" "J" ∈ gL := gL_in 768 (by decide +kernel) (by decide +kernel)
theorem wl_680 : Cond.methodLink RL 95 yX10_left ∈ gL := gL_in 680 (by decide +kernel) (by decide +kernel)
theorem wl_681 : Cond.instanceMethod yX10_left ∈ gL := gL_in 681 (by decide +kernel) (by decide +kernel)
theorem wl_682 : Cond.selects RX10 yX10_left yX10_left ∈ gL := gL_in 682 (by decide +kernel) (by decide +kernel)
theorem wl_683 : Cond.code yX10_left cX10_left 3 (some .long) ∈ gL := gL_in 683 (by decide +kernel) (by decide +kernel)
theorem wl_684 : Cond.methodLink RX10 275 yX6_stillThere ∈ gL := gL_in 684 (by decide +kernel) (by decide +kernel)
theorem wl_685 : Cond.instanceMethod yX6_stillThere ∈ gL := gL_in 685 (by decide +kernel) (by decide +kernel)
theorem wl_686 : Cond.selects RX6 yX6_stillThere yX6_stillThere ∈ gL := gL_in 686 (by decide +kernel) (by decide +kernel)
theorem wl_687 : Cond.code yX6_stillThere cX6_stillThere 6 (some .long) ∈ gL := gL_in 687 (by decide +kernel) (by decide +kernel)
theorem wl_1012 : Cond.methodLink RL 98 yX11_left ∈ gL := gL_in 1012 (by decide +kernel) (by decide +kernel)
theorem wl_1013 : Cond.instanceMethod yX11_left ∈ gL := gL_in 1013 (by decide +kernel) (by decide +kernel)
theorem wl_1014 : Cond.selects RX11 yX11_left yX11_left ∈ gL := gL_in 1014 (by decide +kernel) (by decide +kernel)
theorem wl_1015 : Cond.code yX11_left cX11_left 3 (some .long) ∈ gL := gL_in 1015 (by decide +kernel) (by decide +kernel)
theorem wl_688 : Cond.methodLink RL 99 yX10_tell ∈ gL := gL_in 688 (by decide +kernel) (by decide +kernel)
theorem wl_689 : Cond.instanceMethod yX10_tell ∈ gL := gL_in 689 (by decide +kernel) (by decide +kernel)
theorem wl_690 : Cond.selects RX10 yX10_tell yX10_tell ∈ gL := gL_in 690 (by decide +kernel) (by decide +kernel)
theorem wl_691 : Cond.code yX10_tell cX10_tell 2 (some .long) ∈ gL := gL_in 691 (by decide +kernel) (by decide +kernel)
theorem wl_220 : Cond.fieldLink RX10 280 "DowryFund$Waiting" "size" "I" ∈ gL := gL_in 220 (by decide +kernel) (by decide +kernel)
theorem wl_692 : Cond.methodLink RX10 278 yX9_isFull ∈ gL := gL_in 692 (by decide +kernel) (by decide +kernel)
theorem wl_693 : Cond.instanceMethod yX9_isFull ∈ gL := gL_in 693 (by decide +kernel) (by decide +kernel)
theorem wl_694 : Cond.selects RX9 yX9_isFull yX9_isFull ∈ gL := gL_in 694 (by decide +kernel) (by decide +kernel)
theorem wl_695 : Cond.code yX9_isFull cX9_isFull 1 (some .boolean) ∈ gL := gL_in 695 (by decide +kernel) (by decide +kernel)
theorem wl_696 : Cond.methodLink RX10 279 yX9_add ∈ gL := gL_in 696 (by decide +kernel) (by decide +kernel)
theorem wl_697 : Cond.instanceMethod yX9_add ∈ gL := gL_in 697 (by decide +kernel) (by decide +kernel)
theorem wl_698 : Cond.selects RX9 yX9_add yX9_add ∈ gL := gL_in 698 (by decide +kernel) (by decide +kernel)
theorem wl_699 : Cond.code yX9_add cX9_add 2 none ∈ gL := gL_in 699 (by decide +kernel) (by decide +kernel)
theorem wl_700 : Cond.methodLink RX9 17 yX9_isFull ∈ gL := gL_in 700 (by decide +kernel) (by decide +kernel)
theorem wl_1016 : Cond.methodLink RL 102 yX11_tell ∈ gL := gL_in 1016 (by decide +kernel) (by decide +kernel)
theorem wl_1017 : Cond.instanceMethod yX11_tell ∈ gL := gL_in 1017 (by decide +kernel) (by decide +kernel)
theorem wl_1018 : Cond.selects RX11 yX11_tell yX11_tell ∈ gL := gL_in 1018 (by decide +kernel) (by decide +kernel)
theorem wl_1019 : Cond.code yX11_tell cX11_tell 2 (some .long) ∈ gL := gL_in 1019 (by decide +kernel) (by decide +kernel)
theorem wl_764 : Cond.fieldLink RX11 219 "DowryFundModel" "waits" "I" ∈ gL := gL_in 764 (by decide +kernel) (by decide +kernel)
theorem wl_701 : Cond.methodLink RL 103 yX10_check ∈ gL := gL_in 701 (by decide +kernel) (by decide +kernel)
theorem wl_702 : Cond.instanceMethod yX10_check ∈ gL := gL_in 702 (by decide +kernel) (by decide +kernel)
theorem wl_703 : Cond.selects RX10 yX10_check yX10_check ∈ gL := gL_in 703 (by decide +kernel) (by decide +kernel)
theorem wl_704 : Cond.code yX10_check cX10_check 2 (some .long) ∈ gL := gL_in 704 (by decide +kernel) (by decide +kernel)
theorem wl_705 : Cond.methodLink RX10 281 yX10_compareWaiting ∈ gL := gL_in 705 (by decide +kernel) (by decide +kernel)
theorem wl_707 : Cond.instanceMethod yX10_compareWaiting ∈ gL := gL_in 707 (by decide +kernel) (by decide +kernel)
theorem wl_12 : Cond.selects RX10 yX10_compareWaiting yX10_compareWaiting ∈ gL := gL_in 12 (by decide +kernel) (by decide +kernel)
theorem wl_708 : Cond.code yX10_compareWaiting cX10_compareWaiting 2 (some .int) ∈ gL := gL_in 708 (by decide +kernel) (by decide +kernel)
theorem wl_218 : Cond.fieldLink RX10 296 "DowryFund$Waiting" "numbers" "[I" ∈ gL := gL_in 218 (by decide +kernel) (by decide +kernel)
theorem wl_709 : Cond.methodLink RX10 299 yX10_dueNow ∈ gL := gL_in 709 (by decide +kernel) (by decide +kernel)
theorem wl_711 : Cond.instanceMethod yX10_dueNow ∈ gL := gL_in 711 (by decide +kernel) (by decide +kernel)
theorem wl_13 : Cond.selects RX10 yX10_dueNow yX10_dueNow ∈ gL := gL_in 13 (by decide +kernel) (by decide +kernel)
theorem wl_712 : Cond.code yX10_dueNow cX10_dueNow 3 (some .long) ∈ gL := gL_in 712 (by decide +kernel) (by decide +kernel)
theorem wl_1020 : Cond.methodLink RL 107 yX11_check ∈ gL := gL_in 1020 (by decide +kernel) (by decide +kernel)
theorem wl_1021 : Cond.instanceMethod yX11_check ∈ gL := gL_in 1021 (by decide +kernel) (by decide +kernel)
theorem wl_1022 : Cond.selects RX11 yX11_check yX11_check ∈ gL := gL_in 1022 (by decide +kernel) (by decide +kernel)
theorem wl_1023 : Cond.code yX11_check cX11_check 6 (some .long) ∈ gL := gL_in 1023 (by decide +kernel) (by decide +kernel)
theorem wl_1024 : Cond.constantLong RX11 222 (99) ∈ gL := gL_in 1024 (by decide +kernel) (by decide +kernel)
theorem wl_713 : Cond.methodLink RL 108 yX10_count ∈ gL := gL_in 713 (by decide +kernel) (by decide +kernel)
theorem wl_714 : Cond.instanceMethod yX10_count ∈ gL := gL_in 714 (by decide +kernel) (by decide +kernel)
theorem wl_715 : Cond.selects RX10 yX10_count yX10_count ∈ gL := gL_in 715 (by decide +kernel) (by decide +kernel)
theorem wl_716 : Cond.code yX10_count cX10_count 2 (some .long) ∈ gL := gL_in 716 (by decide +kernel) (by decide +kernel)
theorem wl_1025 : Cond.methodLink RL 111 yX11_count ∈ gL := gL_in 1025 (by decide +kernel) (by decide +kernel)
theorem wl_1026 : Cond.instanceMethod yX11_count ∈ gL := gL_in 1026 (by decide +kernel) (by decide +kernel)
theorem wl_1027 : Cond.selects RX11 yX11_count yX11_count ∈ gL := gL_in 1027 (by decide +kernel) (by decide +kernel)
theorem wl_1028 : Cond.code yX11_count cX11_count 2 (some .long) ∈ gL := gL_in 1028 (by decide +kernel) (by decide +kernel)
theorem wl_717 : Cond.methodLink RL 112 yX10_found ∈ gL := gL_in 717 (by decide +kernel) (by decide +kernel)
theorem wl_718 : Cond.instanceMethod yX10_found ∈ gL := gL_in 718 (by decide +kernel) (by decide +kernel)
theorem wl_719 : Cond.selects RX10 yX10_found yX10_found ∈ gL := gL_in 719 (by decide +kernel) (by decide +kernel)
theorem wl_720 : Cond.code yX10_found cX10_found 2 (some .long) ∈ gL := gL_in 720 (by decide +kernel) (by decide +kernel)
theorem wl_58 : Cond.fieldLink RX10 284 "DowryFund$Findings" "times" "[I" ∈ gL := gL_in 58 (by decide +kernel) (by decide +kernel)
theorem wl_1029 : Cond.methodLink RL 115 yX11_found ∈ gL := gL_in 1029 (by decide +kernel) (by decide +kernel)
theorem wl_1030 : Cond.instanceMethod yX11_found ∈ gL := gL_in 1030 (by decide +kernel) (by decide +kernel)
theorem wl_1031 : Cond.selects RX11 yX11_found yX11_found ∈ gL := gL_in 1031 (by decide +kernel) (by decide +kernel)
theorem wl_1032 : Cond.code yX11_found cX11_found 2 (some .long) ∈ gL := gL_in 1032 (by decide +kernel) (by decide +kernel)
set_option maxRecDepth 20000 in
theorem gf_0 : ∀ w ∈ wsX00, w ∈ gL := gL_all [104, 106, 108, 110, 112, 114, 116] (by decide +kernel) (by decide +kernel)
set_option maxRecDepth 20000 in
theorem gf_1 : ∀ w ∈ wsX10, w ∈ gL := gL_all [75, 77, 79, 81, 83] (by decide +kernel) (by decide +kernel)
set_option maxRecDepth 20000 in
theorem gf_2 : ∀ w ∈ wsX20, w ∈ gL := gL_all [526, 528, 530, 532, 534, 536, 538, 540, 542, 544, 546, 548, 550, 552, 554, 556] (by decide +kernel) (by decide +kernel)
set_option maxRecDepth 20000 in
theorem gf_3 : ∀ w ∈ wsX30, w ∈ gL := gL_all [131, 133] (by decide +kernel) (by decide +kernel)
set_option maxRecDepth 20000 in
theorem gf_4 : ∀ w ∈ wsX40, w ∈ gL := gL_all [144, 146] (by decide +kernel) (by decide +kernel)
set_option maxRecDepth 20000 in
theorem gf_5 : ∀ w ∈ wsX50, w ∈ gL := gL_all [59] (by decide +kernel) (by decide +kernel)
set_option maxRecDepth 20000 in
theorem gf_6 : ∀ w ∈ wsX60, w ∈ gL := gL_all [204, 206, 208] (by decide +kernel) (by decide +kernel)
set_option maxRecDepth 20000 in
theorem gf_7 : ∀ w ∈ wsX70, w ∈ gL := gL_all [164, 166, 168, 170] (by decide +kernel) (by decide +kernel)
set_option maxRecDepth 20000 in
theorem gf_8 : ∀ w ∈ wsX80, w ∈ gL := gL_all [186, 188, 190, 192] (by decide +kernel) (by decide +kernel)
set_option maxRecDepth 20000 in
theorem gf_9 : ∀ w ∈ wsX90, w ∈ gL := gL_all [221, 223] (by decide +kernel) (by decide +kernel)
set_option maxRecDepth 20000 in
theorem gf_10 : ∀ w ∈ wsX100, w ∈ gL := gL_all [237, 239, 241, 243, 245, 247, 249, 251, 253, 255, 257] (by decide +kernel) (by decide +kernel)
set_option maxRecDepth 20000 in
theorem gf_11 : ∀ w ∈ wsX110, w ∈ gL := gL_all [770, 772, 774, 776, 778, 780, 782, 784, 786, 788, 790, 792, 794, 796, 798, 800, 802, 804, 806, 808, 810, 812, 814, 816, 818, 820, 822, 824, 826, 828, 830, 832, 834, 836, 838, 840, 842, 844, 846, 848, 850, 852, 854] (by decide +kernel) (by decide +kernel)
end
section
theorem dX0_init_0 : decode cX0_init 0 = .ok (.aload_n 0, 1) := by decide +kernel
theorem dX0_init_1 : decode cX0_init 1 = .ok (.invokespecial 3, 3) := by decide +kernel
theorem dX0_init_4 : decode cX0_init 4 = .ok (.aload_n 0, 1) := by decide +kernel
theorem dX0_init_5 : decode cX0_init 5 = .ok (.bipush 30, 2) := by decide +kernel
theorem dX0_init_7 : decode cX0_init 7 = .ok (.newarray .int, 2) := by decide +kernel
theorem dX0_init_9 : decode cX0_init 9 = .ok (.putfield 11, 3) := by decide +kernel
theorem dX0_init_12 : decode cX0_init 12 = .ok (.aload_n 0, 1) := by decide +kernel
theorem dX0_init_13 : decode cX0_init 13 = .ok (.iconst 0, 1) := by decide +kernel
theorem dX0_init_14 : decode cX0_init 14 = .ok (.putfield 15, 3) := by decide +kernel
theorem dX0_init_17 : decode cX0_init 17 = .ok (.aload_n 0, 1) := by decide +kernel
theorem dX0_init_18 : decode cX0_init 18 = .ok (.bipush 90, 2) := by decide +kernel
theorem dX0_init_20 : decode cX0_init 20 = .ok (.newarray .int, 2) := by decide +kernel
theorem dX0_init_22 : decode cX0_init 22 = .ok (.putfield 19, 3) := by decide +kernel
theorem dX0_init_25 : decode cX0_init 25 = .ok (.aload_n 0, 1) := by decide +kernel
theorem dX0_init_26 : decode cX0_init 26 = .ok (.bipush 90, 2) := by decide +kernel
theorem dX0_init_28 : decode cX0_init 28 = .ok (.newarray .int, 2) := by decide +kernel
theorem dX0_init_30 : decode cX0_init 30 = .ok (.putfield 22, 3) := by decide +kernel
theorem dX0_init_33 : decode cX0_init 33 = .ok (.aload_n 0, 1) := by decide +kernel
theorem dX0_init_34 : decode cX0_init 34 = .ok (.bipush 90, 2) := by decide +kernel
theorem dX0_init_36 : decode cX0_init 36 = .ok (.newarray .int, 2) := by decide +kernel
theorem dX0_init_38 : decode cX0_init 38 = .ok (.putfield 25, 3) := by decide +kernel
theorem dX0_init_41 : decode cX0_init 41 = .ok (.aload_n 0, 1) := by decide +kernel
theorem dX0_init_42 : decode cX0_init 42 = .ok (.bipush 90, 2) := by decide +kernel
theorem dX0_init_44 : decode cX0_init 44 = .ok (.newarray .int, 2) := by decide +kernel
theorem dX0_init_46 : decode cX0_init 46 = .ok (.putfield 28, 3) := by decide +kernel
theorem dX0_init_49 : decode cX0_init 49 = .ok (.aload_n 0, 1) := by decide +kernel
theorem dX0_init_50 : decode cX0_init 50 = .ok (.iconst 0, 1) := by decide +kernel
theorem dX0_init_51 : decode cX0_init 51 = .ok (.putfield 31, 3) := by decide +kernel
theorem dX0_init_54 : decode cX0_init 54 = .ok (.return_, 1) := by decide +kernel
theorem dX0_has_0 : decode cX0_has 0 = .ok (.iload_n 1, 1) := by decide +kernel
theorem dX0_has_1 : decode cX0_has 1 = .ok (.ifCond .lt 15, 3) := by decide +kernel
theorem dX0_has_4 : decode cX0_has 4 = .ok (.iload_n 1, 1) := by decide +kernel
theorem dX0_has_5 : decode cX0_has 5 = .ok (.aload_n 0, 1) := by decide +kernel
theorem dX0_has_6 : decode cX0_has 6 = .ok (.getfield 15, 3) := by decide +kernel
theorem dX0_has_9 : decode cX0_has 9 = .ok (.if_icmp .ge 7, 3) := by decide +kernel
theorem dX0_has_12 : decode cX0_has 12 = .ok (.iconst 1, 1) := by decide +kernel
theorem dX0_has_13 : decode cX0_has 13 = .ok (.goto 4, 3) := by decide +kernel
theorem dX0_has_16 : decode cX0_has 16 = .ok (.iconst 0, 1) := by decide +kernel
theorem dX0_has_17 : decode cX0_has 17 = .ok (.ireturn, 1) := by decide +kernel
theorem dX0_isFull_0 : decode cX0_isFull 0 = .ok (.aload_n 0, 1) := by decide +kernel
theorem dX0_isFull_1 : decode cX0_isFull 1 = .ok (.getfield 15, 3) := by decide +kernel
theorem dX0_isFull_4 : decode cX0_isFull 4 = .ok (.bipush 30, 2) := by decide +kernel
theorem dX0_isFull_6 : decode cX0_isFull 6 = .ok (.if_icmp .lt 7, 3) := by decide +kernel
theorem dX0_isFull_9 : decode cX0_isFull 9 = .ok (.iconst 1, 1) := by decide +kernel
theorem dX0_isFull_10 : decode cX0_isFull 10 = .ok (.goto 4, 3) := by decide +kernel
theorem dX0_isFull_13 : decode cX0_isFull 13 = .ok (.iconst 0, 1) := by decide +kernel
theorem dX0_isFull_14 : decode cX0_isFull 14 = .ok (.ireturn, 1) := by decide +kernel
theorem dX0_add_0 : decode cX0_add 0 = .ok (.aload_n 0, 1) := by decide +kernel
theorem dX0_add_1 : decode cX0_add 1 = .ok (.invokevirtual 34, 3) := by decide +kernel
theorem dX0_add_4 : decode cX0_add 4 = .ok (.ifCond .eq 4, 3) := by decide +kernel
theorem dX0_add_7 : decode cX0_add 7 = .ok (.return_, 1) := by decide +kernel
theorem dX0_add_8 : decode cX0_add 8 = .ok (.aload_n 0, 1) := by decide +kernel
theorem dX0_add_9 : decode cX0_add 9 = .ok (.getfield 11, 3) := by decide +kernel
theorem dX0_add_12 : decode cX0_add 12 = .ok (.aload_n 0, 1) := by decide +kernel
theorem dX0_add_13 : decode cX0_add 13 = .ok (.getfield 15, 3) := by decide +kernel
theorem dX0_add_16 : decode cX0_add 16 = .ok (.iload_n 1, 1) := by decide +kernel
theorem dX0_add_17 : decode cX0_add 17 = .ok (.iastore, 1) := by decide +kernel
theorem dX0_add_18 : decode cX0_add 18 = .ok (.aload_n 0, 1) := by decide +kernel
theorem dX0_add_19 : decode cX0_add 19 = .ok (.dup, 1) := by decide +kernel
theorem dX0_add_20 : decode cX0_add 20 = .ok (.getfield 15, 3) := by decide +kernel
theorem dX0_add_23 : decode cX0_add 23 = .ok (.iconst 1, 1) := by decide +kernel
theorem dX0_add_24 : decode cX0_add 24 = .ok (.iadd, 1) := by decide +kernel
theorem dX0_add_25 : decode cX0_add 25 = .ok (.putfield 15, 3) := by decide +kernel
theorem dX0_add_28 : decode cX0_add 28 = .ok (.return_, 1) := by decide +kernel
theorem dX0_birthOf_0 : decode cX0_birthOf 0 = .ok (.iload_n 1, 1) := by decide +kernel
theorem dX0_birthOf_1 : decode cX0_birthOf 1 = .ok (.iconst 0, 1) := by decide +kernel
theorem dX0_birthOf_2 : decode cX0_birthOf 2 = .ok (.bipush 29, 2) := by decide +kernel
theorem dX0_birthOf_4 : decode cX0_birthOf 4 = .ok (.invokestatic 38, 3) := by decide +kernel
theorem dX0_birthOf_7 : decode cX0_birthOf 7 = .ok (.ifCond .eq 12, 3) := by decide +kernel
theorem dX0_birthOf_10 : decode cX0_birthOf 10 = .ok (.aload_n 0, 1) := by decide +kernel
theorem dX0_birthOf_11 : decode cX0_birthOf 11 = .ok (.getfield 11, 3) := by decide +kernel
theorem dX0_birthOf_14 : decode cX0_birthOf 14 = .ok (.iload_n 1, 1) := by decide +kernel
theorem dX0_birthOf_15 : decode cX0_birthOf 15 = .ok (.iaload, 1) := by decide +kernel
theorem dX0_birthOf_16 : decode cX0_birthOf 16 = .ok (.goto 4, 3) := by decide +kernel
theorem dX0_birthOf_19 : decode cX0_birthOf 19 = .ok (.iconst 0, 1) := by decide +kernel
theorem dX0_birthOf_20 : decode cX0_birthOf 20 = .ok (.ireturn, 1) := by decide +kernel
theorem dX0_areFatesFull_0 : decode cX0_areFatesFull 0 = .ok (.aload_n 0, 1) := by decide +kernel
theorem dX0_areFatesFull_1 : decode cX0_areFatesFull 1 = .ok (.getfield 31, 3) := by decide +kernel
theorem dX0_areFatesFull_4 : decode cX0_areFatesFull 4 = .ok (.bipush 90, 2) := by decide +kernel
theorem dX0_areFatesFull_6 : decode cX0_areFatesFull 6 = .ok (.if_icmp .lt 7, 3) := by decide +kernel
theorem dX0_areFatesFull_9 : decode cX0_areFatesFull 9 = .ok (.iconst 1, 1) := by decide +kernel
theorem dX0_areFatesFull_10 : decode cX0_areFatesFull 10 = .ok (.goto 4, 3) := by decide +kernel
theorem dX0_areFatesFull_13 : decode cX0_areFatesFull 13 = .ok (.iconst 0, 1) := by decide +kernel
theorem dX0_areFatesFull_14 : decode cX0_areFatesFull 14 = .ok (.ireturn, 1) := by decide +kernel
theorem dX0_addFate_0 : decode cX0_addFate 0 = .ok (.aload_n 0, 1) := by decide +kernel
theorem dX0_addFate_1 : decode cX0_addFate 1 = .ok (.invokevirtual 42, 3) := by decide +kernel
theorem dX0_addFate_4 : decode cX0_addFate 4 = .ok (.ifCond .eq 4, 3) := by decide +kernel
theorem dX0_addFate_7 : decode cX0_addFate 7 = .ok (.return_, 1) := by decide +kernel
theorem dX0_addFate_8 : decode cX0_addFate 8 = .ok (.aload_n 0, 1) := by decide +kernel
theorem dX0_addFate_9 : decode cX0_addFate 9 = .ok (.getfield 19, 3) := by decide +kernel
theorem dX0_addFate_12 : decode cX0_addFate 12 = .ok (.aload_n 0, 1) := by decide +kernel
theorem dX0_addFate_13 : decode cX0_addFate 13 = .ok (.getfield 31, 3) := by decide +kernel
theorem dX0_addFate_16 : decode cX0_addFate 16 = .ok (.iload_n 1, 1) := by decide +kernel
theorem dX0_addFate_17 : decode cX0_addFate 17 = .ok (.iastore, 1) := by decide +kernel
theorem dX0_addFate_18 : decode cX0_addFate 18 = .ok (.aload_n 0, 1) := by decide +kernel
theorem dX0_addFate_19 : decode cX0_addFate 19 = .ok (.getfield 22, 3) := by decide +kernel
theorem dX0_addFate_22 : decode cX0_addFate 22 = .ok (.aload_n 0, 1) := by decide +kernel
theorem dX0_addFate_23 : decode cX0_addFate 23 = .ok (.getfield 31, 3) := by decide +kernel
theorem dX0_addFate_26 : decode cX0_addFate 26 = .ok (.iload_n 2, 1) := by decide +kernel
theorem dX0_addFate_27 : decode cX0_addFate 27 = .ok (.iastore, 1) := by decide +kernel
theorem dX0_addFate_28 : decode cX0_addFate 28 = .ok (.aload_n 0, 1) := by decide +kernel
theorem dX0_addFate_29 : decode cX0_addFate 29 = .ok (.getfield 25, 3) := by decide +kernel
theorem dX0_addFate_32 : decode cX0_addFate 32 = .ok (.aload_n 0, 1) := by decide +kernel
theorem dX0_addFate_33 : decode cX0_addFate 33 = .ok (.getfield 31, 3) := by decide +kernel
theorem dX0_addFate_36 : decode cX0_addFate 36 = .ok (.iload_n 3, 1) := by decide +kernel
theorem dX0_addFate_37 : decode cX0_addFate 37 = .ok (.iastore, 1) := by decide +kernel
theorem dX0_addFate_38 : decode cX0_addFate 38 = .ok (.aload_n 0, 1) := by decide +kernel
theorem dX0_addFate_39 : decode cX0_addFate 39 = .ok (.getfield 28, 3) := by decide +kernel
theorem dX0_addFate_42 : decode cX0_addFate 42 = .ok (.aload_n 0, 1) := by decide +kernel
theorem dX0_addFate_43 : decode cX0_addFate 43 = .ok (.getfield 31, 3) := by decide +kernel
theorem dX0_addFate_46 : decode cX0_addFate 46 = .ok (.iload 4, 2) := by decide +kernel
theorem dX0_addFate_48 : decode cX0_addFate 48 = .ok (.iastore, 1) := by decide +kernel
theorem dX0_addFate_49 : decode cX0_addFate 49 = .ok (.aload_n 0, 1) := by decide +kernel
theorem dX0_addFate_50 : decode cX0_addFate 50 = .ok (.dup, 1) := by decide +kernel
theorem dX0_addFate_51 : decode cX0_addFate 51 = .ok (.getfield 31, 3) := by decide +kernel
theorem dX0_addFate_54 : decode cX0_addFate 54 = .ok (.iconst 1, 1) := by decide +kernel
theorem dX0_addFate_55 : decode cX0_addFate 55 = .ok (.iadd, 1) := by decide +kernel
theorem dX0_addFate_56 : decode cX0_addFate 56 = .ok (.putfield 31, 3) := by decide +kernel
theorem dX0_addFate_59 : decode cX0_addFate 59 = .ok (.return_, 1) := by decide +kernel
theorem dX0_fateRow_0 : decode cX0_fateRow 0 = .ok (.aload_n 0, 1) := by decide +kernel
theorem dX0_fateRow_1 : decode cX0_fateRow 1 = .ok (.getfield 31, 3) := by decide +kernel
theorem dX0_fateRow_4 : decode cX0_fateRow 4 = .ok (.bipush 90, 2) := by decide +kernel
theorem dX0_fateRow_6 : decode cX0_fateRow 6 = .ok (.invokestatic 45, 3) := by decide +kernel
theorem dX0_fateRow_9 : decode cX0_fateRow 9 = .ok (.iconst 1, 1) := by decide +kernel
theorem dX0_fateRow_10 : decode cX0_fateRow 10 = .ok (.isub, 1) := by decide +kernel
theorem dX0_fateRow_11 : decode cX0_fateRow 11 = .ok (.istore_n 3, 1) := by decide +kernel
theorem dX0_fateRow_12 : decode cX0_fateRow 12 = .ok (.iload_n 3, 1) := by decide +kernel
theorem dX0_fateRow_13 : decode cX0_fateRow 13 = .ok (.ifCond .lt 45, 3) := by decide +kernel
theorem dX0_fateRow_16 : decode cX0_fateRow 16 = .ok (.aload_n 0, 1) := by decide +kernel
theorem dX0_fateRow_17 : decode cX0_fateRow 17 = .ok (.getfield 19, 3) := by decide +kernel
theorem dX0_fateRow_20 : decode cX0_fateRow 20 = .ok (.iload_n 3, 1) := by decide +kernel
theorem dX0_fateRow_21 : decode cX0_fateRow 21 = .ok (.iaload, 1) := by decide +kernel
theorem dX0_fateRow_22 : decode cX0_fateRow 22 = .ok (.iload_n 1, 1) := by decide +kernel
theorem dX0_fateRow_23 : decode cX0_fateRow 23 = .ok (.if_icmp .ne 29, 3) := by decide +kernel
theorem dX0_fateRow_26 : decode cX0_fateRow 26 = .ok (.aload_n 0, 1) := by decide +kernel
theorem dX0_fateRow_27 : decode cX0_fateRow 27 = .ok (.getfield 28, 3) := by decide +kernel
theorem dX0_fateRow_30 : decode cX0_fateRow 30 = .ok (.iload_n 3, 1) := by decide +kernel
theorem dX0_fateRow_31 : decode cX0_fateRow 31 = .ok (.iaload, 1) := by decide +kernel
theorem dX0_fateRow_32 : decode cX0_fateRow 32 = .ok (.iload_n 2, 1) := by decide +kernel
theorem dX0_fateRow_33 : decode cX0_fateRow 33 = .ok (.if_icmp .gt 19, 3) := by decide +kernel
theorem dX0_fateRow_36 : decode cX0_fateRow 36 = .ok (.aload_n 0, 1) := by decide +kernel
theorem dX0_fateRow_37 : decode cX0_fateRow 37 = .ok (.getfield 22, 3) := by decide +kernel
theorem dX0_fateRow_40 : decode cX0_fateRow 40 = .ok (.iload_n 3, 1) := by decide +kernel
theorem dX0_fateRow_41 : decode cX0_fateRow 41 = .ok (.iaload, 1) := by decide +kernel
theorem dX0_fateRow_42 : decode cX0_fateRow 42 = .ok (.iconst 3, 1) := by decide +kernel
theorem dX0_fateRow_43 : decode cX0_fateRow 43 = .ok (.if_icmp .ne 7, 3) := by decide +kernel
theorem dX0_fateRow_46 : decode cX0_fateRow 46 = .ok (.iconst (-1), 1) := by decide +kernel
theorem dX0_fateRow_47 : decode cX0_fateRow 47 = .ok (.goto 4, 3) := by decide +kernel
theorem dX0_fateRow_50 : decode cX0_fateRow 50 = .ok (.iload_n 3, 1) := by decide +kernel
theorem dX0_fateRow_51 : decode cX0_fateRow 51 = .ok (.ireturn, 1) := by decide +kernel
theorem dX0_fateRow_52 : decode cX0_fateRow 52 = .ok (.iinc 3 (-1), 3) := by decide +kernel
theorem dX0_fateRow_55 : decode cX0_fateRow 55 = .ok (.goto (-43), 3) := by decide +kernel
theorem dX0_fateRow_58 : decode cX0_fateRow 58 = .ok (.iconst (-1), 1) := by decide +kernel
theorem dX0_fateRow_59 : decode cX0_fateRow 59 = .ok (.ireturn, 1) := by decide +kernel
theorem dX0_fateOf_0 : decode cX0_fateOf 0 = .ok (.iload_n 1, 1) := by decide +kernel
theorem dX0_fateOf_1 : decode cX0_fateOf 1 = .ok (.iconst 0, 1) := by decide +kernel
theorem dX0_fateOf_2 : decode cX0_fateOf 2 = .ok (.bipush 89, 2) := by decide +kernel
theorem dX0_fateOf_4 : decode cX0_fateOf 4 = .ok (.invokestatic 38, 3) := by decide +kernel
theorem dX0_fateOf_7 : decode cX0_fateOf 7 = .ok (.ifCond .eq 12, 3) := by decide +kernel
theorem dX0_fateOf_10 : decode cX0_fateOf 10 = .ok (.aload_n 0, 1) := by decide +kernel
theorem dX0_fateOf_11 : decode cX0_fateOf 11 = .ok (.getfield 22, 3) := by decide +kernel
theorem dX0_fateOf_14 : decode cX0_fateOf 14 = .ok (.iload_n 1, 1) := by decide +kernel
theorem dX0_fateOf_15 : decode cX0_fateOf 15 = .ok (.iaload, 1) := by decide +kernel
theorem dX0_fateOf_16 : decode cX0_fateOf 16 = .ok (.goto 4, 3) := by decide +kernel
theorem dX0_fateOf_19 : decode cX0_fateOf 19 = .ok (.iconst 3, 1) := by decide +kernel
theorem dX0_fateOf_20 : decode cX0_fateOf 20 = .ok (.ireturn, 1) := by decide +kernel
theorem dX0_monthOf_0 : decode cX0_monthOf 0 = .ok (.iload_n 1, 1) := by decide +kernel
theorem dX0_monthOf_1 : decode cX0_monthOf 1 = .ok (.iconst 0, 1) := by decide +kernel
theorem dX0_monthOf_2 : decode cX0_monthOf 2 = .ok (.bipush 89, 2) := by decide +kernel
theorem dX0_monthOf_4 : decode cX0_monthOf 4 = .ok (.invokestatic 38, 3) := by decide +kernel
theorem dX0_monthOf_7 : decode cX0_monthOf 7 = .ok (.ifCond .eq 12, 3) := by decide +kernel
theorem dX0_monthOf_10 : decode cX0_monthOf 10 = .ok (.aload_n 0, 1) := by decide +kernel
theorem dX0_monthOf_11 : decode cX0_monthOf 11 = .ok (.getfield 25, 3) := by decide +kernel
theorem dX0_monthOf_14 : decode cX0_monthOf 14 = .ok (.iload_n 1, 1) := by decide +kernel
theorem dX0_monthOf_15 : decode cX0_monthOf 15 = .ok (.iaload, 1) := by decide +kernel
theorem dX0_monthOf_16 : decode cX0_monthOf 16 = .ok (.goto 4, 3) := by decide +kernel
theorem dX0_monthOf_19 : decode cX0_monthOf 19 = .ok (.iconst 0, 1) := by decide +kernel
theorem dX0_monthOf_20 : decode cX0_monthOf 20 = .ok (.ireturn, 1) := by decide +kernel
theorem dX1_init_0 : decode cX1_init 0 = .ok (.aload_n 0, 1) := by decide +kernel
theorem dX1_init_1 : decode cX1_init 1 = .ok (.invokespecial 3, 3) := by decide +kernel
theorem dX1_init_4 : decode cX1_init 4 = .ok (.aload_n 0, 1) := by decide +kernel
theorem dX1_init_5 : decode cX1_init 5 = .ok (.bipush 60, 2) := by decide +kernel
theorem dX1_init_7 : decode cX1_init 7 = .ok (.newarray .int, 2) := by decide +kernel
theorem dX1_init_9 : decode cX1_init 9 = .ok (.putfield 11, 3) := by decide +kernel
theorem dX1_init_12 : decode cX1_init 12 = .ok (.aload_n 0, 1) := by decide +kernel
theorem dX1_init_13 : decode cX1_init 13 = .ok (.bipush 60, 2) := by decide +kernel
theorem dX1_init_15 : decode cX1_init 15 = .ok (.newarray .int, 2) := by decide +kernel
theorem dX1_init_17 : decode cX1_init 17 = .ok (.putfield 15, 3) := by decide +kernel
theorem dX1_init_20 : decode cX1_init 20 = .ok (.aload_n 0, 1) := by decide +kernel
theorem dX1_init_21 : decode cX1_init 21 = .ok (.bipush 60, 2) := by decide +kernel
theorem dX1_init_23 : decode cX1_init 23 = .ok (.newarray .int, 2) := by decide +kernel
theorem dX1_init_25 : decode cX1_init 25 = .ok (.putfield 18, 3) := by decide +kernel
theorem dX1_init_28 : decode cX1_init 28 = .ok (.aload_n 0, 1) := by decide +kernel
theorem dX1_init_29 : decode cX1_init 29 = .ok (.bipush 60, 2) := by decide +kernel
theorem dX1_init_31 : decode cX1_init 31 = .ok (.newarray .int, 2) := by decide +kernel
theorem dX1_init_33 : decode cX1_init 33 = .ok (.putfield 21, 3) := by decide +kernel
theorem dX1_init_36 : decode cX1_init 36 = .ok (.aload_n 0, 1) := by decide +kernel
theorem dX1_init_37 : decode cX1_init 37 = .ok (.iconst 0, 1) := by decide +kernel
theorem dX1_init_38 : decode cX1_init 38 = .ok (.putfield 24, 3) := by decide +kernel
theorem dX1_init_41 : decode cX1_init 41 = .ok (.return_, 1) := by decide +kernel
theorem dX1_isKind_0 : decode cX1_isKind 0 = .ok (.iload_n 0, 1) := by decide +kernel
theorem dX1_isKind_1 : decode cX1_isKind 1 = .ok (.iconst 0, 1) := by decide +kernel
theorem dX1_isKind_2 : decode cX1_isKind 2 = .ok (.iconst 5, 1) := by decide +kernel
theorem dX1_isKind_3 : decode cX1_isKind 3 = .ok (.invokestatic 28, 3) := by decide +kernel
theorem dX1_isKind_6 : decode cX1_isKind 6 = .ok (.ireturn, 1) := by decide +kernel
theorem dX1_mayBe_0 : decode cX1_mayBe 0 = .ok (.iload_n 0, 1) := by decide +kernel
theorem dX1_mayBe_1 : decode cX1_mayBe 1 = .ok (.invokestatic 32, 3) := by decide +kernel
theorem dX1_mayBe_4 : decode cX1_mayBe 4 = .ok (.ifCond .eq 24, 3) := by decide +kernel
theorem dX1_mayBe_7 : decode cX1_mayBe 7 = .ok (.iload_n 1, 1) := by decide +kernel
theorem dX1_mayBe_8 : decode cX1_mayBe 8 = .ok (.getstatic 36, 3) := by decide +kernel
theorem dX1_mayBe_11 : decode cX1_mayBe 11 = .ok (.iload_n 0, 1) := by decide +kernel
theorem dX1_mayBe_12 : decode cX1_mayBe 12 = .ok (.iaload, 1) := by decide +kernel
theorem dX1_mayBe_13 : decode cX1_mayBe 13 = .ok (.getstatic 39, 3) := by decide +kernel
theorem dX1_mayBe_16 : decode cX1_mayBe 16 = .ok (.iload_n 0, 1) := by decide +kernel
theorem dX1_mayBe_17 : decode cX1_mayBe 17 = .ok (.iaload, 1) := by decide +kernel
theorem dX1_mayBe_18 : decode cX1_mayBe 18 = .ok (.invokestatic 28, 3) := by decide +kernel
theorem dX1_mayBe_21 : decode cX1_mayBe 21 = .ok (.ifCond .eq 7, 3) := by decide +kernel
theorem dX1_mayBe_24 : decode cX1_mayBe 24 = .ok (.iconst 1, 1) := by decide +kernel
theorem dX1_mayBe_25 : decode cX1_mayBe 25 = .ok (.goto 4, 3) := by decide +kernel
theorem dX1_mayBe_28 : decode cX1_mayBe 28 = .ok (.iconst 0, 1) := by decide +kernel
theorem dX1_mayBe_29 : decode cX1_mayBe 29 = .ok (.ireturn, 1) := by decide +kernel
theorem dX1_isFull_0 : decode cX1_isFull 0 = .ok (.aload_n 0, 1) := by decide +kernel
theorem dX1_isFull_1 : decode cX1_isFull 1 = .ok (.getfield 24, 3) := by decide +kernel
theorem dX1_isFull_4 : decode cX1_isFull 4 = .ok (.bipush 60, 2) := by decide +kernel
theorem dX1_isFull_6 : decode cX1_isFull 6 = .ok (.if_icmp .lt 7, 3) := by decide +kernel
theorem dX1_isFull_9 : decode cX1_isFull 9 = .ok (.iconst 1, 1) := by decide +kernel
theorem dX1_isFull_10 : decode cX1_isFull 10 = .ok (.goto 4, 3) := by decide +kernel
theorem dX1_isFull_13 : decode cX1_isFull 13 = .ok (.iconst 0, 1) := by decide +kernel
theorem dX1_isFull_14 : decode cX1_isFull 14 = .ok (.ireturn, 1) := by decide +kernel
theorem dX1_add_0 : decode cX1_add 0 = .ok (.aload_n 0, 1) := by decide +kernel
theorem dX1_add_1 : decode cX1_add 1 = .ok (.invokevirtual 42, 3) := by decide +kernel
theorem dX1_add_4 : decode cX1_add 4 = .ok (.ifCond .eq 4, 3) := by decide +kernel
theorem dX1_add_7 : decode cX1_add 7 = .ok (.return_, 1) := by decide +kernel
theorem dX1_add_8 : decode cX1_add 8 = .ok (.aload_n 0, 1) := by decide +kernel
theorem dX1_add_9 : decode cX1_add 9 = .ok (.getfield 11, 3) := by decide +kernel
theorem dX1_add_12 : decode cX1_add 12 = .ok (.aload_n 0, 1) := by decide +kernel
theorem dX1_add_13 : decode cX1_add 13 = .ok (.getfield 24, 3) := by decide +kernel
theorem dX1_add_16 : decode cX1_add 16 = .ok (.iload_n 1, 1) := by decide +kernel
theorem dX1_add_17 : decode cX1_add 17 = .ok (.iastore, 1) := by decide +kernel
theorem dX1_add_18 : decode cX1_add 18 = .ok (.aload_n 0, 1) := by decide +kernel
theorem dX1_add_19 : decode cX1_add 19 = .ok (.getfield 15, 3) := by decide +kernel
theorem dX1_add_22 : decode cX1_add 22 = .ok (.aload_n 0, 1) := by decide +kernel
theorem dX1_add_23 : decode cX1_add 23 = .ok (.getfield 24, 3) := by decide +kernel
theorem dX1_add_26 : decode cX1_add 26 = .ok (.iload_n 2, 1) := by decide +kernel
theorem dX1_add_27 : decode cX1_add 27 = .ok (.iastore, 1) := by decide +kernel
theorem dX1_add_28 : decode cX1_add 28 = .ok (.aload_n 0, 1) := by decide +kernel
theorem dX1_add_29 : decode cX1_add 29 = .ok (.getfield 18, 3) := by decide +kernel
theorem dX1_add_32 : decode cX1_add 32 = .ok (.aload_n 0, 1) := by decide +kernel
theorem dX1_add_33 : decode cX1_add 33 = .ok (.getfield 24, 3) := by decide +kernel
theorem dX1_add_36 : decode cX1_add 36 = .ok (.iload_n 3, 1) := by decide +kernel
theorem dX1_add_37 : decode cX1_add 37 = .ok (.iastore, 1) := by decide +kernel
theorem dX1_add_38 : decode cX1_add 38 = .ok (.aload_n 0, 1) := by decide +kernel
theorem dX1_add_39 : decode cX1_add 39 = .ok (.getfield 21, 3) := by decide +kernel
theorem dX1_add_42 : decode cX1_add 42 = .ok (.aload_n 0, 1) := by decide +kernel
theorem dX1_add_43 : decode cX1_add 43 = .ok (.getfield 24, 3) := by decide +kernel
theorem dX1_add_46 : decode cX1_add 46 = .ok (.iload 4, 2) := by decide +kernel
theorem dX1_add_48 : decode cX1_add 48 = .ok (.iastore, 1) := by decide +kernel
theorem dX1_add_49 : decode cX1_add 49 = .ok (.aload_n 0, 1) := by decide +kernel
theorem dX1_add_50 : decode cX1_add 50 = .ok (.dup, 1) := by decide +kernel
theorem dX1_add_51 : decode cX1_add 51 = .ok (.getfield 24, 3) := by decide +kernel
theorem dX1_add_54 : decode cX1_add 54 = .ok (.iconst 1, 1) := by decide +kernel
theorem dX1_add_55 : decode cX1_add 55 = .ok (.iadd, 1) := by decide +kernel
theorem dX1_add_56 : decode cX1_add 56 = .ok (.putfield 24, 3) := by decide +kernel
theorem dX1_add_59 : decode cX1_add 59 = .ok (.return_, 1) := by decide +kernel
theorem dX1_inForce_0 : decode cX1_inForce 0 = .ok (.iload_n 1, 1) := by decide +kernel
theorem dX1_inForce_1 : decode cX1_inForce 1 = .ok (.invokestatic 32, 3) := by decide +kernel
theorem dX1_inForce_4 : decode cX1_inForce 4 = .ok (.ifCond .eq 11, 3) := by decide +kernel
theorem dX1_inForce_7 : decode cX1_inForce 7 = .ok (.getstatic 46, 3) := by decide +kernel
theorem dX1_inForce_10 : decode cX1_inForce 10 = .ok (.iload_n 1, 1) := by decide +kernel
theorem dX1_inForce_11 : decode cX1_inForce 11 = .ok (.iaload, 1) := by decide +kernel
theorem dX1_inForce_12 : decode cX1_inForce 12 = .ok (.goto 4, 3) := by decide +kernel
theorem dX1_inForce_15 : decode cX1_inForce 15 = .ok (.iconst 0, 1) := by decide +kernel
theorem dX1_inForce_16 : decode cX1_inForce 16 = .ok (.istore 4, 2) := by decide +kernel
theorem dX1_inForce_18 : decode cX1_inForce 18 = .ok (.iconst 0, 1) := by decide +kernel
theorem dX1_inForce_19 : decode cX1_inForce 19 = .ok (.istore 5, 2) := by decide +kernel
theorem dX1_inForce_21 : decode cX1_inForce 21 = .ok (.iconst 0, 1) := by decide +kernel
theorem dX1_inForce_22 : decode cX1_inForce 22 = .ok (.istore 6, 2) := by decide +kernel
theorem dX1_inForce_24 : decode cX1_inForce 24 = .ok (.iload 6, 2) := by decide +kernel
theorem dX1_inForce_26 : decode cX1_inForce 26 = .ok (.aload_n 0, 1) := by decide +kernel
theorem dX1_inForce_27 : decode cX1_inForce 27 = .ok (.getfield 24, 3) := by decide +kernel
theorem dX1_inForce_30 : decode cX1_inForce 30 = .ok (.if_icmp .ge 91, 3) := by decide +kernel
theorem dX1_inForce_33 : decode cX1_inForce 33 = .ok (.iload 6, 2) := by decide +kernel
theorem dX1_inForce_35 : decode cX1_inForce 35 = .ok (.bipush 60, 2) := by decide +kernel
theorem dX1_inForce_37 : decode cX1_inForce 37 = .ok (.if_icmp .ge 84, 3) := by decide +kernel
theorem dX1_inForce_40 : decode cX1_inForce 40 = .ok (.aload_n 0, 1) := by decide +kernel
theorem dX1_inForce_41 : decode cX1_inForce 41 = .ok (.getfield 11, 3) := by decide +kernel
theorem dX1_inForce_44 : decode cX1_inForce 44 = .ok (.iload 6, 2) := by decide +kernel
theorem dX1_inForce_46 : decode cX1_inForce 46 = .ok (.iaload, 1) := by decide +kernel
theorem dX1_inForce_47 : decode cX1_inForce 47 = .ok (.iload_n 1, 1) := by decide +kernel
theorem dX1_inForce_48 : decode cX1_inForce 48 = .ok (.if_icmp .ne 29, 3) := by decide +kernel
theorem dX1_inForce_51 : decode cX1_inForce 51 = .ok (.aload_n 0, 1) := by decide +kernel
theorem dX1_inForce_52 : decode cX1_inForce 52 = .ok (.getfield 21, 3) := by decide +kernel
theorem dX1_inForce_55 : decode cX1_inForce 55 = .ok (.iload 6, 2) := by decide +kernel
theorem dX1_inForce_57 : decode cX1_inForce 57 = .ok (.iaload, 1) := by decide +kernel
theorem dX1_inForce_58 : decode cX1_inForce 58 = .ok (.iload_n 3, 1) := by decide +kernel
theorem dX1_inForce_59 : decode cX1_inForce 59 = .ok (.if_icmp .gt 18, 3) := by decide +kernel
theorem dX1_inForce_62 : decode cX1_inForce 62 = .ok (.aload_n 0, 1) := by decide +kernel
theorem dX1_inForce_63 : decode cX1_inForce 63 = .ok (.getfield 15, 3) := by decide +kernel
theorem dX1_inForce_66 : decode cX1_inForce 66 = .ok (.iload 6, 2) := by decide +kernel
theorem dX1_inForce_68 : decode cX1_inForce 68 = .ok (.iaload, 1) := by decide +kernel
theorem dX1_inForce_69 : decode cX1_inForce 69 = .ok (.iload_n 2, 1) := by decide +kernel
theorem dX1_inForce_70 : decode cX1_inForce 70 = .ok (.if_icmp .gt 7, 3) := by decide +kernel
theorem dX1_inForce_73 : decode cX1_inForce 73 = .ok (.iconst 1, 1) := by decide +kernel
theorem dX1_inForce_74 : decode cX1_inForce 74 = .ok (.goto 4, 3) := by decide +kernel
theorem dX1_inForce_77 : decode cX1_inForce 77 = .ok (.iconst 0, 1) := by decide +kernel
theorem dX1_inForce_78 : decode cX1_inForce 78 = .ok (.istore 7, 2) := by decide +kernel
theorem dX1_inForce_80 : decode cX1_inForce 80 = .ok (.iload 7, 2) := by decide +kernel
theorem dX1_inForce_82 : decode cX1_inForce 82 = .ok (.ifCond .eq 33, 3) := by decide +kernel
theorem dX1_inForce_85 : decode cX1_inForce 85 = .ok (.aload_n 0, 1) := by decide +kernel
theorem dX1_inForce_86 : decode cX1_inForce 86 = .ok (.getfield 15, 3) := by decide +kernel
theorem dX1_inForce_89 : decode cX1_inForce 89 = .ok (.iload 6, 2) := by decide +kernel
theorem dX1_inForce_91 : decode cX1_inForce 91 = .ok (.iaload, 1) := by decide +kernel
theorem dX1_inForce_92 : decode cX1_inForce 92 = .ok (.iload 5, 2) := by decide +kernel
theorem dX1_inForce_94 : decode cX1_inForce 94 = .ok (.if_icmp .lt 21, 3) := by decide +kernel
theorem dX1_inForce_97 : decode cX1_inForce 97 = .ok (.aload_n 0, 1) := by decide +kernel
theorem dX1_inForce_98 : decode cX1_inForce 98 = .ok (.getfield 18, 3) := by decide +kernel
theorem dX1_inForce_101 : decode cX1_inForce 101 = .ok (.iload 6, 2) := by decide +kernel
theorem dX1_inForce_103 : decode cX1_inForce 103 = .ok (.iaload, 1) := by decide +kernel
theorem dX1_inForce_104 : decode cX1_inForce 104 = .ok (.istore 4, 2) := by decide +kernel
theorem dX1_inForce_106 : decode cX1_inForce 106 = .ok (.aload_n 0, 1) := by decide +kernel
theorem dX1_inForce_107 : decode cX1_inForce 107 = .ok (.getfield 15, 3) := by decide +kernel
theorem dX1_inForce_110 : decode cX1_inForce 110 = .ok (.iload 6, 2) := by decide +kernel
theorem dX1_inForce_112 : decode cX1_inForce 112 = .ok (.iaload, 1) := by decide +kernel
theorem dX1_inForce_113 : decode cX1_inForce 113 = .ok (.istore 5, 2) := by decide +kernel
theorem dX1_inForce_115 : decode cX1_inForce 115 = .ok (.iinc 6 1, 3) := by decide +kernel
theorem dX1_inForce_118 : decode cX1_inForce 118 = .ok (.goto (-94), 3) := by decide +kernel
theorem dX1_inForce_121 : decode cX1_inForce 121 = .ok (.iload 4, 2) := by decide +kernel
theorem dX1_inForce_123 : decode cX1_inForce 123 = .ok (.ireturn, 1) := by decide +kernel
theorem dX2_init_0 : decode cX2_init 0 = .ok (.aload_n 0, 1) := by decide +kernel
theorem dX2_init_1 : decode cX2_init 1 = .ok (.invokespecial 1, 3) := by decide +kernel
theorem dX2_init_4 : decode cX2_init 4 = .ok (.aload_n 0, 1) := by decide +kernel
theorem dX2_init_5 : decode cX2_init 5 = .ok (.bipush 7, 2) := by decide +kernel
theorem dX2_init_7 : decode cX2_init 7 = .ok (.newarray .int, 2) := by decide +kernel
theorem dX2_init_9 : decode cX2_init 9 = .ok (.putfield 9, 3) := by decide +kernel
theorem dX2_init_12 : decode cX2_init 12 = .ok (.aload_n 0, 1) := by decide +kernel
theorem dX2_init_13 : decode cX2_init 13 = .ok (.bipush 7, 2) := by decide +kernel
theorem dX2_init_15 : decode cX2_init 15 = .ok (.newarray .int, 2) := by decide +kernel
theorem dX2_init_17 : decode cX2_init 17 = .ok (.putfield 13, 3) := by decide +kernel
theorem dX2_init_20 : decode cX2_init 20 = .ok (.aload_n 0, 1) := by decide +kernel
theorem dX2_init_21 : decode cX2_init 21 = .ok (.iconst 0, 1) := by decide +kernel
theorem dX2_init_22 : decode cX2_init 22 = .ok (.putfield 16, 3) := by decide +kernel
theorem dX2_init_25 : decode cX2_init 25 = .ok (.aload_n 0, 1) := by decide +kernel
theorem dX2_init_26 : decode cX2_init 26 = .ok (.lconst 0, 1) := by decide +kernel
theorem dX2_init_27 : decode cX2_init 27 = .ok (.putfield 20, 3) := by decide +kernel
theorem dX2_init_30 : decode cX2_init 30 = .ok (.aload_n 0, 1) := by decide +kernel
theorem dX2_init_31 : decode cX2_init 31 = .ok (.iconst 0, 1) := by decide +kernel
theorem dX2_init_32 : decode cX2_init 32 = .ok (.putfield 24, 3) := by decide +kernel
theorem dX2_init_35 : decode cX2_init 35 = .ok (.aload_n 0, 1) := by decide +kernel
theorem dX2_init_36 : decode cX2_init 36 = .ok (.ldc 28, 2) := by decide +kernel
theorem dX2_init_38 : decode cX2_init 38 = .ok (.putfield 29, 3) := by decide +kernel
theorem dX2_init_41 : decode cX2_init 41 = .ok (.aload_n 0, 1) := by decide +kernel
theorem dX2_init_42 : decode cX2_init 42 = .ok (.lconst 0, 1) := by decide +kernel
theorem dX2_init_43 : decode cX2_init 43 = .ok (.putfield 32, 3) := by decide +kernel
theorem dX2_init_46 : decode cX2_init 46 = .ok (.aload_n 0, 1) := by decide +kernel
theorem dX2_init_47 : decode cX2_init 47 = .ok (.iconst 0, 1) := by decide +kernel
theorem dX2_init_48 : decode cX2_init 48 = .ok (.putfield 35, 3) := by decide +kernel
theorem dX2_init_51 : decode cX2_init 51 = .ok (.aload_n 0, 1) := by decide +kernel
theorem dX2_init_52 : decode cX2_init 52 = .ok (.lconst 0, 1) := by decide +kernel
theorem dX2_init_53 : decode cX2_init 53 = .ok (.putfield 38, 3) := by decide +kernel
theorem dX2_init_56 : decode cX2_init 56 = .ok (.aload_n 0, 1) := by decide +kernel
theorem dX2_init_57 : decode cX2_init 57 = .ok (.iload_n 1, 1) := by decide +kernel
theorem dX2_init_58 : decode cX2_init 58 = .ok (.putfield 41, 3) := by decide +kernel
theorem dX2_init_61 : decode cX2_init 61 = .ok (.aload_n 0, 1) := by decide +kernel
theorem dX2_init_62 : decode cX2_init 62 = .ok (.iload_n 2, 1) := by decide +kernel
theorem dX2_init_63 : decode cX2_init 63 = .ok (.putfield 44, 3) := by decide +kernel
theorem dX2_init_66 : decode cX2_init 66 = .ok (.aload_n 0, 1) := by decide +kernel
theorem dX2_init_67 : decode cX2_init 67 = .ok (.iload_n 3, 1) := by decide +kernel
theorem dX2_init_68 : decode cX2_init 68 = .ok (.putfield 47, 3) := by decide +kernel
theorem dX2_init_71 : decode cX2_init 71 = .ok (.aload_n 0, 1) := by decide +kernel
theorem dX2_init_72 : decode cX2_init 72 = .ok (.iload 4, 2) := by decide +kernel
theorem dX2_init_74 : decode cX2_init 74 = .ok (.putfield 50, 3) := by decide +kernel
theorem dX2_init_77 : decode cX2_init 77 = .ok (.aload_n 0, 1) := by decide +kernel
theorem dX2_init_78 : decode cX2_init 78 = .ok (.getfield 9, 3) := by decide +kernel
theorem dX2_init_81 : decode cX2_init 81 = .ok (.iconst 0, 1) := by decide +kernel
theorem dX2_init_82 : decode cX2_init 82 = .ok (.iload 5, 2) := by decide +kernel
theorem dX2_init_84 : decode cX2_init 84 = .ok (.iastore, 1) := by decide +kernel
theorem dX2_init_85 : decode cX2_init 85 = .ok (.aload_n 0, 1) := by decide +kernel
theorem dX2_init_86 : decode cX2_init 86 = .ok (.getfield 13, 3) := by decide +kernel
theorem dX2_init_89 : decode cX2_init 89 = .ok (.iconst 0, 1) := by decide +kernel
theorem dX2_init_90 : decode cX2_init 90 = .ok (.iload 4, 2) := by decide +kernel
theorem dX2_init_92 : decode cX2_init 92 = .ok (.iastore, 1) := by decide +kernel
theorem dX2_init_93 : decode cX2_init 93 = .ok (.return_, 1) := by decide +kernel
theorem dX2_setTerms_0 : decode cX2_setTerms 0 = .ok (.aload_n 0, 1) := by decide +kernel
theorem dX2_setTerms_1 : decode cX2_setTerms 1 = .ok (.iload_n 1, 1) := by decide +kernel
theorem dX2_setTerms_2 : decode cX2_setTerms 2 = .ok (.putfield 53, 3) := by decide +kernel
theorem dX2_setTerms_5 : decode cX2_setTerms 5 = .ok (.aload_n 0, 1) := by decide +kernel
theorem dX2_setTerms_6 : decode cX2_setTerms 6 = .ok (.lload_n 2, 1) := by decide +kernel
theorem dX2_setTerms_7 : decode cX2_setTerms 7 = .ok (.putfield 56, 3) := by decide +kernel
theorem dX2_setTerms_10 : decode cX2_setTerms 10 = .ok (.aload_n 0, 1) := by decide +kernel
theorem dX2_setTerms_11 : decode cX2_setTerms 11 = .ok (.iload 4, 2) := by decide +kernel
theorem dX2_setTerms_13 : decode cX2_setTerms 13 = .ok (.putfield 59, 3) := by decide +kernel
theorem dX2_setTerms_16 : decode cX2_setTerms 16 = .ok (.return_, 1) := by decide +kernel
theorem dX2_tellOf_0 : decode cX2_tellOf 0 = .ok (.iload_n 1, 1) := by decide +kernel
theorem dX2_tellOf_1 : decode cX2_tellOf 1 = .ok (.tableswitch 93 0 7 #[47, 53, 59, 65, 71, 76, 82, 88], 47) := by decide +kernel
theorem dX2_tellOf_48 : decode cX2_tellOf 48 = .ok (.aload_n 0, 1) := by decide +kernel
theorem dX2_tellOf_49 : decode cX2_tellOf 49 = .ok (.getfield 41, 3) := by decide +kernel
theorem dX2_tellOf_52 : decode cX2_tellOf 52 = .ok (.i2l, 1) := by decide +kernel
theorem dX2_tellOf_53 : decode cX2_tellOf 53 = .ok (.lreturn, 1) := by decide +kernel
theorem dX2_tellOf_54 : decode cX2_tellOf 54 = .ok (.aload_n 0, 1) := by decide +kernel
theorem dX2_tellOf_55 : decode cX2_tellOf 55 = .ok (.getfield 44, 3) := by decide +kernel
theorem dX2_tellOf_58 : decode cX2_tellOf 58 = .ok (.i2l, 1) := by decide +kernel
theorem dX2_tellOf_59 : decode cX2_tellOf 59 = .ok (.lreturn, 1) := by decide +kernel
theorem dX2_tellOf_60 : decode cX2_tellOf 60 = .ok (.aload_n 0, 1) := by decide +kernel
theorem dX2_tellOf_61 : decode cX2_tellOf 61 = .ok (.getfield 47, 3) := by decide +kernel
theorem dX2_tellOf_64 : decode cX2_tellOf 64 = .ok (.i2l, 1) := by decide +kernel
theorem dX2_tellOf_65 : decode cX2_tellOf 65 = .ok (.lreturn, 1) := by decide +kernel
theorem dX2_tellOf_66 : decode cX2_tellOf 66 = .ok (.aload_n 0, 1) := by decide +kernel
theorem dX2_tellOf_67 : decode cX2_tellOf 67 = .ok (.getfield 53, 3) := by decide +kernel
theorem dX2_tellOf_70 : decode cX2_tellOf 70 = .ok (.i2l, 1) := by decide +kernel
theorem dX2_tellOf_71 : decode cX2_tellOf 71 = .ok (.lreturn, 1) := by decide +kernel
theorem dX2_tellOf_72 : decode cX2_tellOf 72 = .ok (.aload_n 0, 1) := by decide +kernel
theorem dX2_tellOf_73 : decode cX2_tellOf 73 = .ok (.getfield 56, 3) := by decide +kernel
theorem dX2_tellOf_76 : decode cX2_tellOf 76 = .ok (.lreturn, 1) := by decide +kernel
theorem dX2_tellOf_77 : decode cX2_tellOf 77 = .ok (.aload_n 0, 1) := by decide +kernel
theorem dX2_tellOf_78 : decode cX2_tellOf 78 = .ok (.getfield 59, 3) := by decide +kernel
theorem dX2_tellOf_81 : decode cX2_tellOf 81 = .ok (.i2l, 1) := by decide +kernel
theorem dX2_tellOf_82 : decode cX2_tellOf 82 = .ok (.lreturn, 1) := by decide +kernel
theorem dX2_tellOf_83 : decode cX2_tellOf 83 = .ok (.aload_n 0, 1) := by decide +kernel
theorem dX2_tellOf_84 : decode cX2_tellOf 84 = .ok (.getfield 50, 3) := by decide +kernel
theorem dX2_tellOf_87 : decode cX2_tellOf 87 = .ok (.i2l, 1) := by decide +kernel
theorem dX2_tellOf_88 : decode cX2_tellOf 88 = .ok (.lreturn, 1) := by decide +kernel
theorem dX2_tellOf_89 : decode cX2_tellOf 89 = .ok (.aload_n 0, 1) := by decide +kernel
theorem dX2_tellOf_90 : decode cX2_tellOf 90 = .ok (.getfield 20, 3) := by decide +kernel
theorem dX2_tellOf_93 : decode cX2_tellOf 93 = .ok (.lreturn, 1) := by decide +kernel
theorem dX2_tellOf_94 : decode cX2_tellOf 94 = .ok (.aload_n 0, 1) := by decide +kernel
theorem dX2_tellOf_95 : decode cX2_tellOf 95 = .ok (.getfield 24, 3) := by decide +kernel
theorem dX2_tellOf_98 : decode cX2_tellOf 98 = .ok (.ifCond .eq 7, 3) := by decide +kernel
theorem dX2_tellOf_101 : decode cX2_tellOf 101 = .ok (.lconst 1, 1) := by decide +kernel
theorem dX2_tellOf_102 : decode cX2_tellOf 102 = .ok (.goto 4, 3) := by decide +kernel
theorem dX2_tellOf_105 : decode cX2_tellOf 105 = .ok (.lconst 0, 1) := by decide +kernel
theorem dX2_tellOf_106 : decode cX2_tellOf 106 = .ok (.lreturn, 1) := by decide +kernel
theorem dX2_lastRow_0 : decode cX2_lastRow 0 = .ok (.iconst 0, 1) := by decide +kernel
theorem dX2_lastRow_1 : decode cX2_lastRow 1 = .ok (.aload_n 0, 1) := by decide +kernel
theorem dX2_lastRow_2 : decode cX2_lastRow 2 = .ok (.getfield 16, 3) := by decide +kernel
theorem dX2_lastRow_5 : decode cX2_lastRow 5 = .ok (.bipush 6, 2) := by decide +kernel
theorem dX2_lastRow_7 : decode cX2_lastRow 7 = .ok (.invokestatic 62, 3) := by decide +kernel
theorem dX2_lastRow_10 : decode cX2_lastRow 10 = .ok (.invokestatic 68, 3) := by decide +kernel
theorem dX2_lastRow_13 : decode cX2_lastRow 13 = .ok (.ireturn, 1) := by decide +kernel
theorem dX2_latestHolder_0 : decode cX2_latestHolder 0 = .ok (.aload_n 0, 1) := by decide +kernel
theorem dX2_latestHolder_1 : decode cX2_latestHolder 1 = .ok (.getfield 9, 3) := by decide +kernel
theorem dX2_latestHolder_4 : decode cX2_latestHolder 4 = .ok (.aload_n 0, 1) := by decide +kernel
theorem dX2_latestHolder_5 : decode cX2_latestHolder 5 = .ok (.invokevirtual 71, 3) := by decide +kernel
theorem dX2_latestHolder_8 : decode cX2_latestHolder 8 = .ok (.iaload, 1) := by decide +kernel
theorem dX2_latestHolder_9 : decode cX2_latestHolder 9 = .ok (.ireturn, 1) := by decide +kernel
theorem dX2_holderIn_0 : decode cX2_holderIn 0 = .ok (.aload_n 0, 1) := by decide +kernel
theorem dX2_holderIn_1 : decode cX2_holderIn 1 = .ok (.invokevirtual 71, 3) := by decide +kernel
theorem dX2_holderIn_4 : decode cX2_holderIn 4 = .ok (.istore_n 2, 1) := by decide +kernel
theorem dX2_holderIn_5 : decode cX2_holderIn 5 = .ok (.iload_n 2, 1) := by decide +kernel
theorem dX2_holderIn_6 : decode cX2_holderIn 6 = .ok (.ifCond .le 19, 3) := by decide +kernel
theorem dX2_holderIn_9 : decode cX2_holderIn 9 = .ok (.aload_n 0, 1) := by decide +kernel
theorem dX2_holderIn_10 : decode cX2_holderIn 10 = .ok (.getfield 13, 3) := by decide +kernel
theorem dX2_holderIn_13 : decode cX2_holderIn 13 = .ok (.iload_n 2, 1) := by decide +kernel
theorem dX2_holderIn_14 : decode cX2_holderIn 14 = .ok (.iaload, 1) := by decide +kernel
theorem dX2_holderIn_15 : decode cX2_holderIn 15 = .ok (.iload_n 1, 1) := by decide +kernel
theorem dX2_holderIn_16 : decode cX2_holderIn 16 = .ok (.if_icmp .le 9, 3) := by decide +kernel
theorem dX2_holderIn_19 : decode cX2_holderIn 19 = .ok (.iinc 2 (-1), 3) := by decide +kernel
theorem dX2_holderIn_22 : decode cX2_holderIn 22 = .ok (.goto (-17), 3) := by decide +kernel
theorem dX2_holderIn_25 : decode cX2_holderIn 25 = .ok (.aload_n 0, 1) := by decide +kernel
theorem dX2_holderIn_26 : decode cX2_holderIn 26 = .ok (.getfield 9, 3) := by decide +kernel
theorem dX2_holderIn_29 : decode cX2_holderIn 29 = .ok (.iload_n 2, 1) := by decide +kernel
theorem dX2_holderIn_30 : decode cX2_holderIn 30 = .ok (.iaload, 1) := by decide +kernel
theorem dX2_holderIn_31 : decode cX2_holderIn 31 = .ok (.ireturn, 1) := by decide +kernel
theorem dX2_cameIn_0 : decode cX2_cameIn 0 = .ok (.aload_n 0, 1) := by decide +kernel
theorem dX2_cameIn_1 : decode cX2_cameIn 1 = .ok (.getfield 13, 3) := by decide +kernel
theorem dX2_cameIn_4 : decode cX2_cameIn 4 = .ok (.aload_n 0, 1) := by decide +kernel
theorem dX2_cameIn_5 : decode cX2_cameIn 5 = .ok (.invokevirtual 71, 3) := by decide +kernel
theorem dX2_cameIn_8 : decode cX2_cameIn 8 = .ok (.iaload, 1) := by decide +kernel
theorem dX2_cameIn_9 : decode cX2_cameIn 9 = .ok (.iload_n 1, 1) := by decide +kernel
theorem dX2_cameIn_10 : decode cX2_cameIn 10 = .ok (.if_icmp .ne 7, 3) := by decide +kernel
theorem dX2_cameIn_13 : decode cX2_cameIn 13 = .ok (.iconst 1, 1) := by decide +kernel
theorem dX2_cameIn_14 : decode cX2_cameIn 14 = .ok (.goto 4, 3) := by decide +kernel
theorem dX2_cameIn_17 : decode cX2_cameIn 17 = .ok (.iconst 0, 1) := by decide +kernel
theorem dX2_cameIn_18 : decode cX2_cameIn 18 = .ok (.ireturn, 1) := by decide +kernel
theorem dX2_maySellIn_0 : decode cX2_maySellIn 0 = .ok (.aload_n 0, 1) := by decide +kernel
theorem dX2_maySellIn_1 : decode cX2_maySellIn 1 = .ok (.iload_n 1, 1) := by decide +kernel
theorem dX2_maySellIn_2 : decode cX2_maySellIn 2 = .ok (.invokevirtual 75, 3) := by decide +kernel
theorem dX2_maySellIn_5 : decode cX2_maySellIn 5 = .ok (.ifCond .ne 12, 3) := by decide +kernel
theorem dX2_maySellIn_8 : decode cX2_maySellIn 8 = .ok (.aload_n 0, 1) := by decide +kernel
theorem dX2_maySellIn_9 : decode cX2_maySellIn 9 = .ok (.getfield 16, 3) := by decide +kernel
theorem dX2_maySellIn_12 : decode cX2_maySellIn 12 = .ok (.bipush 6, 2) := by decide +kernel
theorem dX2_maySellIn_14 : decode cX2_maySellIn 14 = .ok (.if_icmp .ge 7, 3) := by decide +kernel
theorem dX2_maySellIn_17 : decode cX2_maySellIn 17 = .ok (.iconst 1, 1) := by decide +kernel
theorem dX2_maySellIn_18 : decode cX2_maySellIn 18 = .ok (.goto 4, 3) := by decide +kernel
theorem dX2_maySellIn_21 : decode cX2_maySellIn 21 = .ok (.iconst 0, 1) := by decide +kernel
theorem dX2_maySellIn_22 : decode cX2_maySellIn 22 = .ok (.ireturn, 1) := by decide +kernel
theorem dX2_handTo_0 : decode cX2_handTo 0 = .ok (.aload_n 0, 1) := by decide +kernel
theorem dX2_handTo_1 : decode cX2_handTo 1 = .ok (.iload_n 2, 1) := by decide +kernel
theorem dX2_handTo_2 : decode cX2_handTo 2 = .ok (.invokevirtual 79, 3) := by decide +kernel
theorem dX2_handTo_5 : decode cX2_handTo 5 = .ok (.ifCond .ne 4, 3) := by decide +kernel
theorem dX2_handTo_8 : decode cX2_handTo 8 = .ok (.return_, 1) := by decide +kernel
theorem dX2_handTo_9 : decode cX2_handTo 9 = .ok (.aload_n 0, 1) := by decide +kernel
theorem dX2_handTo_10 : decode cX2_handTo 10 = .ok (.iload_n 2, 1) := by decide +kernel
theorem dX2_handTo_11 : decode cX2_handTo 11 = .ok (.invokevirtual 75, 3) := by decide +kernel
theorem dX2_handTo_14 : decode cX2_handTo 14 = .ok (.ifCond .ne 13, 3) := by decide +kernel
theorem dX2_handTo_17 : decode cX2_handTo 17 = .ok (.aload_n 0, 1) := by decide +kernel
theorem dX2_handTo_18 : decode cX2_handTo 18 = .ok (.dup, 1) := by decide +kernel
theorem dX2_handTo_19 : decode cX2_handTo 19 = .ok (.getfield 16, 3) := by decide +kernel
theorem dX2_handTo_22 : decode cX2_handTo 22 = .ok (.iconst 1, 1) := by decide +kernel
theorem dX2_handTo_23 : decode cX2_handTo 23 = .ok (.iadd, 1) := by decide +kernel
theorem dX2_handTo_24 : decode cX2_handTo 24 = .ok (.putfield 16, 3) := by decide +kernel
theorem dX2_handTo_27 : decode cX2_handTo 27 = .ok (.aload_n 0, 1) := by decide +kernel
theorem dX2_handTo_28 : decode cX2_handTo 28 = .ok (.getfield 9, 3) := by decide +kernel
theorem dX2_handTo_31 : decode cX2_handTo 31 = .ok (.aload_n 0, 1) := by decide +kernel
theorem dX2_handTo_32 : decode cX2_handTo 32 = .ok (.invokevirtual 71, 3) := by decide +kernel
theorem dX2_handTo_35 : decode cX2_handTo 35 = .ok (.iload_n 1, 1) := by decide +kernel
theorem dX2_handTo_36 : decode cX2_handTo 36 = .ok (.iastore, 1) := by decide +kernel
theorem dX2_handTo_37 : decode cX2_handTo 37 = .ok (.aload_n 0, 1) := by decide +kernel
theorem dX2_handTo_38 : decode cX2_handTo 38 = .ok (.getfield 13, 3) := by decide +kernel
theorem dX2_handTo_41 : decode cX2_handTo 41 = .ok (.aload_n 0, 1) := by decide +kernel
theorem dX2_handTo_42 : decode cX2_handTo 42 = .ok (.invokevirtual 71, 3) := by decide +kernel
theorem dX2_handTo_45 : decode cX2_handTo 45 = .ok (.iload_n 2, 1) := by decide +kernel
theorem dX2_handTo_46 : decode cX2_handTo 46 = .ok (.iastore, 1) := by decide +kernel
theorem dX2_handTo_47 : decode cX2_handTo 47 = .ok (.return_, 1) := by decide +kernel
theorem dX2_comeToRoll_0 : decode cX2_comeToRoll 0 = .ok (.aload_n 0, 1) := by decide +kernel
theorem dX2_comeToRoll_1 : decode cX2_comeToRoll 1 = .ok (.aload_n 0, 1) := by decide +kernel
theorem dX2_comeToRoll_2 : decode cX2_comeToRoll 2 = .ok (.getfield 24, 3) := by decide +kernel
theorem dX2_comeToRoll_5 : decode cX2_comeToRoll 5 = .ok (.ifCond .ne 15, 3) := by decide +kernel
theorem dX2_comeToRoll_8 : decode cX2_comeToRoll 8 = .ok (.aload_n 0, 1) := by decide +kernel
theorem dX2_comeToRoll_9 : decode cX2_comeToRoll 9 = .ok (.getfield 29, 3) := by decide +kernel
theorem dX2_comeToRoll_12 : decode cX2_comeToRoll 12 = .ok (.iload_n 1, 1) := by decide +kernel
theorem dX2_comeToRoll_13 : decode cX2_comeToRoll 13 = .ok (.if_icmp .gt 7, 3) := by decide +kernel
theorem dX2_comeToRoll_16 : decode cX2_comeToRoll 16 = .ok (.iconst 1, 1) := by decide +kernel
theorem dX2_comeToRoll_17 : decode cX2_comeToRoll 17 = .ok (.goto 4, 3) := by decide +kernel
theorem dX2_comeToRoll_20 : decode cX2_comeToRoll 20 = .ok (.iconst 0, 1) := by decide +kernel
theorem dX2_comeToRoll_21 : decode cX2_comeToRoll 21 = .ok (.putfield 35, 3) := by decide +kernel
theorem dX2_comeToRoll_24 : decode cX2_comeToRoll 24 = .ok (.aload_n 0, 1) := by decide +kernel
theorem dX2_comeToRoll_25 : decode cX2_comeToRoll 25 = .ok (.aload_n 0, 1) := by decide +kernel
theorem dX2_comeToRoll_26 : decode cX2_comeToRoll 26 = .ok (.getfield 35, 3) := by decide +kernel
theorem dX2_comeToRoll_29 : decode cX2_comeToRoll 29 = .ok (.ifCond .eq 19, 3) := by decide +kernel
theorem dX2_comeToRoll_32 : decode cX2_comeToRoll 32 = .ok (.lconst 0, 1) := by decide +kernel
theorem dX2_comeToRoll_33 : decode cX2_comeToRoll 33 = .ok (.aload_n 0, 1) := by decide +kernel
theorem dX2_comeToRoll_34 : decode cX2_comeToRoll 34 = .ok (.getfield 32, 3) := by decide +kernel
theorem dX2_comeToRoll_37 : decode cX2_comeToRoll 37 = .ok (.aload_n 0, 1) := by decide +kernel
theorem dX2_comeToRoll_38 : decode cX2_comeToRoll 38 = .ok (.getfield 20, 3) := by decide +kernel
theorem dX2_comeToRoll_41 : decode cX2_comeToRoll 41 = .ok (.lsub, 1) := by decide +kernel
theorem dX2_comeToRoll_42 : decode cX2_comeToRoll 42 = .ok (.invokestatic 82, 3) := by decide +kernel
theorem dX2_comeToRoll_45 : decode cX2_comeToRoll 45 = .ok (.goto 4, 3) := by decide +kernel
theorem dX2_comeToRoll_48 : decode cX2_comeToRoll 48 = .ok (.lconst 0, 1) := by decide +kernel
theorem dX2_comeToRoll_49 : decode cX2_comeToRoll 49 = .ok (.putfield 38, 3) := by decide +kernel
theorem dX2_comeToRoll_52 : decode cX2_comeToRoll 52 = .ok (.return_, 1) := by decide +kernel
theorem dX3_init_0 : decode cX3_init 0 = .ok (.aload_n 0, 1) := by decide +kernel
theorem dX3_init_1 : decode cX3_init 1 = .ok (.invokespecial 1, 3) := by decide +kernel
theorem dX3_init_4 : decode cX3_init 4 = .ok (.aload_n 0, 1) := by decide +kernel
theorem dX3_init_5 : decode cX3_init 5 = .ok (.bipush 30, 2) := by decide +kernel
theorem dX3_init_7 : decode cX3_init 7 = .ok (.anewarray 9, 3) := by decide +kernel
theorem dX3_init_10 : decode cX3_init 10 = .ok (.putfield 11, 3) := by decide +kernel
theorem dX3_init_13 : decode cX3_init 13 = .ok (.aload_n 0, 1) := by decide +kernel
theorem dX3_init_14 : decode cX3_init 14 = .ok (.iconst 0, 1) := by decide +kernel
theorem dX3_init_15 : decode cX3_init 15 = .ok (.putfield 15, 3) := by decide +kernel
theorem dX3_init_18 : decode cX3_init 18 = .ok (.return_, 1) := by decide +kernel
theorem dX3_isFull_0 : decode cX3_isFull 0 = .ok (.aload_n 0, 1) := by decide +kernel
theorem dX3_isFull_1 : decode cX3_isFull 1 = .ok (.getfield 15, 3) := by decide +kernel
theorem dX3_isFull_4 : decode cX3_isFull 4 = .ok (.bipush 30, 2) := by decide +kernel
theorem dX3_isFull_6 : decode cX3_isFull 6 = .ok (.if_icmp .lt 7, 3) := by decide +kernel
theorem dX3_isFull_9 : decode cX3_isFull 9 = .ok (.iconst 1, 1) := by decide +kernel
theorem dX3_isFull_10 : decode cX3_isFull 10 = .ok (.goto 4, 3) := by decide +kernel
theorem dX3_isFull_13 : decode cX3_isFull 13 = .ok (.iconst 0, 1) := by decide +kernel
theorem dX3_isFull_14 : decode cX3_isFull 14 = .ok (.ireturn, 1) := by decide +kernel
theorem dX3_add_0 : decode cX3_add 0 = .ok (.aload_n 0, 1) := by decide +kernel
theorem dX3_add_1 : decode cX3_add 1 = .ok (.invokevirtual 19, 3) := by decide +kernel
theorem dX3_add_4 : decode cX3_add 4 = .ok (.ifCond .eq 4, 3) := by decide +kernel
theorem dX3_add_7 : decode cX3_add 7 = .ok (.return_, 1) := by decide +kernel
theorem dX3_add_8 : decode cX3_add 8 = .ok (.aload_n 0, 1) := by decide +kernel
theorem dX3_add_9 : decode cX3_add 9 = .ok (.getfield 11, 3) := by decide +kernel
theorem dX3_add_12 : decode cX3_add 12 = .ok (.aload_n 0, 1) := by decide +kernel
theorem dX3_add_13 : decode cX3_add 13 = .ok (.getfield 15, 3) := by decide +kernel
theorem dX3_add_16 : decode cX3_add 16 = .ok (.aload_n 1, 1) := by decide +kernel
theorem dX3_add_17 : decode cX3_add 17 = .ok (.aastore, 1) := by decide +kernel
theorem dX3_add_18 : decode cX3_add 18 = .ok (.aload_n 0, 1) := by decide +kernel
theorem dX3_add_19 : decode cX3_add 19 = .ok (.dup, 1) := by decide +kernel
theorem dX3_add_20 : decode cX3_add 20 = .ok (.getfield 15, 3) := by decide +kernel
theorem dX3_add_23 : decode cX3_add 23 = .ok (.iconst 1, 1) := by decide +kernel
theorem dX3_add_24 : decode cX3_add 24 = .ok (.iadd, 1) := by decide +kernel
theorem dX3_add_25 : decode cX3_add 25 = .ok (.putfield 15, 3) := by decide +kernel
theorem dX3_add_28 : decode cX3_add 28 = .ok (.return_, 1) := by decide +kernel
theorem dX3_find_0 : decode cX3_find 0 = .ok (.iload_n 1, 1) := by decide +kernel
theorem dX3_find_1 : decode cX3_find 1 = .ok (.ifCond .lt 26, 3) := by decide +kernel
theorem dX3_find_4 : decode cX3_find 4 = .ok (.iload_n 1, 1) := by decide +kernel
theorem dX3_find_5 : decode cX3_find 5 = .ok (.aload_n 0, 1) := by decide +kernel
theorem dX3_find_6 : decode cX3_find 6 = .ok (.getfield 15, 3) := by decide +kernel
theorem dX3_find_9 : decode cX3_find 9 = .ok (.if_icmp .ge 18, 3) := by decide +kernel
theorem dX3_find_12 : decode cX3_find 12 = .ok (.iload_n 1, 1) := by decide +kernel
theorem dX3_find_13 : decode cX3_find 13 = .ok (.bipush 30, 2) := by decide +kernel
theorem dX3_find_15 : decode cX3_find 15 = .ok (.if_icmp .ge 12, 3) := by decide +kernel
theorem dX3_find_18 : decode cX3_find 18 = .ok (.aload_n 0, 1) := by decide +kernel
theorem dX3_find_19 : decode cX3_find 19 = .ok (.getfield 11, 3) := by decide +kernel
theorem dX3_find_22 : decode cX3_find 22 = .ok (.iload_n 1, 1) := by decide +kernel
theorem dX3_find_23 : decode cX3_find 23 = .ok (.aaload, 1) := by decide +kernel
theorem dX3_find_24 : decode cX3_find 24 = .ok (.goto 4, 3) := by decide +kernel
theorem dX3_find_27 : decode cX3_find 27 = .ok (.aconst_null, 1) := by decide +kernel
theorem dX3_find_28 : decode cX3_find 28 = .ok (.areturn, 1) := by decide +kernel
theorem dX3_countPaidOut_0 : decode cX3_countPaidOut 0 = .ok (.iconst 0, 1) := by decide +kernel
theorem dX3_countPaidOut_1 : decode cX3_countPaidOut 1 = .ok (.istore_n 1, 1) := by decide +kernel
theorem dX3_countPaidOut_2 : decode cX3_countPaidOut 2 = .ok (.iconst 0, 1) := by decide +kernel
theorem dX3_countPaidOut_3 : decode cX3_countPaidOut 3 = .ok (.istore_n 2, 1) := by decide +kernel
theorem dX3_countPaidOut_4 : decode cX3_countPaidOut 4 = .ok (.iload_n 2, 1) := by decide +kernel
theorem dX3_countPaidOut_5 : decode cX3_countPaidOut 5 = .ok (.aload_n 0, 1) := by decide +kernel
theorem dX3_countPaidOut_6 : decode cX3_countPaidOut 6 = .ok (.getfield 15, 3) := by decide +kernel
theorem dX3_countPaidOut_9 : decode cX3_countPaidOut 9 = .ok (.if_icmp .ge 29, 3) := by decide +kernel
theorem dX3_countPaidOut_12 : decode cX3_countPaidOut 12 = .ok (.aload_n 0, 1) := by decide +kernel
theorem dX3_countPaidOut_13 : decode cX3_countPaidOut 13 = .ok (.iload_n 2, 1) := by decide +kernel
theorem dX3_countPaidOut_14 : decode cX3_countPaidOut 14 = .ok (.invokevirtual 23, 3) := by decide +kernel
theorem dX3_countPaidOut_17 : decode cX3_countPaidOut 17 = .ok (.astore_n 3, 1) := by decide +kernel
theorem dX3_countPaidOut_18 : decode cX3_countPaidOut 18 = .ok (.aload_n 3, 1) := by decide +kernel
theorem dX3_countPaidOut_19 : decode cX3_countPaidOut 19 = .ok (.ifnull 13, 3) := by decide +kernel
theorem dX3_countPaidOut_22 : decode cX3_countPaidOut 22 = .ok (.aload_n 3, 1) := by decide +kernel
theorem dX3_countPaidOut_23 : decode cX3_countPaidOut 23 = .ok (.getfield 27, 3) := by decide +kernel
theorem dX3_countPaidOut_26 : decode cX3_countPaidOut 26 = .ok (.ifCond .eq 6, 3) := by decide +kernel
theorem dX3_countPaidOut_29 : decode cX3_countPaidOut 29 = .ok (.iinc 1 1, 3) := by decide +kernel
theorem dX3_countPaidOut_32 : decode cX3_countPaidOut 32 = .ok (.iinc 2 1, 3) := by decide +kernel
theorem dX3_countPaidOut_35 : decode cX3_countPaidOut 35 = .ok (.goto (-31), 3) := by decide +kernel
theorem dX3_countPaidOut_38 : decode cX3_countPaidOut 38 = .ok (.iload_n 1, 1) := by decide +kernel
theorem dX3_countPaidOut_39 : decode cX3_countPaidOut 39 = .ok (.ireturn, 1) := by decide +kernel
theorem dX4_init_0 : decode cX4_init 0 = .ok (.aload_n 0, 1) := by decide +kernel
theorem dX4_init_1 : decode cX4_init 1 = .ok (.invokespecial 3, 3) := by decide +kernel
theorem dX4_init_4 : decode cX4_init 4 = .ok (.aload_n 0, 1) := by decide +kernel
theorem dX4_init_5 : decode cX4_init 5 = .ok (.aload_n 1, 1) := by decide +kernel
theorem dX4_init_6 : decode cX4_init 6 = .ok (.putfield 9, 3) := by decide +kernel
theorem dX4_init_9 : decode cX4_init 9 = .ok (.aload_n 0, 1) := by decide +kernel
theorem dX4_init_10 : decode cX4_init 10 = .ok (.aload_n 2, 1) := by decide +kernel
theorem dX4_init_11 : decode cX4_init 11 = .ok (.putfield 15, 3) := by decide +kernel
theorem dX4_init_14 : decode cX4_init 14 = .ok (.return_, 1) := by decide +kernel
theorem dX4_fallRow_0 : decode cX4_fallRow 0 = .ok (.aload_n 1, 1) := by decide +kernel
theorem dX4_fallRow_1 : decode cX4_fallRow 1 = .ok (.ifnull 11, 3) := by decide +kernel
theorem dX4_fallRow_4 : decode cX4_fallRow 4 = .ok (.iload_n 2, 1) := by decide +kernel
theorem dX4_fallRow_5 : decode cX4_fallRow 5 = .ok (.aload_n 1, 1) := by decide +kernel
theorem dX4_fallRow_6 : decode cX4_fallRow 6 = .ok (.getfield 19, 3) := by decide +kernel
theorem dX4_fallRow_9 : decode cX4_fallRow 9 = .ok (.if_icmp .ge 5, 3) := by decide +kernel
theorem dX4_fallRow_12 : decode cX4_fallRow 12 = .ok (.iconst (-1), 1) := by decide +kernel
theorem dX4_fallRow_13 : decode cX4_fallRow 13 = .ok (.ireturn, 1) := by decide +kernel
theorem dX4_fallRow_14 : decode cX4_fallRow 14 = .ok (.aload_n 0, 1) := by decide +kernel
theorem dX4_fallRow_15 : decode cX4_fallRow 15 = .ok (.aload_n 1, 1) := by decide +kernel
theorem dX4_fallRow_16 : decode cX4_fallRow 16 = .ok (.getfield 25, 3) := by decide +kernel
theorem dX4_fallRow_19 : decode cX4_fallRow 19 = .ok (.aload_n 1, 1) := by decide +kernel
theorem dX4_fallRow_20 : decode cX4_fallRow 20 = .ok (.getfield 19, 3) := by decide +kernel
theorem dX4_fallRow_23 : decode cX4_fallRow 23 = .ok (.iload_n 2, 1) := by decide +kernel
theorem dX4_fallRow_24 : decode cX4_fallRow 24 = .ok (.invokevirtual 28, 3) := by decide +kernel
theorem dX4_fallRow_27 : decode cX4_fallRow 27 = .ok (.istore_n 3, 1) := by decide +kernel
theorem dX4_fallRow_28 : decode cX4_fallRow 28 = .ok (.aload_n 1, 1) := by decide +kernel
theorem dX4_fallRow_29 : decode cX4_fallRow 29 = .ok (.getfield 32, 3) := by decide +kernel
theorem dX4_fallRow_32 : decode cX4_fallRow 32 = .ok (.iconst 1, 1) := by decide +kernel
theorem dX4_fallRow_33 : decode cX4_fallRow 33 = .ok (.if_icmp .ne 24, 3) := by decide +kernel
theorem dX4_fallRow_36 : decode cX4_fallRow 36 = .ok (.aload_n 0, 1) := by decide +kernel
theorem dX4_fallRow_37 : decode cX4_fallRow 37 = .ok (.iload_n 3, 1) := by decide +kernel
theorem dX4_fallRow_38 : decode cX4_fallRow 38 = .ok (.aload_n 0, 1) := by decide +kernel
theorem dX4_fallRow_39 : decode cX4_fallRow 39 = .ok (.aload_n 1, 1) := by decide +kernel
theorem dX4_fallRow_40 : decode cX4_fallRow 40 = .ok (.getfield 35, 3) := by decide +kernel
theorem dX4_fallRow_43 : decode cX4_fallRow 43 = .ok (.aload_n 1, 1) := by decide +kernel
theorem dX4_fallRow_44 : decode cX4_fallRow 44 = .ok (.getfield 19, 3) := by decide +kernel
theorem dX4_fallRow_47 : decode cX4_fallRow 47 = .ok (.iload_n 2, 1) := by decide +kernel
theorem dX4_fallRow_48 : decode cX4_fallRow 48 = .ok (.invokevirtual 28, 3) := by decide +kernel
theorem dX4_fallRow_51 : decode cX4_fallRow 51 = .ok (.invokevirtual 38, 3) := by decide +kernel
theorem dX4_fallRow_54 : decode cX4_fallRow 54 = .ok (.goto 4, 3) := by decide +kernel
theorem dX4_fallRow_57 : decode cX4_fallRow 57 = .ok (.iload_n 3, 1) := by decide +kernel
theorem dX4_fallRow_58 : decode cX4_fallRow 58 = .ok (.ireturn, 1) := by decide +kernel
theorem dX4_rowFor_0 : decode cX4_rowFor 0 = .ok (.aload_n 0, 1) := by decide +kernel
theorem dX4_rowFor_1 : decode cX4_rowFor 1 = .ok (.getfield 15, 3) := by decide +kernel
theorem dX4_rowFor_4 : decode cX4_rowFor 4 = .ok (.iload_n 1, 1) := by decide +kernel
theorem dX4_rowFor_5 : decode cX4_rowFor 5 = .ok (.iload_n 3, 1) := by decide +kernel
theorem dX4_rowFor_6 : decode cX4_rowFor 6 = .ok (.invokevirtual 42, 3) := by decide +kernel
theorem dX4_rowFor_9 : decode cX4_rowFor 9 = .ok (.istore 4, 2) := by decide +kernel
theorem dX4_rowFor_11 : decode cX4_rowFor 11 = .ok (.iload 4, 2) := by decide +kernel
theorem dX4_rowFor_13 : decode cX4_rowFor 13 = .ok (.iconst (-1), 1) := by decide +kernel
theorem dX4_rowFor_14 : decode cX4_rowFor 14 = .ok (.if_icmp .eq 20, 3) := by decide +kernel
theorem dX4_rowFor_17 : decode cX4_rowFor 17 = .ok (.aload_n 0, 1) := by decide +kernel
theorem dX4_rowFor_18 : decode cX4_rowFor 18 = .ok (.getfield 15, 3) := by decide +kernel
theorem dX4_rowFor_21 : decode cX4_rowFor 21 = .ok (.iload 4, 2) := by decide +kernel
theorem dX4_rowFor_23 : decode cX4_rowFor 23 = .ok (.invokevirtual 47, 3) := by decide +kernel
theorem dX4_rowFor_26 : decode cX4_rowFor 26 = .ok (.iload_n 2, 1) := by decide +kernel
theorem dX4_rowFor_27 : decode cX4_rowFor 27 = .ok (.if_icmp .ge 7, 3) := by decide +kernel
theorem dX4_rowFor_30 : decode cX4_rowFor 30 = .ok (.iconst (-1), 1) := by decide +kernel
theorem dX4_rowFor_31 : decode cX4_rowFor 31 = .ok (.goto 5, 3) := by decide +kernel
theorem dX4_rowFor_34 : decode cX4_rowFor 34 = .ok (.iload 4, 2) := by decide +kernel
theorem dX4_rowFor_36 : decode cX4_rowFor 36 = .ok (.ireturn, 1) := by decide +kernel
theorem dX4_ahead_0 : decode cX4_ahead 0 = .ok (.iload_n 1, 1) := by decide +kernel
theorem dX4_ahead_1 : decode cX4_ahead 1 = .ok (.iconst (-1), 1) := by decide +kernel
theorem dX4_ahead_2 : decode cX4_ahead 2 = .ok (.if_icmp .eq 8, 3) := by decide +kernel
theorem dX4_ahead_5 : decode cX4_ahead 5 = .ok (.iload_n 2, 1) := by decide +kernel
theorem dX4_ahead_6 : decode cX4_ahead 6 = .ok (.iconst (-1), 1) := by decide +kernel
theorem dX4_ahead_7 : decode cX4_ahead 7 = .ok (.if_icmp .ne 14, 3) := by decide +kernel
theorem dX4_ahead_10 : decode cX4_ahead 10 = .ok (.iload_n 1, 1) := by decide +kernel
theorem dX4_ahead_11 : decode cX4_ahead 11 = .ok (.iconst (-1), 1) := by decide +kernel
theorem dX4_ahead_12 : decode cX4_ahead 12 = .ok (.if_icmp .ne 7, 3) := by decide +kernel
theorem dX4_ahead_15 : decode cX4_ahead 15 = .ok (.iload_n 2, 1) := by decide +kernel
theorem dX4_ahead_16 : decode cX4_ahead 16 = .ok (.goto 4, 3) := by decide +kernel
theorem dX4_ahead_19 : decode cX4_ahead 19 = .ok (.iload_n 1, 1) := by decide +kernel
theorem dX4_ahead_20 : decode cX4_ahead 20 = .ok (.ireturn, 1) := by decide +kernel
theorem dX4_ahead_21 : decode cX4_ahead 21 = .ok (.aload_n 0, 1) := by decide +kernel
theorem dX4_ahead_22 : decode cX4_ahead 22 = .ok (.getfield 15, 3) := by decide +kernel
theorem dX4_ahead_25 : decode cX4_ahead 25 = .ok (.iload_n 1, 1) := by decide +kernel
theorem dX4_ahead_26 : decode cX4_ahead 26 = .ok (.invokevirtual 51, 3) := by decide +kernel
theorem dX4_ahead_29 : decode cX4_ahead 29 = .ok (.ifCond .ne 7, 3) := by decide +kernel
theorem dX4_ahead_32 : decode cX4_ahead 32 = .ok (.iconst 1, 1) := by decide +kernel
theorem dX4_ahead_33 : decode cX4_ahead 33 = .ok (.goto 4, 3) := by decide +kernel
theorem dX4_ahead_36 : decode cX4_ahead 36 = .ok (.iconst 0, 1) := by decide +kernel
theorem dX4_ahead_37 : decode cX4_ahead 37 = .ok (.istore_n 3, 1) := by decide +kernel
theorem dX4_ahead_38 : decode cX4_ahead 38 = .ok (.aload_n 0, 1) := by decide +kernel
theorem dX4_ahead_39 : decode cX4_ahead 39 = .ok (.getfield 15, 3) := by decide +kernel
theorem dX4_ahead_42 : decode cX4_ahead 42 = .ok (.iload_n 2, 1) := by decide +kernel
theorem dX4_ahead_43 : decode cX4_ahead 43 = .ok (.invokevirtual 51, 3) := by decide +kernel
theorem dX4_ahead_46 : decode cX4_ahead 46 = .ok (.ifCond .ne 7, 3) := by decide +kernel
theorem dX4_ahead_49 : decode cX4_ahead 49 = .ok (.iconst 1, 1) := by decide +kernel
theorem dX4_ahead_50 : decode cX4_ahead 50 = .ok (.goto 4, 3) := by decide +kernel
theorem dX4_ahead_53 : decode cX4_ahead 53 = .ok (.iconst 0, 1) := by decide +kernel
theorem dX4_ahead_54 : decode cX4_ahead 54 = .ok (.istore 4, 2) := by decide +kernel
theorem dX4_ahead_56 : decode cX4_ahead 56 = .ok (.iload_n 3, 1) := by decide +kernel
theorem dX4_ahead_57 : decode cX4_ahead 57 = .ok (.iload 4, 2) := by decide +kernel
theorem dX4_ahead_59 : decode cX4_ahead 59 = .ok (.if_icmp .eq 13, 3) := by decide +kernel
theorem dX4_ahead_62 : decode cX4_ahead 62 = .ok (.iload_n 3, 1) := by decide +kernel
theorem dX4_ahead_63 : decode cX4_ahead 63 = .ok (.ifCond .eq 7, 3) := by decide +kernel
theorem dX4_ahead_66 : decode cX4_ahead 66 = .ok (.iload_n 1, 1) := by decide +kernel
theorem dX4_ahead_67 : decode cX4_ahead 67 = .ok (.goto 4, 3) := by decide +kernel
theorem dX4_ahead_70 : decode cX4_ahead 70 = .ok (.iload_n 2, 1) := by decide +kernel
theorem dX4_ahead_71 : decode cX4_ahead 71 = .ok (.ireturn, 1) := by decide +kernel
theorem dX4_ahead_72 : decode cX4_ahead 72 = .ok (.aload_n 0, 1) := by decide +kernel
theorem dX4_ahead_73 : decode cX4_ahead 73 = .ok (.getfield 15, 3) := by decide +kernel
theorem dX4_ahead_76 : decode cX4_ahead 76 = .ok (.iload_n 2, 1) := by decide +kernel
theorem dX4_ahead_77 : decode cX4_ahead 77 = .ok (.invokevirtual 47, 3) := by decide +kernel
theorem dX4_ahead_80 : decode cX4_ahead 80 = .ok (.aload_n 0, 1) := by decide +kernel
theorem dX4_ahead_81 : decode cX4_ahead 81 = .ok (.getfield 15, 3) := by decide +kernel
theorem dX4_ahead_84 : decode cX4_ahead 84 = .ok (.iload_n 1, 1) := by decide +kernel
theorem dX4_ahead_85 : decode cX4_ahead 85 = .ok (.invokevirtual 47, 3) := by decide +kernel
theorem dX4_ahead_88 : decode cX4_ahead 88 = .ok (.if_icmp .ge 7, 3) := by decide +kernel
theorem dX4_ahead_91 : decode cX4_ahead 91 = .ok (.iload_n 2, 1) := by decide +kernel
theorem dX4_ahead_92 : decode cX4_ahead 92 = .ok (.goto 4, 3) := by decide +kernel
theorem dX4_ahead_95 : decode cX4_ahead 95 = .ok (.iload_n 1, 1) := by decide +kernel
theorem dX4_ahead_96 : decode cX4_ahead 96 = .ok (.ireturn, 1) := by decide +kernel
theorem dX4_dueMonth_0 : decode cX4_dueMonth 0 = .ok (.aload_n 0, 1) := by decide +kernel
theorem dX4_dueMonth_1 : decode cX4_dueMonth 1 = .ok (.getfield 15, 3) := by decide +kernel
theorem dX4_dueMonth_4 : decode cX4_dueMonth 4 = .ok (.iload_n 1, 1) := by decide +kernel
theorem dX4_dueMonth_5 : decode cX4_dueMonth 5 = .ok (.invokevirtual 47, 3) := by decide +kernel
theorem dX4_dueMonth_8 : decode cX4_dueMonth 8 = .ok (.istore_n 3, 1) := by decide +kernel
theorem dX4_dueMonth_9 : decode cX4_dueMonth 9 = .ok (.iload_n 3, 1) := by decide +kernel
theorem dX4_dueMonth_10 : decode cX4_dueMonth 10 = .ok (.aload_n 0, 1) := by decide +kernel
theorem dX4_dueMonth_11 : decode cX4_dueMonth 11 = .ok (.getfield 9, 3) := by decide +kernel
theorem dX4_dueMonth_14 : decode cX4_dueMonth 14 = .ok (.iconst 0, 1) := by decide +kernel
theorem dX4_dueMonth_15 : decode cX4_dueMonth 15 = .ok (.iload_n 3, 1) := by decide +kernel
theorem dX4_dueMonth_16 : decode cX4_dueMonth 16 = .ok (.iload_n 2, 1) := by decide +kernel
theorem dX4_dueMonth_17 : decode cX4_dueMonth 17 = .ok (.invokevirtual 54, 3) := by decide +kernel
theorem dX4_dueMonth_20 : decode cX4_dueMonth 20 = .ok (.iadd, 1) := by decide +kernel
theorem dX4_dueMonth_21 : decode cX4_dueMonth 21 = .ok (.ireturn, 1) := by decide +kernel
theorem dX4_dueSum_0 : decode cX4_dueSum 0 = .ok (.aload_n 0, 1) := by decide +kernel
theorem dX4_dueSum_1 : decode cX4_dueSum 1 = .ok (.aload_n 1, 1) := by decide +kernel
theorem dX4_dueSum_2 : decode cX4_dueSum 2 = .ok (.iload_n 2, 1) := by decide +kernel
theorem dX4_dueSum_3 : decode cX4_dueSum 3 = .ok (.iload_n 3, 1) := by decide +kernel
theorem dX4_dueSum_4 : decode cX4_dueSum 4 = .ok (.invokevirtual 59, 3) := by decide +kernel
theorem dX4_dueSum_7 : decode cX4_dueSum 7 = .ok (.lstore 4, 2) := by decide +kernel
theorem dX4_dueSum_9 : decode cX4_dueSum 9 = .ok (.lload 4, 2) := by decide +kernel
theorem dX4_dueSum_11 : decode cX4_dueSum 11 = .ok (.lload 4, 2) := by decide +kernel
theorem dX4_dueSum_13 : decode cX4_dueSum 13 = .ok (.aload_n 0, 1) := by decide +kernel
theorem dX4_dueSum_14 : decode cX4_dueSum 14 = .ok (.getfield 9, 3) := by decide +kernel
theorem dX4_dueSum_17 : decode cX4_dueSum 17 = .ok (.iconst 4, 1) := by decide +kernel
theorem dX4_dueSum_18 : decode cX4_dueSum 18 = .ok (.aload_n 0, 1) := by decide +kernel
theorem dX4_dueSum_19 : decode cX4_dueSum 19 = .ok (.iload_n 2, 1) := by decide +kernel
theorem dX4_dueSum_20 : decode cX4_dueSum 20 = .ok (.iload_n 3, 1) := by decide +kernel
theorem dX4_dueSum_21 : decode cX4_dueSum 21 = .ok (.invokevirtual 63, 3) := by decide +kernel
theorem dX4_dueSum_24 : decode cX4_dueSum 24 = .ok (.iload_n 3, 1) := by decide +kernel
theorem dX4_dueSum_25 : decode cX4_dueSum 25 = .ok (.invokevirtual 54, 3) := by decide +kernel
theorem dX4_dueSum_28 : decode cX4_dueSum 28 = .ok (.invokestatic 66, 3) := by decide +kernel
theorem dX4_dueSum_31 : decode cX4_dueSum 31 = .ok (.lsub, 1) := by decide +kernel
theorem dX4_dueSum_32 : decode cX4_dueSum 32 = .ok (.lreturn, 1) := by decide +kernel
theorem dX4_beforeCut_0 : decode cX4_beforeCut 0 = .ok (.aload_n 1, 1) := by decide +kernel
theorem dX4_beforeCut_1 : decode cX4_beforeCut 1 = .ok (.ifnonnull 5, 3) := by decide +kernel
theorem dX4_beforeCut_4 : decode cX4_beforeCut 4 = .ok (.lconst 0, 1) := by decide +kernel
theorem dX4_beforeCut_5 : decode cX4_beforeCut 5 = .ok (.lreturn, 1) := by decide +kernel
theorem dX4_beforeCut_6 : decode cX4_beforeCut 6 = .ok (.aload_n 0, 1) := by decide +kernel
theorem dX4_beforeCut_7 : decode cX4_beforeCut 7 = .ok (.getfield 15, 3) := by decide +kernel
theorem dX4_beforeCut_10 : decode cX4_beforeCut 10 = .ok (.iload_n 2, 1) := by decide +kernel
theorem dX4_beforeCut_11 : decode cX4_beforeCut 11 = .ok (.invokevirtual 51, 3) := by decide +kernel
theorem dX4_beforeCut_14 : decode cX4_beforeCut 14 = .ok (.istore 4, 2) := by decide +kernel
theorem dX4_beforeCut_16 : decode cX4_beforeCut 16 = .ok (.aload_n 0, 1) := by decide +kernel
theorem dX4_beforeCut_17 : decode cX4_beforeCut 17 = .ok (.getfield 15, 3) := by decide +kernel
theorem dX4_beforeCut_20 : decode cX4_beforeCut 20 = .ok (.iload_n 2, 1) := by decide +kernel
theorem dX4_beforeCut_21 : decode cX4_beforeCut 21 = .ok (.invokevirtual 47, 3) := by decide +kernel
theorem dX4_beforeCut_24 : decode cX4_beforeCut 24 = .ok (.istore 5, 2) := by decide +kernel
theorem dX4_beforeCut_26 : decode cX4_beforeCut 26 = .ok (.iload 4, 2) := by decide +kernel
theorem dX4_beforeCut_28 : decode cX4_beforeCut 28 = .ok (.iconst 2, 1) := by decide +kernel
theorem dX4_beforeCut_29 : decode cX4_beforeCut 29 = .ok (.if_icmp .ne 23, 3) := by decide +kernel
theorem dX4_beforeCut_32 : decode cX4_beforeCut 32 = .ok (.aload_n 1, 1) := by decide +kernel
theorem dX4_beforeCut_33 : decode cX4_beforeCut 33 = .ok (.getfield 70, 3) := by decide +kernel
theorem dX4_beforeCut_36 : decode cX4_beforeCut 36 = .ok (.i2l, 1) := by decide +kernel
theorem dX4_beforeCut_37 : decode cX4_beforeCut 37 = .ok (.aload_n 0, 1) := by decide +kernel
theorem dX4_beforeCut_38 : decode cX4_beforeCut 38 = .ok (.getfield 9, 3) := by decide +kernel
theorem dX4_beforeCut_41 : decode cX4_beforeCut 41 = .ok (.iconst 1, 1) := by decide +kernel
theorem dX4_beforeCut_42 : decode cX4_beforeCut 42 = .ok (.iload 5, 2) := by decide +kernel
theorem dX4_beforeCut_44 : decode cX4_beforeCut 44 = .ok (.iload_n 3, 1) := by decide +kernel
theorem dX4_beforeCut_45 : decode cX4_beforeCut 45 = .ok (.invokevirtual 54, 3) := by decide +kernel
theorem dX4_beforeCut_48 : decode cX4_beforeCut 48 = .ok (.invokestatic 66, 3) := by decide +kernel
theorem dX4_beforeCut_51 : decode cX4_beforeCut 51 = .ok (.lreturn, 1) := by decide +kernel
theorem dX4_beforeCut_52 : decode cX4_beforeCut 52 = .ok (.iload 4, 2) := by decide +kernel
theorem dX4_beforeCut_54 : decode cX4_beforeCut 54 = .ok (.iconst 1, 1) := by decide +kernel
theorem dX4_beforeCut_55 : decode cX4_beforeCut 55 = .ok (.if_icmp .ne 30, 3) := by decide +kernel
theorem dX4_beforeCut_58 : decode cX4_beforeCut 58 = .ok (.aload_n 1, 1) := by decide +kernel
theorem dX4_beforeCut_59 : decode cX4_beforeCut 59 = .ok (.getfield 32, 3) := by decide +kernel
theorem dX4_beforeCut_62 : decode cX4_beforeCut 62 = .ok (.iconst 2, 1) := by decide +kernel
theorem dX4_beforeCut_63 : decode cX4_beforeCut 63 = .ok (.if_icmp .eq 22, 3) := by decide +kernel
theorem dX4_beforeCut_66 : decode cX4_beforeCut 66 = .ok (.aload_n 1, 1) := by decide +kernel
theorem dX4_beforeCut_67 : decode cX4_beforeCut 67 = .ok (.getfield 73, 3) := by decide +kernel
theorem dX4_beforeCut_70 : decode cX4_beforeCut 70 = .ok (.aload_n 0, 1) := by decide +kernel
theorem dX4_beforeCut_71 : decode cX4_beforeCut 71 = .ok (.getfield 9, 3) := by decide +kernel
theorem dX4_beforeCut_74 : decode cX4_beforeCut 74 = .ok (.iconst 2, 1) := by decide +kernel
theorem dX4_beforeCut_75 : decode cX4_beforeCut 75 = .ok (.iload 5, 2) := by decide +kernel
theorem dX4_beforeCut_77 : decode cX4_beforeCut 77 = .ok (.iload_n 3, 1) := by decide +kernel
theorem dX4_beforeCut_78 : decode cX4_beforeCut 78 = .ok (.invokevirtual 54, 3) := by decide +kernel
theorem dX4_beforeCut_81 : decode cX4_beforeCut 81 = .ok (.invokestatic 66, 3) := by decide +kernel
theorem dX4_beforeCut_84 : decode cX4_beforeCut 84 = .ok (.lreturn, 1) := by decide +kernel
theorem dX4_beforeCut_85 : decode cX4_beforeCut 85 = .ok (.iload 5, 2) := by decide +kernel
theorem dX4_beforeCut_87 : decode cX4_beforeCut 87 = .ok (.aload_n 1, 1) := by decide +kernel
theorem dX4_beforeCut_88 : decode cX4_beforeCut 88 = .ok (.getfield 77, 3) := by decide +kernel
theorem dX4_beforeCut_91 : decode cX4_beforeCut 91 = .ok (.if_icmp .lt 8, 3) := by decide +kernel
theorem dX4_beforeCut_94 : decode cX4_beforeCut 94 = .ok (.aload_n 1, 1) := by decide +kernel
theorem dX4_beforeCut_95 : decode cX4_beforeCut 95 = .ok (.getfield 73, 3) := by decide +kernel
theorem dX4_beforeCut_98 : decode cX4_beforeCut 98 = .ok (.lreturn, 1) := by decide +kernel
theorem dX4_beforeCut_99 : decode cX4_beforeCut 99 = .ok (.aload_n 1, 1) := by decide +kernel
theorem dX4_beforeCut_100 : decode cX4_beforeCut 100 = .ok (.getfield 73, 3) := by decide +kernel
theorem dX4_beforeCut_103 : decode cX4_beforeCut 103 = .ok (.aload_n 0, 1) := by decide +kernel
theorem dX4_beforeCut_104 : decode cX4_beforeCut 104 = .ok (.getfield 9, 3) := by decide +kernel
theorem dX4_beforeCut_107 : decode cX4_beforeCut 107 = .ok (.iconst 3, 1) := by decide +kernel
theorem dX4_beforeCut_108 : decode cX4_beforeCut 108 = .ok (.iload 5, 2) := by decide +kernel
theorem dX4_beforeCut_110 : decode cX4_beforeCut 110 = .ok (.iload_n 3, 1) := by decide +kernel
theorem dX4_beforeCut_111 : decode cX4_beforeCut 111 = .ok (.invokevirtual 54, 3) := by decide +kernel
theorem dX4_beforeCut_114 : decode cX4_beforeCut 114 = .ok (.invokestatic 66, 3) := by decide +kernel
theorem dX4_beforeCut_117 : decode cX4_beforeCut 117 = .ok (.lreturn, 1) := by decide +kernel
theorem dX5_init_0 : decode cX5_init 0 = .ok (.aload_n 0, 1) := by decide +kernel
theorem dX5_init_1 : decode cX5_init 1 = .ok (.invokespecial 3, 3) := by decide +kernel
theorem dX5_init_4 : decode cX5_init 4 = .ok (.aload_n 0, 1) := by decide +kernel
theorem dX5_init_5 : decode cX5_init 5 = .ok (.bipush 6, 2) := by decide +kernel
theorem dX5_init_7 : decode cX5_init 7 = .ok (.newarray .int, 2) := by decide +kernel
theorem dX5_init_9 : decode cX5_init 9 = .ok (.putfield 9, 3) := by decide +kernel
theorem dX5_init_12 : decode cX5_init 12 = .ok (.return_, 1) := by decide +kernel
theorem dX5_answer_0 : decode cX5_answer 0 = .ok (.iload_n 1, 1) := by decide +kernel
theorem dX5_answer_1 : decode cX5_answer 1 = .ok (.iconst 1, 1) := by decide +kernel
theorem dX5_answer_2 : decode cX5_answer 2 = .ok (.iconst 5, 1) := by decide +kernel
theorem dX5_answer_3 : decode cX5_answer 3 = .ok (.invokestatic 15, 3) := by decide +kernel
theorem dX5_answer_6 : decode cX5_answer 6 = .ok (.ifCond .eq 13, 3) := by decide +kernel
theorem dX5_answer_9 : decode cX5_answer 9 = .ok (.aload_n 0, 1) := by decide +kernel
theorem dX5_answer_10 : decode cX5_answer 10 = .ok (.getfield 9, 3) := by decide +kernel
theorem dX5_answer_13 : decode cX5_answer 13 = .ok (.iload_n 1, 1) := by decide +kernel
theorem dX5_answer_14 : decode cX5_answer 14 = .ok (.dup2, 1) := by decide +kernel
theorem dX5_answer_15 : decode cX5_answer 15 = .ok (.iaload, 1) := by decide +kernel
theorem dX5_answer_16 : decode cX5_answer 16 = .ok (.iconst 1, 1) := by decide +kernel
theorem dX5_answer_17 : decode cX5_answer 17 = .ok (.iadd, 1) := by decide +kernel
theorem dX5_answer_18 : decode cX5_answer 18 = .ok (.iastore, 1) := by decide +kernel
theorem dX5_answer_19 : decode cX5_answer 19 = .ok (.ldc2_w 19, 3) := by decide +kernel
theorem dX5_answer_22 : decode cX5_answer 22 = .ok (.iload_n 1, 1) := by decide +kernel
theorem dX5_answer_23 : decode cX5_answer 23 = .ok (.i2l, 1) := by decide +kernel
theorem dX5_answer_24 : decode cX5_answer 24 = .ok (.lsub, 1) := by decide +kernel
theorem dX5_answer_25 : decode cX5_answer 25 = .ok (.lreturn, 1) := by decide +kernel
theorem dX6_init_0 : decode cX6_init 0 = .ok (.aload_n 0, 1) := by decide +kernel
theorem dX6_init_1 : decode cX6_init 1 = .ok (.invokespecial 1, 3) := by decide +kernel
theorem dX6_init_4 : decode cX6_init 4 = .ok (.aload_n 0, 1) := by decide +kernel
theorem dX6_init_5 : decode cX6_init 5 = .ok (.bipush 21, 2) := by decide +kernel
theorem dX6_init_7 : decode cX6_init 7 = .ok (.newarray .int, 2) := by decide +kernel
theorem dX6_init_9 : decode cX6_init 9 = .ok (.putfield 9, 3) := by decide +kernel
theorem dX6_init_12 : decode cX6_init 12 = .ok (.aload_n 0, 1) := by decide +kernel
theorem dX6_init_13 : decode cX6_init 13 = .ok (.bipush 21, 2) := by decide +kernel
theorem dX6_init_15 : decode cX6_init 15 = .ok (.newarray .int, 2) := by decide +kernel
theorem dX6_init_17 : decode cX6_init 17 = .ok (.putfield 13, 3) := by decide +kernel
theorem dX6_init_20 : decode cX6_init 20 = .ok (.aload_n 0, 1) := by decide +kernel
theorem dX6_init_21 : decode cX6_init 21 = .ok (.bipush 21, 2) := by decide +kernel
theorem dX6_init_23 : decode cX6_init 23 = .ok (.newarray .int, 2) := by decide +kernel
theorem dX6_init_25 : decode cX6_init 25 = .ok (.putfield 16, 3) := by decide +kernel
theorem dX6_init_28 : decode cX6_init 28 = .ok (.return_, 1) := by decide +kernel
theorem dX6_isAge_0 : decode cX6_isAge 0 = .ok (.iload_n 0, 1) := by decide +kernel
theorem dX6_isAge_1 : decode cX6_isAge 1 = .ok (.iconst 0, 1) := by decide +kernel
theorem dX6_isAge_2 : decode cX6_isAge 2 = .ok (.bipush 20, 2) := by decide +kernel
theorem dX6_isAge_4 : decode cX6_isAge 4 = .ok (.invokestatic 19, 3) := by decide +kernel
theorem dX6_isAge_7 : decode cX6_isAge 7 = .ok (.ireturn, 1) := by decide +kernel
theorem dX6_isSpan_0 : decode cX6_isSpan 0 = .ok (.iload_n 0, 1) := by decide +kernel
theorem dX6_isSpan_1 : decode cX6_isSpan 1 = .ok (.invokestatic 25, 3) := by decide +kernel
theorem dX6_isSpan_4 : decode cX6_isSpan 4 = .ok (.ifCond .eq 17, 3) := by decide +kernel
theorem dX6_isSpan_7 : decode cX6_isSpan 7 = .ok (.iload_n 1, 1) := by decide +kernel
theorem dX6_isSpan_8 : decode cX6_isSpan 8 = .ok (.iload_n 0, 1) := by decide +kernel
theorem dX6_isSpan_9 : decode cX6_isSpan 9 = .ok (.bipush 21, 2) := by decide +kernel
theorem dX6_isSpan_11 : decode cX6_isSpan 11 = .ok (.invokestatic 19, 3) := by decide +kernel
theorem dX6_isSpan_14 : decode cX6_isSpan 14 = .ok (.ifCond .eq 7, 3) := by decide +kernel
theorem dX6_isSpan_17 : decode cX6_isSpan 17 = .ok (.iconst 1, 1) := by decide +kernel
theorem dX6_isSpan_18 : decode cX6_isSpan 18 = .ok (.goto 4, 3) := by decide +kernel
theorem dX6_isSpan_21 : decode cX6_isSpan 21 = .ok (.iconst 0, 1) := by decide +kernel
theorem dX6_isSpan_22 : decode cX6_isSpan 22 = .ok (.ireturn, 1) := by decide +kernel
theorem dX6_mayGo_0 : decode cX6_mayGo 0 = .ok (.iload_n 0, 1) := by decide +kernel
theorem dX6_mayGo_1 : decode cX6_mayGo 1 = .ok (.ifCond .lt 30, 3) := by decide +kernel
theorem dX6_mayGo_4 : decode cX6_mayGo 4 = .ok (.iload_n 1, 1) := by decide +kernel
theorem dX6_mayGo_5 : decode cX6_mayGo 5 = .ok (.ifCond .lt 26, 3) := by decide +kernel
theorem dX6_mayGo_8 : decode cX6_mayGo 8 = .ok (.iload_n 2, 1) := by decide +kernel
theorem dX6_mayGo_9 : decode cX6_mayGo 9 = .ok (.ifCond .lt 22, 3) := by decide +kernel
theorem dX6_mayGo_12 : decode cX6_mayGo 12 = .ok (.iload_n 0, 1) := by decide +kernel
theorem dX6_mayGo_13 : decode cX6_mayGo 13 = .ok (.i2l, 1) := by decide +kernel
theorem dX6_mayGo_14 : decode cX6_mayGo 14 = .ok (.iload_n 1, 1) := by decide +kernel
theorem dX6_mayGo_15 : decode cX6_mayGo 15 = .ok (.i2l, 1) := by decide +kernel
theorem dX6_mayGo_16 : decode cX6_mayGo 16 = .ok (.ladd, 1) := by decide +kernel
theorem dX6_mayGo_17 : decode cX6_mayGo 17 = .ok (.iload_n 2, 1) := by decide +kernel
theorem dX6_mayGo_18 : decode cX6_mayGo 18 = .ok (.i2l, 1) := by decide +kernel
theorem dX6_mayGo_19 : decode cX6_mayGo 19 = .ok (.ladd, 1) := by decide +kernel
theorem dX6_mayGo_20 : decode cX6_mayGo 20 = .ok (.ldc2_w 29, 3) := by decide +kernel
theorem dX6_mayGo_23 : decode cX6_mayGo 23 = .ok (.lcmp, 1) := by decide +kernel
theorem dX6_mayGo_24 : decode cX6_mayGo 24 = .ok (.ifCond .gt 7, 3) := by decide +kernel
theorem dX6_mayGo_27 : decode cX6_mayGo 27 = .ok (.iconst 1, 1) := by decide +kernel
theorem dX6_mayGo_28 : decode cX6_mayGo 28 = .ok (.goto 4, 3) := by decide +kernel
theorem dX6_mayGo_31 : decode cX6_mayGo 31 = .ok (.iconst 0, 1) := by decide +kernel
theorem dX6_mayGo_32 : decode cX6_mayGo 32 = .ok (.ireturn, 1) := by decide +kernel
theorem dX6_set_0 : decode cX6_set 0 = .ok (.iload_n 1, 1) := by decide +kernel
theorem dX6_set_1 : decode cX6_set 1 = .ok (.invokestatic 25, 3) := by decide +kernel
theorem dX6_set_4 : decode cX6_set 4 = .ok (.ifCond .ne 4, 3) := by decide +kernel
theorem dX6_set_7 : decode cX6_set 7 = .ok (.return_, 1) := by decide +kernel
theorem dX6_set_8 : decode cX6_set 8 = .ok (.aload_n 0, 1) := by decide +kernel
theorem dX6_set_9 : decode cX6_set 9 = .ok (.getfield 9, 3) := by decide +kernel
theorem dX6_set_12 : decode cX6_set 12 = .ok (.iload_n 1, 1) := by decide +kernel
theorem dX6_set_13 : decode cX6_set 13 = .ok (.iload_n 2, 1) := by decide +kernel
theorem dX6_set_14 : decode cX6_set 14 = .ok (.iastore, 1) := by decide +kernel
theorem dX6_set_15 : decode cX6_set 15 = .ok (.aload_n 0, 1) := by decide +kernel
theorem dX6_set_16 : decode cX6_set 16 = .ok (.getfield 13, 3) := by decide +kernel
theorem dX6_set_19 : decode cX6_set 19 = .ok (.iload_n 1, 1) := by decide +kernel
theorem dX6_set_20 : decode cX6_set 20 = .ok (.iload_n 3, 1) := by decide +kernel
theorem dX6_set_21 : decode cX6_set 21 = .ok (.iastore, 1) := by decide +kernel
theorem dX6_set_22 : decode cX6_set 22 = .ok (.aload_n 0, 1) := by decide +kernel
theorem dX6_set_23 : decode cX6_set 23 = .ok (.getfield 16, 3) := by decide +kernel
theorem dX6_set_26 : decode cX6_set 26 = .ok (.iload_n 1, 1) := by decide +kernel
theorem dX6_set_27 : decode cX6_set 27 = .ok (.iload 4, 2) := by decide +kernel
theorem dX6_set_29 : decode cX6_set 29 = .ok (.iastore, 1) := by decide +kernel
theorem dX6_set_30 : decode cX6_set 30 = .ok (.return_, 1) := by decide +kernel
theorem dX6_stillThere_0 : decode cX6_stillThere 0 = .ok (.ldc2_w 31, 3) := by decide +kernel
theorem dX6_stillThere_3 : decode cX6_stillThere 3 = .ok (.lstore_n 3, 1) := by decide +kernel
theorem dX6_stillThere_4 : decode cX6_stillThere 4 = .ok (.iconst 0, 1) := by decide +kernel
theorem dX6_stillThere_5 : decode cX6_stillThere 5 = .ok (.iload_n 1, 1) := by decide +kernel
theorem dX6_stillThere_6 : decode cX6_stillThere 6 = .ok (.invokestatic 33, 3) := by decide +kernel
theorem dX6_stillThere_9 : decode cX6_stillThere 9 = .ok (.istore 5, 2) := by decide +kernel
theorem dX6_stillThere_11 : decode cX6_stillThere 11 = .ok (.iload 5, 2) := by decide +kernel
theorem dX6_stillThere_13 : decode cX6_stillThere 13 = .ok (.iload_n 2, 1) := by decide +kernel
theorem dX6_stillThere_14 : decode cX6_stillThere 14 = .ok (.if_icmp .ge 24, 3) := by decide +kernel
theorem dX6_stillThere_17 : decode cX6_stillThere 17 = .ok (.iload 5, 2) := by decide +kernel
theorem dX6_stillThere_19 : decode cX6_stillThere 19 = .ok (.bipush 20, 2) := by decide +kernel
theorem dX6_stillThere_21 : decode cX6_stillThere 21 = .ok (.if_icmp .gt 17, 3) := by decide +kernel
theorem dX6_stillThere_24 : decode cX6_stillThere 24 = .ok (.aload_n 0, 1) := by decide +kernel
theorem dX6_stillThere_25 : decode cX6_stillThere 25 = .ok (.lload_n 3, 1) := by decide +kernel
theorem dX6_stillThere_26 : decode cX6_stillThere 26 = .ok (.iload 5, 2) := by decide +kernel
theorem dX6_stillThere_28 : decode cX6_stillThere 28 = .ok (.invokevirtual 39, 3) := by decide +kernel
theorem dX6_stillThere_31 : decode cX6_stillThere 31 = .ok (.lstore_n 3, 1) := by decide +kernel
theorem dX6_stillThere_32 : decode cX6_stillThere 32 = .ok (.iinc 5 1, 3) := by decide +kernel
theorem dX6_stillThere_35 : decode cX6_stillThere 35 = .ok (.goto (-24), 3) := by decide +kernel
theorem dX6_stillThere_38 : decode cX6_stillThere 38 = .ok (.lload_n 3, 1) := by decide +kernel
theorem dX6_stillThere_39 : decode cX6_stillThere 39 = .ok (.lreturn, 1) := by decide +kernel
theorem dX6_wedBetween_0 : decode cX6_wedBetween 0 = .ok (.ldc2_w 31, 3) := by decide +kernel
theorem dX6_wedBetween_3 : decode cX6_wedBetween 3 = .ok (.lstore_n 3, 1) := by decide +kernel
theorem dX6_wedBetween_4 : decode cX6_wedBetween 4 = .ok (.lconst 0, 1) := by decide +kernel
theorem dX6_wedBetween_5 : decode cX6_wedBetween 5 = .ok (.lstore 5, 2) := by decide +kernel
theorem dX6_wedBetween_7 : decode cX6_wedBetween 7 = .ok (.iconst 0, 1) := by decide +kernel
theorem dX6_wedBetween_8 : decode cX6_wedBetween 8 = .ok (.iload_n 1, 1) := by decide +kernel
theorem dX6_wedBetween_9 : decode cX6_wedBetween 9 = .ok (.invokestatic 33, 3) := by decide +kernel
theorem dX6_wedBetween_12 : decode cX6_wedBetween 12 = .ok (.istore 7, 2) := by decide +kernel
theorem dX6_wedBetween_14 : decode cX6_wedBetween 14 = .ok (.iload 7, 2) := by decide +kernel
theorem dX6_wedBetween_16 : decode cX6_wedBetween 16 = .ok (.iload_n 2, 1) := by decide +kernel
theorem dX6_wedBetween_17 : decode cX6_wedBetween 17 = .ok (.if_icmp .ge 40, 3) := by decide +kernel
theorem dX6_wedBetween_20 : decode cX6_wedBetween 20 = .ok (.iload 7, 2) := by decide +kernel
theorem dX6_wedBetween_22 : decode cX6_wedBetween 22 = .ok (.bipush 20, 2) := by decide +kernel
theorem dX6_wedBetween_24 : decode cX6_wedBetween 24 = .ok (.if_icmp .gt 33, 3) := by decide +kernel
theorem dX6_wedBetween_27 : decode cX6_wedBetween 27 = .ok (.lload 5, 2) := by decide +kernel
theorem dX6_wedBetween_29 : decode cX6_wedBetween 29 = .ok (.lload_n 3, 1) := by decide +kernel
theorem dX6_wedBetween_30 : decode cX6_wedBetween 30 = .ok (.aload_n 0, 1) := by decide +kernel
theorem dX6_wedBetween_31 : decode cX6_wedBetween 31 = .ok (.getfield 13, 3) := by decide +kernel
theorem dX6_wedBetween_34 : decode cX6_wedBetween 34 = .ok (.iload 7, 2) := by decide +kernel
theorem dX6_wedBetween_36 : decode cX6_wedBetween 36 = .ok (.iaload, 1) := by decide +kernel
theorem dX6_wedBetween_37 : decode cX6_wedBetween 37 = .ok (.invokestatic 43, 3) := by decide +kernel
theorem dX6_wedBetween_40 : decode cX6_wedBetween 40 = .ok (.ladd, 1) := by decide +kernel
theorem dX6_wedBetween_41 : decode cX6_wedBetween 41 = .ok (.lstore 5, 2) := by decide +kernel
theorem dX6_wedBetween_43 : decode cX6_wedBetween 43 = .ok (.aload_n 0, 1) := by decide +kernel
theorem dX6_wedBetween_44 : decode cX6_wedBetween 44 = .ok (.lload_n 3, 1) := by decide +kernel
theorem dX6_wedBetween_45 : decode cX6_wedBetween 45 = .ok (.iload 7, 2) := by decide +kernel
theorem dX6_wedBetween_47 : decode cX6_wedBetween 47 = .ok (.invokevirtual 39, 3) := by decide +kernel
theorem dX6_wedBetween_50 : decode cX6_wedBetween 50 = .ok (.lstore_n 3, 1) := by decide +kernel
theorem dX6_wedBetween_51 : decode cX6_wedBetween 51 = .ok (.iinc 7 1, 3) := by decide +kernel
theorem dX6_wedBetween_54 : decode cX6_wedBetween 54 = .ok (.goto (-40), 3) := by decide +kernel
theorem dX6_wedBetween_57 : decode cX6_wedBetween 57 = .ok (.lload 5, 2) := by decide +kernel
theorem dX6_wedBetween_59 : decode cX6_wedBetween 59 = .ok (.lreturn, 1) := by decide +kernel
theorem dX6_afterYear_0 : decode cX6_afterYear 0 = .ok (.iload_n 3, 1) := by decide +kernel
theorem dX6_afterYear_1 : decode cX6_afterYear 1 = .ok (.invokestatic 25, 3) := by decide +kernel
theorem dX6_afterYear_4 : decode cX6_afterYear 4 = .ok (.ifCond .ne 5, 3) := by decide +kernel
theorem dX6_afterYear_7 : decode cX6_afterYear 7 = .ok (.lload_n 1, 1) := by decide +kernel
theorem dX6_afterYear_8 : decode cX6_afterYear 8 = .ok (.lreturn, 1) := by decide +kernel
theorem dX6_afterYear_9 : decode cX6_afterYear 9 = .ok (.lload_n 1, 1) := by decide +kernel
theorem dX6_afterYear_10 : decode cX6_afterYear 10 = .ok (.lload_n 1, 1) := by decide +kernel
theorem dX6_afterYear_11 : decode cX6_afterYear 11 = .ok (.aload_n 0, 1) := by decide +kernel
theorem dX6_afterYear_12 : decode cX6_afterYear 12 = .ok (.getfield 9, 3) := by decide +kernel
theorem dX6_afterYear_15 : decode cX6_afterYear 15 = .ok (.iload_n 3, 1) := by decide +kernel
theorem dX6_afterYear_16 : decode cX6_afterYear 16 = .ok (.iaload, 1) := by decide +kernel
theorem dX6_afterYear_17 : decode cX6_afterYear 17 = .ok (.invokestatic 43, 3) := by decide +kernel
theorem dX6_afterYear_20 : decode cX6_afterYear 20 = .ok (.lsub, 1) := by decide +kernel
theorem dX6_afterYear_21 : decode cX6_afterYear 21 = .ok (.lload_n 1, 1) := by decide +kernel
theorem dX6_afterYear_22 : decode cX6_afterYear 22 = .ok (.aload_n 0, 1) := by decide +kernel
theorem dX6_afterYear_23 : decode cX6_afterYear 23 = .ok (.getfield 13, 3) := by decide +kernel
theorem dX6_afterYear_26 : decode cX6_afterYear 26 = .ok (.iload_n 3, 1) := by decide +kernel
theorem dX6_afterYear_27 : decode cX6_afterYear 27 = .ok (.iaload, 1) := by decide +kernel
theorem dX6_afterYear_28 : decode cX6_afterYear 28 = .ok (.invokestatic 43, 3) := by decide +kernel
theorem dX6_afterYear_31 : decode cX6_afterYear 31 = .ok (.lsub, 1) := by decide +kernel
theorem dX6_afterYear_32 : decode cX6_afterYear 32 = .ok (.lload_n 1, 1) := by decide +kernel
theorem dX6_afterYear_33 : decode cX6_afterYear 33 = .ok (.aload_n 0, 1) := by decide +kernel
theorem dX6_afterYear_34 : decode cX6_afterYear 34 = .ok (.getfield 16, 3) := by decide +kernel
theorem dX6_afterYear_37 : decode cX6_afterYear 37 = .ok (.iload_n 3, 1) := by decide +kernel
theorem dX6_afterYear_38 : decode cX6_afterYear 38 = .ok (.iaload, 1) := by decide +kernel
theorem dX6_afterYear_39 : decode cX6_afterYear 39 = .ok (.invokestatic 43, 3) := by decide +kernel
theorem dX6_afterYear_42 : decode cX6_afterYear 42 = .ok (.lsub, 1) := by decide +kernel
theorem dX6_afterYear_43 : decode cX6_afterYear 43 = .ok (.lreturn, 1) := by decide +kernel
theorem dX7_init_0 : decode cX7_init 0 = .ok (.aload_n 0, 1) := by decide +kernel
theorem dX7_init_1 : decode cX7_init 1 = .ok (.invokespecial 3, 3) := by decide +kernel
theorem dX7_init_4 : decode cX7_init 4 = .ok (.aload_n 0, 1) := by decide +kernel
theorem dX7_init_5 : decode cX7_init 5 = .ok (.lconst 0, 1) := by decide +kernel
theorem dX7_init_6 : decode cX7_init 6 = .ok (.putfield 9, 3) := by decide +kernel
theorem dX7_init_9 : decode cX7_init 9 = .ok (.aload_n 0, 1) := by decide +kernel
theorem dX7_init_10 : decode cX7_init 10 = .ok (.lconst 0, 1) := by decide +kernel
theorem dX7_init_11 : decode cX7_init 11 = .ok (.putfield 15, 3) := by decide +kernel
theorem dX7_init_14 : decode cX7_init 14 = .ok (.aload_n 0, 1) := by decide +kernel
theorem dX7_init_15 : decode cX7_init 15 = .ok (.lconst 0, 1) := by decide +kernel
theorem dX7_init_16 : decode cX7_init 16 = .ok (.putfield 18, 3) := by decide +kernel
theorem dX7_init_19 : decode cX7_init 19 = .ok (.aload_n 0, 1) := by decide +kernel
theorem dX7_init_20 : decode cX7_init 20 = .ok (.bipush 10, 2) := by decide +kernel
theorem dX7_init_22 : decode cX7_init 22 = .ok (.newarray .long, 2) := by decide +kernel
theorem dX7_init_24 : decode cX7_init 24 = .ok (.putfield 21, 3) := by decide +kernel
theorem dX7_init_27 : decode cX7_init 27 = .ok (.return_, 1) := by decide +kernel
theorem dX7_pay_0 : decode cX7_pay 0 = .ok (.aload_n 0, 1) := by decide +kernel
theorem dX7_pay_1 : decode cX7_pay 1 = .ok (.dup, 1) := by decide +kernel
theorem dX7_pay_2 : decode cX7_pay 2 = .ok (.getfield 9, 3) := by decide +kernel
theorem dX7_pay_5 : decode cX7_pay 5 = .ok (.lload_n 2, 1) := by decide +kernel
theorem dX7_pay_6 : decode cX7_pay 6 = .ok (.lsub, 1) := by decide +kernel
theorem dX7_pay_7 : decode cX7_pay 7 = .ok (.putfield 9, 3) := by decide +kernel
theorem dX7_pay_10 : decode cX7_pay 10 = .ok (.aload_n 0, 1) := by decide +kernel
theorem dX7_pay_11 : decode cX7_pay 11 = .ok (.dup, 1) := by decide +kernel
theorem dX7_pay_12 : decode cX7_pay 12 = .ok (.getfield 18, 3) := by decide +kernel
theorem dX7_pay_15 : decode cX7_pay 15 = .ok (.lload_n 2, 1) := by decide +kernel
theorem dX7_pay_16 : decode cX7_pay 16 = .ok (.ladd, 1) := by decide +kernel
theorem dX7_pay_17 : decode cX7_pay 17 = .ok (.putfield 18, 3) := by decide +kernel
theorem dX7_pay_20 : decode cX7_pay 20 = .ok (.aload_n 1, 1) := by decide +kernel
theorem dX7_pay_21 : decode cX7_pay 21 = .ok (.dup, 1) := by decide +kernel
theorem dX7_pay_22 : decode cX7_pay 22 = .ok (.getfield 25, 3) := by decide +kernel
theorem dX7_pay_25 : decode cX7_pay 25 = .ok (.lload_n 2, 1) := by decide +kernel
theorem dX7_pay_26 : decode cX7_pay 26 = .ok (.ladd, 1) := by decide +kernel
theorem dX7_pay_27 : decode cX7_pay 27 = .ok (.putfield 25, 3) := by decide +kernel
theorem dX7_pay_30 : decode cX7_pay 30 = .ok (.aload_n 1, 1) := by decide +kernel
theorem dX7_pay_31 : decode cX7_pay 31 = .ok (.dup, 1) := by decide +kernel
theorem dX7_pay_32 : decode cX7_pay 32 = .ok (.getfield 30, 3) := by decide +kernel
theorem dX7_pay_35 : decode cX7_pay 35 = .ok (.lload_n 2, 1) := by decide +kernel
theorem dX7_pay_36 : decode cX7_pay 36 = .ok (.lsub, 1) := by decide +kernel
theorem dX7_pay_37 : decode cX7_pay 37 = .ok (.putfield 30, 3) := by decide +kernel
theorem dX7_pay_40 : decode cX7_pay 40 = .ok (.aload_n 1, 1) := by decide +kernel
theorem dX7_pay_41 : decode cX7_pay 41 = .ok (.invokevirtual 33, 3) := by decide +kernel
theorem dX7_pay_44 : decode cX7_pay 44 = .ok (.istore 4, 2) := by decide +kernel
theorem dX7_pay_46 : decode cX7_pay 46 = .ok (.iload 4, 2) := by decide +kernel
theorem dX7_pay_48 : decode cX7_pay 48 = .ok (.invokestatic 37, 3) := by decide +kernel
theorem dX7_pay_51 : decode cX7_pay 51 = .ok (.ifCond .eq 14, 3) := by decide +kernel
theorem dX7_pay_54 : decode cX7_pay 54 = .ok (.aload_n 0, 1) := by decide +kernel
theorem dX7_pay_55 : decode cX7_pay 55 = .ok (.getfield 21, 3) := by decide +kernel
theorem dX7_pay_58 : decode cX7_pay 58 = .ok (.iload 4, 2) := by decide +kernel
theorem dX7_pay_60 : decode cX7_pay 60 = .ok (.dup2, 1) := by decide +kernel
theorem dX7_pay_61 : decode cX7_pay 61 = .ok (.laload, 1) := by decide +kernel
theorem dX7_pay_62 : decode cX7_pay 62 = .ok (.lload_n 2, 1) := by decide +kernel
theorem dX7_pay_63 : decode cX7_pay 63 = .ok (.ladd, 1) := by decide +kernel
theorem dX7_pay_64 : decode cX7_pay 64 = .ok (.lastore, 1) := by decide +kernel
theorem dX7_pay_65 : decode cX7_pay 65 = .ok (.return_, 1) := by decide +kernel
theorem dX8_init_0 : decode cX8_init 0 = .ok (.aload_n 0, 1) := by decide +kernel
theorem dX8_init_1 : decode cX8_init 1 = .ok (.invokespecial 3, 3) := by decide +kernel
theorem dX8_init_4 : decode cX8_init 4 = .ok (.aload_n 0, 1) := by decide +kernel
theorem dX8_init_5 : decode cX8_init 5 = .ok (.lconst 0, 1) := by decide +kernel
theorem dX8_init_6 : decode cX8_init 6 = .ok (.putfield 9, 3) := by decide +kernel
theorem dX8_init_9 : decode cX8_init 9 = .ok (.aload_n 0, 1) := by decide +kernel
theorem dX8_init_10 : decode cX8_init 10 = .ok (.iconst 0, 1) := by decide +kernel
theorem dX8_init_11 : decode cX8_init 11 = .ok (.putfield 15, 3) := by decide +kernel
theorem dX8_init_14 : decode cX8_init 14 = .ok (.aload_n 0, 1) := by decide +kernel
theorem dX8_init_15 : decode cX8_init 15 = .ok (.aload_n 1, 1) := by decide +kernel
theorem dX8_init_16 : decode cX8_init 16 = .ok (.putfield 19, 3) := by decide +kernel
theorem dX8_init_19 : decode cX8_init 19 = .ok (.aload_n 0, 1) := by decide +kernel
theorem dX8_init_20 : decode cX8_init 20 = .ok (.aload_n 2, 1) := by decide +kernel
theorem dX8_init_21 : decode cX8_init 21 = .ok (.putfield 23, 3) := by decide +kernel
theorem dX8_init_24 : decode cX8_init 24 = .ok (.return_, 1) := by decide +kernel
theorem dX8_learn_0 : decode cX8_learn 0 = .ok (.iconst 0, 1) := by decide +kernel
theorem dX8_learn_1 : decode cX8_learn 1 = .ok (.istore_n 3, 1) := by decide +kernel
theorem dX8_learn_2 : decode cX8_learn 2 = .ok (.iload_n 3, 1) := by decide +kernel
theorem dX8_learn_3 : decode cX8_learn 3 = .ok (.aload_n 0, 1) := by decide +kernel
theorem dX8_learn_4 : decode cX8_learn 4 = .ok (.getfield 19, 3) := by decide +kernel
theorem dX8_learn_7 : decode cX8_learn 7 = .ok (.getfield 27, 3) := by decide +kernel
theorem dX8_learn_10 : decode cX8_learn 10 = .ok (.if_icmp .ge 83, 3) := by decide +kernel
theorem dX8_learn_13 : decode cX8_learn 13 = .ok (.aload_n 0, 1) := by decide +kernel
theorem dX8_learn_14 : decode cX8_learn 14 = .ok (.getfield 19, 3) := by decide +kernel
theorem dX8_learn_17 : decode cX8_learn 17 = .ok (.iload_n 3, 1) := by decide +kernel
theorem dX8_learn_18 : decode cX8_learn 18 = .ok (.invokevirtual 30, 3) := by decide +kernel
theorem dX8_learn_21 : decode cX8_learn 21 = .ok (.astore 4, 2) := by decide +kernel
theorem dX8_learn_23 : decode cX8_learn 23 = .ok (.aload 4, 2) := by decide +kernel
theorem dX8_learn_25 : decode cX8_learn 25 = .ok (.ifnonnull 6, 3) := by decide +kernel
theorem dX8_learn_28 : decode cX8_learn 28 = .ok (.goto 59, 3) := by decide +kernel
theorem dX8_learn_31 : decode cX8_learn 31 = .ok (.aload_n 1, 1) := by decide +kernel
theorem dX8_learn_32 : decode cX8_learn 32 = .ok (.aload 4, 2) := by decide +kernel
theorem dX8_learn_34 : decode cX8_learn 34 = .ok (.iload_n 2, 1) := by decide +kernel
theorem dX8_learn_35 : decode cX8_learn 35 = .ok (.invokevirtual 34, 3) := by decide +kernel
theorem dX8_learn_38 : decode cX8_learn 38 = .ok (.istore 5, 2) := by decide +kernel
theorem dX8_learn_40 : decode cX8_learn 40 = .ok (.aload 4, 2) := by decide +kernel
theorem dX8_learn_42 : decode cX8_learn 42 = .ok (.iload 5, 2) := by decide +kernel
theorem dX8_learn_44 : decode cX8_learn 44 = .ok (.iconst (-1), 1) := by decide +kernel
theorem dX8_learn_45 : decode cX8_learn 45 = .ok (.if_icmp .ne 8, 3) := by decide +kernel
theorem dX8_learn_48 : decode cX8_learn 48 = .ok (.ldc 42, 2) := by decide +kernel
theorem dX8_learn_50 : decode cX8_learn 50 = .ok (.goto 10, 3) := by decide +kernel
theorem dX8_learn_53 : decode cX8_learn 53 = .ok (.aload_n 1, 1) := by decide +kernel
theorem dX8_learn_54 : decode cX8_learn 54 = .ok (.iload 5, 2) := by decide +kernel
theorem dX8_learn_56 : decode cX8_learn 56 = .ok (.iload_n 2, 1) := by decide +kernel
theorem dX8_learn_57 : decode cX8_learn 57 = .ok (.invokevirtual 43, 3) := by decide +kernel
theorem dX8_learn_60 : decode cX8_learn 60 = .ok (.putfield 47, 3) := by decide +kernel
theorem dX8_learn_63 : decode cX8_learn 63 = .ok (.aload 4, 2) := by decide +kernel
theorem dX8_learn_65 : decode cX8_learn 65 = .ok (.iload 5, 2) := by decide +kernel
theorem dX8_learn_67 : decode cX8_learn 67 = .ok (.iconst (-1), 1) := by decide +kernel
theorem dX8_learn_68 : decode cX8_learn 68 = .ok (.if_icmp .ne 7, 3) := by decide +kernel
theorem dX8_learn_71 : decode cX8_learn 71 = .ok (.lconst 0, 1) := by decide +kernel
end
section
theorem dX8_learn_72 : decode cX8_learn 72 = .ok (.goto 12, 3) := by decide +kernel
theorem dX8_learn_75 : decode cX8_learn 75 = .ok (.aload_n 1, 1) := by decide +kernel
theorem dX8_learn_76 : decode cX8_learn 76 = .ok (.aload 4, 2) := by decide +kernel
theorem dX8_learn_78 : decode cX8_learn 78 = .ok (.iload 5, 2) := by decide +kernel
theorem dX8_learn_80 : decode cX8_learn 80 = .ok (.iload_n 2, 1) := by decide +kernel
theorem dX8_learn_81 : decode cX8_learn 81 = .ok (.invokevirtual 49, 3) := by decide +kernel
theorem dX8_learn_84 : decode cX8_learn 84 = .ok (.putfield 53, 3) := by decide +kernel
theorem dX8_learn_87 : decode cX8_learn 87 = .ok (.iinc 3 1, 3) := by decide +kernel
theorem dX8_learn_90 : decode cX8_learn 90 = .ok (.goto (-88), 3) := by decide +kernel
theorem dX8_learn_93 : decode cX8_learn 93 = .ok (.return_, 1) := by decide +kernel
theorem dX8_payFor_0 : decode cX8_payFor 0 = .ok (.aload_n 0, 1) := by decide +kernel
theorem dX8_payFor_1 : decode cX8_payFor 1 = .ok (.iload_n 1, 1) := by decide +kernel
theorem dX8_payFor_2 : decode cX8_payFor 2 = .ok (.invokevirtual 55, 3) := by decide +kernel
theorem dX8_payFor_5 : decode cX8_payFor 5 = .ok (.aload_n 0, 1) := by decide +kernel
theorem dX8_payFor_6 : decode cX8_payFor 6 = .ok (.getfield 23, 3) := by decide +kernel
theorem dX8_payFor_9 : decode cX8_payFor 9 = .ok (.getfield 59, 3) := by decide +kernel
theorem dX8_payFor_12 : decode cX8_payFor 12 = .ok (.aload_n 0, 1) := by decide +kernel
theorem dX8_payFor_13 : decode cX8_payFor 13 = .ok (.getfield 9, 3) := by decide +kernel
theorem dX8_payFor_16 : decode cX8_payFor 16 = .ok (.lcmp, 1) := by decide +kernel
theorem dX8_payFor_17 : decode cX8_payFor 17 = .ok (.ifCond .lt 10, 3) := by decide +kernel
theorem dX8_payFor_20 : decode cX8_payFor 20 = .ok (.aload_n 0, 1) := by decide +kernel
theorem dX8_payFor_21 : decode cX8_payFor 21 = .ok (.invokevirtual 64, 3) := by decide +kernel
theorem dX8_payFor_24 : decode cX8_payFor 24 = .ok (.goto 22, 3) := by decide +kernel
theorem dX8_payFor_27 : decode cX8_payFor 27 = .ok (.aload_n 0, 1) := by decide +kernel
theorem dX8_payFor_28 : decode cX8_payFor 28 = .ok (.aload_n 0, 1) := by decide +kernel
theorem dX8_payFor_29 : decode cX8_payFor 29 = .ok (.getfield 23, 3) := by decide +kernel
theorem dX8_payFor_32 : decode cX8_payFor 32 = .ok (.getfield 59, 3) := by decide +kernel
theorem dX8_payFor_35 : decode cX8_payFor 35 = .ok (.aload_n 0, 1) := by decide +kernel
theorem dX8_payFor_36 : decode cX8_payFor 36 = .ok (.getfield 9, 3) := by decide +kernel
theorem dX8_payFor_39 : decode cX8_payFor 39 = .ok (.invokevirtual 67, 3) := by decide +kernel
theorem dX8_payFor_42 : decode cX8_payFor 42 = .ok (.aload_n 0, 1) := by decide +kernel
theorem dX8_payFor_43 : decode cX8_payFor 43 = .ok (.invokevirtual 71, 3) := by decide +kernel
theorem dX8_payFor_46 : decode cX8_payFor 46 = .ok (.aload_n 0, 1) := by decide +kernel
theorem dX8_payFor_47 : decode cX8_payFor 47 = .ok (.invokevirtual 74, 3) := by decide +kernel
theorem dX8_payFor_50 : decode cX8_payFor 50 = .ok (.return_, 1) := by decide +kernel
theorem dX8_call_0 : decode cX8_call 0 = .ok (.aload_n 0, 1) := by decide +kernel
theorem dX8_call_1 : decode cX8_call 1 = .ok (.lconst 0, 1) := by decide +kernel
theorem dX8_call_2 : decode cX8_call 2 = .ok (.putfield 9, 3) := by decide +kernel
theorem dX8_call_5 : decode cX8_call 5 = .ok (.aload_n 0, 1) := by decide +kernel
theorem dX8_call_6 : decode cX8_call 6 = .ok (.iconst 0, 1) := by decide +kernel
theorem dX8_call_7 : decode cX8_call 7 = .ok (.putfield 15, 3) := by decide +kernel
theorem dX8_call_10 : decode cX8_call 10 = .ok (.iconst 0, 1) := by decide +kernel
theorem dX8_call_11 : decode cX8_call 11 = .ok (.istore_n 2, 1) := by decide +kernel
theorem dX8_call_12 : decode cX8_call 12 = .ok (.iload_n 2, 1) := by decide +kernel
theorem dX8_call_13 : decode cX8_call 13 = .ok (.aload_n 0, 1) := by decide +kernel
theorem dX8_call_14 : decode cX8_call 14 = .ok (.getfield 19, 3) := by decide +kernel
theorem dX8_call_17 : decode cX8_call 17 = .ok (.getfield 27, 3) := by decide +kernel
theorem dX8_call_20 : decode cX8_call 20 = .ok (.if_icmp .ge 64, 3) := by decide +kernel
theorem dX8_call_23 : decode cX8_call 23 = .ok (.aload_n 0, 1) := by decide +kernel
theorem dX8_call_24 : decode cX8_call 24 = .ok (.getfield 19, 3) := by decide +kernel
theorem dX8_call_27 : decode cX8_call 27 = .ok (.iload_n 2, 1) := by decide +kernel
theorem dX8_call_28 : decode cX8_call 28 = .ok (.invokevirtual 30, 3) := by decide +kernel
theorem dX8_call_31 : decode cX8_call 31 = .ok (.astore_n 3, 1) := by decide +kernel
theorem dX8_call_32 : decode cX8_call 32 = .ok (.aload_n 3, 1) := by decide +kernel
theorem dX8_call_33 : decode cX8_call 33 = .ok (.ifnonnull 6, 3) := by decide +kernel
theorem dX8_call_36 : decode cX8_call 36 = .ok (.goto 42, 3) := by decide +kernel
theorem dX8_call_39 : decode cX8_call 39 = .ok (.aload_n 3, 1) := by decide +kernel
theorem dX8_call_40 : decode cX8_call 40 = .ok (.iload_n 1, 1) := by decide +kernel
theorem dX8_call_41 : decode cX8_call 41 = .ok (.invokevirtual 77, 3) := by decide +kernel
theorem dX8_call_44 : decode cX8_call 44 = .ok (.aload_n 0, 1) := by decide +kernel
theorem dX8_call_45 : decode cX8_call 45 = .ok (.dup, 1) := by decide +kernel
theorem dX8_call_46 : decode cX8_call 46 = .ok (.getfield 9, 3) := by decide +kernel
theorem dX8_call_49 : decode cX8_call 49 = .ok (.aload_n 3, 1) := by decide +kernel
theorem dX8_call_50 : decode cX8_call 50 = .ok (.getfield 80, 3) := by decide +kernel
theorem dX8_call_53 : decode cX8_call 53 = .ok (.ladd, 1) := by decide +kernel
theorem dX8_call_54 : decode cX8_call 54 = .ok (.putfield 9, 3) := by decide +kernel
theorem dX8_call_57 : decode cX8_call 57 = .ok (.aload_n 0, 1) := by decide +kernel
theorem dX8_call_58 : decode cX8_call 58 = .ok (.dup, 1) := by decide +kernel
theorem dX8_call_59 : decode cX8_call 59 = .ok (.getfield 15, 3) := by decide +kernel
theorem dX8_call_62 : decode cX8_call 62 = .ok (.aload_n 3, 1) := by decide +kernel
theorem dX8_call_63 : decode cX8_call 63 = .ok (.getfield 81, 3) := by decide +kernel
theorem dX8_call_66 : decode cX8_call 66 = .ok (.ifCond .eq 7, 3) := by decide +kernel
theorem dX8_call_69 : decode cX8_call 69 = .ok (.iconst 1, 1) := by decide +kernel
theorem dX8_call_70 : decode cX8_call 70 = .ok (.goto 4, 3) := by decide +kernel
theorem dX8_call_73 : decode cX8_call 73 = .ok (.iconst 0, 1) := by decide +kernel
theorem dX8_call_74 : decode cX8_call 74 = .ok (.iadd, 1) := by decide +kernel
theorem dX8_call_75 : decode cX8_call 75 = .ok (.putfield 15, 3) := by decide +kernel
theorem dX8_call_78 : decode cX8_call 78 = .ok (.iinc 2 1, 3) := by decide +kernel
theorem dX8_call_81 : decode cX8_call 81 = .ok (.goto (-69), 3) := by decide +kernel
theorem dX8_call_84 : decode cX8_call 84 = .ok (.return_, 1) := by decide +kernel
theorem dX8_payWhole_0 : decode cX8_payWhole 0 = .ok (.iconst 0, 1) := by decide +kernel
theorem dX8_payWhole_1 : decode cX8_payWhole 1 = .ok (.istore_n 1, 1) := by decide +kernel
theorem dX8_payWhole_2 : decode cX8_payWhole 2 = .ok (.iload_n 1, 1) := by decide +kernel
theorem dX8_payWhole_3 : decode cX8_payWhole 3 = .ok (.aload_n 0, 1) := by decide +kernel
theorem dX8_payWhole_4 : decode cX8_payWhole 4 = .ok (.getfield 19, 3) := by decide +kernel
theorem dX8_payWhole_7 : decode cX8_payWhole 7 = .ok (.getfield 27, 3) := by decide +kernel
theorem dX8_payWhole_10 : decode cX8_payWhole 10 = .ok (.if_icmp .ge 31, 3) := by decide +kernel
theorem dX8_payWhole_13 : decode cX8_payWhole 13 = .ok (.aload_n 0, 1) := by decide +kernel
theorem dX8_payWhole_14 : decode cX8_payWhole 14 = .ok (.getfield 19, 3) := by decide +kernel
theorem dX8_payWhole_17 : decode cX8_payWhole 17 = .ok (.iload_n 1, 1) := by decide +kernel
theorem dX8_payWhole_18 : decode cX8_payWhole 18 = .ok (.invokevirtual 30, 3) := by decide +kernel
theorem dX8_payWhole_21 : decode cX8_payWhole 21 = .ok (.astore_n 2, 1) := by decide +kernel
theorem dX8_payWhole_22 : decode cX8_payWhole 22 = .ok (.aload_n 2, 1) := by decide +kernel
theorem dX8_payWhole_23 : decode cX8_payWhole 23 = .ok (.ifnull 12, 3) := by decide +kernel
theorem dX8_payWhole_26 : decode cX8_payWhole 26 = .ok (.aload_n 0, 1) := by decide +kernel
theorem dX8_payWhole_27 : decode cX8_payWhole 27 = .ok (.aload_n 2, 1) := by decide +kernel
theorem dX8_payWhole_28 : decode cX8_payWhole 28 = .ok (.aload_n 2, 1) := by decide +kernel
theorem dX8_payWhole_29 : decode cX8_payWhole 29 = .ok (.getfield 80, 3) := by decide +kernel
theorem dX8_payWhole_32 : decode cX8_payWhole 32 = .ok (.invokevirtual 85, 3) := by decide +kernel
theorem dX8_payWhole_35 : decode cX8_payWhole 35 = .ok (.iinc 1 1, 3) := by decide +kernel
theorem dX8_payWhole_38 : decode cX8_payWhole 38 = .ok (.goto (-36), 3) := by decide +kernel
theorem dX8_payWhole_41 : decode cX8_payWhole 41 = .ok (.return_, 1) := by decide +kernel
theorem dX8_payShares_0 : decode cX8_payShares 0 = .ok (.iconst 0, 1) := by decide +kernel
theorem dX8_payShares_1 : decode cX8_payShares 1 = .ok (.istore 5, 2) := by decide +kernel
theorem dX8_payShares_3 : decode cX8_payShares 3 = .ok (.iload 5, 2) := by decide +kernel
theorem dX8_payShares_5 : decode cX8_payShares 5 = .ok (.aload_n 0, 1) := by decide +kernel
theorem dX8_payShares_6 : decode cX8_payShares 6 = .ok (.getfield 19, 3) := by decide +kernel
theorem dX8_payShares_9 : decode cX8_payShares 9 = .ok (.getfield 27, 3) := by decide +kernel
theorem dX8_payShares_12 : decode cX8_payShares 12 = .ok (.if_icmp .ge 46, 3) := by decide +kernel
theorem dX8_payShares_15 : decode cX8_payShares 15 = .ok (.aload_n 0, 1) := by decide +kernel
theorem dX8_payShares_16 : decode cX8_payShares 16 = .ok (.getfield 19, 3) := by decide +kernel
theorem dX8_payShares_19 : decode cX8_payShares 19 = .ok (.iload 5, 2) := by decide +kernel
theorem dX8_payShares_21 : decode cX8_payShares 21 = .ok (.invokevirtual 30, 3) := by decide +kernel
theorem dX8_payShares_24 : decode cX8_payShares 24 = .ok (.astore 6, 2) := by decide +kernel
theorem dX8_payShares_26 : decode cX8_payShares 26 = .ok (.aload 6, 2) := by decide +kernel
theorem dX8_payShares_28 : decode cX8_payShares 28 = .ok (.ifnull 24, 3) := by decide +kernel
theorem dX8_payShares_31 : decode cX8_payShares 31 = .ok (.lload_n 3, 1) := by decide +kernel
theorem dX8_payShares_32 : decode cX8_payShares 32 = .ok (.lconst 0, 1) := by decide +kernel
theorem dX8_payShares_33 : decode cX8_payShares 33 = .ok (.lcmp, 1) := by decide +kernel
theorem dX8_payShares_34 : decode cX8_payShares 34 = .ok (.ifCond .le 18, 3) := by decide +kernel
theorem dX8_payShares_37 : decode cX8_payShares 37 = .ok (.aload_n 0, 1) := by decide +kernel
theorem dX8_payShares_38 : decode cX8_payShares 38 = .ok (.aload 6, 2) := by decide +kernel
theorem dX8_payShares_40 : decode cX8_payShares 40 = .ok (.aload 6, 2) := by decide +kernel
theorem dX8_payShares_42 : decode cX8_payShares 42 = .ok (.getfield 80, 3) := by decide +kernel
theorem dX8_payShares_45 : decode cX8_payShares 45 = .ok (.lload_n 1, 1) := by decide +kernel
theorem dX8_payShares_46 : decode cX8_payShares 46 = .ok (.lmul, 1) := by decide +kernel
theorem dX8_payShares_47 : decode cX8_payShares 47 = .ok (.lload_n 3, 1) := by decide +kernel
theorem dX8_payShares_48 : decode cX8_payShares 48 = .ok (.ldiv, 1) := by decide +kernel
theorem dX8_payShares_49 : decode cX8_payShares 49 = .ok (.invokevirtual 85, 3) := by decide +kernel
theorem dX8_payShares_52 : decode cX8_payShares 52 = .ok (.iinc 5 1, 3) := by decide +kernel
theorem dX8_payShares_55 : decode cX8_payShares 55 = .ok (.goto (-52), 3) := by decide +kernel
theorem dX8_payShares_58 : decode cX8_payShares 58 = .ok (.return_, 1) := by decide +kernel
theorem dX8_payLeftOver_0 : decode cX8_payLeftOver 0 = .ok (.iconst 0, 1) := by decide +kernel
theorem dX8_payLeftOver_1 : decode cX8_payLeftOver 1 = .ok (.istore_n 1, 1) := by decide +kernel
theorem dX8_payLeftOver_2 : decode cX8_payLeftOver 2 = .ok (.iload_n 1, 1) := by decide +kernel
theorem dX8_payLeftOver_3 : decode cX8_payLeftOver 3 = .ok (.aload_n 0, 1) := by decide +kernel
theorem dX8_payLeftOver_4 : decode cX8_payLeftOver 4 = .ok (.getfield 19, 3) := by decide +kernel
theorem dX8_payLeftOver_7 : decode cX8_payLeftOver 7 = .ok (.getfield 27, 3) := by decide +kernel
theorem dX8_payLeftOver_10 : decode cX8_payLeftOver 10 = .ok (.if_icmp .ge 34, 3) := by decide +kernel
theorem dX8_payLeftOver_13 : decode cX8_payLeftOver 13 = .ok (.aload_n 0, 1) := by decide +kernel
theorem dX8_payLeftOver_14 : decode cX8_payLeftOver 14 = .ok (.getfield 23, 3) := by decide +kernel
theorem dX8_payLeftOver_17 : decode cX8_payLeftOver 17 = .ok (.getfield 59, 3) := by decide +kernel
theorem dX8_payLeftOver_20 : decode cX8_payLeftOver 20 = .ok (.lconst 0, 1) := by decide +kernel
theorem dX8_payLeftOver_21 : decode cX8_payLeftOver 21 = .ok (.lcmp, 1) := by decide +kernel
theorem dX8_payLeftOver_22 : decode cX8_payLeftOver 22 = .ok (.ifCond .le 22, 3) := by decide +kernel
theorem dX8_payLeftOver_25 : decode cX8_payLeftOver 25 = .ok (.aload_n 0, 1) := by decide +kernel
theorem dX8_payLeftOver_26 : decode cX8_payLeftOver 26 = .ok (.aload_n 0, 1) := by decide +kernel
theorem dX8_payLeftOver_27 : decode cX8_payLeftOver 27 = .ok (.getfield 19, 3) := by decide +kernel
theorem dX8_payLeftOver_30 : decode cX8_payLeftOver 30 = .ok (.iload_n 1, 1) := by decide +kernel
theorem dX8_payLeftOver_31 : decode cX8_payLeftOver 31 = .ok (.invokevirtual 30, 3) := by decide +kernel
theorem dX8_payLeftOver_34 : decode cX8_payLeftOver 34 = .ok (.lconst 1, 1) := by decide +kernel
theorem dX8_payLeftOver_35 : decode cX8_payLeftOver 35 = .ok (.invokevirtual 85, 3) := by decide +kernel
theorem dX8_payLeftOver_38 : decode cX8_payLeftOver 38 = .ok (.iinc 1 1, 3) := by decide +kernel
theorem dX8_payLeftOver_41 : decode cX8_payLeftOver 41 = .ok (.goto (-39), 3) := by decide +kernel
theorem dX8_payLeftOver_44 : decode cX8_payLeftOver 44 = .ok (.return_, 1) := by decide +kernel
theorem dX8_payTo_0 : decode cX8_payTo 0 = .ok (.aload_n 1, 1) := by decide +kernel
theorem dX8_payTo_1 : decode cX8_payTo 1 = .ok (.ifnull 10, 3) := by decide +kernel
theorem dX8_payTo_4 : decode cX8_payTo 4 = .ok (.aload_n 1, 1) := by decide +kernel
theorem dX8_payTo_5 : decode cX8_payTo 5 = .ok (.getfield 81, 3) := by decide +kernel
theorem dX8_payTo_8 : decode cX8_payTo 8 = .ok (.ifCond .ne 4, 3) := by decide +kernel
theorem dX8_payTo_11 : decode cX8_payTo 11 = .ok (.return_, 1) := by decide +kernel
theorem dX8_payTo_12 : decode cX8_payTo 12 = .ok (.lload_n 2, 1) := by decide +kernel
theorem dX8_payTo_13 : decode cX8_payTo 13 = .ok (.aload_n 1, 1) := by decide +kernel
theorem dX8_payTo_14 : decode cX8_payTo 14 = .ok (.getfield 80, 3) := by decide +kernel
theorem dX8_payTo_17 : decode cX8_payTo 17 = .ok (.invokestatic 89, 3) := by decide +kernel
theorem dX8_payTo_20 : decode cX8_payTo 20 = .ok (.lstore 4, 2) := by decide +kernel
theorem dX8_payTo_22 : decode cX8_payTo 22 = .ok (.aload_n 0, 1) := by decide +kernel
theorem dX8_payTo_23 : decode cX8_payTo 23 = .ok (.getfield 23, 3) := by decide +kernel
theorem dX8_payTo_26 : decode cX8_payTo 26 = .ok (.aload_n 1, 1) := by decide +kernel
theorem dX8_payTo_27 : decode cX8_payTo 27 = .ok (.lload 4, 2) := by decide +kernel
theorem dX8_payTo_29 : decode cX8_payTo 29 = .ok (.invokevirtual 95, 3) := by decide +kernel
theorem dX8_payTo_32 : decode cX8_payTo 32 = .ok (.aload_n 0, 1) := by decide +kernel
theorem dX8_payTo_33 : decode cX8_payTo 33 = .ok (.dup, 1) := by decide +kernel
theorem dX8_payTo_34 : decode cX8_payTo 34 = .ok (.getfield 9, 3) := by decide +kernel
theorem dX8_payTo_37 : decode cX8_payTo 37 = .ok (.lload 4, 2) := by decide +kernel
theorem dX8_payTo_39 : decode cX8_payTo 39 = .ok (.lsub, 1) := by decide +kernel
theorem dX8_payTo_40 : decode cX8_payTo 40 = .ok (.putfield 9, 3) := by decide +kernel
theorem dX8_payTo_43 : decode cX8_payTo 43 = .ok (.return_, 1) := by decide +kernel
theorem dX8_close_0 : decode cX8_close 0 = .ok (.iconst 0, 1) := by decide +kernel
theorem dX8_close_1 : decode cX8_close 1 = .ok (.istore_n 1, 1) := by decide +kernel
theorem dX8_close_2 : decode cX8_close 2 = .ok (.iload_n 1, 1) := by decide +kernel
theorem dX8_close_3 : decode cX8_close 3 = .ok (.aload_n 0, 1) := by decide +kernel
theorem dX8_close_4 : decode cX8_close 4 = .ok (.getfield 19, 3) := by decide +kernel
theorem dX8_close_7 : decode cX8_close 7 = .ok (.getfield 27, 3) := by decide +kernel
theorem dX8_close_10 : decode cX8_close 10 = .ok (.if_icmp .ge 43, 3) := by decide +kernel
theorem dX8_close_13 : decode cX8_close 13 = .ok (.aload_n 0, 1) := by decide +kernel
theorem dX8_close_14 : decode cX8_close 14 = .ok (.getfield 19, 3) := by decide +kernel
theorem dX8_close_17 : decode cX8_close 17 = .ok (.iload_n 1, 1) := by decide +kernel
theorem dX8_close_18 : decode cX8_close 18 = .ok (.invokevirtual 30, 3) := by decide +kernel
theorem dX8_close_21 : decode cX8_close 21 = .ok (.astore_n 2, 1) := by decide +kernel
theorem dX8_close_22 : decode cX8_close 22 = .ok (.aload_n 2, 1) := by decide +kernel
theorem dX8_close_23 : decode cX8_close 23 = .ok (.ifnull 24, 3) := by decide +kernel
theorem dX8_close_26 : decode cX8_close 26 = .ok (.aload_n 2, 1) := by decide +kernel
theorem dX8_close_27 : decode cX8_close 27 = .ok (.getfield 81, 3) := by decide +kernel
theorem dX8_close_30 : decode cX8_close 30 = .ok (.ifCond .eq 17, 3) := by decide +kernel
theorem dX8_close_33 : decode cX8_close 33 = .ok (.aload_n 2, 1) := by decide +kernel
theorem dX8_close_34 : decode cX8_close 34 = .ok (.getfield 80, 3) := by decide +kernel
theorem dX8_close_37 : decode cX8_close 37 = .ok (.lconst 0, 1) := by decide +kernel
theorem dX8_close_38 : decode cX8_close 38 = .ok (.lcmp, 1) := by decide +kernel
theorem dX8_close_39 : decode cX8_close 39 = .ok (.ifCond .ne 8, 3) := by decide +kernel
theorem dX8_close_42 : decode cX8_close 42 = .ok (.aload_n 2, 1) := by decide +kernel
theorem dX8_close_43 : decode cX8_close 43 = .ok (.iconst 1, 1) := by decide +kernel
theorem dX8_close_44 : decode cX8_close 44 = .ok (.putfield 98, 3) := by decide +kernel
theorem dX8_close_47 : decode cX8_close 47 = .ok (.iinc 1 1, 3) := by decide +kernel
theorem dX8_close_50 : decode cX8_close 50 = .ok (.goto (-48), 3) := by decide +kernel
theorem dX8_close_53 : decode cX8_close 53 = .ok (.return_, 1) := by decide +kernel
theorem dX9_init_0 : decode cX9_init 0 = .ok (.aload_n 0, 1) := by decide +kernel
theorem dX9_init_1 : decode cX9_init 1 = .ok (.invokespecial 1, 3) := by decide +kernel
theorem dX9_init_4 : decode cX9_init 4 = .ok (.aload_n 0, 1) := by decide +kernel
theorem dX9_init_5 : decode cX9_init 5 = .ok (.bipush 30, 2) := by decide +kernel
theorem dX9_init_7 : decode cX9_init 7 = .ok (.newarray .int, 2) := by decide +kernel
theorem dX9_init_9 : decode cX9_init 9 = .ok (.putfield 9, 3) := by decide +kernel
theorem dX9_init_12 : decode cX9_init 12 = .ok (.aload_n 0, 1) := by decide +kernel
theorem dX9_init_13 : decode cX9_init 13 = .ok (.iconst 0, 1) := by decide +kernel
theorem dX9_init_14 : decode cX9_init 14 = .ok (.putfield 13, 3) := by decide +kernel
theorem dX9_init_17 : decode cX9_init 17 = .ok (.return_, 1) := by decide +kernel
theorem dX9_isFull_0 : decode cX9_isFull 0 = .ok (.aload_n 0, 1) := by decide +kernel
theorem dX9_isFull_1 : decode cX9_isFull 1 = .ok (.getfield 13, 3) := by decide +kernel
theorem dX9_isFull_4 : decode cX9_isFull 4 = .ok (.bipush 30, 2) := by decide +kernel
theorem dX9_isFull_6 : decode cX9_isFull 6 = .ok (.if_icmp .lt 7, 3) := by decide +kernel
theorem dX9_isFull_9 : decode cX9_isFull 9 = .ok (.iconst 1, 1) := by decide +kernel
theorem dX9_isFull_10 : decode cX9_isFull 10 = .ok (.goto 4, 3) := by decide +kernel
theorem dX9_isFull_13 : decode cX9_isFull 13 = .ok (.iconst 0, 1) := by decide +kernel
theorem dX9_isFull_14 : decode cX9_isFull 14 = .ok (.ireturn, 1) := by decide +kernel
theorem dX9_add_0 : decode cX9_add 0 = .ok (.aload_n 0, 1) := by decide +kernel
theorem dX9_add_1 : decode cX9_add 1 = .ok (.invokevirtual 17, 3) := by decide +kernel
theorem dX9_add_4 : decode cX9_add 4 = .ok (.ifCond .eq 4, 3) := by decide +kernel
theorem dX9_add_7 : decode cX9_add 7 = .ok (.return_, 1) := by decide +kernel
theorem dX9_add_8 : decode cX9_add 8 = .ok (.aload_n 0, 1) := by decide +kernel
theorem dX9_add_9 : decode cX9_add 9 = .ok (.getfield 9, 3) := by decide +kernel
theorem dX9_add_12 : decode cX9_add 12 = .ok (.aload_n 0, 1) := by decide +kernel
theorem dX9_add_13 : decode cX9_add 13 = .ok (.getfield 13, 3) := by decide +kernel
theorem dX9_add_16 : decode cX9_add 16 = .ok (.iload_n 1, 1) := by decide +kernel
theorem dX9_add_17 : decode cX9_add 17 = .ok (.iastore, 1) := by decide +kernel
theorem dX9_add_18 : decode cX9_add 18 = .ok (.aload_n 0, 1) := by decide +kernel
theorem dX9_add_19 : decode cX9_add 19 = .ok (.dup, 1) := by decide +kernel
theorem dX9_add_20 : decode cX9_add 20 = .ok (.getfield 13, 3) := by decide +kernel
theorem dX9_add_23 : decode cX9_add 23 = .ok (.iconst 1, 1) := by decide +kernel
theorem dX9_add_24 : decode cX9_add 24 = .ok (.iadd, 1) := by decide +kernel
theorem dX9_add_25 : decode cX9_add 25 = .ok (.putfield 13, 3) := by decide +kernel
theorem dX9_add_28 : decode cX9_add 28 = .ok (.return_, 1) := by decide +kernel
theorem dX10_init_0 : decode cX10_init 0 = .ok (.aload_n 0, 1) := by decide +kernel
theorem dX10_init_1 : decode cX10_init 1 = .ok (.invokespecial 1, 3) := by decide +kernel
theorem dX10_init_4 : decode cX10_init 4 = .ok (.aload_n 0, 1) := by decide +kernel
theorem dX10_init_5 : decode cX10_init 5 = .ok (.new 7, 3) := by decide +kernel
theorem dX10_init_8 : decode cX10_init 8 = .ok (.dup, 1) := by decide +kernel
theorem dX10_init_9 : decode cX10_init 9 = .ok (.invokespecial 9, 3) := by decide +kernel
theorem dX10_init_12 : decode cX10_init 12 = .ok (.putfield 10, 3) := by decide +kernel
theorem dX10_init_15 : decode cX10_init 15 = .ok (.aload_n 0, 1) := by decide +kernel
theorem dX10_init_16 : decode cX10_init 16 = .ok (.new 16, 3) := by decide +kernel
theorem dX10_init_19 : decode cX10_init 19 = .ok (.dup, 1) := by decide +kernel
theorem dX10_init_20 : decode cX10_init 20 = .ok (.invokespecial 18, 3) := by decide +kernel
theorem dX10_init_23 : decode cX10_init 23 = .ok (.putfield 19, 3) := by decide +kernel
theorem dX10_init_26 : decode cX10_init 26 = .ok (.aload_n 0, 1) := by decide +kernel
theorem dX10_init_27 : decode cX10_init 27 = .ok (.bipush 21, 2) := by decide +kernel
theorem dX10_init_29 : decode cX10_init 29 = .ok (.newarray .int, 2) := by decide +kernel
theorem dX10_init_31 : decode cX10_init 31 = .ok (.putfield 23, 3) := by decide +kernel
theorem dX10_init_34 : decode cX10_init 34 = .ok (.aload_n 0, 1) := by decide +kernel
theorem dX10_init_35 : decode cX10_init 35 = .ok (.getfield 23, 3) := by decide +kernel
theorem dX10_init_38 : decode cX10_init 38 = .ok (.bipush 100, 2) := by decide +kernel
theorem dX10_init_40 : decode cX10_init 40 = .ok (.invokestatic 27, 3) := by decide +kernel
theorem dX10_init_43 : decode cX10_init 43 = .ok (.aload_n 0, 1) := by decide +kernel
theorem dX10_init_44 : decode cX10_init 44 = .ok (.new 33, 3) := by decide +kernel
theorem dX10_init_47 : decode cX10_init 47 = .ok (.dup, 1) := by decide +kernel
theorem dX10_init_48 : decode cX10_init 48 = .ok (.invokespecial 35, 3) := by decide +kernel
theorem dX10_init_51 : decode cX10_init 51 = .ok (.putfield 36, 3) := by decide +kernel
theorem dX10_init_54 : decode cX10_init 54 = .ok (.aload_n 0, 1) := by decide +kernel
theorem dX10_init_55 : decode cX10_init 55 = .ok (.new 40, 3) := by decide +kernel
theorem dX10_init_58 : decode cX10_init 58 = .ok (.dup, 1) := by decide +kernel
theorem dX10_init_59 : decode cX10_init 59 = .ok (.invokespecial 42, 3) := by decide +kernel
theorem dX10_init_62 : decode cX10_init 62 = .ok (.putfield 43, 3) := by decide +kernel
theorem dX10_init_65 : decode cX10_init 65 = .ok (.aload_n 0, 1) := by decide +kernel
theorem dX10_init_66 : decode cX10_init 66 = .ok (.new 47, 3) := by decide +kernel
theorem dX10_init_69 : decode cX10_init 69 = .ok (.dup, 1) := by decide +kernel
theorem dX10_init_70 : decode cX10_init 70 = .ok (.aload_n 0, 1) := by decide +kernel
theorem dX10_init_71 : decode cX10_init 71 = .ok (.getfield 19, 3) := by decide +kernel
theorem dX10_init_74 : decode cX10_init 74 = .ok (.aload_n 0, 1) := by decide +kernel
theorem dX10_init_75 : decode cX10_init 75 = .ok (.getfield 36, 3) := by decide +kernel
theorem dX10_init_78 : decode cX10_init 78 = .ok (.invokespecial 49, 3) := by decide +kernel
theorem dX10_init_81 : decode cX10_init 81 = .ok (.putfield 52, 3) := by decide +kernel
theorem dX10_init_84 : decode cX10_init 84 = .ok (.aload_n 0, 1) := by decide +kernel
theorem dX10_init_85 : decode cX10_init 85 = .ok (.new 56, 3) := by decide +kernel
theorem dX10_init_88 : decode cX10_init 88 = .ok (.dup, 1) := by decide +kernel
theorem dX10_init_89 : decode cX10_init 89 = .ok (.invokespecial 58, 3) := by decide +kernel
theorem dX10_init_92 : decode cX10_init 92 = .ok (.putfield 59, 3) := by decide +kernel
theorem dX10_init_95 : decode cX10_init 95 = .ok (.aload_n 0, 1) := by decide +kernel
theorem dX10_init_96 : decode cX10_init 96 = .ok (.new 63, 3) := by decide +kernel
theorem dX10_init_99 : decode cX10_init 99 = .ok (.dup, 1) := by decide +kernel
theorem dX10_init_100 : decode cX10_init 100 = .ok (.aload_n 0, 1) := by decide +kernel
theorem dX10_init_101 : decode cX10_init 101 = .ok (.getfield 43, 3) := by decide +kernel
theorem dX10_init_104 : decode cX10_init 104 = .ok (.aload_n 0, 1) := by decide +kernel
theorem dX10_init_105 : decode cX10_init 105 = .ok (.getfield 59, 3) := by decide +kernel
theorem dX10_init_108 : decode cX10_init 108 = .ok (.invokespecial 65, 3) := by decide +kernel
theorem dX10_init_111 : decode cX10_init 111 = .ok (.putfield 68, 3) := by decide +kernel
theorem dX10_init_114 : decode cX10_init 114 = .ok (.aload_n 0, 1) := by decide +kernel
theorem dX10_init_115 : decode cX10_init 115 = .ok (.new 72, 3) := by decide +kernel
theorem dX10_init_118 : decode cX10_init 118 = .ok (.dup, 1) := by decide +kernel
theorem dX10_init_119 : decode cX10_init 119 = .ok (.invokespecial 74, 3) := by decide +kernel
theorem dX10_init_122 : decode cX10_init 122 = .ok (.putfield 75, 3) := by decide +kernel
theorem dX10_init_125 : decode cX10_init 125 = .ok (.aload_n 0, 1) := by decide +kernel
theorem dX10_init_126 : decode cX10_init 126 = .ok (.new 79, 3) := by decide +kernel
theorem dX10_init_129 : decode cX10_init 129 = .ok (.dup, 1) := by decide +kernel
theorem dX10_init_130 : decode cX10_init 130 = .ok (.invokespecial 81, 3) := by decide +kernel
theorem dX10_init_133 : decode cX10_init 133 = .ok (.putfield 82, 3) := by decide +kernel
theorem dX10_init_136 : decode cX10_init 136 = .ok (.aload_n 0, 1) := by decide +kernel
theorem dX10_init_137 : decode cX10_init 137 = .ok (.iconst 0, 1) := by decide +kernel
theorem dX10_init_138 : decode cX10_init 138 = .ok (.putfield 86, 3) := by decide +kernel
theorem dX10_init_141 : decode cX10_init 141 = .ok (.return_, 1) := by decide +kernel
theorem dX10_months_0 : decode cX10_months 0 = .ok (.iload_n 1, 1) := by decide +kernel
theorem dX10_months_1 : decode cX10_months 1 = .ok (.iconst 1, 1) := by decide +kernel
theorem dX10_months_2 : decode cX10_months 2 = .ok (.sipush 240, 3) := by decide +kernel
theorem dX10_months_5 : decode cX10_months 5 = .ok (.invokestatic 90, 3) := by decide +kernel
theorem dX10_months_8 : decode cX10_months 8 = .ok (.ifCond .eq 15, 3) := by decide +kernel
theorem dX10_months_11 : decode cX10_months 11 = .ok (.aload_n 0, 1) := by decide +kernel
theorem dX10_months_12 : decode cX10_months 12 = .ok (.getfield 86, 3) := by decide +kernel
theorem dX10_months_15 : decode cX10_months 15 = .ok (.iload_n 1, 1) := by decide +kernel
theorem dX10_months_16 : decode cX10_months 16 = .ok (.iadd, 1) := by decide +kernel
theorem dX10_months_17 : decode cX10_months 17 = .ok (.sipush 1199, 3) := by decide +kernel
theorem dX10_months_20 : decode cX10_months 20 = .ok (.if_icmp .le 12, 3) := by decide +kernel
theorem dX10_months_23 : decode cX10_months 23 = .ok (.aload_n 0, 1) := by decide +kernel
theorem dX10_months_24 : decode cX10_months 24 = .ok (.getfield 10, 3) := by decide +kernel
theorem dX10_months_27 : decode cX10_months 27 = .ok (.iconst 1, 1) := by decide +kernel
theorem dX10_months_28 : decode cX10_months 28 = .ok (.invokevirtual 94, 3) := by decide +kernel
theorem dX10_months_31 : decode cX10_months 31 = .ok (.lreturn, 1) := by decide +kernel
theorem dX10_months_32 : decode cX10_months 32 = .ok (.aload_n 0, 1) := by decide +kernel
theorem dX10_months_33 : decode cX10_months 33 = .ok (.getfield 68, 3) := by decide +kernel
theorem dX10_months_36 : decode cX10_months 36 = .ok (.aload_n 0, 1) := by decide +kernel
theorem dX10_months_37 : decode cX10_months 37 = .ok (.getfield 52, 3) := by decide +kernel
theorem dX10_months_40 : decode cX10_months 40 = .ok (.aload_n 0, 1) := by decide +kernel
theorem dX10_months_41 : decode cX10_months 41 = .ok (.getfield 86, 3) := by decide +kernel
theorem dX10_months_44 : decode cX10_months 44 = .ok (.invokevirtual 98, 3) := by decide +kernel
theorem dX10_months_47 : decode cX10_months 47 = .ok (.iconst 0, 1) := by decide +kernel
theorem dX10_months_48 : decode cX10_months 48 = .ok (.istore_n 2, 1) := by decide +kernel
theorem dX10_months_49 : decode cX10_months 49 = .ok (.iload_n 2, 1) := by decide +kernel
theorem dX10_months_50 : decode cX10_months 50 = .ok (.iload_n 1, 1) := by decide +kernel
theorem dX10_months_51 : decode cX10_months 51 = .ok (.if_icmp .ge 30, 3) := by decide +kernel
theorem dX10_months_54 : decode cX10_months 54 = .ok (.aload_n 0, 1) := by decide +kernel
theorem dX10_months_55 : decode cX10_months 55 = .ok (.getfield 68, 3) := by decide +kernel
theorem dX10_months_58 : decode cX10_months 58 = .ok (.aload_n 0, 1) := by decide +kernel
theorem dX10_months_59 : decode cX10_months 59 = .ok (.getfield 86, 3) := by decide +kernel
theorem dX10_months_62 : decode cX10_months 62 = .ok (.invokevirtual 102, 3) := by decide +kernel
theorem dX10_months_65 : decode cX10_months 65 = .ok (.aload_n 0, 1) := by decide +kernel
theorem dX10_months_66 : decode cX10_months 66 = .ok (.dup, 1) := by decide +kernel
theorem dX10_months_67 : decode cX10_months 67 = .ok (.getfield 86, 3) := by decide +kernel
theorem dX10_months_70 : decode cX10_months 70 = .ok (.iconst 1, 1) := by decide +kernel
theorem dX10_months_71 : decode cX10_months 71 = .ok (.iadd, 1) := by decide +kernel
theorem dX10_months_72 : decode cX10_months 72 = .ok (.putfield 86, 3) := by decide +kernel
theorem dX10_months_75 : decode cX10_months 75 = .ok (.iinc 2 1, 3) := by decide +kernel
theorem dX10_months_78 : decode cX10_months 78 = .ok (.goto (-29), 3) := by decide +kernel
theorem dX10_months_81 : decode cX10_months 81 = .ok (.aload_n 0, 1) := by decide +kernel
theorem dX10_months_82 : decode cX10_months 82 = .ok (.getfield 86, 3) := by decide +kernel
theorem dX10_months_85 : decode cX10_months 85 = .ok (.i2l, 1) := by decide +kernel
theorem dX10_months_86 : decode cX10_months 86 = .ok (.lreturn, 1) := by decide +kernel
theorem dX10_decree_0 : decode cX10_decree 0 = .ok (.iload_n 1, 1) := by decide +kernel
theorem dX10_decree_1 : decode cX10_decree 1 = .ok (.invokestatic 106, 3) := by decide +kernel
theorem dX10_decree_4 : decode cX10_decree 4 = .ok (.ifCond .eq 18, 3) := by decide +kernel
theorem dX10_decree_7 : decode cX10_decree 7 = .ok (.iload_n 2, 1) := by decide +kernel
theorem dX10_decree_8 : decode cX10_decree 8 = .ok (.invokestatic 110, 3) := by decide +kernel
theorem dX10_decree_11 : decode cX10_decree 11 = .ok (.ifCond .eq 11, 3) := by decide +kernel
theorem dX10_decree_14 : decode cX10_decree 14 = .ok (.iload_n 1, 1) := by decide +kernel
theorem dX10_decree_15 : decode cX10_decree 15 = .ok (.iload_n 3, 1) := by decide +kernel
theorem dX10_decree_16 : decode cX10_decree 16 = .ok (.invokestatic 113, 3) := by decide +kernel
theorem dX10_decree_19 : decode cX10_decree 19 = .ok (.ifCond .ne 12, 3) := by decide +kernel
theorem dX10_decree_22 : decode cX10_decree 22 = .ok (.aload_n 0, 1) := by decide +kernel
theorem dX10_decree_23 : decode cX10_decree 23 = .ok (.getfield 10, 3) := by decide +kernel
theorem dX10_decree_26 : decode cX10_decree 26 = .ok (.iconst 1, 1) := by decide +kernel
theorem dX10_decree_27 : decode cX10_decree 27 = .ok (.invokevirtual 94, 3) := by decide +kernel
theorem dX10_decree_30 : decode cX10_decree 30 = .ok (.lreturn, 1) := by decide +kernel
theorem dX10_decree_31 : decode cX10_decree 31 = .ok (.aload_n 0, 1) := by decide +kernel
theorem dX10_decree_32 : decode cX10_decree 32 = .ok (.getfield 19, 3) := by decide +kernel
theorem dX10_decree_35 : decode cX10_decree 35 = .ok (.invokevirtual 117, 3) := by decide +kernel
theorem dX10_decree_38 : decode cX10_decree 38 = .ok (.ifCond .eq 12, 3) := by decide +kernel
theorem dX10_decree_41 : decode cX10_decree 41 = .ok (.aload_n 0, 1) := by decide +kernel
theorem dX10_decree_42 : decode cX10_decree 42 = .ok (.getfield 10, 3) := by decide +kernel
theorem dX10_decree_45 : decode cX10_decree 45 = .ok (.iconst 4, 1) := by decide +kernel
theorem dX10_decree_46 : decode cX10_decree 46 = .ok (.invokevirtual 94, 3) := by decide +kernel
theorem dX10_decree_49 : decode cX10_decree 49 = .ok (.lreturn, 1) := by decide +kernel
theorem dX10_decree_50 : decode cX10_decree 50 = .ok (.aload_n 0, 1) := by decide +kernel
theorem dX10_decree_51 : decode cX10_decree 51 = .ok (.getfield 19, 3) := by decide +kernel
theorem dX10_decree_54 : decode cX10_decree 54 = .ok (.iload_n 1, 1) := by decide +kernel
theorem dX10_decree_55 : decode cX10_decree 55 = .ok (.iload_n 2, 1) := by decide +kernel
theorem dX10_decree_56 : decode cX10_decree 56 = .ok (.iload_n 3, 1) := by decide +kernel
theorem dX10_decree_57 : decode cX10_decree 57 = .ok (.aload_n 0, 1) := by decide +kernel
theorem dX10_decree_58 : decode cX10_decree 58 = .ok (.getfield 86, 3) := by decide +kernel
theorem dX10_decree_61 : decode cX10_decree 61 = .ok (.invokevirtual 121, 3) := by decide +kernel
theorem dX10_decree_64 : decode cX10_decree 64 = .ok (.aload_n 0, 1) := by decide +kernel
theorem dX10_decree_65 : decode cX10_decree 65 = .ok (.getfield 19, 3) := by decide +kernel
theorem dX10_decree_68 : decode cX10_decree 68 = .ok (.getfield 125, 3) := by decide +kernel
theorem dX10_decree_71 : decode cX10_decree 71 = .ok (.i2l, 1) := by decide +kernel
theorem dX10_decree_72 : decode cX10_decree 72 = .ok (.lreturn, 1) := by decide +kernel
theorem dX10_force_0 : decode cX10_force 0 = .ok (.iload_n 1, 1) := by decide +kernel
theorem dX10_force_1 : decode cX10_force 1 = .ok (.invokestatic 106, 3) := by decide +kernel
theorem dX10_force_4 : decode cX10_force 4 = .ok (.ifCond .eq 17, 3) := by decide +kernel
theorem dX10_force_7 : decode cX10_force 7 = .ok (.iload_n 2, 1) := by decide +kernel
theorem dX10_force_8 : decode cX10_force 8 = .ok (.invokestatic 110, 3) := by decide +kernel
theorem dX10_force_11 : decode cX10_force 11 = .ok (.ifCond .eq 10, 3) := by decide +kernel
theorem dX10_force_14 : decode cX10_force 14 = .ok (.iload_n 3, 1) := by decide +kernel
theorem dX10_force_15 : decode cX10_force 15 = .ok (.invokestatic 110, 3) := by decide +kernel
theorem dX10_force_18 : decode cX10_force 18 = .ok (.ifCond .ne 12, 3) := by decide +kernel
theorem dX10_force_21 : decode cX10_force 21 = .ok (.aload_n 0, 1) := by decide +kernel
theorem dX10_force_22 : decode cX10_force 22 = .ok (.getfield 10, 3) := by decide +kernel
theorem dX10_force_25 : decode cX10_force 25 = .ok (.iconst 1, 1) := by decide +kernel
theorem dX10_force_26 : decode cX10_force 26 = .ok (.invokevirtual 94, 3) := by decide +kernel
theorem dX10_force_29 : decode cX10_force 29 = .ok (.lreturn, 1) := by decide +kernel
theorem dX10_force_30 : decode cX10_force 30 = .ok (.aload_n 0, 1) := by decide +kernel
theorem dX10_force_31 : decode cX10_force 31 = .ok (.getfield 19, 3) := by decide +kernel
theorem dX10_force_34 : decode cX10_force 34 = .ok (.iload_n 1, 1) := by decide +kernel
theorem dX10_force_35 : decode cX10_force 35 = .ok (.iload_n 2, 1) := by decide +kernel
theorem dX10_force_36 : decode cX10_force 36 = .ok (.iload_n 3, 1) := by decide +kernel
theorem dX10_force_37 : decode cX10_force 37 = .ok (.invokevirtual 128, 3) := by decide +kernel
theorem dX10_force_40 : decode cX10_force 40 = .ok (.i2l, 1) := by decide +kernel
theorem dX10_force_41 : decode cX10_force 41 = .ok (.lreturn, 1) := by decide +kernel
theorem dX10_rate_0 : decode cX10_rate 0 = .ok (.iload_n 1, 1) := by decide +kernel
theorem dX10_rate_1 : decode cX10_rate 1 = .ok (.iconst 1, 1) := by decide +kernel
theorem dX10_rate_2 : decode cX10_rate 2 = .ok (.bipush 20, 2) := by decide +kernel
theorem dX10_rate_4 : decode cX10_rate 4 = .ok (.invokestatic 90, 3) := by decide +kernel
theorem dX10_rate_7 : decode cX10_rate 7 = .ok (.ifCond .eq 15, 3) := by decide +kernel
theorem dX10_rate_10 : decode cX10_rate 10 = .ok (.iload_n 2, 1) := by decide +kernel
theorem dX10_rate_11 : decode cX10_rate 11 = .ok (.bipush 100, 2) := by decide +kernel
theorem dX10_rate_13 : decode cX10_rate 13 = .ok (.sipush 1000, 3) := by decide +kernel
theorem dX10_rate_16 : decode cX10_rate 16 = .ok (.invokestatic 90, 3) := by decide +kernel
theorem dX10_rate_19 : decode cX10_rate 19 = .ok (.ifCond .ne 12, 3) := by decide +kernel
theorem dX10_rate_22 : decode cX10_rate 22 = .ok (.aload_n 0, 1) := by decide +kernel
theorem dX10_rate_23 : decode cX10_rate 23 = .ok (.getfield 10, 3) := by decide +kernel
theorem dX10_rate_26 : decode cX10_rate 26 = .ok (.iconst 1, 1) := by decide +kernel
theorem dX10_rate_27 : decode cX10_rate 27 = .ok (.invokevirtual 94, 3) := by decide +kernel
theorem dX10_rate_30 : decode cX10_rate 30 = .ok (.lreturn, 1) := by decide +kernel
theorem dX10_rate_31 : decode cX10_rate 31 = .ok (.aload_n 0, 1) := by decide +kernel
theorem dX10_rate_32 : decode cX10_rate 32 = .ok (.getfield 23, 3) := by decide +kernel
theorem dX10_rate_35 : decode cX10_rate 35 = .ok (.iload_n 1, 1) := by decide +kernel
theorem dX10_rate_36 : decode cX10_rate 36 = .ok (.iaload, 1) := by decide +kernel
theorem dX10_rate_37 : decode cX10_rate 37 = .ok (.istore_n 3, 1) := by decide +kernel
theorem dX10_rate_38 : decode cX10_rate 38 = .ok (.aload_n 0, 1) := by decide +kernel
theorem dX10_rate_39 : decode cX10_rate 39 = .ok (.getfield 23, 3) := by decide +kernel
theorem dX10_rate_42 : decode cX10_rate 42 = .ok (.iload_n 1, 1) := by decide +kernel
theorem dX10_rate_43 : decode cX10_rate 43 = .ok (.iload_n 2, 1) := by decide +kernel
theorem dX10_rate_44 : decode cX10_rate 44 = .ok (.iastore, 1) := by decide +kernel
theorem dX10_rate_45 : decode cX10_rate 45 = .ok (.iload_n 3, 1) := by decide +kernel
theorem dX10_rate_46 : decode cX10_rate 46 = .ok (.i2l, 1) := by decide +kernel
theorem dX10_rate_47 : decode cX10_rate 47 = .ok (.lreturn, 1) := by decide +kernel
theorem dX10_child_0 : decode cX10_child 0 = .ok (.iload_n 1, 1) := by decide +kernel
theorem dX10_child_1 : decode cX10_child 1 = .ok (.iconst 0, 1) := by decide +kernel
theorem dX10_child_2 : decode cX10_child 2 = .ok (.aload_n 0, 1) := by decide +kernel
theorem dX10_child_3 : decode cX10_child 3 = .ok (.getfield 86, 3) := by decide +kernel
theorem dX10_child_6 : decode cX10_child 6 = .ok (.invokestatic 90, 3) := by decide +kernel
theorem dX10_child_9 : decode cX10_child 9 = .ok (.ifCond .ne 12, 3) := by decide +kernel
theorem dX10_child_12 : decode cX10_child 12 = .ok (.aload_n 0, 1) := by decide +kernel
theorem dX10_child_13 : decode cX10_child 13 = .ok (.getfield 10, 3) := by decide +kernel
theorem dX10_child_16 : decode cX10_child 16 = .ok (.iconst 1, 1) := by decide +kernel
theorem dX10_child_17 : decode cX10_child 17 = .ok (.invokevirtual 94, 3) := by decide +kernel
theorem dX10_child_20 : decode cX10_child 20 = .ok (.lreturn, 1) := by decide +kernel
theorem dX10_child_21 : decode cX10_child 21 = .ok (.aload_n 0, 1) := by decide +kernel
theorem dX10_child_22 : decode cX10_child 22 = .ok (.getfield 36, 3) := by decide +kernel
theorem dX10_child_25 : decode cX10_child 25 = .ok (.invokevirtual 132, 3) := by decide +kernel
theorem dX10_child_28 : decode cX10_child 28 = .ok (.ifCond .eq 12, 3) := by decide +kernel
theorem dX10_child_31 : decode cX10_child 31 = .ok (.aload_n 0, 1) := by decide +kernel
theorem dX10_child_32 : decode cX10_child 32 = .ok (.getfield 10, 3) := by decide +kernel
theorem dX10_child_35 : decode cX10_child 35 = .ok (.iconst 4, 1) := by decide +kernel
theorem dX10_child_36 : decode cX10_child 36 = .ok (.invokevirtual 94, 3) := by decide +kernel
theorem dX10_child_39 : decode cX10_child 39 = .ok (.lreturn, 1) := by decide +kernel
theorem dX10_child_40 : decode cX10_child 40 = .ok (.aload_n 0, 1) := by decide +kernel
theorem dX10_child_41 : decode cX10_child 41 = .ok (.getfield 36, 3) := by decide +kernel
theorem dX10_child_44 : decode cX10_child 44 = .ok (.iload_n 1, 1) := by decide +kernel
theorem dX10_child_45 : decode cX10_child 45 = .ok (.invokevirtual 133, 3) := by decide +kernel
theorem dX10_child_48 : decode cX10_child 48 = .ok (.aload_n 0, 1) := by decide +kernel
theorem dX10_child_49 : decode cX10_child 49 = .ok (.getfield 36, 3) := by decide +kernel
theorem dX10_child_52 : decode cX10_child 52 = .ok (.getfield 135, 3) := by decide +kernel
theorem dX10_child_55 : decode cX10_child 55 = .ok (.iconst 1, 1) := by decide +kernel
theorem dX10_child_56 : decode cX10_child 56 = .ok (.isub, 1) := by decide +kernel
theorem dX10_child_57 : decode cX10_child 57 = .ok (.i2l, 1) := by decide +kernel
theorem dX10_child_58 : decode cX10_child 58 = .ok (.lreturn, 1) := by decide +kernel
theorem dX10_fate_0 : decode cX10_fate 0 = .ok (.aload_n 0, 1) := by decide +kernel
theorem dX10_fate_1 : decode cX10_fate 1 = .ok (.getfield 36, 3) := by decide +kernel
theorem dX10_fate_4 : decode cX10_fate 4 = .ok (.iload_n 1, 1) := by decide +kernel
theorem dX10_fate_5 : decode cX10_fate 5 = .ok (.invokevirtual 136, 3) := by decide +kernel
theorem dX10_fate_8 : decode cX10_fate 8 = .ok (.ifCond .eq 12, 3) := by decide +kernel
theorem dX10_fate_11 : decode cX10_fate 11 = .ok (.iload_n 2, 1) := by decide +kernel
theorem dX10_fate_12 : decode cX10_fate 12 = .ok (.iconst 0, 1) := by decide +kernel
theorem dX10_fate_13 : decode cX10_fate 13 = .ok (.iconst 3, 1) := by decide +kernel
theorem dX10_fate_14 : decode cX10_fate 14 = .ok (.invokestatic 90, 3) := by decide +kernel
theorem dX10_fate_17 : decode cX10_fate 17 = .ok (.ifCond .ne 12, 3) := by decide +kernel
theorem dX10_fate_20 : decode cX10_fate 20 = .ok (.aload_n 0, 1) := by decide +kernel
theorem dX10_fate_21 : decode cX10_fate 21 = .ok (.getfield 10, 3) := by decide +kernel
theorem dX10_fate_24 : decode cX10_fate 24 = .ok (.iconst 1, 1) := by decide +kernel
theorem dX10_fate_25 : decode cX10_fate 25 = .ok (.invokevirtual 94, 3) := by decide +kernel
theorem dX10_fate_28 : decode cX10_fate 28 = .ok (.lreturn, 1) := by decide +kernel
theorem dX10_fate_29 : decode cX10_fate 29 = .ok (.iload_n 2, 1) := by decide +kernel
theorem dX10_fate_30 : decode cX10_fate 30 = .ok (.iconst 3, 1) := by decide +kernel
theorem dX10_fate_31 : decode cX10_fate 31 = .ok (.if_icmp .eq 30, 3) := by decide +kernel
theorem dX10_fate_34 : decode cX10_fate 34 = .ok (.iload_n 3, 1) := by decide +kernel
theorem dX10_fate_35 : decode cX10_fate 35 = .ok (.aload_n 0, 1) := by decide +kernel
theorem dX10_fate_36 : decode cX10_fate 36 = .ok (.getfield 36, 3) := by decide +kernel
theorem dX10_fate_39 : decode cX10_fate 39 = .ok (.iload_n 1, 1) := by decide +kernel
theorem dX10_fate_40 : decode cX10_fate 40 = .ok (.invokevirtual 139, 3) := by decide +kernel
theorem dX10_fate_43 : decode cX10_fate 43 = .ok (.sipush 1199, 3) := by decide +kernel
theorem dX10_fate_46 : decode cX10_fate 46 = .ok (.invokestatic 90, 3) := by decide +kernel
theorem dX10_fate_49 : decode cX10_fate 49 = .ok (.ifCond .ne 12, 3) := by decide +kernel
theorem dX10_fate_52 : decode cX10_fate 52 = .ok (.aload_n 0, 1) := by decide +kernel
theorem dX10_fate_53 : decode cX10_fate 53 = .ok (.getfield 10, 3) := by decide +kernel
theorem dX10_fate_56 : decode cX10_fate 56 = .ok (.iconst 1, 1) := by decide +kernel
theorem dX10_fate_57 : decode cX10_fate 57 = .ok (.invokevirtual 94, 3) := by decide +kernel
theorem dX10_fate_60 : decode cX10_fate 60 = .ok (.lreturn, 1) := by decide +kernel
theorem dX10_fate_61 : decode cX10_fate 61 = .ok (.aload_n 0, 1) := by decide +kernel
theorem dX10_fate_62 : decode cX10_fate 62 = .ok (.getfield 36, 3) := by decide +kernel
theorem dX10_fate_65 : decode cX10_fate 65 = .ok (.invokevirtual 143, 3) := by decide +kernel
theorem dX10_fate_68 : decode cX10_fate 68 = .ok (.ifCond .eq 12, 3) := by decide +kernel
theorem dX10_fate_71 : decode cX10_fate 71 = .ok (.aload_n 0, 1) := by decide +kernel
theorem dX10_fate_72 : decode cX10_fate 72 = .ok (.getfield 10, 3) := by decide +kernel
theorem dX10_fate_75 : decode cX10_fate 75 = .ok (.iconst 4, 1) := by decide +kernel
theorem dX10_fate_76 : decode cX10_fate 76 = .ok (.invokevirtual 94, 3) := by decide +kernel
theorem dX10_fate_79 : decode cX10_fate 79 = .ok (.lreturn, 1) := by decide +kernel
theorem dX10_fate_80 : decode cX10_fate 80 = .ok (.aload_n 0, 1) := by decide +kernel
theorem dX10_fate_81 : decode cX10_fate 81 = .ok (.getfield 36, 3) := by decide +kernel
theorem dX10_fate_84 : decode cX10_fate 84 = .ok (.iload_n 1, 1) := by decide +kernel
theorem dX10_fate_85 : decode cX10_fate 85 = .ok (.iload_n 2, 1) := by decide +kernel
theorem dX10_fate_86 : decode cX10_fate 86 = .ok (.iload_n 3, 1) := by decide +kernel
theorem dX10_fate_87 : decode cX10_fate 87 = .ok (.aload_n 0, 1) := by decide +kernel
theorem dX10_fate_88 : decode cX10_fate 88 = .ok (.getfield 86, 3) := by decide +kernel
theorem dX10_fate_91 : decode cX10_fate 91 = .ok (.invokevirtual 146, 3) := by decide +kernel
theorem dX10_fate_94 : decode cX10_fate 94 = .ok (.aload_n 0, 1) := by decide +kernel
theorem dX10_fate_95 : decode cX10_fate 95 = .ok (.getfield 36, 3) := by decide +kernel
theorem dX10_fate_98 : decode cX10_fate 98 = .ok (.getfield 149, 3) := by decide +kernel
theorem dX10_fate_101 : decode cX10_fate 101 = .ok (.i2l, 1) := by decide +kernel
theorem dX10_fate_102 : decode cX10_fate 102 = .ok (.lreturn, 1) := by decide +kernel
theorem dX10_told_0 : decode cX10_told 0 = .ok (.aload_n 0, 1) := by decide +kernel
theorem dX10_told_1 : decode cX10_told 1 = .ok (.getfield 36, 3) := by decide +kernel
theorem dX10_told_4 : decode cX10_told 4 = .ok (.iload_n 1, 1) := by decide +kernel
theorem dX10_told_5 : decode cX10_told 5 = .ok (.invokevirtual 136, 3) := by decide +kernel
theorem dX10_told_8 : decode cX10_told 8 = .ok (.ifCond .eq 10, 3) := by decide +kernel
theorem dX10_told_11 : decode cX10_told 11 = .ok (.iload_n 2, 1) := by decide +kernel
theorem dX10_told_12 : decode cX10_told 12 = .ok (.invokestatic 110, 3) := by decide +kernel
theorem dX10_told_15 : decode cX10_told 15 = .ok (.ifCond .ne 12, 3) := by decide +kernel
theorem dX10_told_18 : decode cX10_told 18 = .ok (.aload_n 0, 1) := by decide +kernel
theorem dX10_told_19 : decode cX10_told 19 = .ok (.getfield 10, 3) := by decide +kernel
theorem dX10_told_22 : decode cX10_told 22 = .ok (.iconst 1, 1) := by decide +kernel
theorem dX10_told_23 : decode cX10_told 23 = .ok (.invokevirtual 94, 3) := by decide +kernel
theorem dX10_told_26 : decode cX10_told 26 = .ok (.lreturn, 1) := by decide +kernel
theorem dX10_told_27 : decode cX10_told 27 = .ok (.aload_n 0, 1) := by decide +kernel
theorem dX10_told_28 : decode cX10_told 28 = .ok (.getfield 36, 3) := by decide +kernel
theorem dX10_told_31 : decode cX10_told 31 = .ok (.iload_n 1, 1) := by decide +kernel
theorem dX10_told_32 : decode cX10_told 32 = .ok (.iload_n 2, 1) := by decide +kernel
theorem dX10_told_33 : decode cX10_told 33 = .ok (.invokevirtual 152, 3) := by decide +kernel
theorem dX10_told_36 : decode cX10_told 36 = .ok (.istore 4, 2) := by decide +kernel
theorem dX10_told_38 : decode cX10_told 38 = .ok (.iload 4, 2) := by decide +kernel
theorem dX10_told_40 : decode cX10_told 40 = .ok (.iconst (-1), 1) := by decide +kernel
theorem dX10_told_41 : decode cX10_told 41 = .ok (.if_icmp .ne 12, 3) := by decide +kernel
theorem dX10_told_44 : decode cX10_told 44 = .ok (.aload_n 0, 1) := by decide +kernel
theorem dX10_told_45 : decode cX10_told 45 = .ok (.getfield 10, 3) := by decide +kernel
theorem dX10_told_48 : decode cX10_told 48 = .ok (.iconst 2, 1) := by decide +kernel
theorem dX10_told_49 : decode cX10_told 49 = .ok (.invokevirtual 94, 3) := by decide +kernel
theorem dX10_told_52 : decode cX10_told 52 = .ok (.lreturn, 1) := by decide +kernel
theorem dX10_told_53 : decode cX10_told 53 = .ok (.iload_n 3, 1) := by decide +kernel
theorem dX10_told_54 : decode cX10_told 54 = .ok (.ifCond .eq 16, 3) := by decide +kernel
theorem dX10_told_57 : decode cX10_told 57 = .ok (.aload_n 0, 1) := by decide +kernel
theorem dX10_told_58 : decode cX10_told 58 = .ok (.getfield 36, 3) := by decide +kernel
theorem dX10_told_61 : decode cX10_told 61 = .ok (.iload 4, 2) := by decide +kernel
theorem dX10_told_63 : decode cX10_told 63 = .ok (.invokevirtual 156, 3) := by decide +kernel
theorem dX10_told_66 : decode cX10_told 66 = .ok (.i2l, 1) := by decide +kernel
theorem dX10_told_67 : decode cX10_told 67 = .ok (.goto 13, 3) := by decide +kernel
theorem dX10_told_70 : decode cX10_told 70 = .ok (.aload_n 0, 1) := by decide +kernel
theorem dX10_told_71 : decode cX10_told 71 = .ok (.getfield 36, 3) := by decide +kernel
theorem dX10_told_74 : decode cX10_told 74 = .ok (.iload 4, 2) := by decide +kernel
theorem dX10_told_76 : decode cX10_told 76 = .ok (.invokevirtual 159, 3) := by decide +kernel
theorem dX10_told_79 : decode cX10_told 79 = .ok (.i2l, 1) := by decide +kernel
theorem dX10_told_80 : decode cX10_told 80 = .ok (.lreturn, 1) := by decide +kernel
theorem dX10_deposit_0 : decode cX10_deposit 0 = .ok (.iload_n 1, 1) := by decide +kernel
theorem dX10_deposit_1 : decode cX10_deposit 1 = .ok (.invokestatic 162, 3) := by decide +kernel
theorem dX10_deposit_4 : decode cX10_deposit 4 = .ok (.ifCond .eq 30, 3) := by decide +kernel
theorem dX10_deposit_7 : decode cX10_deposit 7 = .ok (.aload_n 0, 1) := by decide +kernel
theorem dX10_deposit_8 : decode cX10_deposit 8 = .ok (.getfield 36, 3) := by decide +kernel
theorem dX10_deposit_11 : decode cX10_deposit 11 = .ok (.iload_n 2, 1) := by decide +kernel
theorem dX10_deposit_12 : decode cX10_deposit 12 = .ok (.invokevirtual 136, 3) := by decide +kernel
theorem dX10_deposit_15 : decode cX10_deposit 15 = .ok (.ifCond .eq 19, 3) := by decide +kernel
theorem dX10_deposit_18 : decode cX10_deposit 18 = .ok (.iload_n 1, 1) := by decide +kernel
theorem dX10_deposit_19 : decode cX10_deposit 19 = .ok (.iconst 1, 1) := by decide +kernel
theorem dX10_deposit_20 : decode cX10_deposit 20 = .ok (.if_icmp .ne 23, 3) := by decide +kernel
theorem dX10_deposit_23 : decode cX10_deposit 23 = .ok (.aload_n 0, 1) := by decide +kernel
theorem dX10_deposit_24 : decode cX10_deposit 24 = .ok (.getfield 36, 3) := by decide +kernel
theorem dX10_deposit_27 : decode cX10_deposit 27 = .ok (.iload_n 3, 1) := by decide +kernel
theorem dX10_deposit_28 : decode cX10_deposit 28 = .ok (.invokevirtual 136, 3) := by decide +kernel
theorem dX10_deposit_31 : decode cX10_deposit 31 = .ok (.ifCond .ne 12, 3) := by decide +kernel
theorem dX10_deposit_34 : decode cX10_deposit 34 = .ok (.aload_n 0, 1) := by decide +kernel
theorem dX10_deposit_35 : decode cX10_deposit 35 = .ok (.getfield 10, 3) := by decide +kernel
theorem dX10_deposit_38 : decode cX10_deposit 38 = .ok (.iconst 1, 1) := by decide +kernel
theorem dX10_deposit_39 : decode cX10_deposit 39 = .ok (.invokevirtual 94, 3) := by decide +kernel
theorem dX10_deposit_42 : decode cX10_deposit 42 = .ok (.lreturn, 1) := by decide +kernel
theorem dX10_deposit_43 : decode cX10_deposit 43 = .ok (.iload 5, 2) := by decide +kernel
theorem dX10_deposit_45 : decode cX10_deposit 45 = .ok (.invokestatic 165, 3) := by decide +kernel
theorem dX10_deposit_48 : decode cX10_deposit 48 = .ok (.ifCond .eq 15, 3) := by decide +kernel
theorem dX10_deposit_51 : decode cX10_deposit 51 = .ok (.iload 4, 2) := by decide +kernel
theorem dX10_deposit_53 : decode cX10_deposit 53 = .ok (.iconst 1, 1) := by decide +kernel
theorem dX10_deposit_54 : decode cX10_deposit 54 = .ok (.sipush 10000, 3) := by decide +kernel
theorem dX10_deposit_57 : decode cX10_deposit 57 = .ok (.invokestatic 90, 3) := by decide +kernel
theorem dX10_deposit_60 : decode cX10_deposit 60 = .ok (.ifCond .ne 12, 3) := by decide +kernel
theorem dX10_deposit_63 : decode cX10_deposit 63 = .ok (.aload_n 0, 1) := by decide +kernel
theorem dX10_deposit_64 : decode cX10_deposit 64 = .ok (.getfield 10, 3) := by decide +kernel
theorem dX10_deposit_67 : decode cX10_deposit 67 = .ok (.iconst 1, 1) := by decide +kernel
theorem dX10_deposit_68 : decode cX10_deposit 68 = .ok (.invokevirtual 94, 3) := by decide +kernel
theorem dX10_deposit_71 : decode cX10_deposit 71 = .ok (.lreturn, 1) := by decide +kernel
theorem dX10_deposit_72 : decode cX10_deposit 72 = .ok (.iload_n 1, 1) := by decide +kernel
theorem dX10_deposit_73 : decode cX10_deposit 73 = .ok (.iconst 1, 1) := by decide +kernel
theorem dX10_deposit_74 : decode cX10_deposit 74 = .ok (.if_icmp .ne 17, 3) := by decide +kernel
theorem dX10_deposit_77 : decode cX10_deposit 77 = .ok (.iload_n 2, 1) := by decide +kernel
theorem dX10_deposit_78 : decode cX10_deposit 78 = .ok (.iload_n 3, 1) := by decide +kernel
theorem dX10_deposit_79 : decode cX10_deposit 79 = .ok (.if_icmp .ne 12, 3) := by decide +kernel
theorem dX10_deposit_82 : decode cX10_deposit 82 = .ok (.aload_n 0, 1) := by decide +kernel
theorem dX10_deposit_83 : decode cX10_deposit 83 = .ok (.getfield 10, 3) := by decide +kernel
theorem dX10_deposit_86 : decode cX10_deposit 86 = .ok (.iconst 5, 1) := by decide +kernel
theorem dX10_deposit_87 : decode cX10_deposit 87 = .ok (.invokevirtual 94, 3) := by decide +kernel
theorem dX10_deposit_90 : decode cX10_deposit 90 = .ok (.lreturn, 1) := by decide +kernel
theorem dX10_deposit_91 : decode cX10_deposit 91 = .ok (.aload_n 0, 1) := by decide +kernel
theorem dX10_deposit_92 : decode cX10_deposit 92 = .ok (.iload_n 2, 1) := by decide +kernel
theorem dX10_deposit_93 : decode cX10_deposit 93 = .ok (.invokevirtual 168, 3) := by decide +kernel
theorem dX10_deposit_96 : decode cX10_deposit 96 = .ok (.ifCond .ne 16, 3) := by decide +kernel
theorem dX10_deposit_99 : decode cX10_deposit 99 = .ok (.iload_n 1, 1) := by decide +kernel
theorem dX10_deposit_100 : decode cX10_deposit 100 = .ok (.iconst 1, 1) := by decide +kernel
theorem dX10_deposit_101 : decode cX10_deposit 101 = .ok (.if_icmp .ne 20, 3) := by decide +kernel
theorem dX10_deposit_104 : decode cX10_deposit 104 = .ok (.aload_n 0, 1) := by decide +kernel
theorem dX10_deposit_105 : decode cX10_deposit 105 = .ok (.iload_n 3, 1) := by decide +kernel
theorem dX10_deposit_106 : decode cX10_deposit 106 = .ok (.invokevirtual 168, 3) := by decide +kernel
theorem dX10_deposit_109 : decode cX10_deposit 109 = .ok (.ifCond .eq 12, 3) := by decide +kernel
theorem dX10_deposit_112 : decode cX10_deposit 112 = .ok (.aload_n 0, 1) := by decide +kernel
theorem dX10_deposit_113 : decode cX10_deposit 113 = .ok (.getfield 10, 3) := by decide +kernel
theorem dX10_deposit_116 : decode cX10_deposit 116 = .ok (.iconst 3, 1) := by decide +kernel
theorem dX10_deposit_117 : decode cX10_deposit 117 = .ok (.invokevirtual 94, 3) := by decide +kernel
theorem dX10_deposit_120 : decode cX10_deposit 120 = .ok (.lreturn, 1) := by decide +kernel
theorem dX10_deposit_121 : decode cX10_deposit 121 = .ok (.aload_n 0, 1) := by decide +kernel
theorem dX10_deposit_122 : decode cX10_deposit 122 = .ok (.getfield 43, 3) := by decide +kernel
theorem dX10_deposit_125 : decode cX10_deposit 125 = .ok (.invokevirtual 171, 3) := by decide +kernel
theorem dX10_deposit_128 : decode cX10_deposit 128 = .ok (.ifCond .eq 12, 3) := by decide +kernel
theorem dX10_deposit_131 : decode cX10_deposit 131 = .ok (.aload_n 0, 1) := by decide +kernel
theorem dX10_deposit_132 : decode cX10_deposit 132 = .ok (.getfield 10, 3) := by decide +kernel
theorem dX10_deposit_135 : decode cX10_deposit 135 = .ok (.iconst 4, 1) := by decide +kernel
theorem dX10_deposit_136 : decode cX10_deposit 136 = .ok (.invokevirtual 94, 3) := by decide +kernel
theorem dX10_deposit_139 : decode cX10_deposit 139 = .ok (.lreturn, 1) := by decide +kernel
theorem dX10_deposit_140 : decode cX10_deposit 140 = .ok (.aload_n 0, 1) := by decide +kernel
theorem dX10_deposit_141 : decode cX10_deposit 141 = .ok (.getfield 19, 3) := by decide +kernel
theorem dX10_deposit_144 : decode cX10_deposit 144 = .ok (.iconst 5, 1) := by decide +kernel
theorem dX10_deposit_145 : decode cX10_deposit 145 = .ok (.aload_n 0, 1) := by decide +kernel
theorem dX10_deposit_146 : decode cX10_deposit 146 = .ok (.getfield 86, 3) := by decide +kernel
theorem dX10_deposit_149 : decode cX10_deposit 149 = .ok (.aload_n 0, 1) := by decide +kernel
theorem dX10_deposit_150 : decode cX10_deposit 150 = .ok (.getfield 86, 3) := by decide +kernel
theorem dX10_deposit_153 : decode cX10_deposit 153 = .ok (.invokevirtual 128, 3) := by decide +kernel
theorem dX10_deposit_156 : decode cX10_deposit 156 = .ok (.istore 6, 2) := by decide +kernel
theorem dX10_deposit_158 : decode cX10_deposit 158 = .ok (.new 172, 3) := by decide +kernel
theorem dX10_deposit_161 : decode cX10_deposit 161 = .ok (.dup, 1) := by decide +kernel
theorem dX10_deposit_162 : decode cX10_deposit 162 = .ok (.iload_n 1, 1) := by decide +kernel
theorem dX10_deposit_163 : decode cX10_deposit 163 = .ok (.iload_n 2, 1) := by decide +kernel
theorem dX10_deposit_164 : decode cX10_deposit 164 = .ok (.iload_n 3, 1) := by decide +kernel
theorem dX10_deposit_165 : decode cX10_deposit 165 = .ok (.aload_n 0, 1) := by decide +kernel
theorem dX10_deposit_166 : decode cX10_deposit 166 = .ok (.getfield 86, 3) := by decide +kernel
theorem dX10_deposit_169 : decode cX10_deposit 169 = .ok (.iload 5, 2) := by decide +kernel
theorem dX10_deposit_171 : decode cX10_deposit 171 = .ok (.invokespecial 174, 3) := by decide +kernel
theorem dX10_deposit_174 : decode cX10_deposit 174 = .ok (.astore 7, 2) := by decide +kernel
theorem dX10_deposit_176 : decode cX10_deposit 176 = .ok (.aload 7, 2) := by decide +kernel
theorem dX10_deposit_178 : decode cX10_deposit 178 = .ok (.iload 4, 2) := by decide +kernel
theorem dX10_deposit_180 : decode cX10_deposit 180 = .ok (.aload_n 0, 1) := by decide +kernel
theorem dX10_deposit_181 : decode cX10_deposit 181 = .ok (.iload 4, 2) := by decide +kernel
theorem dX10_deposit_183 : decode cX10_deposit 183 = .ok (.iload 6, 2) := by decide +kernel
theorem dX10_deposit_185 : decode cX10_deposit 185 = .ok (.invokevirtual 177, 3) := by decide +kernel
theorem dX10_deposit_188 : decode cX10_deposit 188 = .ok (.aload_n 0, 1) := by decide +kernel
theorem dX10_deposit_189 : decode cX10_deposit 189 = .ok (.getfield 86, 3) := by decide +kernel
theorem dX10_deposit_192 : decode cX10_deposit 192 = .ok (.iload 6, 2) := by decide +kernel
theorem dX10_deposit_194 : decode cX10_deposit 194 = .ok (.iadd, 1) := by decide +kernel
theorem dX10_deposit_195 : decode cX10_deposit 195 = .ok (.invokevirtual 181, 3) := by decide +kernel
theorem dX10_deposit_198 : decode cX10_deposit 198 = .ok (.aload_n 0, 1) := by decide +kernel
theorem dX10_deposit_199 : decode cX10_deposit 199 = .ok (.getfield 43, 3) := by decide +kernel
theorem dX10_deposit_202 : decode cX10_deposit 202 = .ok (.aload 7, 2) := by decide +kernel
theorem dX10_deposit_204 : decode cX10_deposit 204 = .ok (.invokevirtual 185, 3) := by decide +kernel
theorem dX10_deposit_207 : decode cX10_deposit 207 = .ok (.aload_n 0, 1) := by decide +kernel
theorem dX10_deposit_208 : decode cX10_deposit 208 = .ok (.getfield 43, 3) := by decide +kernel
theorem dX10_deposit_211 : decode cX10_deposit 211 = .ok (.getfield 188, 3) := by decide +kernel
theorem dX10_deposit_214 : decode cX10_deposit 214 = .ok (.iconst 1, 1) := by decide +kernel
theorem dX10_deposit_215 : decode cX10_deposit 215 = .ok (.isub, 1) := by decide +kernel
theorem dX10_deposit_216 : decode cX10_deposit 216 = .ok (.i2l, 1) := by decide +kernel
theorem dX10_deposit_217 : decode cX10_deposit 217 = .ok (.lreturn, 1) := by decide +kernel
theorem dX10_about_0 : decode cX10_about 0 = .ok (.aload_n 0, 1) := by decide +kernel
theorem dX10_about_1 : decode cX10_about 1 = .ok (.getfield 43, 3) := by decide +kernel
theorem dX10_about_4 : decode cX10_about 4 = .ok (.iload_n 1, 1) := by decide +kernel
theorem dX10_about_5 : decode cX10_about 5 = .ok (.invokevirtual 189, 3) := by decide +kernel
theorem dX10_about_8 : decode cX10_about 8 = .ok (.astore_n 3, 1) := by decide +kernel
theorem dX10_about_9 : decode cX10_about 9 = .ok (.aload_n 3, 1) := by decide +kernel
theorem dX10_about_10 : decode cX10_about 10 = .ok (.ifnull 13, 3) := by decide +kernel
theorem dX10_about_13 : decode cX10_about 13 = .ok (.iload_n 2, 1) := by decide +kernel
theorem dX10_about_14 : decode cX10_about 14 = .ok (.iconst 0, 1) := by decide +kernel
theorem dX10_about_15 : decode cX10_about 15 = .ok (.bipush 8, 2) := by decide +kernel
theorem dX10_about_17 : decode cX10_about 17 = .ok (.invokestatic 90, 3) := by decide +kernel
theorem dX10_about_20 : decode cX10_about 20 = .ok (.ifCond .ne 12, 3) := by decide +kernel
theorem dX10_about_23 : decode cX10_about 23 = .ok (.aload_n 0, 1) := by decide +kernel
theorem dX10_about_24 : decode cX10_about 24 = .ok (.getfield 10, 3) := by decide +kernel
theorem dX10_about_27 : decode cX10_about 27 = .ok (.iconst 1, 1) := by decide +kernel
theorem dX10_about_28 : decode cX10_about 28 = .ok (.invokevirtual 94, 3) := by decide +kernel
theorem dX10_about_31 : decode cX10_about 31 = .ok (.lreturn, 1) := by decide +kernel
theorem dX10_about_32 : decode cX10_about 32 = .ok (.iload_n 2, 1) := by decide +kernel
theorem dX10_about_33 : decode cX10_about 33 = .ok (.iconst 2, 1) := by decide +kernel
theorem dX10_about_34 : decode cX10_about 34 = .ok (.if_icmp .ne 20, 3) := by decide +kernel
theorem dX10_about_37 : decode cX10_about 37 = .ok (.aload_n 3, 1) := by decide +kernel
theorem dX10_about_38 : decode cX10_about 38 = .ok (.getfield 193, 3) := by decide +kernel
theorem dX10_about_41 : decode cX10_about 41 = .ok (.iconst 1, 1) := by decide +kernel
theorem dX10_about_42 : decode cX10_about 42 = .ok (.if_icmp .eq 12, 3) := by decide +kernel
theorem dX10_about_45 : decode cX10_about 45 = .ok (.aload_n 0, 1) := by decide +kernel
theorem dX10_about_46 : decode cX10_about 46 = .ok (.getfield 10, 3) := by decide +kernel
theorem dX10_about_49 : decode cX10_about 49 = .ok (.iconst 2, 1) := by decide +kernel
theorem dX10_about_50 : decode cX10_about 50 = .ok (.invokevirtual 94, 3) := by decide +kernel
theorem dX10_about_53 : decode cX10_about 53 = .ok (.lreturn, 1) := by decide +kernel
theorem dX10_about_54 : decode cX10_about 54 = .ok (.aload_n 3, 1) := by decide +kernel
theorem dX10_about_55 : decode cX10_about 55 = .ok (.iload_n 2, 1) := by decide +kernel
theorem dX10_about_56 : decode cX10_about 56 = .ok (.invokevirtual 196, 3) := by decide +kernel
theorem dX10_about_59 : decode cX10_about 59 = .ok (.lreturn, 1) := by decide +kernel
theorem dX10_as_0 : decode cX10_as 0 = .ok (.aload_n 0, 1) := by decide +kernel
theorem dX10_as_1 : decode cX10_as 1 = .ok (.getfield 43, 3) := by decide +kernel
theorem dX10_as_4 : decode cX10_as 4 = .ok (.iload_n 1, 1) := by decide +kernel
theorem dX10_as_5 : decode cX10_as 5 = .ok (.invokevirtual 189, 3) := by decide +kernel
theorem dX10_as_8 : decode cX10_as 8 = .ok (.astore_n 3, 1) := by decide +kernel
theorem dX10_as_9 : decode cX10_as 9 = .ok (.aload_n 3, 1) := by decide +kernel
theorem dX10_as_10 : decode cX10_as 10 = .ok (.ifnull 10, 3) := by decide +kernel
theorem dX10_as_13 : decode cX10_as 13 = .ok (.iload_n 2, 1) := by decide +kernel
theorem dX10_as_14 : decode cX10_as 14 = .ok (.invokestatic 162, 3) := by decide +kernel
theorem dX10_as_17 : decode cX10_as 17 = .ok (.ifCond .ne 12, 3) := by decide +kernel
theorem dX10_as_20 : decode cX10_as 20 = .ok (.aload_n 0, 1) := by decide +kernel
theorem dX10_as_21 : decode cX10_as 21 = .ok (.getfield 10, 3) := by decide +kernel
theorem dX10_as_24 : decode cX10_as 24 = .ok (.iconst 1, 1) := by decide +kernel
theorem dX10_as_25 : decode cX10_as 25 = .ok (.invokevirtual 94, 3) := by decide +kernel
theorem dX10_as_28 : decode cX10_as 28 = .ok (.lreturn, 1) := by decide +kernel
theorem dX10_as_29 : decode cX10_as 29 = .ok (.iload_n 2, 1) := by decide +kernel
theorem dX10_as_30 : decode cX10_as 30 = .ok (.ifCond .eq 20, 3) := by decide +kernel
theorem dX10_as_33 : decode cX10_as 33 = .ok (.iload_n 2, 1) := by decide +kernel
theorem dX10_as_34 : decode cX10_as 34 = .ok (.aload_n 3, 1) := by decide +kernel
theorem dX10_as_35 : decode cX10_as 35 = .ok (.getfield 193, 3) := by decide +kernel
theorem dX10_as_38 : decode cX10_as 38 = .ok (.if_icmp .eq 12, 3) := by decide +kernel
theorem dX10_as_41 : decode cX10_as 41 = .ok (.aload_n 0, 1) := by decide +kernel
theorem dX10_as_42 : decode cX10_as 42 = .ok (.getfield 10, 3) := by decide +kernel
theorem dX10_as_45 : decode cX10_as 45 = .ok (.iconst 5, 1) := by decide +kernel
theorem dX10_as_46 : decode cX10_as 46 = .ok (.invokevirtual 94, 3) := by decide +kernel
theorem dX10_as_49 : decode cX10_as 49 = .ok (.lreturn, 1) := by decide +kernel
theorem dX10_as_50 : decode cX10_as 50 = .ok (.aload_n 3, 1) := by decide +kernel
theorem dX10_as_51 : decode cX10_as 51 = .ok (.getfield 199, 3) := by decide +kernel
theorem dX10_as_54 : decode cX10_as 54 = .ok (.i2l, 1) := by decide +kernel
theorem dX10_as_55 : decode cX10_as 55 = .ok (.lreturn, 1) := by decide +kernel
theorem dX10_sell_0 : decode cX10_sell 0 = .ok (.aload_n 0, 1) := by decide +kernel
theorem dX10_sell_1 : decode cX10_sell 1 = .ok (.getfield 43, 3) := by decide +kernel
theorem dX10_sell_4 : decode cX10_sell 4 = .ok (.iload_n 1, 1) := by decide +kernel
theorem dX10_sell_5 : decode cX10_sell 5 = .ok (.invokevirtual 189, 3) := by decide +kernel
theorem dX10_sell_8 : decode cX10_sell 8 = .ok (.astore_n 3, 1) := by decide +kernel
theorem dX10_sell_9 : decode cX10_sell 9 = .ok (.aload_n 3, 1) := by decide +kernel
theorem dX10_sell_10 : decode cX10_sell 10 = .ok (.ifnull 10, 3) := by decide +kernel
theorem dX10_sell_13 : decode cX10_sell 13 = .ok (.iload_n 2, 1) := by decide +kernel
theorem dX10_sell_14 : decode cX10_sell 14 = .ok (.invokestatic 165, 3) := by decide +kernel
theorem dX10_sell_17 : decode cX10_sell 17 = .ok (.ifCond .ne 12, 3) := by decide +kernel
theorem dX10_sell_20 : decode cX10_sell 20 = .ok (.aload_n 0, 1) := by decide +kernel
theorem dX10_sell_21 : decode cX10_sell 21 = .ok (.getfield 10, 3) := by decide +kernel
theorem dX10_sell_24 : decode cX10_sell 24 = .ok (.iconst 1, 1) := by decide +kernel
theorem dX10_sell_25 : decode cX10_sell 25 = .ok (.invokevirtual 94, 3) := by decide +kernel
theorem dX10_sell_28 : decode cX10_sell 28 = .ok (.lreturn, 1) := by decide +kernel
theorem dX10_sell_29 : decode cX10_sell 29 = .ok (.aload_n 3, 1) := by decide +kernel
theorem dX10_sell_30 : decode cX10_sell 30 = .ok (.getfield 202, 3) := by decide +kernel
theorem dX10_sell_33 : decode cX10_sell 33 = .ok (.ifCond .eq 12, 3) := by decide +kernel
theorem dX10_sell_36 : decode cX10_sell 36 = .ok (.aload_n 0, 1) := by decide +kernel
theorem dX10_sell_37 : decode cX10_sell 37 = .ok (.getfield 10, 3) := by decide +kernel
theorem dX10_sell_40 : decode cX10_sell 40 = .ok (.iconst 3, 1) := by decide +kernel
theorem dX10_sell_41 : decode cX10_sell 41 = .ok (.invokevirtual 94, 3) := by decide +kernel
theorem dX10_sell_44 : decode cX10_sell 44 = .ok (.lreturn, 1) := by decide +kernel
theorem dX10_sell_45 : decode cX10_sell 45 = .ok (.aload_n 3, 1) := by decide +kernel
theorem dX10_sell_46 : decode cX10_sell 46 = .ok (.invokevirtual 206, 3) := by decide +kernel
theorem dX10_sell_49 : decode cX10_sell 49 = .ok (.istore 4, 2) := by decide +kernel
theorem dX10_sell_51 : decode cX10_sell 51 = .ok (.iload 4, 2) := by decide +kernel
theorem dX10_sell_53 : decode cX10_sell 53 = .ok (.iload_n 2, 1) := by decide +kernel
theorem dX10_sell_54 : decode cX10_sell 54 = .ok (.if_icmp .ne 12, 3) := by decide +kernel
theorem dX10_sell_57 : decode cX10_sell 57 = .ok (.aload_n 0, 1) := by decide +kernel
theorem dX10_sell_58 : decode cX10_sell 58 = .ok (.getfield 10, 3) := by decide +kernel
theorem dX10_sell_61 : decode cX10_sell 61 = .ok (.iconst 5, 1) := by decide +kernel
theorem dX10_sell_62 : decode cX10_sell 62 = .ok (.invokevirtual 94, 3) := by decide +kernel
theorem dX10_sell_65 : decode cX10_sell 65 = .ok (.lreturn, 1) := by decide +kernel
theorem dX10_sell_66 : decode cX10_sell 66 = .ok (.aload_n 3, 1) := by decide +kernel
theorem dX10_sell_67 : decode cX10_sell 67 = .ok (.aload_n 0, 1) := by decide +kernel
theorem dX10_sell_68 : decode cX10_sell 68 = .ok (.getfield 86, 3) := by decide +kernel
theorem dX10_sell_71 : decode cX10_sell 71 = .ok (.invokevirtual 210, 3) := by decide +kernel
theorem dX10_sell_74 : decode cX10_sell 74 = .ok (.ifCond .ne 12, 3) := by decide +kernel
theorem dX10_sell_77 : decode cX10_sell 77 = .ok (.aload_n 0, 1) := by decide +kernel
theorem dX10_sell_78 : decode cX10_sell 78 = .ok (.getfield 10, 3) := by decide +kernel
theorem dX10_sell_81 : decode cX10_sell 81 = .ok (.iconst 4, 1) := by decide +kernel
theorem dX10_sell_82 : decode cX10_sell 82 = .ok (.invokevirtual 94, 3) := by decide +kernel
theorem dX10_sell_85 : decode cX10_sell 85 = .ok (.lreturn, 1) := by decide +kernel
theorem dX10_sell_86 : decode cX10_sell 86 = .ok (.aload_n 3, 1) := by decide +kernel
theorem dX10_sell_87 : decode cX10_sell 87 = .ok (.iload_n 2, 1) := by decide +kernel
theorem dX10_sell_88 : decode cX10_sell 88 = .ok (.aload_n 0, 1) := by decide +kernel
theorem dX10_sell_89 : decode cX10_sell 89 = .ok (.getfield 86, 3) := by decide +kernel
theorem dX10_sell_92 : decode cX10_sell 92 = .ok (.invokevirtual 213, 3) := by decide +kernel
theorem dX10_sell_95 : decode cX10_sell 95 = .ok (.iload 4, 2) := by decide +kernel
theorem dX10_sell_97 : decode cX10_sell 97 = .ok (.i2l, 1) := by decide +kernel
theorem dX10_sell_98 : decode cX10_sell 98 = .ok (.lreturn, 1) := by decide +kernel
theorem dX10_holder_0 : decode cX10_holder 0 = .ok (.aload_n 0, 1) := by decide +kernel
theorem dX10_holder_1 : decode cX10_holder 1 = .ok (.getfield 43, 3) := by decide +kernel
theorem dX10_holder_4 : decode cX10_holder 4 = .ok (.iload_n 1, 1) := by decide +kernel
theorem dX10_holder_5 : decode cX10_holder 5 = .ok (.invokevirtual 189, 3) := by decide +kernel
theorem dX10_holder_8 : decode cX10_holder 8 = .ok (.astore_n 3, 1) := by decide +kernel
theorem dX10_holder_9 : decode cX10_holder 9 = .ok (.aload_n 3, 1) := by decide +kernel
theorem dX10_holder_10 : decode cX10_holder 10 = .ok (.ifnull 10, 3) := by decide +kernel
theorem dX10_holder_13 : decode cX10_holder 13 = .ok (.iload_n 2, 1) := by decide +kernel
theorem dX10_holder_14 : decode cX10_holder 14 = .ok (.invokestatic 110, 3) := by decide +kernel
theorem dX10_holder_17 : decode cX10_holder 17 = .ok (.ifCond .ne 12, 3) := by decide +kernel
theorem dX10_holder_20 : decode cX10_holder 20 = .ok (.aload_n 0, 1) := by decide +kernel
theorem dX10_holder_21 : decode cX10_holder 21 = .ok (.getfield 10, 3) := by decide +kernel
theorem dX10_holder_24 : decode cX10_holder 24 = .ok (.iconst 1, 1) := by decide +kernel
theorem dX10_holder_25 : decode cX10_holder 25 = .ok (.invokevirtual 94, 3) := by decide +kernel
theorem dX10_holder_28 : decode cX10_holder 28 = .ok (.lreturn, 1) := by decide +kernel
theorem dX10_holder_29 : decode cX10_holder 29 = .ok (.iload_n 2, 1) := by decide +kernel
theorem dX10_holder_30 : decode cX10_holder 30 = .ok (.aload_n 3, 1) := by decide +kernel
theorem dX10_holder_31 : decode cX10_holder 31 = .ok (.getfield 217, 3) := by decide +kernel
theorem dX10_holder_34 : decode cX10_holder 34 = .ok (.if_icmp .ge 12, 3) := by decide +kernel
theorem dX10_holder_37 : decode cX10_holder 37 = .ok (.aload_n 0, 1) := by decide +kernel
theorem dX10_holder_38 : decode cX10_holder 38 = .ok (.getfield 10, 3) := by decide +kernel
theorem dX10_holder_41 : decode cX10_holder 41 = .ok (.iconst 2, 1) := by decide +kernel
theorem dX10_holder_42 : decode cX10_holder 42 = .ok (.invokevirtual 94, 3) := by decide +kernel
theorem dX10_holder_45 : decode cX10_holder 45 = .ok (.lreturn, 1) := by decide +kernel
theorem dX10_holder_46 : decode cX10_holder 46 = .ok (.aload_n 3, 1) := by decide +kernel
theorem dX10_holder_47 : decode cX10_holder 47 = .ok (.iload_n 2, 1) := by decide +kernel
theorem dX10_holder_48 : decode cX10_holder 48 = .ok (.invokevirtual 220, 3) := by decide +kernel
theorem dX10_holder_51 : decode cX10_holder 51 = .ok (.i2l, 1) := by decide +kernel
theorem dX10_holder_52 : decode cX10_holder 52 = .ok (.lreturn, 1) := by decide +kernel
theorem dX10_due_0 : decode cX10_due 0 = .ok (.aload_n 0, 1) := by decide +kernel
theorem dX10_due_1 : decode cX10_due 1 = .ok (.getfield 43, 3) := by decide +kernel
theorem dX10_due_4 : decode cX10_due 4 = .ok (.iload_n 1, 1) := by decide +kernel
theorem dX10_due_5 : decode cX10_due 5 = .ok (.invokevirtual 189, 3) := by decide +kernel
theorem dX10_due_8 : decode cX10_due 8 = .ok (.astore 4, 2) := by decide +kernel
theorem dX10_due_10 : decode cX10_due 10 = .ok (.aload 4, 2) := by decide +kernel
theorem dX10_due_12 : decode cX10_due 12 = .ok (.ifnull 19, 3) := by decide +kernel
theorem dX10_due_15 : decode cX10_due 15 = .ok (.iload_n 2, 1) := by decide +kernel
theorem dX10_due_16 : decode cX10_due 16 = .ok (.invokestatic 110, 3) := by decide +kernel
theorem dX10_due_19 : decode cX10_due 19 = .ok (.ifCond .eq 12, 3) := by decide +kernel
theorem dX10_due_22 : decode cX10_due 22 = .ok (.iload_n 3, 1) := by decide +kernel
theorem dX10_due_23 : decode cX10_due 23 = .ok (.iconst 0, 1) := by decide +kernel
theorem dX10_due_24 : decode cX10_due 24 = .ok (.iconst 3, 1) := by decide +kernel
theorem dX10_due_25 : decode cX10_due 25 = .ok (.invokestatic 90, 3) := by decide +kernel
theorem dX10_due_28 : decode cX10_due 28 = .ok (.ifCond .ne 12, 3) := by decide +kernel
theorem dX10_due_31 : decode cX10_due 31 = .ok (.aload_n 0, 1) := by decide +kernel
theorem dX10_due_32 : decode cX10_due 32 = .ok (.getfield 10, 3) := by decide +kernel
theorem dX10_due_35 : decode cX10_due 35 = .ok (.iconst 1, 1) := by decide +kernel
theorem dX10_due_36 : decode cX10_due 36 = .ok (.invokevirtual 94, 3) := by decide +kernel
theorem dX10_due_39 : decode cX10_due 39 = .ok (.lreturn, 1) := by decide +kernel
theorem dX10_due_40 : decode cX10_due 40 = .ok (.aload_n 0, 1) := by decide +kernel
theorem dX10_due_41 : decode cX10_due 41 = .ok (.getfield 52, 3) := by decide +kernel
theorem dX10_due_44 : decode cX10_due 44 = .ok (.aload 4, 2) := by decide +kernel
theorem dX10_due_46 : decode cX10_due 46 = .ok (.iload_n 2, 1) := by decide +kernel
theorem dX10_due_47 : decode cX10_due 47 = .ok (.invokevirtual 223, 3) := by decide +kernel
theorem dX10_due_50 : decode cX10_due 50 = .ok (.istore 5, 2) := by decide +kernel
theorem dX10_due_52 : decode cX10_due 52 = .ok (.iload 5, 2) := by decide +kernel
theorem dX10_due_54 : decode cX10_due 54 = .ok (.iconst (-1), 1) := by decide +kernel
theorem dX10_due_55 : decode cX10_due 55 = .ok (.if_icmp .ne 12, 3) := by decide +kernel
theorem dX10_due_58 : decode cX10_due 58 = .ok (.aload_n 0, 1) := by decide +kernel
theorem dX10_due_59 : decode cX10_due 59 = .ok (.getfield 10, 3) := by decide +kernel
theorem dX10_due_62 : decode cX10_due 62 = .ok (.iconst 2, 1) := by decide +kernel
theorem dX10_due_63 : decode cX10_due 63 = .ok (.invokevirtual 94, 3) := by decide +kernel
theorem dX10_due_66 : decode cX10_due 66 = .ok (.lreturn, 1) := by decide +kernel
theorem dX10_due_67 : decode cX10_due 67 = .ok (.iload_n 3, 1) := by decide +kernel
theorem dX10_due_68 : decode cX10_due 68 = .ok (.tableswitch 64 0 2 #[28, 39, 51], 28) := by decide +kernel
theorem dX10_due_96 : decode cX10_due 96 = .ok (.aload_n 0, 1) := by decide +kernel
theorem dX10_due_97 : decode cX10_due 97 = .ok (.getfield 36, 3) := by decide +kernel
theorem dX10_due_100 : decode cX10_due 100 = .ok (.iload 5, 2) := by decide +kernel
theorem dX10_due_102 : decode cX10_due 102 = .ok (.invokevirtual 156, 3) := by decide +kernel
theorem dX10_due_105 : decode cX10_due 105 = .ok (.i2l, 1) := by decide +kernel
theorem dX10_due_106 : decode cX10_due 106 = .ok (.lreturn, 1) := by decide +kernel
theorem dX10_due_107 : decode cX10_due 107 = .ok (.aload_n 0, 1) := by decide +kernel
theorem dX10_due_108 : decode cX10_due 108 = .ok (.getfield 52, 3) := by decide +kernel
theorem dX10_due_111 : decode cX10_due 111 = .ok (.iload 5, 2) := by decide +kernel
theorem dX10_due_113 : decode cX10_due 113 = .ok (.iload_n 2, 1) := by decide +kernel
theorem dX10_due_114 : decode cX10_due 114 = .ok (.invokevirtual 227, 3) := by decide +kernel
theorem dX10_due_117 : decode cX10_due 117 = .ok (.i2l, 1) := by decide +kernel
theorem dX10_due_118 : decode cX10_due 118 = .ok (.lreturn, 1) := by decide +kernel
theorem dX10_due_119 : decode cX10_due 119 = .ok (.aload_n 0, 1) := by decide +kernel
theorem dX10_due_120 : decode cX10_due 120 = .ok (.getfield 52, 3) := by decide +kernel
theorem dX10_due_123 : decode cX10_due 123 = .ok (.aload 4, 2) := by decide +kernel
theorem dX10_due_125 : decode cX10_due 125 = .ok (.iload 5, 2) := by decide +kernel
theorem dX10_due_127 : decode cX10_due 127 = .ok (.iload_n 2, 1) := by decide +kernel
theorem dX10_due_128 : decode cX10_due 128 = .ok (.invokevirtual 230, 3) := by decide +kernel
theorem dX10_due_131 : decode cX10_due 131 = .ok (.lreturn, 1) := by decide +kernel
theorem dX10_due_132 : decode cX10_due 132 = .ok (.aload_n 0, 1) := by decide +kernel
theorem dX10_due_133 : decode cX10_due 133 = .ok (.getfield 36, 3) := by decide +kernel
theorem dX10_due_136 : decode cX10_due 136 = .ok (.iload 5, 2) := by decide +kernel
theorem dX10_due_138 : decode cX10_due 138 = .ok (.invokevirtual 159, 3) := by decide +kernel
theorem dX10_due_141 : decode cX10_due 141 = .ok (.i2l, 1) := by decide +kernel
theorem dX10_due_142 : decode cX10_due 142 = .ok (.lreturn, 1) := by decide +kernel
theorem dX10_foretold_0 : decode cX10_foretold 0 = .ok (.iload_n 1, 1) := by decide +kernel
theorem dX10_foretold_1 : decode cX10_foretold 1 = .ok (.invokestatic 110, 3) := by decide +kernel
theorem dX10_foretold_4 : decode cX10_foretold 4 = .ok (.ifCond .ne 12, 3) := by decide +kernel
theorem dX10_foretold_7 : decode cX10_foretold 7 = .ok (.aload_n 0, 1) := by decide +kernel
theorem dX10_foretold_8 : decode cX10_foretold 8 = .ok (.getfield 10, 3) := by decide +kernel
theorem dX10_foretold_11 : decode cX10_foretold 11 = .ok (.iconst 1, 1) := by decide +kernel
theorem dX10_foretold_12 : decode cX10_foretold 12 = .ok (.invokevirtual 94, 3) := by decide +kernel
theorem dX10_foretold_15 : decode cX10_foretold 15 = .ok (.lreturn, 1) := by decide +kernel
theorem dX10_foretold_16 : decode cX10_foretold 16 = .ok (.lconst 0, 1) := by decide +kernel
theorem dX10_foretold_17 : decode cX10_foretold 17 = .ok (.lstore_n 2, 1) := by decide +kernel
theorem dX10_foretold_18 : decode cX10_foretold 18 = .ok (.iconst 0, 1) := by decide +kernel
theorem dX10_foretold_19 : decode cX10_foretold 19 = .ok (.istore 4, 2) := by decide +kernel
theorem dX10_foretold_21 : decode cX10_foretold 21 = .ok (.iload 4, 2) := by decide +kernel
theorem dX10_foretold_23 : decode cX10_foretold 23 = .ok (.aload_n 0, 1) := by decide +kernel
theorem dX10_foretold_24 : decode cX10_foretold 24 = .ok (.getfield 43, 3) := by decide +kernel
theorem dX10_foretold_27 : decode cX10_foretold 27 = .ok (.getfield 188, 3) := by decide +kernel
theorem dX10_foretold_30 : decode cX10_foretold 30 = .ok (.if_icmp .ge 67, 3) := by decide +kernel
theorem dX10_foretold_33 : decode cX10_foretold 33 = .ok (.aload_n 0, 1) := by decide +kernel
theorem dX10_foretold_34 : decode cX10_foretold 34 = .ok (.getfield 43, 3) := by decide +kernel
theorem dX10_foretold_37 : decode cX10_foretold 37 = .ok (.iload 4, 2) := by decide +kernel
theorem dX10_foretold_39 : decode cX10_foretold 39 = .ok (.invokevirtual 189, 3) := by decide +kernel
theorem dX10_foretold_42 : decode cX10_foretold 42 = .ok (.astore 5, 2) := by decide +kernel
theorem dX10_foretold_44 : decode cX10_foretold 44 = .ok (.aload_n 0, 1) := by decide +kernel
theorem dX10_foretold_45 : decode cX10_foretold 45 = .ok (.getfield 52, 3) := by decide +kernel
theorem dX10_foretold_48 : decode cX10_foretold 48 = .ok (.aload 5, 2) := by decide +kernel
theorem dX10_foretold_50 : decode cX10_foretold 50 = .ok (.iload_n 1, 1) := by decide +kernel
theorem dX10_foretold_51 : decode cX10_foretold 51 = .ok (.invokevirtual 223, 3) := by decide +kernel
theorem dX10_foretold_54 : decode cX10_foretold 54 = .ok (.istore 6, 2) := by decide +kernel
theorem dX10_foretold_56 : decode cX10_foretold 56 = .ok (.iload 6, 2) := by decide +kernel
theorem dX10_foretold_58 : decode cX10_foretold 58 = .ok (.iconst (-1), 1) := by decide +kernel
theorem dX10_foretold_59 : decode cX10_foretold 59 = .ok (.if_icmp .eq 32, 3) := by decide +kernel
theorem dX10_foretold_62 : decode cX10_foretold 62 = .ok (.aload_n 0, 1) := by decide +kernel
theorem dX10_foretold_63 : decode cX10_foretold 63 = .ok (.getfield 52, 3) := by decide +kernel
theorem dX10_foretold_66 : decode cX10_foretold 66 = .ok (.iload 6, 2) := by decide +kernel
theorem dX10_foretold_68 : decode cX10_foretold 68 = .ok (.iload_n 1, 1) := by decide +kernel
theorem dX10_foretold_69 : decode cX10_foretold 69 = .ok (.invokevirtual 227, 3) := by decide +kernel
theorem dX10_foretold_72 : decode cX10_foretold 72 = .ok (.iload_n 1, 1) := by decide +kernel
theorem dX10_foretold_73 : decode cX10_foretold 73 = .ok (.if_icmp .ne 18, 3) := by decide +kernel
theorem dX10_foretold_76 : decode cX10_foretold 76 = .ok (.lload_n 2, 1) := by decide +kernel
theorem dX10_foretold_77 : decode cX10_foretold 77 = .ok (.aload_n 0, 1) := by decide +kernel
theorem dX10_foretold_78 : decode cX10_foretold 78 = .ok (.getfield 52, 3) := by decide +kernel
theorem dX10_foretold_81 : decode cX10_foretold 81 = .ok (.aload 5, 2) := by decide +kernel
theorem dX10_foretold_83 : decode cX10_foretold 83 = .ok (.iload 6, 2) := by decide +kernel
theorem dX10_foretold_85 : decode cX10_foretold 85 = .ok (.iload_n 1, 1) := by decide +kernel
theorem dX10_foretold_86 : decode cX10_foretold 86 = .ok (.invokevirtual 230, 3) := by decide +kernel
theorem dX10_foretold_89 : decode cX10_foretold 89 = .ok (.ladd, 1) := by decide +kernel
theorem dX10_foretold_90 : decode cX10_foretold 90 = .ok (.lstore_n 2, 1) := by decide +kernel
theorem dX10_foretold_91 : decode cX10_foretold 91 = .ok (.iinc 4 1, 3) := by decide +kernel
theorem dX10_foretold_94 : decode cX10_foretold 94 = .ok (.goto (-73), 3) := by decide +kernel
theorem dX10_foretold_97 : decode cX10_foretold 97 = .ok (.lload_n 2, 1) := by decide +kernel
theorem dX10_foretold_98 : decode cX10_foretold 98 = .ok (.lreturn, 1) := by decide +kernel
theorem dX10_income_0 : decode cX10_income 0 = .ok (.iload_n 1, 1) := by decide +kernel
theorem dX10_income_1 : decode cX10_income 1 = .ok (.iconst 0, 1) := by decide +kernel
theorem dX10_income_2 : decode cX10_income 2 = .ok (.ldc 234, 2) := by decide +kernel
theorem dX10_income_4 : decode cX10_income 4 = .ok (.invokestatic 90, 3) := by decide +kernel
theorem dX10_income_7 : decode cX10_income 7 = .ok (.ifCond .ne 12, 3) := by decide +kernel
theorem dX10_income_10 : decode cX10_income 10 = .ok (.aload_n 0, 1) := by decide +kernel
theorem dX10_income_11 : decode cX10_income 11 = .ok (.getfield 10, 3) := by decide +kernel
theorem dX10_income_14 : decode cX10_income 14 = .ok (.iconst 1, 1) := by decide +kernel
theorem dX10_income_15 : decode cX10_income 15 = .ok (.invokevirtual 94, 3) := by decide +kernel
theorem dX10_income_18 : decode cX10_income 18 = .ok (.lreturn, 1) := by decide +kernel
theorem dX10_income_19 : decode cX10_income 19 = .ok (.aload_n 0, 1) := by decide +kernel
theorem dX10_income_20 : decode cX10_income 20 = .ok (.getfield 59, 3) := by decide +kernel
theorem dX10_income_23 : decode cX10_income 23 = .ok (.getfield 235, 3) := by decide +kernel
theorem dX10_income_26 : decode cX10_income 26 = .ok (.iload_n 1, 1) := by decide +kernel
theorem dX10_income_27 : decode cX10_income 27 = .ok (.i2l, 1) := by decide +kernel
theorem dX10_income_28 : decode cX10_income 28 = .ok (.ladd, 1) := by decide +kernel
theorem dX10_income_29 : decode cX10_income 29 = .ok (.ldc2_w 238, 3) := by decide +kernel
theorem dX10_income_32 : decode cX10_income 32 = .ok (.lcmp, 1) := by decide +kernel
theorem dX10_income_33 : decode cX10_income 33 = .ok (.ifCond .le 12, 3) := by decide +kernel
theorem dX10_income_36 : decode cX10_income 36 = .ok (.aload_n 0, 1) := by decide +kernel
theorem dX10_income_37 : decode cX10_income 37 = .ok (.getfield 10, 3) := by decide +kernel
theorem dX10_income_40 : decode cX10_income 40 = .ok (.iconst 4, 1) := by decide +kernel
theorem dX10_income_41 : decode cX10_income 41 = .ok (.invokevirtual 94, 3) := by decide +kernel
theorem dX10_income_44 : decode cX10_income 44 = .ok (.lreturn, 1) := by decide +kernel
theorem dX10_income_45 : decode cX10_income 45 = .ok (.aload_n 0, 1) := by decide +kernel
theorem dX10_income_46 : decode cX10_income 46 = .ok (.getfield 59, 3) := by decide +kernel
theorem dX10_income_49 : decode cX10_income 49 = .ok (.dup, 1) := by decide +kernel
theorem dX10_income_50 : decode cX10_income 50 = .ok (.getfield 235, 3) := by decide +kernel
theorem dX10_income_53 : decode cX10_income 53 = .ok (.iload_n 1, 1) := by decide +kernel
theorem dX10_income_54 : decode cX10_income 54 = .ok (.i2l, 1) := by decide +kernel
theorem dX10_income_55 : decode cX10_income 55 = .ok (.ladd, 1) := by decide +kernel
theorem dX10_income_56 : decode cX10_income 56 = .ok (.putfield 235, 3) := by decide +kernel
theorem dX10_income_59 : decode cX10_income 59 = .ok (.aload_n 0, 1) := by decide +kernel
theorem dX10_income_60 : decode cX10_income 60 = .ok (.getfield 59, 3) := by decide +kernel
theorem dX10_income_63 : decode cX10_income 63 = .ok (.dup, 1) := by decide +kernel
theorem dX10_income_64 : decode cX10_income 64 = .ok (.getfield 240, 3) := by decide +kernel
theorem dX10_income_67 : decode cX10_income 67 = .ok (.iload_n 1, 1) := by decide +kernel
theorem dX10_income_68 : decode cX10_income 68 = .ok (.i2l, 1) := by decide +kernel
theorem dX10_income_69 : decode cX10_income 69 = .ok (.ladd, 1) := by decide +kernel
theorem dX10_income_70 : decode cX10_income 70 = .ok (.putfield 240, 3) := by decide +kernel
theorem dX10_income_73 : decode cX10_income 73 = .ok (.aload_n 0, 1) := by decide +kernel
theorem dX10_income_74 : decode cX10_income 74 = .ok (.getfield 59, 3) := by decide +kernel
theorem dX10_income_77 : decode cX10_income 77 = .ok (.getfield 235, 3) := by decide +kernel
theorem dX10_income_80 : decode cX10_income 80 = .ok (.lreturn, 1) := by decide +kernel
theorem dX10_purse_0 : decode cX10_purse 0 = .ok (.iload_n 1, 1) := by decide +kernel
theorem dX10_purse_1 : decode cX10_purse 1 = .ok (.tableswitch 89 0 5 #[39, 47, 55, 63, 71, 80], 39) := by decide +kernel
theorem dX10_purse_40 : decode cX10_purse 40 = .ok (.aload_n 0, 1) := by decide +kernel
theorem dX10_purse_41 : decode cX10_purse 41 = .ok (.getfield 59, 3) := by decide +kernel
theorem dX10_purse_44 : decode cX10_purse 44 = .ok (.getfield 235, 3) := by decide +kernel
theorem dX10_purse_47 : decode cX10_purse 47 = .ok (.lreturn, 1) := by decide +kernel
theorem dX10_purse_48 : decode cX10_purse 48 = .ok (.aload_n 0, 1) := by decide +kernel
theorem dX10_purse_49 : decode cX10_purse 49 = .ok (.getfield 59, 3) := by decide +kernel
theorem dX10_purse_52 : decode cX10_purse 52 = .ok (.getfield 240, 3) := by decide +kernel
theorem dX10_purse_55 : decode cX10_purse 55 = .ok (.lreturn, 1) := by decide +kernel
theorem dX10_purse_56 : decode cX10_purse 56 = .ok (.aload_n 0, 1) := by decide +kernel
theorem dX10_purse_57 : decode cX10_purse 57 = .ok (.getfield 59, 3) := by decide +kernel
theorem dX10_purse_60 : decode cX10_purse 60 = .ok (.getfield 243, 3) := by decide +kernel
theorem dX10_purse_63 : decode cX10_purse 63 = .ok (.lreturn, 1) := by decide +kernel
theorem dX10_purse_64 : decode cX10_purse 64 = .ok (.aload_n 0, 1) := by decide +kernel
theorem dX10_purse_65 : decode cX10_purse 65 = .ok (.getfield 68, 3) := by decide +kernel
theorem dX10_purse_68 : decode cX10_purse 68 = .ok (.getfield 246, 3) := by decide +kernel
theorem dX10_purse_71 : decode cX10_purse 71 = .ok (.lreturn, 1) := by decide +kernel
theorem dX10_purse_72 : decode cX10_purse 72 = .ok (.aload_n 0, 1) := by decide +kernel
theorem dX10_purse_73 : decode cX10_purse 73 = .ok (.getfield 68, 3) := by decide +kernel
theorem dX10_purse_76 : decode cX10_purse 76 = .ok (.getfield 249, 3) := by decide +kernel
theorem dX10_purse_79 : decode cX10_purse 79 = .ok (.i2l, 1) := by decide +kernel
theorem dX10_purse_80 : decode cX10_purse 80 = .ok (.lreturn, 1) := by decide +kernel
theorem dX10_purse_81 : decode cX10_purse 81 = .ok (.aload_n 0, 1) := by decide +kernel
theorem dX10_purse_82 : decode cX10_purse 82 = .ok (.getfield 43, 3) := by decide +kernel
theorem dX10_purse_85 : decode cX10_purse 85 = .ok (.invokevirtual 250, 3) := by decide +kernel
theorem dX10_purse_88 : decode cX10_purse 88 = .ok (.i2l, 1) := by decide +kernel
theorem dX10_purse_89 : decode cX10_purse 89 = .ok (.lreturn, 1) := by decide +kernel
theorem dX10_purse_90 : decode cX10_purse 90 = .ok (.aload_n 0, 1) := by decide +kernel
theorem dX10_purse_91 : decode cX10_purse 91 = .ok (.getfield 10, 3) := by decide +kernel
theorem dX10_purse_94 : decode cX10_purse 94 = .ok (.iconst 1, 1) := by decide +kernel
theorem dX10_purse_95 : decode cX10_purse 95 = .ok (.invokevirtual 94, 3) := by decide +kernel
theorem dX10_purse_98 : decode cX10_purse 98 = .ok (.lreturn, 1) := by decide +kernel
theorem dX10_paid_0 : decode cX10_paid 0 = .ok (.iload_n 1, 1) := by decide +kernel
theorem dX10_paid_1 : decode cX10_paid 1 = .ok (.invokestatic 165, 3) := by decide +kernel
theorem dX10_paid_4 : decode cX10_paid 4 = .ok (.ifCond .ne 12, 3) := by decide +kernel
theorem dX10_paid_7 : decode cX10_paid 7 = .ok (.aload_n 0, 1) := by decide +kernel
theorem dX10_paid_8 : decode cX10_paid 8 = .ok (.getfield 10, 3) := by decide +kernel
theorem dX10_paid_11 : decode cX10_paid 11 = .ok (.iconst 1, 1) := by decide +kernel
theorem dX10_paid_12 : decode cX10_paid 12 = .ok (.invokevirtual 94, 3) := by decide +kernel
theorem dX10_paid_15 : decode cX10_paid 15 = .ok (.lreturn, 1) := by decide +kernel
theorem dX10_paid_16 : decode cX10_paid 16 = .ok (.aload_n 0, 1) := by decide +kernel
theorem dX10_paid_17 : decode cX10_paid 17 = .ok (.getfield 59, 3) := by decide +kernel
theorem dX10_paid_20 : decode cX10_paid 20 = .ok (.getfield 253, 3) := by decide +kernel
theorem dX10_paid_23 : decode cX10_paid 23 = .ok (.iload_n 1, 1) := by decide +kernel
theorem dX10_paid_24 : decode cX10_paid 24 = .ok (.laload, 1) := by decide +kernel
theorem dX10_paid_25 : decode cX10_paid 25 = .ok (.lreturn, 1) := by decide +kernel
theorem dX10_lives_0 : decode cX10_lives 0 = .ok (.iload_n 1, 1) := by decide +kernel
theorem dX10_lives_1 : decode cX10_lives 1 = .ok (.invokestatic 257, 3) := by decide +kernel
theorem dX10_lives_4 : decode cX10_lives 4 = .ok (.ifCond .eq 13, 3) := by decide +kernel
theorem dX10_lives_7 : decode cX10_lives 7 = .ok (.iload_n 2, 1) := by decide +kernel
theorem dX10_lives_8 : decode cX10_lives 8 = .ok (.iload_n 3, 1) := by decide +kernel
theorem dX10_lives_9 : decode cX10_lives 9 = .ok (.iload 4, 2) := by decide +kernel
theorem dX10_lives_11 : decode cX10_lives 11 = .ok (.invokestatic 260, 3) := by decide +kernel
theorem dX10_lives_14 : decode cX10_lives 14 = .ok (.ifCond .ne 12, 3) := by decide +kernel
theorem dX10_lives_17 : decode cX10_lives 17 = .ok (.aload_n 0, 1) := by decide +kernel
theorem dX10_lives_18 : decode cX10_lives 18 = .ok (.getfield 10, 3) := by decide +kernel
theorem dX10_lives_21 : decode cX10_lives 21 = .ok (.iconst 1, 1) := by decide +kernel
theorem dX10_lives_22 : decode cX10_lives 22 = .ok (.invokevirtual 94, 3) := by decide +kernel
theorem dX10_lives_25 : decode cX10_lives 25 = .ok (.lreturn, 1) := by decide +kernel
theorem dX10_lives_26 : decode cX10_lives 26 = .ok (.aload_n 0, 1) := by decide +kernel
theorem dX10_lives_27 : decode cX10_lives 27 = .ok (.getfield 75, 3) := by decide +kernel
theorem dX10_lives_30 : decode cX10_lives 30 = .ok (.iload_n 1, 1) := by decide +kernel
theorem dX10_lives_31 : decode cX10_lives 31 = .ok (.iload_n 2, 1) := by decide +kernel
theorem dX10_lives_32 : decode cX10_lives 32 = .ok (.iload_n 3, 1) := by decide +kernel
theorem dX10_lives_33 : decode cX10_lives 33 = .ok (.iload 4, 2) := by decide +kernel
theorem dX10_lives_35 : decode cX10_lives 35 = .ok (.invokevirtual 263, 3) := by decide +kernel
theorem dX10_lives_38 : decode cX10_lives 38 = .ok (.sipush 1000, 3) := by decide +kernel
theorem dX10_lives_41 : decode cX10_lives 41 = .ok (.iload_n 2, 1) := by decide +kernel
theorem dX10_lives_42 : decode cX10_lives 42 = .ok (.isub, 1) := by decide +kernel
theorem dX10_lives_43 : decode cX10_lives 43 = .ok (.iload_n 3, 1) := by decide +kernel
theorem dX10_lives_44 : decode cX10_lives 44 = .ok (.isub, 1) := by decide +kernel
theorem dX10_lives_45 : decode cX10_lives 45 = .ok (.iload 4, 2) := by decide +kernel
theorem dX10_lives_47 : decode cX10_lives 47 = .ok (.isub, 1) := by decide +kernel
theorem dX10_lives_48 : decode cX10_lives 48 = .ok (.i2l, 1) := by decide +kernel
theorem dX10_lives_49 : decode cX10_lives 49 = .ok (.lreturn, 1) := by decide +kernel
theorem dX10_value_0 : decode cX10_value 0 = .ok (.iload_n 1, 1) := by decide +kernel
theorem dX10_value_1 : decode cX10_value 1 = .ok (.iload_n 2, 1) := by decide +kernel
theorem dX10_value_2 : decode cX10_value 2 = .ok (.invokestatic 266, 3) := by decide +kernel
theorem dX10_value_5 : decode cX10_value 5 = .ok (.ifCond .eq 14, 3) := by decide +kernel
theorem dX10_value_8 : decode cX10_value 8 = .ok (.iload_n 3, 1) := by decide +kernel
theorem dX10_value_9 : decode cX10_value 9 = .ok (.iconst 0, 1) := by decide +kernel
theorem dX10_value_10 : decode cX10_value 10 = .ok (.ldc_w 269, 3) := by decide +kernel
theorem dX10_value_13 : decode cX10_value 13 = .ok (.invokestatic 90, 3) := by decide +kernel
theorem dX10_value_16 : decode cX10_value 16 = .ok (.ifCond .ne 12, 3) := by decide +kernel
theorem dX10_value_19 : decode cX10_value 19 = .ok (.aload_n 0, 1) := by decide +kernel
theorem dX10_value_20 : decode cX10_value 20 = .ok (.getfield 10, 3) := by decide +kernel
theorem dX10_value_23 : decode cX10_value 23 = .ok (.iconst 1, 1) := by decide +kernel
theorem dX10_value_24 : decode cX10_value 24 = .ok (.invokevirtual 94, 3) := by decide +kernel
theorem dX10_value_27 : decode cX10_value 27 = .ok (.lreturn, 1) := by decide +kernel
theorem dX10_value_28 : decode cX10_value 28 = .ok (.iload_n 3, 1) := by decide +kernel
theorem dX10_value_29 : decode cX10_value 29 = .ok (.i2l, 1) := by decide +kernel
theorem dX10_value_30 : decode cX10_value 30 = .ok (.aload_n 0, 1) := by decide +kernel
theorem dX10_value_31 : decode cX10_value 31 = .ok (.getfield 75, 3) := by decide +kernel
theorem dX10_value_34 : decode cX10_value 34 = .ok (.iload_n 1, 1) := by decide +kernel
theorem dX10_value_35 : decode cX10_value 35 = .ok (.iload_n 2, 1) := by decide +kernel
theorem dX10_value_36 : decode cX10_value 36 = .ok (.invokevirtual 270, 3) := by decide +kernel
theorem dX10_value_39 : decode cX10_value 39 = .ok (.lmul, 1) := by decide +kernel
theorem dX10_value_40 : decode cX10_value 40 = .ok (.ldc2_w 273, 3) := by decide +kernel
theorem dX10_value_43 : decode cX10_value 43 = .ok (.ldiv, 1) := by decide +kernel
theorem dX10_value_44 : decode cX10_value 44 = .ok (.lreturn, 1) := by decide +kernel
theorem dX10_left_0 : decode cX10_left 0 = .ok (.iload_n 1, 1) := by decide +kernel
theorem dX10_left_1 : decode cX10_left 1 = .ok (.iload_n 2, 1) := by decide +kernel
theorem dX10_left_2 : decode cX10_left 2 = .ok (.invokestatic 266, 3) := by decide +kernel
theorem dX10_left_5 : decode cX10_left 5 = .ok (.ifCond .ne 12, 3) := by decide +kernel
theorem dX10_left_8 : decode cX10_left 8 = .ok (.aload_n 0, 1) := by decide +kernel
theorem dX10_left_9 : decode cX10_left 9 = .ok (.getfield 10, 3) := by decide +kernel
theorem dX10_left_12 : decode cX10_left 12 = .ok (.iconst 1, 1) := by decide +kernel
theorem dX10_left_13 : decode cX10_left 13 = .ok (.invokevirtual 94, 3) := by decide +kernel
theorem dX10_left_16 : decode cX10_left 16 = .ok (.lreturn, 1) := by decide +kernel
theorem dX10_left_17 : decode cX10_left 17 = .ok (.aload_n 0, 1) := by decide +kernel
theorem dX10_left_18 : decode cX10_left 18 = .ok (.getfield 75, 3) := by decide +kernel
theorem dX10_left_21 : decode cX10_left 21 = .ok (.iload_n 1, 1) := by decide +kernel
theorem dX10_left_22 : decode cX10_left 22 = .ok (.iload_n 2, 1) := by decide +kernel
theorem dX10_left_23 : decode cX10_left 23 = .ok (.invokevirtual 275, 3) := by decide +kernel
theorem dX10_left_26 : decode cX10_left 26 = .ok (.lreturn, 1) := by decide +kernel
theorem dX10_tell_0 : decode cX10_tell 0 = .ok (.aload_n 0, 1) := by decide +kernel
theorem dX10_tell_1 : decode cX10_tell 1 = .ok (.getfield 82, 3) := by decide +kernel
theorem dX10_tell_4 : decode cX10_tell 4 = .ok (.invokevirtual 278, 3) := by decide +kernel
theorem dX10_tell_7 : decode cX10_tell 7 = .ok (.ifCond .eq 12, 3) := by decide +kernel
theorem dX10_tell_10 : decode cX10_tell 10 = .ok (.aload_n 0, 1) := by decide +kernel
theorem dX10_tell_11 : decode cX10_tell 11 = .ok (.getfield 10, 3) := by decide +kernel
theorem dX10_tell_14 : decode cX10_tell 14 = .ok (.iconst 4, 1) := by decide +kernel
theorem dX10_tell_15 : decode cX10_tell 15 = .ok (.invokevirtual 94, 3) := by decide +kernel
theorem dX10_tell_18 : decode cX10_tell 18 = .ok (.lreturn, 1) := by decide +kernel
theorem dX10_tell_19 : decode cX10_tell 19 = .ok (.aload_n 0, 1) := by decide +kernel
theorem dX10_tell_20 : decode cX10_tell 20 = .ok (.getfield 82, 3) := by decide +kernel
theorem dX10_tell_23 : decode cX10_tell 23 = .ok (.iload_n 1, 1) := by decide +kernel
theorem dX10_tell_24 : decode cX10_tell 24 = .ok (.invokevirtual 279, 3) := by decide +kernel
theorem dX10_tell_27 : decode cX10_tell 27 = .ok (.aload_n 0, 1) := by decide +kernel
theorem dX10_tell_28 : decode cX10_tell 28 = .ok (.getfield 82, 3) := by decide +kernel
end
section
theorem dX10_tell_31 : decode cX10_tell 31 = .ok (.getfield 280, 3) := by decide +kernel
theorem dX10_tell_34 : decode cX10_tell 34 = .ok (.i2l, 1) := by decide +kernel
theorem dX10_tell_35 : decode cX10_tell 35 = .ok (.lreturn, 1) := by decide +kernel
theorem dX10_check_0 : decode cX10_check 0 = .ok (.aload_n 0, 1) := by decide +kernel
theorem dX10_check_1 : decode cX10_check 1 = .ok (.invokevirtual 281, 3) := by decide +kernel
theorem dX10_check_4 : decode cX10_check 4 = .ok (.istore_n 1, 1) := by decide +kernel
theorem dX10_check_5 : decode cX10_check 5 = .ok (.aload_n 0, 1) := by decide +kernel
theorem dX10_check_6 : decode cX10_check 6 = .ok (.getfield 82, 3) := by decide +kernel
theorem dX10_check_9 : decode cX10_check 9 = .ok (.iconst 0, 1) := by decide +kernel
theorem dX10_check_10 : decode cX10_check 10 = .ok (.putfield 280, 3) := by decide +kernel
theorem dX10_check_13 : decode cX10_check 13 = .ok (.iload_n 1, 1) := by decide +kernel
theorem dX10_check_14 : decode cX10_check 14 = .ok (.i2l, 1) := by decide +kernel
theorem dX10_check_15 : decode cX10_check 15 = .ok (.lreturn, 1) := by decide +kernel
theorem dX10_count_0 : decode cX10_count 0 = .ok (.iload_n 1, 1) := by decide +kernel
theorem dX10_count_1 : decode cX10_count 1 = .ok (.tableswitch 90 0 5 #[39, 45, 54, 63, 72, 81], 39) := by decide +kernel
theorem dX10_count_40 : decode cX10_count 40 = .ok (.aload_n 0, 1) := by decide +kernel
theorem dX10_count_41 : decode cX10_count 41 = .ok (.getfield 86, 3) := by decide +kernel
theorem dX10_count_44 : decode cX10_count 44 = .ok (.i2l, 1) := by decide +kernel
theorem dX10_count_45 : decode cX10_count 45 = .ok (.lreturn, 1) := by decide +kernel
theorem dX10_count_46 : decode cX10_count 46 = .ok (.aload_n 0, 1) := by decide +kernel
theorem dX10_count_47 : decode cX10_count 47 = .ok (.getfield 19, 3) := by decide +kernel
theorem dX10_count_50 : decode cX10_count 50 = .ok (.getfield 125, 3) := by decide +kernel
theorem dX10_count_53 : decode cX10_count 53 = .ok (.i2l, 1) := by decide +kernel
theorem dX10_count_54 : decode cX10_count 54 = .ok (.lreturn, 1) := by decide +kernel
theorem dX10_count_55 : decode cX10_count 55 = .ok (.aload_n 0, 1) := by decide +kernel
theorem dX10_count_56 : decode cX10_count 56 = .ok (.getfield 36, 3) := by decide +kernel
theorem dX10_count_59 : decode cX10_count 59 = .ok (.getfield 135, 3) := by decide +kernel
theorem dX10_count_62 : decode cX10_count 62 = .ok (.i2l, 1) := by decide +kernel
theorem dX10_count_63 : decode cX10_count 63 = .ok (.lreturn, 1) := by decide +kernel
theorem dX10_count_64 : decode cX10_count 64 = .ok (.aload_n 0, 1) := by decide +kernel
theorem dX10_count_65 : decode cX10_count 65 = .ok (.getfield 36, 3) := by decide +kernel
theorem dX10_count_68 : decode cX10_count 68 = .ok (.getfield 149, 3) := by decide +kernel
theorem dX10_count_71 : decode cX10_count 71 = .ok (.i2l, 1) := by decide +kernel
theorem dX10_count_72 : decode cX10_count 72 = .ok (.lreturn, 1) := by decide +kernel
theorem dX10_count_73 : decode cX10_count 73 = .ok (.aload_n 0, 1) := by decide +kernel
theorem dX10_count_74 : decode cX10_count 74 = .ok (.getfield 43, 3) := by decide +kernel
theorem dX10_count_77 : decode cX10_count 77 = .ok (.getfield 188, 3) := by decide +kernel
theorem dX10_count_80 : decode cX10_count 80 = .ok (.i2l, 1) := by decide +kernel
theorem dX10_count_81 : decode cX10_count 81 = .ok (.lreturn, 1) := by decide +kernel
theorem dX10_count_82 : decode cX10_count 82 = .ok (.aload_n 0, 1) := by decide +kernel
theorem dX10_count_83 : decode cX10_count 83 = .ok (.getfield 82, 3) := by decide +kernel
theorem dX10_count_86 : decode cX10_count 86 = .ok (.getfield 280, 3) := by decide +kernel
theorem dX10_count_89 : decode cX10_count 89 = .ok (.i2l, 1) := by decide +kernel
theorem dX10_count_90 : decode cX10_count 90 = .ok (.lreturn, 1) := by decide +kernel
theorem dX10_count_91 : decode cX10_count 91 = .ok (.aload_n 0, 1) := by decide +kernel
theorem dX10_count_92 : decode cX10_count 92 = .ok (.getfield 10, 3) := by decide +kernel
theorem dX10_count_95 : decode cX10_count 95 = .ok (.iconst 1, 1) := by decide +kernel
theorem dX10_count_96 : decode cX10_count 96 = .ok (.invokevirtual 94, 3) := by decide +kernel
theorem dX10_count_99 : decode cX10_count 99 = .ok (.lreturn, 1) := by decide +kernel
theorem dX10_found_0 : decode cX10_found 0 = .ok (.iload_n 1, 1) := by decide +kernel
theorem dX10_found_1 : decode cX10_found 1 = .ok (.iconst 1, 1) := by decide +kernel
theorem dX10_found_2 : decode cX10_found 2 = .ok (.iconst 5, 1) := by decide +kernel
theorem dX10_found_3 : decode cX10_found 3 = .ok (.invokestatic 90, 3) := by decide +kernel
theorem dX10_found_6 : decode cX10_found 6 = .ok (.ifCond .ne 12, 3) := by decide +kernel
theorem dX10_found_9 : decode cX10_found 9 = .ok (.aload_n 0, 1) := by decide +kernel
theorem dX10_found_10 : decode cX10_found 10 = .ok (.getfield 10, 3) := by decide +kernel
theorem dX10_found_13 : decode cX10_found 13 = .ok (.iconst 1, 1) := by decide +kernel
theorem dX10_found_14 : decode cX10_found 14 = .ok (.invokevirtual 94, 3) := by decide +kernel
theorem dX10_found_17 : decode cX10_found 17 = .ok (.lreturn, 1) := by decide +kernel
theorem dX10_found_18 : decode cX10_found 18 = .ok (.aload_n 0, 1) := by decide +kernel
theorem dX10_found_19 : decode cX10_found 19 = .ok (.getfield 10, 3) := by decide +kernel
theorem dX10_found_22 : decode cX10_found 22 = .ok (.getfield 284, 3) := by decide +kernel
theorem dX10_found_25 : decode cX10_found 25 = .ok (.iload_n 1, 1) := by decide +kernel
theorem dX10_found_26 : decode cX10_found 26 = .ok (.iaload, 1) := by decide +kernel
theorem dX10_found_27 : decode cX10_found 27 = .ok (.i2l, 1) := by decide +kernel
theorem dX10_found_28 : decode cX10_found 28 = .ok (.lreturn, 1) := by decide +kernel
theorem dX10_isWithin_0 : decode cX10_isWithin 0 = .ok (.iload_n 0, 1) := by decide +kernel
theorem dX10_isWithin_1 : decode cX10_isWithin 1 = .ok (.iload_n 1, 1) := by decide +kernel
theorem dX10_isWithin_2 : decode cX10_isWithin 2 = .ok (.if_icmp .lt 12, 3) := by decide +kernel
theorem dX10_isWithin_5 : decode cX10_isWithin 5 = .ok (.iload_n 0, 1) := by decide +kernel
theorem dX10_isWithin_6 : decode cX10_isWithin 6 = .ok (.iload_n 2, 1) := by decide +kernel
theorem dX10_isWithin_7 : decode cX10_isWithin 7 = .ok (.if_icmp .gt 7, 3) := by decide +kernel
theorem dX10_isWithin_10 : decode cX10_isWithin 10 = .ok (.iconst 1, 1) := by decide +kernel
theorem dX10_isWithin_11 : decode cX10_isWithin 11 = .ok (.goto 4, 3) := by decide +kernel
theorem dX10_isWithin_14 : decode cX10_isWithin 14 = .ok (.iconst 0, 1) := by decide +kernel
theorem dX10_isWithin_15 : decode cX10_isWithin 15 = .ok (.ireturn, 1) := by decide +kernel
theorem dX10_isMonth_0 : decode cX10_isMonth 0 = .ok (.iload_n 0, 1) := by decide +kernel
theorem dX10_isMonth_1 : decode cX10_isMonth 1 = .ok (.iconst 0, 1) := by decide +kernel
theorem dX10_isMonth_2 : decode cX10_isMonth 2 = .ok (.sipush 1199, 3) := by decide +kernel
theorem dX10_isMonth_5 : decode cX10_isMonth 5 = .ok (.invokestatic 90, 3) := by decide +kernel
theorem dX10_isMonth_8 : decode cX10_isMonth 8 = .ok (.ireturn, 1) := by decide +kernel
theorem dX10_isHolder_0 : decode cX10_isHolder 0 = .ok (.iload_n 0, 1) := by decide +kernel
theorem dX10_isHolder_1 : decode cX10_isHolder 1 = .ok (.iconst 0, 1) := by decide +kernel
theorem dX10_isHolder_2 : decode cX10_isHolder 2 = .ok (.bipush 9, 2) := by decide +kernel
theorem dX10_isHolder_4 : decode cX10_isHolder 4 = .ok (.invokestatic 90, 3) := by decide +kernel
theorem dX10_isHolder_7 : decode cX10_isHolder 7 = .ok (.ireturn, 1) := by decide +kernel
theorem dX10_isDepositKind_0 : decode cX10_isDepositKind 0 = .ok (.iload_n 0, 1) := by decide +kernel
theorem dX10_isDepositKind_1 : decode cX10_isDepositKind 1 = .ok (.iconst 0, 1) := by decide +kernel
theorem dX10_isDepositKind_2 : decode cX10_isDepositKind 2 = .ok (.iconst 2, 1) := by decide +kernel
theorem dX10_isDepositKind_3 : decode cX10_isDepositKind 3 = .ok (.invokestatic 90, 3) := by decide +kernel
theorem dX10_isDepositKind_6 : decode cX10_isDepositKind 6 = .ok (.ireturn, 1) := by decide +kernel
theorem dX10_thousandths_0 : decode cX10_thousandths 0 = .ok (.lload_n 0, 1) := by decide +kernel
theorem dX10_thousandths_1 : decode cX10_thousandths 1 = .ok (.iload_n 2, 1) := by decide +kernel
theorem dX10_thousandths_2 : decode cX10_thousandths 2 = .ok (.i2l, 1) := by decide +kernel
theorem dX10_thousandths_3 : decode cX10_thousandths 3 = .ok (.lmul, 1) := by decide +kernel
theorem dX10_thousandths_4 : decode cX10_thousandths 4 = .ok (.ldc2_w 287, 3) := by decide +kernel
theorem dX10_thousandths_7 : decode cX10_thousandths 7 = .ok (.ldiv, 1) := by decide +kernel
theorem dX10_thousandths_8 : decode cX10_thousandths 8 = .ok (.lreturn, 1) := by decide +kernel
theorem dX10_hasFateNow_0 : decode cX10_hasFateNow 0 = .ok (.aload_n 0, 1) := by decide +kernel
theorem dX10_hasFateNow_1 : decode cX10_hasFateNow 1 = .ok (.getfield 36, 3) := by decide +kernel
theorem dX10_hasFateNow_4 : decode cX10_hasFateNow 4 = .ok (.iload_n 1, 1) := by decide +kernel
theorem dX10_hasFateNow_5 : decode cX10_hasFateNow 5 = .ok (.aload_n 0, 1) := by decide +kernel
theorem dX10_hasFateNow_6 : decode cX10_hasFateNow 6 = .ok (.getfield 86, 3) := by decide +kernel
theorem dX10_hasFateNow_9 : decode cX10_hasFateNow 9 = .ok (.invokevirtual 152, 3) := by decide +kernel
theorem dX10_hasFateNow_12 : decode cX10_hasFateNow 12 = .ok (.iconst (-1), 1) := by decide +kernel
theorem dX10_hasFateNow_13 : decode cX10_hasFateNow 13 = .ok (.if_icmp .eq 7, 3) := by decide +kernel
theorem dX10_hasFateNow_16 : decode cX10_hasFateNow 16 = .ok (.iconst 1, 1) := by decide +kernel
theorem dX10_hasFateNow_17 : decode cX10_hasFateNow 17 = .ok (.goto 4, 3) := by decide +kernel
theorem dX10_hasFateNow_20 : decode cX10_hasFateNow 20 = .ok (.iconst 0, 1) := by decide +kernel
theorem dX10_hasFateNow_21 : decode cX10_hasFateNow 21 = .ok (.ireturn, 1) := by decide +kernel
theorem dX10_dowryFor_0 : decode cX10_dowryFor 0 = .ok (.bipush 20, 2) := by decide +kernel
theorem dX10_dowryFor_2 : decode cX10_dowryFor 2 = .ok (.iload_n 2, 1) := by decide +kernel
theorem dX10_dowryFor_3 : decode cX10_dowryFor 3 = .ok (.bipush 12, 2) := by decide +kernel
theorem dX10_dowryFor_5 : decode cX10_dowryFor 5 = .ok (.idiv, 1) := by decide +kernel
theorem dX10_dowryFor_6 : decode cX10_dowryFor 6 = .ok (.invokestatic 289, 3) := by decide +kernel
theorem dX10_dowryFor_9 : decode cX10_dowryFor 9 = .ok (.istore_n 3, 1) := by decide +kernel
theorem dX10_dowryFor_10 : decode cX10_dowryFor 10 = .ok (.iload_n 3, 1) := by decide +kernel
theorem dX10_dowryFor_11 : decode cX10_dowryFor 11 = .ok (.iconst 1, 1) := by decide +kernel
theorem dX10_dowryFor_12 : decode cX10_dowryFor 12 = .ok (.bipush 20, 2) := by decide +kernel
theorem dX10_dowryFor_14 : decode cX10_dowryFor 14 = .ok (.invokestatic 90, 3) := by decide +kernel
theorem dX10_dowryFor_17 : decode cX10_dowryFor 17 = .ok (.ifCond .eq 12, 3) := by decide +kernel
theorem dX10_dowryFor_20 : decode cX10_dowryFor 20 = .ok (.aload_n 0, 1) := by decide +kernel
theorem dX10_dowryFor_21 : decode cX10_dowryFor 21 = .ok (.getfield 23, 3) := by decide +kernel
theorem dX10_dowryFor_24 : decode cX10_dowryFor 24 = .ok (.iload_n 3, 1) := by decide +kernel
theorem dX10_dowryFor_25 : decode cX10_dowryFor 25 = .ok (.iaload, 1) := by decide +kernel
theorem dX10_dowryFor_26 : decode cX10_dowryFor 26 = .ok (.goto 5, 3) := by decide +kernel
theorem dX10_dowryFor_29 : decode cX10_dowryFor 29 = .ok (.bipush 100, 2) := by decide +kernel
theorem dX10_dowryFor_31 : decode cX10_dowryFor 31 = .ok (.istore 4, 2) := by decide +kernel
theorem dX10_dowryFor_33 : decode cX10_dowryFor 33 = .ok (.iload_n 1, 1) := by decide +kernel
theorem dX10_dowryFor_34 : decode cX10_dowryFor 34 = .ok (.i2l, 1) := by decide +kernel
theorem dX10_dowryFor_35 : decode cX10_dowryFor 35 = .ok (.iload 4, 2) := by decide +kernel
theorem dX10_dowryFor_37 : decode cX10_dowryFor 37 = .ok (.i2l, 1) := by decide +kernel
theorem dX10_dowryFor_38 : decode cX10_dowryFor 38 = .ok (.lmul, 1) := by decide +kernel
theorem dX10_dowryFor_39 : decode cX10_dowryFor 39 = .ok (.ldc2_w 294, 3) := by decide +kernel
theorem dX10_dowryFor_42 : decode cX10_dowryFor 42 = .ok (.ldiv, 1) := by decide +kernel
theorem dX10_dowryFor_43 : decode cX10_dowryFor 43 = .ok (.lreturn, 1) := by decide +kernel
theorem dX10_compareWaiting_0 : decode cX10_compareWaiting 0 = .ok (.iconst 0, 1) := by decide +kernel
theorem dX10_compareWaiting_1 : decode cX10_compareWaiting 1 = .ok (.istore_n 1, 1) := by decide +kernel
theorem dX10_compareWaiting_2 : decode cX10_compareWaiting 2 = .ok (.iload_n 1, 1) := by decide +kernel
theorem dX10_compareWaiting_3 : decode cX10_compareWaiting 3 = .ok (.aload_n 0, 1) := by decide +kernel
theorem dX10_compareWaiting_4 : decode cX10_compareWaiting 4 = .ok (.getfield 43, 3) := by decide +kernel
theorem dX10_compareWaiting_7 : decode cX10_compareWaiting 7 = .ok (.getfield 188, 3) := by decide +kernel
theorem dX10_compareWaiting_10 : decode cX10_compareWaiting 10 = .ok (.if_icmp .ge 50, 3) := by decide +kernel
theorem dX10_compareWaiting_13 : decode cX10_compareWaiting 13 = .ok (.iload_n 1, 1) := by decide +kernel
theorem dX10_compareWaiting_14 : decode cX10_compareWaiting 14 = .ok (.aload_n 0, 1) := by decide +kernel
theorem dX10_compareWaiting_15 : decode cX10_compareWaiting 15 = .ok (.getfield 82, 3) := by decide +kernel
theorem dX10_compareWaiting_18 : decode cX10_compareWaiting 18 = .ok (.getfield 280, 3) := by decide +kernel
theorem dX10_compareWaiting_21 : decode cX10_compareWaiting 21 = .ok (.if_icmp .ge 29, 3) := by decide +kernel
theorem dX10_compareWaiting_24 : decode cX10_compareWaiting 24 = .ok (.aload_n 0, 1) := by decide +kernel
theorem dX10_compareWaiting_25 : decode cX10_compareWaiting 25 = .ok (.getfield 82, 3) := by decide +kernel
theorem dX10_compareWaiting_28 : decode cX10_compareWaiting 28 = .ok (.getfield 296, 3) := by decide +kernel
theorem dX10_compareWaiting_31 : decode cX10_compareWaiting 31 = .ok (.iload_n 1, 1) := by decide +kernel
theorem dX10_compareWaiting_32 : decode cX10_compareWaiting 32 = .ok (.iaload, 1) := by decide +kernel
theorem dX10_compareWaiting_33 : decode cX10_compareWaiting 33 = .ok (.i2l, 1) := by decide +kernel
theorem dX10_compareWaiting_34 : decode cX10_compareWaiting 34 = .ok (.aload_n 0, 1) := by decide +kernel
theorem dX10_compareWaiting_35 : decode cX10_compareWaiting 35 = .ok (.aload_n 0, 1) := by decide +kernel
theorem dX10_compareWaiting_36 : decode cX10_compareWaiting 36 = .ok (.getfield 43, 3) := by decide +kernel
theorem dX10_compareWaiting_39 : decode cX10_compareWaiting 39 = .ok (.iload_n 1, 1) := by decide +kernel
theorem dX10_compareWaiting_40 : decode cX10_compareWaiting 40 = .ok (.invokevirtual 189, 3) := by decide +kernel
theorem dX10_compareWaiting_43 : decode cX10_compareWaiting 43 = .ok (.invokevirtual 299, 3) := by decide +kernel
theorem dX10_compareWaiting_46 : decode cX10_compareWaiting 46 = .ok (.lcmp, 1) := by decide +kernel
theorem dX10_compareWaiting_47 : decode cX10_compareWaiting 47 = .ok (.ifCond .eq 7, 3) := by decide +kernel
theorem dX10_compareWaiting_50 : decode cX10_compareWaiting 50 = .ok (.iconst 1, 1) := by decide +kernel
theorem dX10_compareWaiting_51 : decode cX10_compareWaiting 51 = .ok (.iload_n 1, 1) := by decide +kernel
theorem dX10_compareWaiting_52 : decode cX10_compareWaiting 52 = .ok (.iadd, 1) := by decide +kernel
theorem dX10_compareWaiting_53 : decode cX10_compareWaiting 53 = .ok (.ireturn, 1) := by decide +kernel
theorem dX10_compareWaiting_54 : decode cX10_compareWaiting 54 = .ok (.iinc 1 1, 3) := by decide +kernel
theorem dX10_compareWaiting_57 : decode cX10_compareWaiting 57 = .ok (.goto (-55), 3) := by decide +kernel
theorem dX10_compareWaiting_60 : decode cX10_compareWaiting 60 = .ok (.aload_n 0, 1) := by decide +kernel
theorem dX10_compareWaiting_61 : decode cX10_compareWaiting 61 = .ok (.getfield 82, 3) := by decide +kernel
theorem dX10_compareWaiting_64 : decode cX10_compareWaiting 64 = .ok (.getfield 280, 3) := by decide +kernel
theorem dX10_compareWaiting_67 : decode cX10_compareWaiting 67 = .ok (.aload_n 0, 1) := by decide +kernel
theorem dX10_compareWaiting_68 : decode cX10_compareWaiting 68 = .ok (.getfield 43, 3) := by decide +kernel
theorem dX10_compareWaiting_71 : decode cX10_compareWaiting 71 = .ok (.getfield 188, 3) := by decide +kernel
theorem dX10_compareWaiting_74 : decode cX10_compareWaiting 74 = .ok (.if_icmp .le 8, 3) := by decide +kernel
theorem dX10_compareWaiting_77 : decode cX10_compareWaiting 77 = .ok (.bipush 99, 2) := by decide +kernel
theorem dX10_compareWaiting_79 : decode cX10_compareWaiting 79 = .ok (.goto 4, 3) := by decide +kernel
theorem dX10_compareWaiting_82 : decode cX10_compareWaiting 82 = .ok (.iconst 0, 1) := by decide +kernel
theorem dX10_compareWaiting_83 : decode cX10_compareWaiting 83 = .ok (.ireturn, 1) := by decide +kernel
theorem dX10_dueNow_0 : decode cX10_dueNow 0 = .ok (.aload_n 0, 1) := by decide +kernel
theorem dX10_dueNow_1 : decode cX10_dueNow 1 = .ok (.getfield 52, 3) := by decide +kernel
theorem dX10_dueNow_4 : decode cX10_dueNow 4 = .ok (.aload_n 1, 1) := by decide +kernel
theorem dX10_dueNow_5 : decode cX10_dueNow 5 = .ok (.aload_n 0, 1) := by decide +kernel
theorem dX10_dueNow_6 : decode cX10_dueNow 6 = .ok (.getfield 86, 3) := by decide +kernel
theorem dX10_dueNow_9 : decode cX10_dueNow 9 = .ok (.invokevirtual 223, 3) := by decide +kernel
theorem dX10_dueNow_12 : decode cX10_dueNow 12 = .ok (.istore_n 2, 1) := by decide +kernel
theorem dX10_dueNow_13 : decode cX10_dueNow 13 = .ok (.iload_n 2, 1) := by decide +kernel
theorem dX10_dueNow_14 : decode cX10_dueNow 14 = .ok (.iconst (-1), 1) := by decide +kernel
theorem dX10_dueNow_15 : decode cX10_dueNow 15 = .ok (.if_icmp .ne 7, 3) := by decide +kernel
theorem dX10_dueNow_18 : decode cX10_dueNow 18 = .ok (.lconst 0, 1) := by decide +kernel
theorem dX10_dueNow_19 : decode cX10_dueNow 19 = .ok (.goto 16, 3) := by decide +kernel
theorem dX10_dueNow_22 : decode cX10_dueNow 22 = .ok (.aload_n 0, 1) := by decide +kernel
theorem dX10_dueNow_23 : decode cX10_dueNow 23 = .ok (.getfield 52, 3) := by decide +kernel
theorem dX10_dueNow_26 : decode cX10_dueNow 26 = .ok (.aload_n 1, 1) := by decide +kernel
theorem dX10_dueNow_27 : decode cX10_dueNow 27 = .ok (.iload_n 2, 1) := by decide +kernel
theorem dX10_dueNow_28 : decode cX10_dueNow 28 = .ok (.aload_n 0, 1) := by decide +kernel
theorem dX10_dueNow_29 : decode cX10_dueNow 29 = .ok (.getfield 86, 3) := by decide +kernel
theorem dX10_dueNow_32 : decode cX10_dueNow 32 = .ok (.invokevirtual 230, 3) := by decide +kernel
theorem dX10_dueNow_35 : decode cX10_dueNow 35 = .ok (.lreturn, 1) := by decide +kernel
theorem dX11_init_0 : decode cX11_init 0 = .ok (.aload_n 0, 1) := by decide +kernel
theorem dX11_init_1 : decode cX11_init 1 = .ok (.invokespecial 1, 3) := by decide +kernel
theorem dX11_init_4 : decode cX11_init 4 = .ok (.aload_n 0, 1) := by decide +kernel
theorem dX11_init_5 : decode cX11_init 5 = .ok (.bipush 6, 2) := by decide +kernel
theorem dX11_init_7 : decode cX11_init 7 = .ok (.newarray .int, 2) := by decide +kernel
theorem dX11_init_9 : decode cX11_init 9 = .ok (.putfield 7, 3) := by decide +kernel
theorem dX11_init_12 : decode cX11_init 12 = .ok (.aload_n 0, 1) := by decide +kernel
theorem dX11_init_13 : decode cX11_init 13 = .ok (.bipush 60, 2) := by decide +kernel
theorem dX11_init_15 : decode cX11_init 15 = .ok (.newarray .int, 2) := by decide +kernel
theorem dX11_init_17 : decode cX11_init 17 = .ok (.putfield 13, 3) := by decide +kernel
theorem dX11_init_20 : decode cX11_init 20 = .ok (.aload_n 0, 1) := by decide +kernel
theorem dX11_init_21 : decode cX11_init 21 = .ok (.bipush 60, 2) := by decide +kernel
theorem dX11_init_23 : decode cX11_init 23 = .ok (.newarray .int, 2) := by decide +kernel
theorem dX11_init_25 : decode cX11_init 25 = .ok (.putfield 16, 3) := by decide +kernel
theorem dX11_init_28 : decode cX11_init 28 = .ok (.aload_n 0, 1) := by decide +kernel
theorem dX11_init_29 : decode cX11_init 29 = .ok (.bipush 60, 2) := by decide +kernel
theorem dX11_init_31 : decode cX11_init 31 = .ok (.newarray .int, 2) := by decide +kernel
theorem dX11_init_33 : decode cX11_init 33 = .ok (.putfield 19, 3) := by decide +kernel
theorem dX11_init_36 : decode cX11_init 36 = .ok (.aload_n 0, 1) := by decide +kernel
theorem dX11_init_37 : decode cX11_init 37 = .ok (.bipush 60, 2) := by decide +kernel
theorem dX11_init_39 : decode cX11_init 39 = .ok (.newarray .int, 2) := by decide +kernel
theorem dX11_init_41 : decode cX11_init 41 = .ok (.putfield 22, 3) := by decide +kernel
theorem dX11_init_44 : decode cX11_init 44 = .ok (.aload_n 0, 1) := by decide +kernel
theorem dX11_init_45 : decode cX11_init 45 = .ok (.bipush 21, 2) := by decide +kernel
theorem dX11_init_47 : decode cX11_init 47 = .ok (.newarray .int, 2) := by decide +kernel
theorem dX11_init_49 : decode cX11_init 49 = .ok (.putfield 25, 3) := by decide +kernel
theorem dX11_init_52 : decode cX11_init 52 = .ok (.aload_n 0, 1) := by decide +kernel
theorem dX11_init_53 : decode cX11_init 53 = .ok (.bipush 30, 2) := by decide +kernel
theorem dX11_init_55 : decode cX11_init 55 = .ok (.newarray .int, 2) := by decide +kernel
theorem dX11_init_57 : decode cX11_init 57 = .ok (.putfield 28, 3) := by decide +kernel
theorem dX11_init_60 : decode cX11_init 60 = .ok (.aload_n 0, 1) := by decide +kernel
theorem dX11_init_61 : decode cX11_init 61 = .ok (.bipush 90, 2) := by decide +kernel
theorem dX11_init_63 : decode cX11_init 63 = .ok (.newarray .int, 2) := by decide +kernel
theorem dX11_init_65 : decode cX11_init 65 = .ok (.putfield 31, 3) := by decide +kernel
theorem dX11_init_68 : decode cX11_init 68 = .ok (.aload_n 0, 1) := by decide +kernel
theorem dX11_init_69 : decode cX11_init 69 = .ok (.bipush 90, 2) := by decide +kernel
theorem dX11_init_71 : decode cX11_init 71 = .ok (.newarray .int, 2) := by decide +kernel
theorem dX11_init_73 : decode cX11_init 73 = .ok (.putfield 34, 3) := by decide +kernel
theorem dX11_init_76 : decode cX11_init 76 = .ok (.aload_n 0, 1) := by decide +kernel
theorem dX11_init_77 : decode cX11_init 77 = .ok (.bipush 90, 2) := by decide +kernel
theorem dX11_init_79 : decode cX11_init 79 = .ok (.newarray .int, 2) := by decide +kernel
theorem dX11_init_81 : decode cX11_init 81 = .ok (.putfield 37, 3) := by decide +kernel
theorem dX11_init_84 : decode cX11_init 84 = .ok (.aload_n 0, 1) := by decide +kernel
theorem dX11_init_85 : decode cX11_init 85 = .ok (.bipush 90, 2) := by decide +kernel
theorem dX11_init_87 : decode cX11_init 87 = .ok (.newarray .int, 2) := by decide +kernel
theorem dX11_init_89 : decode cX11_init 89 = .ok (.putfield 40, 3) := by decide +kernel
theorem dX11_init_92 : decode cX11_init 92 = .ok (.aload_n 0, 1) := by decide +kernel
theorem dX11_init_93 : decode cX11_init 93 = .ok (.bipush 30, 2) := by decide +kernel
theorem dX11_init_95 : decode cX11_init 95 = .ok (.newarray .int, 2) := by decide +kernel
theorem dX11_init_97 : decode cX11_init 97 = .ok (.putfield 43, 3) := by decide +kernel
theorem dX11_init_100 : decode cX11_init 100 = .ok (.aload_n 0, 1) := by decide +kernel
theorem dX11_init_101 : decode cX11_init 101 = .ok (.bipush 30, 2) := by decide +kernel
theorem dX11_init_103 : decode cX11_init 103 = .ok (.newarray .int, 2) := by decide +kernel
theorem dX11_init_105 : decode cX11_init 105 = .ok (.putfield 46, 3) := by decide +kernel
theorem dX11_init_108 : decode cX11_init 108 = .ok (.aload_n 0, 1) := by decide +kernel
theorem dX11_init_109 : decode cX11_init 109 = .ok (.bipush 30, 2) := by decide +kernel
theorem dX11_init_111 : decode cX11_init 111 = .ok (.newarray .int, 2) := by decide +kernel
theorem dX11_init_113 : decode cX11_init 113 = .ok (.putfield 49, 3) := by decide +kernel
theorem dX11_init_116 : decode cX11_init 116 = .ok (.aload_n 0, 1) := by decide +kernel
theorem dX11_init_117 : decode cX11_init 117 = .ok (.bipush 30, 2) := by decide +kernel
theorem dX11_init_119 : decode cX11_init 119 = .ok (.newarray .int, 2) := by decide +kernel
theorem dX11_init_121 : decode cX11_init 121 = .ok (.putfield 52, 3) := by decide +kernel
theorem dX11_init_124 : decode cX11_init 124 = .ok (.aload_n 0, 1) := by decide +kernel
theorem dX11_init_125 : decode cX11_init 125 = .ok (.bipush 30, 2) := by decide +kernel
theorem dX11_init_127 : decode cX11_init 127 = .ok (.newarray .long, 2) := by decide +kernel
theorem dX11_init_129 : decode cX11_init 129 = .ok (.putfield 55, 3) := by decide +kernel
theorem dX11_init_132 : decode cX11_init 132 = .ok (.aload_n 0, 1) := by decide +kernel
theorem dX11_init_133 : decode cX11_init 133 = .ok (.bipush 30, 2) := by decide +kernel
theorem dX11_init_135 : decode cX11_init 135 = .ok (.newarray .int, 2) := by decide +kernel
theorem dX11_init_137 : decode cX11_init 137 = .ok (.putfield 59, 3) := by decide +kernel
theorem dX11_init_140 : decode cX11_init 140 = .ok (.aload_n 0, 1) := by decide +kernel
theorem dX11_init_141 : decode cX11_init 141 = .ok (.bipush 30, 2) := by decide +kernel
theorem dX11_init_143 : decode cX11_init 143 = .ok (.newarray .int, 2) := by decide +kernel
theorem dX11_init_145 : decode cX11_init 145 = .ok (.putfield 62, 3) := by decide +kernel
theorem dX11_init_148 : decode cX11_init 148 = .ok (.aload_n 0, 1) := by decide +kernel
theorem dX11_init_149 : decode cX11_init 149 = .ok (.bipush 30, 2) := by decide +kernel
theorem dX11_init_151 : decode cX11_init 151 = .ok (.newarray .long, 2) := by decide +kernel
theorem dX11_init_153 : decode cX11_init 153 = .ok (.putfield 65, 3) := by decide +kernel
theorem dX11_init_156 : decode cX11_init 156 = .ok (.aload_n 0, 1) := by decide +kernel
theorem dX11_init_157 : decode cX11_init 157 = .ok (.bipush 30, 2) := by decide +kernel
theorem dX11_init_159 : decode cX11_init 159 = .ok (.newarray .boolean, 2) := by decide +kernel
theorem dX11_init_161 : decode cX11_init 161 = .ok (.putfield 68, 3) := by decide +kernel
theorem dX11_init_164 : decode cX11_init 164 = .ok (.aload_n 0, 1) := by decide +kernel
theorem dX11_init_165 : decode cX11_init 165 = .ok (.bipush 30, 2) := by decide +kernel
theorem dX11_init_167 : decode cX11_init 167 = .ok (.newarray .int, 2) := by decide +kernel
theorem dX11_init_169 : decode cX11_init 169 = .ok (.putfield 72, 3) := by decide +kernel
theorem dX11_init_172 : decode cX11_init 172 = .ok (.aload_n 0, 1) := by decide +kernel
theorem dX11_init_173 : decode cX11_init 173 = .ok (.sipush 210, 3) := by decide +kernel
theorem dX11_init_176 : decode cX11_init 176 = .ok (.newarray .int, 2) := by decide +kernel
theorem dX11_init_178 : decode cX11_init 178 = .ok (.putfield 75, 3) := by decide +kernel
theorem dX11_init_181 : decode cX11_init 181 = .ok (.aload_n 0, 1) := by decide +kernel
theorem dX11_init_182 : decode cX11_init 182 = .ok (.sipush 210, 3) := by decide +kernel
theorem dX11_init_185 : decode cX11_init 185 = .ok (.newarray .int, 2) := by decide +kernel
theorem dX11_init_187 : decode cX11_init 187 = .ok (.putfield 78, 3) := by decide +kernel
theorem dX11_init_190 : decode cX11_init 190 = .ok (.aload_n 0, 1) := by decide +kernel
theorem dX11_init_191 : decode cX11_init 191 = .ok (.bipush 10, 2) := by decide +kernel
theorem dX11_init_193 : decode cX11_init 193 = .ok (.newarray .long, 2) := by decide +kernel
theorem dX11_init_195 : decode cX11_init 195 = .ok (.putfield 81, 3) := by decide +kernel
theorem dX11_init_198 : decode cX11_init 198 = .ok (.aload_n 0, 1) := by decide +kernel
theorem dX11_init_199 : decode cX11_init 199 = .ok (.bipush 21, 2) := by decide +kernel
theorem dX11_init_201 : decode cX11_init 201 = .ok (.newarray .int, 2) := by decide +kernel
theorem dX11_init_203 : decode cX11_init 203 = .ok (.putfield 84, 3) := by decide +kernel
theorem dX11_init_206 : decode cX11_init 206 = .ok (.aload_n 0, 1) := by decide +kernel
theorem dX11_init_207 : decode cX11_init 207 = .ok (.bipush 21, 2) := by decide +kernel
theorem dX11_init_209 : decode cX11_init 209 = .ok (.newarray .int, 2) := by decide +kernel
theorem dX11_init_211 : decode cX11_init 211 = .ok (.putfield 87, 3) := by decide +kernel
theorem dX11_init_214 : decode cX11_init 214 = .ok (.aload_n 0, 1) := by decide +kernel
theorem dX11_init_215 : decode cX11_init 215 = .ok (.bipush 21, 2) := by decide +kernel
theorem dX11_init_217 : decode cX11_init 217 = .ok (.newarray .int, 2) := by decide +kernel
theorem dX11_init_219 : decode cX11_init 219 = .ok (.putfield 90, 3) := by decide +kernel
theorem dX11_init_222 : decode cX11_init 222 = .ok (.aload_n 0, 1) := by decide +kernel
theorem dX11_init_223 : decode cX11_init 223 = .ok (.bipush 30, 2) := by decide +kernel
theorem dX11_init_225 : decode cX11_init 225 = .ok (.newarray .int, 2) := by decide +kernel
theorem dX11_init_227 : decode cX11_init 227 = .ok (.putfield 93, 3) := by decide +kernel
theorem dX11_init_230 : decode cX11_init 230 = .ok (.aload_n 0, 1) := by decide +kernel
theorem dX11_init_231 : decode cX11_init 231 = .ok (.bipush 30, 2) := by decide +kernel
theorem dX11_init_233 : decode cX11_init 233 = .ok (.newarray .boolean, 2) := by decide +kernel
theorem dX11_init_235 : decode cX11_init 235 = .ok (.putfield 96, 3) := by decide +kernel
theorem dX11_init_238 : decode cX11_init 238 = .ok (.aload_n 0, 1) := by decide +kernel
theorem dX11_init_239 : decode cX11_init 239 = .ok (.bipush 30, 2) := by decide +kernel
theorem dX11_init_241 : decode cX11_init 241 = .ok (.newarray .long, 2) := by decide +kernel
theorem dX11_init_243 : decode cX11_init 243 = .ok (.putfield 99, 3) := by decide +kernel
theorem dX11_init_246 : decode cX11_init 246 = .ok (.iconst 0, 1) := by decide +kernel
theorem dX11_init_247 : decode cX11_init 247 = .ok (.istore_n 1, 1) := by decide +kernel
theorem dX11_init_248 : decode cX11_init 248 = .ok (.iload_n 1, 1) := by decide +kernel
theorem dX11_init_249 : decode cX11_init 249 = .ok (.bipush 21, 2) := by decide +kernel
theorem dX11_init_251 : decode cX11_init 251 = .ok (.if_icmp .ge 17, 3) := by decide +kernel
theorem dX11_init_254 : decode cX11_init 254 = .ok (.aload_n 0, 1) := by decide +kernel
theorem dX11_init_255 : decode cX11_init 255 = .ok (.getfield 25, 3) := by decide +kernel
theorem dX11_init_258 : decode cX11_init 258 = .ok (.iload_n 1, 1) := by decide +kernel
theorem dX11_init_259 : decode cX11_init 259 = .ok (.bipush 100, 2) := by decide +kernel
theorem dX11_init_261 : decode cX11_init 261 = .ok (.iastore, 1) := by decide +kernel
theorem dX11_init_262 : decode cX11_init 262 = .ok (.iinc 1 1, 3) := by decide +kernel
theorem dX11_init_265 : decode cX11_init 265 = .ok (.goto (-17), 3) := by decide +kernel
theorem dX11_init_268 : decode cX11_init 268 = .ok (.return_, 1) := by decide +kernel
theorem dX11_no_0 : decode cX11_no 0 = .ok (.aload_n 0, 1) := by decide +kernel
theorem dX11_no_1 : decode cX11_no 1 = .ok (.getfield 7, 3) := by decide +kernel
theorem dX11_no_4 : decode cX11_no 4 = .ok (.iload_n 1, 1) := by decide +kernel
theorem dX11_no_5 : decode cX11_no 5 = .ok (.dup2, 1) := by decide +kernel
theorem dX11_no_6 : decode cX11_no 6 = .ok (.iaload, 1) := by decide +kernel
theorem dX11_no_7 : decode cX11_no 7 = .ok (.iconst 1, 1) := by decide +kernel
theorem dX11_no_8 : decode cX11_no 8 = .ok (.iadd, 1) := by decide +kernel
theorem dX11_no_9 : decode cX11_no 9 = .ok (.iastore, 1) := by decide +kernel
theorem dX11_no_10 : decode cX11_no 10 = .ok (.ldc2_w 102, 3) := by decide +kernel
theorem dX11_no_13 : decode cX11_no 13 = .ok (.iload_n 1, 1) := by decide +kernel
theorem dX11_no_14 : decode cX11_no 14 = .ok (.i2l, 1) := by decide +kernel
theorem dX11_no_15 : decode cX11_no 15 = .ok (.lsub, 1) := by decide +kernel
theorem dX11_no_16 : decode cX11_no 16 = .ok (.lreturn, 1) := by decide +kernel
theorem dX11_in_0 : decode cX11_in 0 = .ok (.iload_n 0, 1) := by decide +kernel
theorem dX11_in_1 : decode cX11_in 1 = .ok (.iload_n 1, 1) := by decide +kernel
theorem dX11_in_2 : decode cX11_in 2 = .ok (.if_icmp .lt 12, 3) := by decide +kernel
theorem dX11_in_5 : decode cX11_in 5 = .ok (.iload_n 0, 1) := by decide +kernel
theorem dX11_in_6 : decode cX11_in 6 = .ok (.iload_n 2, 1) := by decide +kernel
theorem dX11_in_7 : decode cX11_in 7 = .ok (.if_icmp .gt 7, 3) := by decide +kernel
theorem dX11_in_10 : decode cX11_in 10 = .ok (.iconst 1, 1) := by decide +kernel
theorem dX11_in_11 : decode cX11_in 11 = .ok (.goto 4, 3) := by decide +kernel
theorem dX11_in_14 : decode cX11_in 14 = .ok (.iconst 0, 1) := by decide +kernel
theorem dX11_in_15 : decode cX11_in 15 = .ok (.ireturn, 1) := by decide +kernel
theorem dX11_isMonth_0 : decode cX11_isMonth 0 = .ok (.iload_n 0, 1) := by decide +kernel
theorem dX11_isMonth_1 : decode cX11_isMonth 1 = .ok (.iconst 0, 1) := by decide +kernel
theorem dX11_isMonth_2 : decode cX11_isMonth 2 = .ok (.sipush 1199, 3) := by decide +kernel
theorem dX11_isMonth_5 : decode cX11_isMonth 5 = .ok (.invokestatic 104, 3) := by decide +kernel
theorem dX11_isMonth_8 : decode cX11_isMonth 8 = .ok (.ireturn, 1) := by decide +kernel
theorem dX11_months_0 : decode cX11_months 0 = .ok (.iload_n 1, 1) := by decide +kernel
theorem dX11_months_1 : decode cX11_months 1 = .ok (.iconst 1, 1) := by decide +kernel
theorem dX11_months_2 : decode cX11_months 2 = .ok (.sipush 240, 3) := by decide +kernel
theorem dX11_months_5 : decode cX11_months 5 = .ok (.invokestatic 104, 3) := by decide +kernel
theorem dX11_months_8 : decode cX11_months 8 = .ok (.ifCond .eq 15, 3) := by decide +kernel
theorem dX11_months_11 : decode cX11_months 11 = .ok (.aload_n 0, 1) := by decide +kernel
theorem dX11_months_12 : decode cX11_months 12 = .ok (.getfield 108, 3) := by decide +kernel
theorem dX11_months_15 : decode cX11_months 15 = .ok (.iload_n 1, 1) := by decide +kernel
theorem dX11_months_16 : decode cX11_months 16 = .ok (.iadd, 1) := by decide +kernel
theorem dX11_months_17 : decode cX11_months 17 = .ok (.sipush 1199, 3) := by decide +kernel
theorem dX11_months_20 : decode cX11_months 20 = .ok (.if_icmp .le 9, 3) := by decide +kernel
theorem dX11_months_23 : decode cX11_months 23 = .ok (.aload_n 0, 1) := by decide +kernel
theorem dX11_months_24 : decode cX11_months 24 = .ok (.iconst 1, 1) := by decide +kernel
theorem dX11_months_25 : decode cX11_months 25 = .ok (.invokevirtual 112, 3) := by decide +kernel
theorem dX11_months_28 : decode cX11_months 28 = .ok (.lreturn, 1) := by decide +kernel
theorem dX11_months_29 : decode cX11_months 29 = .ok (.iconst 0, 1) := by decide +kernel
theorem dX11_months_30 : decode cX11_months 30 = .ok (.istore_n 2, 1) := by decide +kernel
theorem dX11_months_31 : decode cX11_months 31 = .ok (.iload_n 2, 1) := by decide +kernel
theorem dX11_months_32 : decode cX11_months 32 = .ok (.iload_n 1, 1) := by decide +kernel
theorem dX11_months_33 : decode cX11_months 33 = .ok (.if_icmp .ge 13, 3) := by decide +kernel
theorem dX11_months_36 : decode cX11_months 36 = .ok (.aload_n 0, 1) := by decide +kernel
theorem dX11_months_37 : decode cX11_months 37 = .ok (.invokevirtual 116, 3) := by decide +kernel
theorem dX11_months_40 : decode cX11_months 40 = .ok (.iinc 2 1, 3) := by decide +kernel
theorem dX11_months_43 : decode cX11_months 43 = .ok (.goto (-12), 3) := by decide +kernel
theorem dX11_months_46 : decode cX11_months 46 = .ok (.aload_n 0, 1) := by decide +kernel
theorem dX11_months_47 : decode cX11_months 47 = .ok (.getfield 108, 3) := by decide +kernel
theorem dX11_months_50 : decode cX11_months 50 = .ok (.i2l, 1) := by decide +kernel
theorem dX11_months_51 : decode cX11_months 51 = .ok (.lreturn, 1) := by decide +kernel
theorem dX11_isValue_0 : decode cX11_isValue 0 = .ok (.iload_n 1, 1) := by decide +kernel
theorem dX11_isValue_1 : decode cX11_isValue 1 = .ok (.iload_n 0, 1) := by decide +kernel
theorem dX11_isValue_2 : decode cX11_isValue 2 = .ok (.iconst 5, 1) := by decide +kernel
theorem dX11_isValue_3 : decode cX11_isValue 3 = .ok (.if_icmp .ne 8, 3) := by decide +kernel
theorem dX11_isValue_6 : decode cX11_isValue 6 = .ok (.bipush 12, 2) := by decide +kernel
theorem dX11_isValue_8 : decode cX11_isValue 8 = .ok (.goto 4, 3) := by decide +kernel
theorem dX11_isValue_11 : decode cX11_isValue 11 = .ok (.iconst 0, 1) := by decide +kernel
theorem dX11_isValue_12 : decode cX11_isValue 12 = .ok (.iload_n 0, 1) := by decide +kernel
theorem dX11_isValue_13 : decode cX11_isValue 13 = .ok (.ifCond .ne 8, 3) := by decide +kernel
theorem dX11_isValue_16 : decode cX11_isValue 16 = .ok (.bipush 60, 2) := by decide +kernel
theorem dX11_isValue_18 : decode cX11_isValue 18 = .ok (.goto 17, 3) := by decide +kernel
theorem dX11_isValue_21 : decode cX11_isValue 21 = .ok (.iload_n 0, 1) := by decide +kernel
theorem dX11_isValue_22 : decode cX11_isValue 22 = .ok (.iconst 5, 1) := by decide +kernel
theorem dX11_isValue_23 : decode cX11_isValue 23 = .ok (.if_icmp .ne 9, 3) := by decide +kernel
theorem dX11_isValue_26 : decode cX11_isValue 26 = .ok (.sipush 240, 3) := by decide +kernel
theorem dX11_isValue_29 : decode cX11_isValue 29 = .ok (.goto 6, 3) := by decide +kernel
theorem dX11_isValue_32 : decode cX11_isValue 32 = .ok (.sipush 1000, 3) := by decide +kernel
theorem dX11_isValue_35 : decode cX11_isValue 35 = .ok (.invokestatic 104, 3) := by decide +kernel
theorem dX11_isValue_38 : decode cX11_isValue 38 = .ok (.ireturn, 1) := by decide +kernel
theorem dX11_decree_0 : decode cX11_decree 0 = .ok (.iload_n 1, 1) := by decide +kernel
theorem dX11_decree_1 : decode cX11_decree 1 = .ok (.iconst 0, 1) := by decide +kernel
theorem dX11_decree_2 : decode cX11_decree 2 = .ok (.iconst 5, 1) := by decide +kernel
theorem dX11_decree_3 : decode cX11_decree 3 = .ok (.invokestatic 104, 3) := by decide +kernel
theorem dX11_decree_6 : decode cX11_decree 6 = .ok (.ifCond .eq 18, 3) := by decide +kernel
theorem dX11_decree_9 : decode cX11_decree 9 = .ok (.iload_n 2, 1) := by decide +kernel
theorem dX11_decree_10 : decode cX11_decree 10 = .ok (.invokestatic 119, 3) := by decide +kernel
theorem dX11_decree_13 : decode cX11_decree 13 = .ok (.ifCond .eq 11, 3) := by decide +kernel
theorem dX11_decree_16 : decode cX11_decree 16 = .ok (.iload_n 1, 1) := by decide +kernel
theorem dX11_decree_17 : decode cX11_decree 17 = .ok (.iload_n 3, 1) := by decide +kernel
theorem dX11_decree_18 : decode cX11_decree 18 = .ok (.invokestatic 123, 3) := by decide +kernel
theorem dX11_decree_21 : decode cX11_decree 21 = .ok (.ifCond .ne 9, 3) := by decide +kernel
theorem dX11_decree_24 : decode cX11_decree 24 = .ok (.aload_n 0, 1) := by decide +kernel
theorem dX11_decree_25 : decode cX11_decree 25 = .ok (.iconst 1, 1) := by decide +kernel
theorem dX11_decree_26 : decode cX11_decree 26 = .ok (.invokevirtual 112, 3) := by decide +kernel
theorem dX11_decree_29 : decode cX11_decree 29 = .ok (.lreturn, 1) := by decide +kernel
theorem dX11_decree_30 : decode cX11_decree 30 = .ok (.aload_n 0, 1) := by decide +kernel
theorem dX11_decree_31 : decode cX11_decree 31 = .ok (.getfield 127, 3) := by decide +kernel
theorem dX11_decree_34 : decode cX11_decree 34 = .ok (.bipush 60, 2) := by decide +kernel
theorem dX11_decree_36 : decode cX11_decree 36 = .ok (.if_icmp .ne 9, 3) := by decide +kernel
theorem dX11_decree_39 : decode cX11_decree 39 = .ok (.aload_n 0, 1) := by decide +kernel
theorem dX11_decree_40 : decode cX11_decree 40 = .ok (.iconst 4, 1) := by decide +kernel
theorem dX11_decree_41 : decode cX11_decree 41 = .ok (.invokevirtual 112, 3) := by decide +kernel
theorem dX11_decree_44 : decode cX11_decree 44 = .ok (.lreturn, 1) := by decide +kernel
theorem dX11_decree_45 : decode cX11_decree 45 = .ok (.aload_n 0, 1) := by decide +kernel
theorem dX11_decree_46 : decode cX11_decree 46 = .ok (.getfield 13, 3) := by decide +kernel
theorem dX11_decree_49 : decode cX11_decree 49 = .ok (.aload_n 0, 1) := by decide +kernel
theorem dX11_decree_50 : decode cX11_decree 50 = .ok (.getfield 127, 3) := by decide +kernel
theorem dX11_decree_53 : decode cX11_decree 53 = .ok (.iload_n 1, 1) := by decide +kernel
theorem dX11_decree_54 : decode cX11_decree 54 = .ok (.iastore, 1) := by decide +kernel
theorem dX11_decree_55 : decode cX11_decree 55 = .ok (.aload_n 0, 1) := by decide +kernel
theorem dX11_decree_56 : decode cX11_decree 56 = .ok (.getfield 16, 3) := by decide +kernel
theorem dX11_decree_59 : decode cX11_decree 59 = .ok (.aload_n 0, 1) := by decide +kernel
theorem dX11_decree_60 : decode cX11_decree 60 = .ok (.getfield 127, 3) := by decide +kernel
theorem dX11_decree_63 : decode cX11_decree 63 = .ok (.iload_n 2, 1) := by decide +kernel
theorem dX11_decree_64 : decode cX11_decree 64 = .ok (.iastore, 1) := by decide +kernel
theorem dX11_decree_65 : decode cX11_decree 65 = .ok (.aload_n 0, 1) := by decide +kernel
theorem dX11_decree_66 : decode cX11_decree 66 = .ok (.getfield 19, 3) := by decide +kernel
theorem dX11_decree_69 : decode cX11_decree 69 = .ok (.aload_n 0, 1) := by decide +kernel
theorem dX11_decree_70 : decode cX11_decree 70 = .ok (.getfield 127, 3) := by decide +kernel
theorem dX11_decree_73 : decode cX11_decree 73 = .ok (.iload_n 3, 1) := by decide +kernel
theorem dX11_decree_74 : decode cX11_decree 74 = .ok (.iastore, 1) := by decide +kernel
theorem dX11_decree_75 : decode cX11_decree 75 = .ok (.aload_n 0, 1) := by decide +kernel
theorem dX11_decree_76 : decode cX11_decree 76 = .ok (.getfield 22, 3) := by decide +kernel
theorem dX11_decree_79 : decode cX11_decree 79 = .ok (.aload_n 0, 1) := by decide +kernel
theorem dX11_decree_80 : decode cX11_decree 80 = .ok (.getfield 127, 3) := by decide +kernel
theorem dX11_decree_83 : decode cX11_decree 83 = .ok (.aload_n 0, 1) := by decide +kernel
theorem dX11_decree_84 : decode cX11_decree 84 = .ok (.getfield 108, 3) := by decide +kernel
theorem dX11_decree_87 : decode cX11_decree 87 = .ok (.iastore, 1) := by decide +kernel
theorem dX11_decree_88 : decode cX11_decree 88 = .ok (.aload_n 0, 1) := by decide +kernel
theorem dX11_decree_89 : decode cX11_decree 89 = .ok (.dup, 1) := by decide +kernel
theorem dX11_decree_90 : decode cX11_decree 90 = .ok (.getfield 127, 3) := by decide +kernel
theorem dX11_decree_93 : decode cX11_decree 93 = .ok (.iconst 1, 1) := by decide +kernel
theorem dX11_decree_94 : decode cX11_decree 94 = .ok (.iadd, 1) := by decide +kernel
theorem dX11_decree_95 : decode cX11_decree 95 = .ok (.putfield 127, 3) := by decide +kernel
theorem dX11_decree_98 : decode cX11_decree 98 = .ok (.aload_n 0, 1) := by decide +kernel
theorem dX11_decree_99 : decode cX11_decree 99 = .ok (.getfield 127, 3) := by decide +kernel
theorem dX11_decree_102 : decode cX11_decree 102 = .ok (.i2l, 1) := by decide +kernel
theorem dX11_decree_103 : decode cX11_decree 103 = .ok (.lreturn, 1) := by decide +kernel
theorem dX11_inForce_0 : decode cX11_inForce 0 = .ok (.iconst (-1), 1) := by decide +kernel
theorem dX11_inForce_1 : decode cX11_inForce 1 = .ok (.istore 4, 2) := by decide +kernel
theorem dX11_inForce_3 : decode cX11_inForce 3 = .ok (.iconst 0, 1) := by decide +kernel
theorem dX11_inForce_4 : decode cX11_inForce 4 = .ok (.istore 5, 2) := by decide +kernel
theorem dX11_inForce_6 : decode cX11_inForce 6 = .ok (.iload 5, 2) := by decide +kernel
theorem dX11_inForce_8 : decode cX11_inForce 8 = .ok (.aload_n 0, 1) := by decide +kernel
theorem dX11_inForce_9 : decode cX11_inForce 9 = .ok (.getfield 127, 3) := by decide +kernel
theorem dX11_inForce_12 : decode cX11_inForce 12 = .ok (.if_icmp .ge 85, 3) := by decide +kernel
theorem dX11_inForce_15 : decode cX11_inForce 15 = .ok (.aload_n 0, 1) := by decide +kernel
theorem dX11_inForce_16 : decode cX11_inForce 16 = .ok (.getfield 13, 3) := by decide +kernel
theorem dX11_inForce_19 : decode cX11_inForce 19 = .ok (.iload 5, 2) := by decide +kernel
theorem dX11_inForce_21 : decode cX11_inForce 21 = .ok (.iaload, 1) := by decide +kernel
theorem dX11_inForce_22 : decode cX11_inForce 22 = .ok (.iload_n 1, 1) := by decide +kernel
theorem dX11_inForce_23 : decode cX11_inForce 23 = .ok (.if_icmp .ne 29, 3) := by decide +kernel
theorem dX11_inForce_26 : decode cX11_inForce 26 = .ok (.aload_n 0, 1) := by decide +kernel
theorem dX11_inForce_27 : decode cX11_inForce 27 = .ok (.getfield 22, 3) := by decide +kernel
theorem dX11_inForce_30 : decode cX11_inForce 30 = .ok (.iload 5, 2) := by decide +kernel
theorem dX11_inForce_32 : decode cX11_inForce 32 = .ok (.iaload, 1) := by decide +kernel
theorem dX11_inForce_33 : decode cX11_inForce 33 = .ok (.iload_n 3, 1) := by decide +kernel
theorem dX11_inForce_34 : decode cX11_inForce 34 = .ok (.if_icmp .gt 18, 3) := by decide +kernel
theorem dX11_inForce_37 : decode cX11_inForce 37 = .ok (.aload_n 0, 1) := by decide +kernel
theorem dX11_inForce_38 : decode cX11_inForce 38 = .ok (.getfield 16, 3) := by decide +kernel
theorem dX11_inForce_41 : decode cX11_inForce 41 = .ok (.iload 5, 2) := by decide +kernel
theorem dX11_inForce_43 : decode cX11_inForce 43 = .ok (.iaload, 1) := by decide +kernel
theorem dX11_inForce_44 : decode cX11_inForce 44 = .ok (.iload_n 2, 1) := by decide +kernel
theorem dX11_inForce_45 : decode cX11_inForce 45 = .ok (.if_icmp .gt 7, 3) := by decide +kernel
theorem dX11_inForce_48 : decode cX11_inForce 48 = .ok (.iconst 1, 1) := by decide +kernel
theorem dX11_inForce_49 : decode cX11_inForce 49 = .ok (.goto 4, 3) := by decide +kernel
theorem dX11_inForce_52 : decode cX11_inForce 52 = .ok (.iconst 0, 1) := by decide +kernel
theorem dX11_inForce_53 : decode cX11_inForce 53 = .ok (.istore 6, 2) := by decide +kernel
theorem dX11_inForce_55 : decode cX11_inForce 55 = .ok (.iload 6, 2) := by decide +kernel
theorem dX11_inForce_57 : decode cX11_inForce 57 = .ok (.ifCond .eq 30, 3) := by decide +kernel
theorem dX11_inForce_60 : decode cX11_inForce 60 = .ok (.iload 4, 2) := by decide +kernel
theorem dX11_inForce_62 : decode cX11_inForce 62 = .ok (.ifCond .lt 20, 3) := by decide +kernel
theorem dX11_inForce_65 : decode cX11_inForce 65 = .ok (.aload_n 0, 1) := by decide +kernel
theorem dX11_inForce_66 : decode cX11_inForce 66 = .ok (.getfield 16, 3) := by decide +kernel
theorem dX11_inForce_69 : decode cX11_inForce 69 = .ok (.iload 5, 2) := by decide +kernel
theorem dX11_inForce_71 : decode cX11_inForce 71 = .ok (.iaload, 1) := by decide +kernel
theorem dX11_inForce_72 : decode cX11_inForce 72 = .ok (.aload_n 0, 1) := by decide +kernel
theorem dX11_inForce_73 : decode cX11_inForce 73 = .ok (.getfield 16, 3) := by decide +kernel
theorem dX11_inForce_76 : decode cX11_inForce 76 = .ok (.iload 4, 2) := by decide +kernel
theorem dX11_inForce_78 : decode cX11_inForce 78 = .ok (.iaload, 1) := by decide +kernel
theorem dX11_inForce_79 : decode cX11_inForce 79 = .ok (.if_icmp .lt 8, 3) := by decide +kernel
theorem dX11_inForce_82 : decode cX11_inForce 82 = .ok (.iload 5, 2) := by decide +kernel
theorem dX11_inForce_84 : decode cX11_inForce 84 = .ok (.goto 5, 3) := by decide +kernel
theorem dX11_inForce_87 : decode cX11_inForce 87 = .ok (.iload 4, 2) := by decide +kernel
theorem dX11_inForce_89 : decode cX11_inForce 89 = .ok (.istore 4, 2) := by decide +kernel
theorem dX11_inForce_91 : decode cX11_inForce 91 = .ok (.iinc 5 1, 3) := by decide +kernel
theorem dX11_inForce_94 : decode cX11_inForce 94 = .ok (.goto (-88), 3) := by decide +kernel
theorem dX11_inForce_97 : decode cX11_inForce 97 = .ok (.iload 4, 2) := by decide +kernel
theorem dX11_inForce_99 : decode cX11_inForce 99 = .ok (.ifCond .lt 11, 3) := by decide +kernel
theorem dX11_inForce_102 : decode cX11_inForce 102 = .ok (.aload_n 0, 1) := by decide +kernel
theorem dX11_inForce_103 : decode cX11_inForce 103 = .ok (.getfield 19, 3) := by decide +kernel
theorem dX11_inForce_106 : decode cX11_inForce 106 = .ok (.iload 4, 2) := by decide +kernel
theorem dX11_inForce_108 : decode cX11_inForce 108 = .ok (.iaload, 1) := by decide +kernel
theorem dX11_inForce_109 : decode cX11_inForce 109 = .ok (.ireturn, 1) := by decide +kernel
theorem dX11_inForce_110 : decode cX11_inForce 110 = .ok (.iload_n 1, 1) := by decide +kernel
theorem dX11_inForce_111 : decode cX11_inForce 111 = .ok (.iconst 1, 1) := by decide +kernel
theorem dX11_inForce_112 : decode cX11_inForce 112 = .ok (.if_icmp .ne 9, 3) := by decide +kernel
theorem dX11_inForce_115 : decode cX11_inForce 115 = .ok (.sipush 500, 3) := by decide +kernel
theorem dX11_inForce_118 : decode cX11_inForce 118 = .ok (.goto 26, 3) := by decide +kernel
theorem dX11_inForce_121 : decode cX11_inForce 121 = .ok (.iload_n 1, 1) := by decide +kernel
theorem dX11_inForce_122 : decode cX11_inForce 122 = .ok (.iconst 2, 1) := by decide +kernel
theorem dX11_inForce_123 : decode cX11_inForce 123 = .ok (.if_icmp .ne 9, 3) := by decide +kernel
theorem dX11_inForce_126 : decode cX11_inForce 126 = .ok (.sipush 400, 3) := by decide +kernel
theorem dX11_inForce_129 : decode cX11_inForce 129 = .ok (.goto 15, 3) := by decide +kernel
theorem dX11_inForce_132 : decode cX11_inForce 132 = .ok (.iload_n 1, 1) := by decide +kernel
theorem dX11_inForce_133 : decode cX11_inForce 133 = .ok (.iconst 5, 1) := by decide +kernel
theorem dX11_inForce_134 : decode cX11_inForce 134 = .ok (.if_icmp .ne 9, 3) := by decide +kernel
theorem dX11_inForce_137 : decode cX11_inForce 137 = .ok (.sipush 180, 3) := by decide +kernel
theorem dX11_inForce_140 : decode cX11_inForce 140 = .ok (.goto 4, 3) := by decide +kernel
theorem dX11_inForce_143 : decode cX11_inForce 143 = .ok (.iconst 0, 1) := by decide +kernel
theorem dX11_inForce_144 : decode cX11_inForce 144 = .ok (.ireturn, 1) := by decide +kernel
theorem dX11_force_0 : decode cX11_force 0 = .ok (.iload_n 1, 1) := by decide +kernel
theorem dX11_force_1 : decode cX11_force 1 = .ok (.iconst 0, 1) := by decide +kernel
theorem dX11_force_2 : decode cX11_force 2 = .ok (.iconst 5, 1) := by decide +kernel
theorem dX11_force_3 : decode cX11_force 3 = .ok (.invokestatic 104, 3) := by decide +kernel
theorem dX11_force_6 : decode cX11_force 6 = .ok (.ifCond .eq 17, 3) := by decide +kernel
theorem dX11_force_9 : decode cX11_force 9 = .ok (.iload_n 2, 1) := by decide +kernel
theorem dX11_force_10 : decode cX11_force 10 = .ok (.invokestatic 119, 3) := by decide +kernel
theorem dX11_force_13 : decode cX11_force 13 = .ok (.ifCond .eq 10, 3) := by decide +kernel
theorem dX11_force_16 : decode cX11_force 16 = .ok (.iload_n 3, 1) := by decide +kernel
theorem dX11_force_17 : decode cX11_force 17 = .ok (.invokestatic 119, 3) := by decide +kernel
theorem dX11_force_20 : decode cX11_force 20 = .ok (.ifCond .ne 9, 3) := by decide +kernel
theorem dX11_force_23 : decode cX11_force 23 = .ok (.aload_n 0, 1) := by decide +kernel
theorem dX11_force_24 : decode cX11_force 24 = .ok (.iconst 1, 1) := by decide +kernel
theorem dX11_force_25 : decode cX11_force 25 = .ok (.invokevirtual 112, 3) := by decide +kernel
theorem dX11_force_28 : decode cX11_force 28 = .ok (.lreturn, 1) := by decide +kernel
theorem dX11_force_29 : decode cX11_force 29 = .ok (.aload_n 0, 1) := by decide +kernel
theorem dX11_force_30 : decode cX11_force 30 = .ok (.iload_n 1, 1) := by decide +kernel
theorem dX11_force_31 : decode cX11_force 31 = .ok (.iload_n 2, 1) := by decide +kernel
theorem dX11_force_32 : decode cX11_force 32 = .ok (.iload_n 3, 1) := by decide +kernel
theorem dX11_force_33 : decode cX11_force 33 = .ok (.invokevirtual 130, 3) := by decide +kernel
theorem dX11_force_36 : decode cX11_force 36 = .ok (.i2l, 1) := by decide +kernel
theorem dX11_force_37 : decode cX11_force 37 = .ok (.lreturn, 1) := by decide +kernel
theorem dX11_rate_0 : decode cX11_rate 0 = .ok (.iload_n 1, 1) := by decide +kernel
theorem dX11_rate_1 : decode cX11_rate 1 = .ok (.iconst 1, 1) := by decide +kernel
theorem dX11_rate_2 : decode cX11_rate 2 = .ok (.bipush 20, 2) := by decide +kernel
theorem dX11_rate_4 : decode cX11_rate 4 = .ok (.invokestatic 104, 3) := by decide +kernel
theorem dX11_rate_7 : decode cX11_rate 7 = .ok (.ifCond .eq 15, 3) := by decide +kernel
theorem dX11_rate_10 : decode cX11_rate 10 = .ok (.iload_n 2, 1) := by decide +kernel
theorem dX11_rate_11 : decode cX11_rate 11 = .ok (.bipush 100, 2) := by decide +kernel
theorem dX11_rate_13 : decode cX11_rate 13 = .ok (.sipush 1000, 3) := by decide +kernel
theorem dX11_rate_16 : decode cX11_rate 16 = .ok (.invokestatic 104, 3) := by decide +kernel
theorem dX11_rate_19 : decode cX11_rate 19 = .ok (.ifCond .ne 9, 3) := by decide +kernel
theorem dX11_rate_22 : decode cX11_rate 22 = .ok (.aload_n 0, 1) := by decide +kernel
theorem dX11_rate_23 : decode cX11_rate 23 = .ok (.iconst 1, 1) := by decide +kernel
theorem dX11_rate_24 : decode cX11_rate 24 = .ok (.invokevirtual 112, 3) := by decide +kernel
theorem dX11_rate_27 : decode cX11_rate 27 = .ok (.lreturn, 1) := by decide +kernel
theorem dX11_rate_28 : decode cX11_rate 28 = .ok (.aload_n 0, 1) := by decide +kernel
theorem dX11_rate_29 : decode cX11_rate 29 = .ok (.getfield 25, 3) := by decide +kernel
theorem dX11_rate_32 : decode cX11_rate 32 = .ok (.iload_n 1, 1) := by decide +kernel
theorem dX11_rate_33 : decode cX11_rate 33 = .ok (.iaload, 1) := by decide +kernel
theorem dX11_rate_34 : decode cX11_rate 34 = .ok (.istore_n 3, 1) := by decide +kernel
theorem dX11_rate_35 : decode cX11_rate 35 = .ok (.aload_n 0, 1) := by decide +kernel
theorem dX11_rate_36 : decode cX11_rate 36 = .ok (.getfield 25, 3) := by decide +kernel
theorem dX11_rate_39 : decode cX11_rate 39 = .ok (.iload_n 1, 1) := by decide +kernel
theorem dX11_rate_40 : decode cX11_rate 40 = .ok (.iload_n 2, 1) := by decide +kernel
theorem dX11_rate_41 : decode cX11_rate 41 = .ok (.iastore, 1) := by decide +kernel
theorem dX11_rate_42 : decode cX11_rate 42 = .ok (.iload_n 3, 1) := by decide +kernel
theorem dX11_rate_43 : decode cX11_rate 43 = .ok (.i2l, 1) := by decide +kernel
theorem dX11_rate_44 : decode cX11_rate 44 = .ok (.lreturn, 1) := by decide +kernel
theorem dX11_isChild_0 : decode cX11_isChild 0 = .ok (.iload_n 1, 1) := by decide +kernel
theorem dX11_isChild_1 : decode cX11_isChild 1 = .ok (.iconst 0, 1) := by decide +kernel
theorem dX11_isChild_2 : decode cX11_isChild 2 = .ok (.aload_n 0, 1) := by decide +kernel
theorem dX11_isChild_3 : decode cX11_isChild 3 = .ok (.getfield 134, 3) := by decide +kernel
theorem dX11_isChild_6 : decode cX11_isChild 6 = .ok (.iconst 1, 1) := by decide +kernel
theorem dX11_isChild_7 : decode cX11_isChild 7 = .ok (.isub, 1) := by decide +kernel
theorem dX11_isChild_8 : decode cX11_isChild 8 = .ok (.invokestatic 104, 3) := by decide +kernel
theorem dX11_isChild_11 : decode cX11_isChild 11 = .ok (.ireturn, 1) := by decide +kernel
theorem dX11_isDeposit_0 : decode cX11_isDeposit 0 = .ok (.iload_n 1, 1) := by decide +kernel
theorem dX11_isDeposit_1 : decode cX11_isDeposit 1 = .ok (.iconst 0, 1) := by decide +kernel
theorem dX11_isDeposit_2 : decode cX11_isDeposit 2 = .ok (.aload_n 0, 1) := by decide +kernel
theorem dX11_isDeposit_3 : decode cX11_isDeposit 3 = .ok (.getfield 137, 3) := by decide +kernel
theorem dX11_isDeposit_6 : decode cX11_isDeposit 6 = .ok (.iconst 1, 1) := by decide +kernel
theorem dX11_isDeposit_7 : decode cX11_isDeposit 7 = .ok (.isub, 1) := by decide +kernel
theorem dX11_isDeposit_8 : decode cX11_isDeposit 8 = .ok (.invokestatic 104, 3) := by decide +kernel
theorem dX11_isDeposit_11 : decode cX11_isDeposit 11 = .ok (.ireturn, 1) := by decide +kernel
theorem dX11_isHolder_0 : decode cX11_isHolder 0 = .ok (.iload_n 0, 1) := by decide +kernel
theorem dX11_isHolder_1 : decode cX11_isHolder 1 = .ok (.iconst 0, 1) := by decide +kernel
theorem dX11_isHolder_2 : decode cX11_isHolder 2 = .ok (.bipush 9, 2) := by decide +kernel
theorem dX11_isHolder_4 : decode cX11_isHolder 4 = .ok (.invokestatic 104, 3) := by decide +kernel
theorem dX11_isHolder_7 : decode cX11_isHolder 7 = .ok (.ireturn, 1) := by decide +kernel
theorem dX11_child_0 : decode cX11_child 0 = .ok (.iload_n 1, 1) := by decide +kernel
theorem dX11_child_1 : decode cX11_child 1 = .ok (.iconst 0, 1) := by decide +kernel
theorem dX11_child_2 : decode cX11_child 2 = .ok (.aload_n 0, 1) := by decide +kernel
theorem dX11_child_3 : decode cX11_child 3 = .ok (.getfield 108, 3) := by decide +kernel
theorem dX11_child_6 : decode cX11_child 6 = .ok (.invokestatic 104, 3) := by decide +kernel
theorem dX11_child_9 : decode cX11_child 9 = .ok (.ifCond .ne 9, 3) := by decide +kernel
theorem dX11_child_12 : decode cX11_child 12 = .ok (.aload_n 0, 1) := by decide +kernel
theorem dX11_child_13 : decode cX11_child 13 = .ok (.iconst 1, 1) := by decide +kernel
theorem dX11_child_14 : decode cX11_child 14 = .ok (.invokevirtual 112, 3) := by decide +kernel
theorem dX11_child_17 : decode cX11_child 17 = .ok (.lreturn, 1) := by decide +kernel
theorem dX11_child_18 : decode cX11_child 18 = .ok (.aload_n 0, 1) := by decide +kernel
theorem dX11_child_19 : decode cX11_child 19 = .ok (.getfield 134, 3) := by decide +kernel
theorem dX11_child_22 : decode cX11_child 22 = .ok (.bipush 30, 2) := by decide +kernel
theorem dX11_child_24 : decode cX11_child 24 = .ok (.if_icmp .ne 9, 3) := by decide +kernel
theorem dX11_child_27 : decode cX11_child 27 = .ok (.aload_n 0, 1) := by decide +kernel
theorem dX11_child_28 : decode cX11_child 28 = .ok (.iconst 4, 1) := by decide +kernel
theorem dX11_child_29 : decode cX11_child 29 = .ok (.invokevirtual 112, 3) := by decide +kernel
theorem dX11_child_32 : decode cX11_child 32 = .ok (.lreturn, 1) := by decide +kernel
theorem dX11_child_33 : decode cX11_child 33 = .ok (.aload_n 0, 1) := by decide +kernel
theorem dX11_child_34 : decode cX11_child 34 = .ok (.getfield 28, 3) := by decide +kernel
theorem dX11_child_37 : decode cX11_child 37 = .ok (.aload_n 0, 1) := by decide +kernel
theorem dX11_child_38 : decode cX11_child 38 = .ok (.getfield 134, 3) := by decide +kernel
theorem dX11_child_41 : decode cX11_child 41 = .ok (.iload_n 1, 1) := by decide +kernel
theorem dX11_child_42 : decode cX11_child 42 = .ok (.iastore, 1) := by decide +kernel
theorem dX11_child_43 : decode cX11_child 43 = .ok (.aload_n 0, 1) := by decide +kernel
theorem dX11_child_44 : decode cX11_child 44 = .ok (.dup, 1) := by decide +kernel
theorem dX11_child_45 : decode cX11_child 45 = .ok (.getfield 134, 3) := by decide +kernel
theorem dX11_child_48 : decode cX11_child 48 = .ok (.iconst 1, 1) := by decide +kernel
theorem dX11_child_49 : decode cX11_child 49 = .ok (.iadd, 1) := by decide +kernel
theorem dX11_child_50 : decode cX11_child 50 = .ok (.putfield 134, 3) := by decide +kernel
theorem dX11_child_53 : decode cX11_child 53 = .ok (.aload_n 0, 1) := by decide +kernel
theorem dX11_child_54 : decode cX11_child 54 = .ok (.getfield 134, 3) := by decide +kernel
theorem dX11_child_57 : decode cX11_child 57 = .ok (.iconst 1, 1) := by decide +kernel
theorem dX11_child_58 : decode cX11_child 58 = .ok (.isub, 1) := by decide +kernel
theorem dX11_child_59 : decode cX11_child 59 = .ok (.i2l, 1) := by decide +kernel
theorem dX11_child_60 : decode cX11_child 60 = .ok (.lreturn, 1) := by decide +kernel
theorem dX11_fate_0 : decode cX11_fate 0 = .ok (.aload_n 0, 1) := by decide +kernel
theorem dX11_fate_1 : decode cX11_fate 1 = .ok (.iload_n 1, 1) := by decide +kernel
theorem dX11_fate_2 : decode cX11_fate 2 = .ok (.invokevirtual 140, 3) := by decide +kernel
theorem dX11_fate_5 : decode cX11_fate 5 = .ok (.ifCond .eq 33, 3) := by decide +kernel
theorem dX11_fate_8 : decode cX11_fate 8 = .ok (.iload_n 2, 1) := by decide +kernel
theorem dX11_fate_9 : decode cX11_fate 9 = .ok (.iconst 0, 1) := by decide +kernel
theorem dX11_fate_10 : decode cX11_fate 10 = .ok (.iconst 3, 1) := by decide +kernel
theorem dX11_fate_11 : decode cX11_fate 11 = .ok (.invokestatic 104, 3) := by decide +kernel
theorem dX11_fate_14 : decode cX11_fate 14 = .ok (.ifCond .eq 24, 3) := by decide +kernel
theorem dX11_fate_17 : decode cX11_fate 17 = .ok (.iload_n 2, 1) := by decide +kernel
theorem dX11_fate_18 : decode cX11_fate 18 = .ok (.iconst 3, 1) := by decide +kernel
theorem dX11_fate_19 : decode cX11_fate 19 = .ok (.if_icmp .ge 25, 3) := by decide +kernel
theorem dX11_fate_22 : decode cX11_fate 22 = .ok (.iload_n 3, 1) := by decide +kernel
theorem dX11_fate_23 : decode cX11_fate 23 = .ok (.aload_n 0, 1) := by decide +kernel
theorem dX11_fate_24 : decode cX11_fate 24 = .ok (.getfield 28, 3) := by decide +kernel
theorem dX11_fate_27 : decode cX11_fate 27 = .ok (.iload_n 1, 1) := by decide +kernel
theorem dX11_fate_28 : decode cX11_fate 28 = .ok (.iaload, 1) := by decide +kernel
theorem dX11_fate_29 : decode cX11_fate 29 = .ok (.sipush 1199, 3) := by decide +kernel
theorem dX11_fate_32 : decode cX11_fate 32 = .ok (.invokestatic 104, 3) := by decide +kernel
theorem dX11_fate_35 : decode cX11_fate 35 = .ok (.ifCond .ne 9, 3) := by decide +kernel
theorem dX11_fate_38 : decode cX11_fate 38 = .ok (.aload_n 0, 1) := by decide +kernel
theorem dX11_fate_39 : decode cX11_fate 39 = .ok (.iconst 1, 1) := by decide +kernel
theorem dX11_fate_40 : decode cX11_fate 40 = .ok (.invokevirtual 112, 3) := by decide +kernel
theorem dX11_fate_43 : decode cX11_fate 43 = .ok (.lreturn, 1) := by decide +kernel
theorem dX11_fate_44 : decode cX11_fate 44 = .ok (.aload_n 0, 1) := by decide +kernel
theorem dX11_fate_45 : decode cX11_fate 45 = .ok (.getfield 143, 3) := by decide +kernel
theorem dX11_fate_48 : decode cX11_fate 48 = .ok (.bipush 90, 2) := by decide +kernel
theorem dX11_fate_50 : decode cX11_fate 50 = .ok (.if_icmp .ne 9, 3) := by decide +kernel
theorem dX11_fate_53 : decode cX11_fate 53 = .ok (.aload_n 0, 1) := by decide +kernel
theorem dX11_fate_54 : decode cX11_fate 54 = .ok (.iconst 4, 1) := by decide +kernel
theorem dX11_fate_55 : decode cX11_fate 55 = .ok (.invokevirtual 112, 3) := by decide +kernel
theorem dX11_fate_58 : decode cX11_fate 58 = .ok (.lreturn, 1) := by decide +kernel
theorem dX11_fate_59 : decode cX11_fate 59 = .ok (.aload_n 0, 1) := by decide +kernel
theorem dX11_fate_60 : decode cX11_fate 60 = .ok (.getfield 31, 3) := by decide +kernel
theorem dX11_fate_63 : decode cX11_fate 63 = .ok (.aload_n 0, 1) := by decide +kernel
theorem dX11_fate_64 : decode cX11_fate 64 = .ok (.getfield 143, 3) := by decide +kernel
theorem dX11_fate_67 : decode cX11_fate 67 = .ok (.iload_n 1, 1) := by decide +kernel
theorem dX11_fate_68 : decode cX11_fate 68 = .ok (.iastore, 1) := by decide +kernel
theorem dX11_fate_69 : decode cX11_fate 69 = .ok (.aload_n 0, 1) := by decide +kernel
theorem dX11_fate_70 : decode cX11_fate 70 = .ok (.getfield 34, 3) := by decide +kernel
theorem dX11_fate_73 : decode cX11_fate 73 = .ok (.aload_n 0, 1) := by decide +kernel
theorem dX11_fate_74 : decode cX11_fate 74 = .ok (.getfield 143, 3) := by decide +kernel
theorem dX11_fate_77 : decode cX11_fate 77 = .ok (.iload_n 2, 1) := by decide +kernel
theorem dX11_fate_78 : decode cX11_fate 78 = .ok (.iastore, 1) := by decide +kernel
theorem dX11_fate_79 : decode cX11_fate 79 = .ok (.aload_n 0, 1) := by decide +kernel
theorem dX11_fate_80 : decode cX11_fate 80 = .ok (.getfield 37, 3) := by decide +kernel
theorem dX11_fate_83 : decode cX11_fate 83 = .ok (.aload_n 0, 1) := by decide +kernel
theorem dX11_fate_84 : decode cX11_fate 84 = .ok (.getfield 143, 3) := by decide +kernel
theorem dX11_fate_87 : decode cX11_fate 87 = .ok (.iload_n 3, 1) := by decide +kernel
theorem dX11_fate_88 : decode cX11_fate 88 = .ok (.iastore, 1) := by decide +kernel
theorem dX11_fate_89 : decode cX11_fate 89 = .ok (.aload_n 0, 1) := by decide +kernel
theorem dX11_fate_90 : decode cX11_fate 90 = .ok (.getfield 40, 3) := by decide +kernel
theorem dX11_fate_93 : decode cX11_fate 93 = .ok (.aload_n 0, 1) := by decide +kernel
theorem dX11_fate_94 : decode cX11_fate 94 = .ok (.getfield 143, 3) := by decide +kernel
theorem dX11_fate_97 : decode cX11_fate 97 = .ok (.aload_n 0, 1) := by decide +kernel
theorem dX11_fate_98 : decode cX11_fate 98 = .ok (.getfield 108, 3) := by decide +kernel
theorem dX11_fate_101 : decode cX11_fate 101 = .ok (.iastore, 1) := by decide +kernel
theorem dX11_fate_102 : decode cX11_fate 102 = .ok (.aload_n 0, 1) := by decide +kernel
theorem dX11_fate_103 : decode cX11_fate 103 = .ok (.dup, 1) := by decide +kernel
theorem dX11_fate_104 : decode cX11_fate 104 = .ok (.getfield 143, 3) := by decide +kernel
theorem dX11_fate_107 : decode cX11_fate 107 = .ok (.iconst 1, 1) := by decide +kernel
theorem dX11_fate_108 : decode cX11_fate 108 = .ok (.iadd, 1) := by decide +kernel
theorem dX11_fate_109 : decode cX11_fate 109 = .ok (.putfield 143, 3) := by decide +kernel
theorem dX11_fate_112 : decode cX11_fate 112 = .ok (.aload_n 0, 1) := by decide +kernel
theorem dX11_fate_113 : decode cX11_fate 113 = .ok (.getfield 143, 3) := by decide +kernel
theorem dX11_fate_116 : decode cX11_fate 116 = .ok (.i2l, 1) := by decide +kernel
theorem dX11_fate_117 : decode cX11_fate 117 = .ok (.lreturn, 1) := by decide +kernel
theorem dX11_fateAt_0 : decode cX11_fateAt 0 = .ok (.iconst (-1), 1) := by decide +kernel
theorem dX11_fateAt_1 : decode cX11_fateAt 1 = .ok (.istore_n 3, 1) := by decide +kernel
theorem dX11_fateAt_2 : decode cX11_fateAt 2 = .ok (.iconst 0, 1) := by decide +kernel
theorem dX11_fateAt_3 : decode cX11_fateAt 3 = .ok (.istore 4, 2) := by decide +kernel
theorem dX11_fateAt_5 : decode cX11_fateAt 5 = .ok (.iload 4, 2) := by decide +kernel
theorem dX11_fateAt_7 : decode cX11_fateAt 7 = .ok (.aload_n 0, 1) := by decide +kernel
theorem dX11_fateAt_8 : decode cX11_fateAt 8 = .ok (.getfield 143, 3) := by decide +kernel
theorem dX11_fateAt_11 : decode cX11_fateAt 11 = .ok (.if_icmp .ge 38, 3) := by decide +kernel
theorem dX11_fateAt_14 : decode cX11_fateAt 14 = .ok (.aload_n 0, 1) := by decide +kernel
theorem dX11_fateAt_15 : decode cX11_fateAt 15 = .ok (.getfield 31, 3) := by decide +kernel
theorem dX11_fateAt_18 : decode cX11_fateAt 18 = .ok (.iload 4, 2) := by decide +kernel
theorem dX11_fateAt_20 : decode cX11_fateAt 20 = .ok (.iaload, 1) := by decide +kernel
theorem dX11_fateAt_21 : decode cX11_fateAt 21 = .ok (.iload_n 1, 1) := by decide +kernel
theorem dX11_fateAt_22 : decode cX11_fateAt 22 = .ok (.if_icmp .ne 19, 3) := by decide +kernel
theorem dX11_fateAt_25 : decode cX11_fateAt 25 = .ok (.aload_n 0, 1) := by decide +kernel
theorem dX11_fateAt_26 : decode cX11_fateAt 26 = .ok (.getfield 40, 3) := by decide +kernel
theorem dX11_fateAt_29 : decode cX11_fateAt 29 = .ok (.iload 4, 2) := by decide +kernel
theorem dX11_fateAt_31 : decode cX11_fateAt 31 = .ok (.iaload, 1) := by decide +kernel
theorem dX11_fateAt_32 : decode cX11_fateAt 32 = .ok (.iload_n 2, 1) := by decide +kernel
theorem dX11_fateAt_33 : decode cX11_fateAt 33 = .ok (.if_icmp .gt 8, 3) := by decide +kernel
theorem dX11_fateAt_36 : decode cX11_fateAt 36 = .ok (.iload 4, 2) := by decide +kernel
theorem dX11_fateAt_38 : decode cX11_fateAt 38 = .ok (.goto 4, 3) := by decide +kernel
theorem dX11_fateAt_41 : decode cX11_fateAt 41 = .ok (.iload_n 3, 1) := by decide +kernel
theorem dX11_fateAt_42 : decode cX11_fateAt 42 = .ok (.istore_n 3, 1) := by decide +kernel
theorem dX11_fateAt_43 : decode cX11_fateAt 43 = .ok (.iinc 4 1, 3) := by decide +kernel
theorem dX11_fateAt_46 : decode cX11_fateAt 46 = .ok (.goto (-41), 3) := by decide +kernel
theorem dX11_fateAt_49 : decode cX11_fateAt 49 = .ok (.iload_n 3, 1) := by decide +kernel
theorem dX11_fateAt_50 : decode cX11_fateAt 50 = .ok (.ifCond .lt 17, 3) := by decide +kernel
theorem dX11_fateAt_53 : decode cX11_fateAt 53 = .ok (.aload_n 0, 1) := by decide +kernel
theorem dX11_fateAt_54 : decode cX11_fateAt 54 = .ok (.getfield 34, 3) := by decide +kernel
theorem dX11_fateAt_57 : decode cX11_fateAt 57 = .ok (.iload_n 3, 1) := by decide +kernel
theorem dX11_fateAt_58 : decode cX11_fateAt 58 = .ok (.iaload, 1) := by decide +kernel
theorem dX11_fateAt_59 : decode cX11_fateAt 59 = .ok (.iconst 3, 1) := by decide +kernel
theorem dX11_fateAt_60 : decode cX11_fateAt 60 = .ok (.if_icmp .ge 7, 3) := by decide +kernel
theorem dX11_fateAt_63 : decode cX11_fateAt 63 = .ok (.iload_n 3, 1) := by decide +kernel
theorem dX11_fateAt_64 : decode cX11_fateAt 64 = .ok (.goto 4, 3) := by decide +kernel
theorem dX11_fateAt_67 : decode cX11_fateAt 67 = .ok (.iconst (-1), 1) := by decide +kernel
theorem dX11_fateAt_68 : decode cX11_fateAt 68 = .ok (.ireturn, 1) := by decide +kernel
theorem dX11_told_0 : decode cX11_told 0 = .ok (.aload_n 0, 1) := by decide +kernel
theorem dX11_told_1 : decode cX11_told 1 = .ok (.iload_n 1, 1) := by decide +kernel
theorem dX11_told_2 : decode cX11_told 2 = .ok (.invokevirtual 140, 3) := by decide +kernel
theorem dX11_told_5 : decode cX11_told 5 = .ok (.ifCond .eq 10, 3) := by decide +kernel
theorem dX11_told_8 : decode cX11_told 8 = .ok (.iload_n 2, 1) := by decide +kernel
theorem dX11_told_9 : decode cX11_told 9 = .ok (.invokestatic 119, 3) := by decide +kernel
theorem dX11_told_12 : decode cX11_told 12 = .ok (.ifCond .ne 9, 3) := by decide +kernel
theorem dX11_told_15 : decode cX11_told 15 = .ok (.aload_n 0, 1) := by decide +kernel
theorem dX11_told_16 : decode cX11_told 16 = .ok (.iconst 1, 1) := by decide +kernel
theorem dX11_told_17 : decode cX11_told 17 = .ok (.invokevirtual 112, 3) := by decide +kernel
theorem dX11_told_20 : decode cX11_told 20 = .ok (.lreturn, 1) := by decide +kernel
theorem dX11_told_21 : decode cX11_told 21 = .ok (.aload_n 0, 1) := by decide +kernel
theorem dX11_told_22 : decode cX11_told 22 = .ok (.iload_n 1, 1) := by decide +kernel
theorem dX11_told_23 : decode cX11_told 23 = .ok (.iload_n 2, 1) := by decide +kernel
theorem dX11_told_24 : decode cX11_told 24 = .ok (.invokevirtual 146, 3) := by decide +kernel
theorem dX11_told_27 : decode cX11_told 27 = .ok (.istore 4, 2) := by decide +kernel
theorem dX11_told_29 : decode cX11_told 29 = .ok (.iload 4, 2) := by decide +kernel
theorem dX11_told_31 : decode cX11_told 31 = .ok (.ifCond .ge 9, 3) := by decide +kernel
theorem dX11_told_34 : decode cX11_told 34 = .ok (.aload_n 0, 1) := by decide +kernel
theorem dX11_told_35 : decode cX11_told 35 = .ok (.iconst 2, 1) := by decide +kernel
theorem dX11_told_36 : decode cX11_told 36 = .ok (.invokevirtual 112, 3) := by decide +kernel
theorem dX11_told_39 : decode cX11_told 39 = .ok (.lreturn, 1) := by decide +kernel
theorem dX11_told_40 : decode cX11_told 40 = .ok (.iload_n 3, 1) := by decide +kernel
theorem dX11_told_41 : decode cX11_told 41 = .ok (.ifCond .eq 14, 3) := by decide +kernel
theorem dX11_told_44 : decode cX11_told 44 = .ok (.aload_n 0, 1) := by decide +kernel
theorem dX11_told_45 : decode cX11_told 45 = .ok (.getfield 37, 3) := by decide +kernel
theorem dX11_told_48 : decode cX11_told 48 = .ok (.iload 4, 2) := by decide +kernel
theorem dX11_told_50 : decode cX11_told 50 = .ok (.iaload, 1) := by decide +kernel
theorem dX11_told_51 : decode cX11_told 51 = .ok (.i2l, 1) := by decide +kernel
theorem dX11_told_52 : decode cX11_told 52 = .ok (.goto 11, 3) := by decide +kernel
theorem dX11_told_55 : decode cX11_told 55 = .ok (.aload_n 0, 1) := by decide +kernel
theorem dX11_told_56 : decode cX11_told 56 = .ok (.getfield 34, 3) := by decide +kernel
theorem dX11_told_59 : decode cX11_told 59 = .ok (.iload 4, 2) := by decide +kernel
theorem dX11_told_61 : decode cX11_told 61 = .ok (.iaload, 1) := by decide +kernel
theorem dX11_told_62 : decode cX11_told 62 = .ok (.i2l, 1) := by decide +kernel
theorem dX11_told_63 : decode cX11_told 63 = .ok (.lreturn, 1) := by decide +kernel
theorem dX11_deposit_0 : decode cX11_deposit 0 = .ok (.iload_n 1, 1) := by decide +kernel
theorem dX11_deposit_1 : decode cX11_deposit 1 = .ok (.iconst 0, 1) := by decide +kernel
theorem dX11_deposit_2 : decode cX11_deposit 2 = .ok (.iconst 2, 1) := by decide +kernel
theorem dX11_deposit_3 : decode cX11_deposit 3 = .ok (.invokestatic 104, 3) := by decide +kernel
theorem dX11_deposit_6 : decode cX11_deposit 6 = .ok (.ifCond .eq 44, 3) := by decide +kernel
theorem dX11_deposit_9 : decode cX11_deposit 9 = .ok (.aload_n 0, 1) := by decide +kernel
theorem dX11_deposit_10 : decode cX11_deposit 10 = .ok (.iload_n 2, 1) := by decide +kernel
theorem dX11_deposit_11 : decode cX11_deposit 11 = .ok (.invokevirtual 140, 3) := by decide +kernel
theorem dX11_deposit_14 : decode cX11_deposit 14 = .ok (.ifCond .eq 36, 3) := by decide +kernel
theorem dX11_deposit_17 : decode cX11_deposit 17 = .ok (.iload_n 1, 1) := by decide +kernel
theorem dX11_deposit_18 : decode cX11_deposit 18 = .ok (.iconst 1, 1) := by decide +kernel
theorem dX11_deposit_19 : decode cX11_deposit 19 = .ok (.if_icmp .ne 11, 3) := by decide +kernel
theorem dX11_deposit_22 : decode cX11_deposit 22 = .ok (.aload_n 0, 1) := by decide +kernel
theorem dX11_deposit_23 : decode cX11_deposit 23 = .ok (.iload_n 3, 1) := by decide +kernel
theorem dX11_deposit_24 : decode cX11_deposit 24 = .ok (.invokevirtual 140, 3) := by decide +kernel
theorem dX11_deposit_27 : decode cX11_deposit 27 = .ok (.ifCond .eq 23, 3) := by decide +kernel
theorem dX11_deposit_30 : decode cX11_deposit 30 = .ok (.iload 5, 2) := by decide +kernel
theorem dX11_deposit_32 : decode cX11_deposit 32 = .ok (.invokestatic 150, 3) := by decide +kernel
theorem dX11_deposit_35 : decode cX11_deposit 35 = .ok (.ifCond .eq 15, 3) := by decide +kernel
theorem dX11_deposit_38 : decode cX11_deposit 38 = .ok (.iload 4, 2) := by decide +kernel
theorem dX11_deposit_40 : decode cX11_deposit 40 = .ok (.iconst 1, 1) := by decide +kernel
theorem dX11_deposit_41 : decode cX11_deposit 41 = .ok (.sipush 10000, 3) := by decide +kernel
theorem dX11_deposit_44 : decode cX11_deposit 44 = .ok (.invokestatic 104, 3) := by decide +kernel
theorem dX11_deposit_47 : decode cX11_deposit 47 = .ok (.ifCond .ne 9, 3) := by decide +kernel
theorem dX11_deposit_50 : decode cX11_deposit 50 = .ok (.aload_n 0, 1) := by decide +kernel
theorem dX11_deposit_51 : decode cX11_deposit 51 = .ok (.iconst 1, 1) := by decide +kernel
theorem dX11_deposit_52 : decode cX11_deposit 52 = .ok (.invokevirtual 112, 3) := by decide +kernel
theorem dX11_deposit_55 : decode cX11_deposit 55 = .ok (.lreturn, 1) := by decide +kernel
theorem dX11_deposit_56 : decode cX11_deposit 56 = .ok (.iload_n 1, 1) := by decide +kernel
theorem dX11_deposit_57 : decode cX11_deposit 57 = .ok (.iconst 1, 1) := by decide +kernel
theorem dX11_deposit_58 : decode cX11_deposit 58 = .ok (.if_icmp .ne 14, 3) := by decide +kernel
theorem dX11_deposit_61 : decode cX11_deposit 61 = .ok (.iload_n 2, 1) := by decide +kernel
theorem dX11_deposit_62 : decode cX11_deposit 62 = .ok (.iload_n 3, 1) := by decide +kernel
theorem dX11_deposit_63 : decode cX11_deposit 63 = .ok (.if_icmp .ne 9, 3) := by decide +kernel
theorem dX11_deposit_66 : decode cX11_deposit 66 = .ok (.aload_n 0, 1) := by decide +kernel
theorem dX11_deposit_67 : decode cX11_deposit 67 = .ok (.iconst 5, 1) := by decide +kernel
theorem dX11_deposit_68 : decode cX11_deposit 68 = .ok (.invokevirtual 112, 3) := by decide +kernel
theorem dX11_deposit_71 : decode cX11_deposit 71 = .ok (.lreturn, 1) := by decide +kernel
theorem dX11_deposit_72 : decode cX11_deposit 72 = .ok (.aload_n 0, 1) := by decide +kernel
theorem dX11_deposit_73 : decode cX11_deposit 73 = .ok (.iload_n 2, 1) := by decide +kernel
theorem dX11_deposit_74 : decode cX11_deposit 74 = .ok (.aload_n 0, 1) := by decide +kernel
theorem dX11_deposit_75 : decode cX11_deposit 75 = .ok (.getfield 108, 3) := by decide +kernel
theorem dX11_deposit_78 : decode cX11_deposit 78 = .ok (.invokevirtual 146, 3) := by decide +kernel
theorem dX11_deposit_81 : decode cX11_deposit 81 = .ok (.ifCond .ge 20, 3) := by decide +kernel
theorem dX11_deposit_84 : decode cX11_deposit 84 = .ok (.iload_n 1, 1) := by decide +kernel
theorem dX11_deposit_85 : decode cX11_deposit 85 = .ok (.iconst 1, 1) := by decide +kernel
theorem dX11_deposit_86 : decode cX11_deposit 86 = .ok (.if_icmp .ne 21, 3) := by decide +kernel
theorem dX11_deposit_89 : decode cX11_deposit 89 = .ok (.aload_n 0, 1) := by decide +kernel
theorem dX11_deposit_90 : decode cX11_deposit 90 = .ok (.iload_n 3, 1) := by decide +kernel
theorem dX11_deposit_91 : decode cX11_deposit 91 = .ok (.aload_n 0, 1) := by decide +kernel
theorem dX11_deposit_92 : decode cX11_deposit 92 = .ok (.getfield 108, 3) := by decide +kernel
theorem dX11_deposit_95 : decode cX11_deposit 95 = .ok (.invokevirtual 146, 3) := by decide +kernel
theorem dX11_deposit_98 : decode cX11_deposit 98 = .ok (.ifCond .lt 9, 3) := by decide +kernel
theorem dX11_deposit_101 : decode cX11_deposit 101 = .ok (.aload_n 0, 1) := by decide +kernel
theorem dX11_deposit_102 : decode cX11_deposit 102 = .ok (.iconst 3, 1) := by decide +kernel
theorem dX11_deposit_103 : decode cX11_deposit 103 = .ok (.invokevirtual 112, 3) := by decide +kernel
theorem dX11_deposit_106 : decode cX11_deposit 106 = .ok (.lreturn, 1) := by decide +kernel
theorem dX11_deposit_107 : decode cX11_deposit 107 = .ok (.aload_n 0, 1) := by decide +kernel
theorem dX11_deposit_108 : decode cX11_deposit 108 = .ok (.getfield 137, 3) := by decide +kernel
theorem dX11_deposit_111 : decode cX11_deposit 111 = .ok (.bipush 30, 2) := by decide +kernel
theorem dX11_deposit_113 : decode cX11_deposit 113 = .ok (.if_icmp .ne 9, 3) := by decide +kernel
theorem dX11_deposit_116 : decode cX11_deposit 116 = .ok (.aload_n 0, 1) := by decide +kernel
theorem dX11_deposit_117 : decode cX11_deposit 117 = .ok (.iconst 4, 1) := by decide +kernel
theorem dX11_deposit_118 : decode cX11_deposit 118 = .ok (.invokevirtual 112, 3) := by decide +kernel
theorem dX11_deposit_121 : decode cX11_deposit 121 = .ok (.lreturn, 1) := by decide +kernel
theorem dX11_deposit_122 : decode cX11_deposit 122 = .ok (.aload_n 0, 1) := by decide +kernel
theorem dX11_deposit_123 : decode cX11_deposit 123 = .ok (.getfield 137, 3) := by decide +kernel
theorem dX11_deposit_126 : decode cX11_deposit 126 = .ok (.istore 6, 2) := by decide +kernel
theorem dX11_deposit_128 : decode cX11_deposit 128 = .ok (.aload_n 0, 1) := by decide +kernel
theorem dX11_deposit_129 : decode cX11_deposit 129 = .ok (.iconst 5, 1) := by decide +kernel
theorem dX11_deposit_130 : decode cX11_deposit 130 = .ok (.aload_n 0, 1) := by decide +kernel
theorem dX11_deposit_131 : decode cX11_deposit 131 = .ok (.getfield 108, 3) := by decide +kernel
theorem dX11_deposit_134 : decode cX11_deposit 134 = .ok (.aload_n 0, 1) := by decide +kernel
theorem dX11_deposit_135 : decode cX11_deposit 135 = .ok (.getfield 108, 3) := by decide +kernel
theorem dX11_deposit_138 : decode cX11_deposit 138 = .ok (.invokevirtual 130, 3) := by decide +kernel
theorem dX11_deposit_141 : decode cX11_deposit 141 = .ok (.istore 7, 2) := by decide +kernel
theorem dX11_deposit_143 : decode cX11_deposit 143 = .ok (.iload 7, 2) := by decide +kernel
theorem dX11_deposit_145 : decode cX11_deposit 145 = .ok (.bipush 12, 2) := by decide +kernel
theorem dX11_deposit_147 : decode cX11_deposit 147 = .ok (.idiv, 1) := by decide +kernel
theorem dX11_deposit_148 : decode cX11_deposit 148 = .ok (.bipush 20, 2) := by decide +kernel
theorem dX11_deposit_150 : decode cX11_deposit 150 = .ok (.if_icmp .le 8, 3) := by decide +kernel
theorem dX11_deposit_153 : decode cX11_deposit 153 = .ok (.bipush 20, 2) := by decide +kernel
theorem dX11_deposit_155 : decode cX11_deposit 155 = .ok (.goto 8, 3) := by decide +kernel
theorem dX11_deposit_158 : decode cX11_deposit 158 = .ok (.iload 7, 2) := by decide +kernel
theorem dX11_deposit_160 : decode cX11_deposit 160 = .ok (.bipush 12, 2) := by decide +kernel
theorem dX11_deposit_162 : decode cX11_deposit 162 = .ok (.idiv, 1) := by decide +kernel
theorem dX11_deposit_163 : decode cX11_deposit 163 = .ok (.istore 8, 2) := by decide +kernel
theorem dX11_deposit_165 : decode cX11_deposit 165 = .ok (.aload_n 0, 1) := by decide +kernel
theorem dX11_deposit_166 : decode cX11_deposit 166 = .ok (.getfield 43, 3) := by decide +kernel
theorem dX11_deposit_169 : decode cX11_deposit 169 = .ok (.iload 6, 2) := by decide +kernel
theorem dX11_deposit_171 : decode cX11_deposit 171 = .ok (.iload_n 1, 1) := by decide +kernel
theorem dX11_deposit_172 : decode cX11_deposit 172 = .ok (.iastore, 1) := by decide +kernel
theorem dX11_deposit_173 : decode cX11_deposit 173 = .ok (.aload_n 0, 1) := by decide +kernel
theorem dX11_deposit_174 : decode cX11_deposit 174 = .ok (.getfield 46, 3) := by decide +kernel
theorem dX11_deposit_177 : decode cX11_deposit 177 = .ok (.iload 6, 2) := by decide +kernel
theorem dX11_deposit_179 : decode cX11_deposit 179 = .ok (.iload_n 2, 1) := by decide +kernel
theorem dX11_deposit_180 : decode cX11_deposit 180 = .ok (.iastore, 1) := by decide +kernel
theorem dX11_deposit_181 : decode cX11_deposit 181 = .ok (.aload_n 0, 1) := by decide +kernel
theorem dX11_deposit_182 : decode cX11_deposit 182 = .ok (.getfield 49, 3) := by decide +kernel
theorem dX11_deposit_185 : decode cX11_deposit 185 = .ok (.iload 6, 2) := by decide +kernel
theorem dX11_deposit_187 : decode cX11_deposit 187 = .ok (.iload_n 1, 1) := by decide +kernel
theorem dX11_deposit_188 : decode cX11_deposit 188 = .ok (.iconst 1, 1) := by decide +kernel
theorem dX11_deposit_189 : decode cX11_deposit 189 = .ok (.if_icmp .ne 7, 3) := by decide +kernel
theorem dX11_deposit_192 : decode cX11_deposit 192 = .ok (.iload_n 3, 1) := by decide +kernel
theorem dX11_deposit_193 : decode cX11_deposit 193 = .ok (.goto 4, 3) := by decide +kernel
theorem dX11_deposit_196 : decode cX11_deposit 196 = .ok (.iconst (-1), 1) := by decide +kernel
theorem dX11_deposit_197 : decode cX11_deposit 197 = .ok (.iastore, 1) := by decide +kernel
theorem dX11_deposit_198 : decode cX11_deposit 198 = .ok (.aload_n 0, 1) := by decide +kernel
theorem dX11_deposit_199 : decode cX11_deposit 199 = .ok (.getfield 52, 3) := by decide +kernel
theorem dX11_deposit_202 : decode cX11_deposit 202 = .ok (.iload 6, 2) := by decide +kernel
theorem dX11_deposit_204 : decode cX11_deposit 204 = .ok (.iload 4, 2) := by decide +kernel
theorem dX11_deposit_206 : decode cX11_deposit 206 = .ok (.iastore, 1) := by decide +kernel
theorem dX11_deposit_207 : decode cX11_deposit 207 = .ok (.aload_n 0, 1) := by decide +kernel
theorem dX11_deposit_208 : decode cX11_deposit 208 = .ok (.getfield 55, 3) := by decide +kernel
theorem dX11_deposit_211 : decode cX11_deposit 211 = .ok (.iload 6, 2) := by decide +kernel
theorem dX11_deposit_213 : decode cX11_deposit 213 = .ok (.iload 4, 2) := by decide +kernel
theorem dX11_deposit_215 : decode cX11_deposit 215 = .ok (.i2l, 1) := by decide +kernel
theorem dX11_deposit_216 : decode cX11_deposit 216 = .ok (.aload_n 0, 1) := by decide +kernel
theorem dX11_deposit_217 : decode cX11_deposit 217 = .ok (.getfield 25, 3) := by decide +kernel
theorem dX11_deposit_220 : decode cX11_deposit 220 = .ok (.iload 8, 2) := by decide +kernel
theorem dX11_deposit_222 : decode cX11_deposit 222 = .ok (.iaload, 1) := by decide +kernel
theorem dX11_deposit_223 : decode cX11_deposit 223 = .ok (.i2l, 1) := by decide +kernel
theorem dX11_deposit_224 : decode cX11_deposit 224 = .ok (.lmul, 1) := by decide +kernel
theorem dX11_deposit_225 : decode cX11_deposit 225 = .ok (.ldc2_w 153, 3) := by decide +kernel
theorem dX11_deposit_228 : decode cX11_deposit 228 = .ok (.ldiv, 1) := by decide +kernel
theorem dX11_deposit_229 : decode cX11_deposit 229 = .ok (.lastore, 1) := by decide +kernel
theorem dX11_deposit_230 : decode cX11_deposit 230 = .ok (.aload_n 0, 1) := by decide +kernel
theorem dX11_deposit_231 : decode cX11_deposit 231 = .ok (.getfield 59, 3) := by decide +kernel
theorem dX11_deposit_234 : decode cX11_deposit 234 = .ok (.iload 6, 2) := by decide +kernel
theorem dX11_deposit_236 : decode cX11_deposit 236 = .ok (.aload_n 0, 1) := by decide +kernel
theorem dX11_deposit_237 : decode cX11_deposit 237 = .ok (.getfield 108, 3) := by decide +kernel
theorem dX11_deposit_240 : decode cX11_deposit 240 = .ok (.iload 7, 2) := by decide +kernel
theorem dX11_deposit_242 : decode cX11_deposit 242 = .ok (.iadd, 1) := by decide +kernel
theorem dX11_deposit_243 : decode cX11_deposit 243 = .ok (.iastore, 1) := by decide +kernel
theorem dX11_deposit_244 : decode cX11_deposit 244 = .ok (.aload_n 0, 1) := by decide +kernel
theorem dX11_deposit_245 : decode cX11_deposit 245 = .ok (.getfield 62, 3) := by decide +kernel
theorem dX11_deposit_248 : decode cX11_deposit 248 = .ok (.iload 6, 2) := by decide +kernel
theorem dX11_deposit_250 : decode cX11_deposit 250 = .ok (.aload_n 0, 1) := by decide +kernel
theorem dX11_deposit_251 : decode cX11_deposit 251 = .ok (.getfield 108, 3) := by decide +kernel
theorem dX11_deposit_254 : decode cX11_deposit 254 = .ok (.iastore, 1) := by decide +kernel
theorem dX11_deposit_255 : decode cX11_deposit 255 = .ok (.aload_n 0, 1) := by decide +kernel
theorem dX11_deposit_256 : decode cX11_deposit 256 = .ok (.getfield 65, 3) := by decide +kernel
theorem dX11_deposit_259 : decode cX11_deposit 259 = .ok (.iload 6, 2) := by decide +kernel
theorem dX11_deposit_261 : decode cX11_deposit 261 = .ok (.lconst 0, 1) := by decide +kernel
theorem dX11_deposit_262 : decode cX11_deposit 262 = .ok (.lastore, 1) := by decide +kernel
theorem dX11_deposit_263 : decode cX11_deposit 263 = .ok (.aload_n 0, 1) := by decide +kernel
theorem dX11_deposit_264 : decode cX11_deposit 264 = .ok (.getfield 68, 3) := by decide +kernel
theorem dX11_deposit_267 : decode cX11_deposit 267 = .ok (.iload 6, 2) := by decide +kernel
theorem dX11_deposit_269 : decode cX11_deposit 269 = .ok (.iconst 0, 1) := by decide +kernel
theorem dX11_deposit_270 : decode cX11_deposit 270 = .ok (.bastore, 1) := by decide +kernel
theorem dX11_deposit_271 : decode cX11_deposit 271 = .ok (.aload_n 0, 1) := by decide +kernel
theorem dX11_deposit_272 : decode cX11_deposit 272 = .ok (.getfield 72, 3) := by decide +kernel
theorem dX11_deposit_275 : decode cX11_deposit 275 = .ok (.iload 6, 2) := by decide +kernel
theorem dX11_deposit_277 : decode cX11_deposit 277 = .ok (.iconst 1, 1) := by decide +kernel
theorem dX11_deposit_278 : decode cX11_deposit 278 = .ok (.iastore, 1) := by decide +kernel
theorem dX11_deposit_279 : decode cX11_deposit 279 = .ok (.aload_n 0, 1) := by decide +kernel
theorem dX11_deposit_280 : decode cX11_deposit 280 = .ok (.getfield 75, 3) := by decide +kernel
theorem dX11_deposit_283 : decode cX11_deposit 283 = .ok (.bipush 7, 2) := by decide +kernel
theorem dX11_deposit_285 : decode cX11_deposit 285 = .ok (.iload 6, 2) := by decide +kernel
theorem dX11_deposit_287 : decode cX11_deposit 287 = .ok (.imul, 1) := by decide +kernel
theorem dX11_deposit_288 : decode cX11_deposit 288 = .ok (.aload_n 0, 1) := by decide +kernel
theorem dX11_deposit_289 : decode cX11_deposit 289 = .ok (.getfield 108, 3) := by decide +kernel
theorem dX11_deposit_292 : decode cX11_deposit 292 = .ok (.iastore, 1) := by decide +kernel
theorem dX11_deposit_293 : decode cX11_deposit 293 = .ok (.aload_n 0, 1) := by decide +kernel
theorem dX11_deposit_294 : decode cX11_deposit 294 = .ok (.getfield 78, 3) := by decide +kernel
theorem dX11_deposit_297 : decode cX11_deposit 297 = .ok (.bipush 7, 2) := by decide +kernel
theorem dX11_deposit_299 : decode cX11_deposit 299 = .ok (.iload 6, 2) := by decide +kernel
theorem dX11_deposit_301 : decode cX11_deposit 301 = .ok (.imul, 1) := by decide +kernel
theorem dX11_deposit_302 : decode cX11_deposit 302 = .ok (.iload 5, 2) := by decide +kernel
theorem dX11_deposit_304 : decode cX11_deposit 304 = .ok (.iastore, 1) := by decide +kernel
theorem dX11_deposit_305 : decode cX11_deposit 305 = .ok (.aload_n 0, 1) := by decide +kernel
theorem dX11_deposit_306 : decode cX11_deposit 306 = .ok (.dup, 1) := by decide +kernel
theorem dX11_deposit_307 : decode cX11_deposit 307 = .ok (.getfield 137, 3) := by decide +kernel
theorem dX11_deposit_310 : decode cX11_deposit 310 = .ok (.iconst 1, 1) := by decide +kernel
theorem dX11_deposit_311 : decode cX11_deposit 311 = .ok (.iadd, 1) := by decide +kernel
theorem dX11_deposit_312 : decode cX11_deposit 312 = .ok (.putfield 137, 3) := by decide +kernel
theorem dX11_deposit_315 : decode cX11_deposit 315 = .ok (.iload 6, 2) := by decide +kernel
theorem dX11_deposit_317 : decode cX11_deposit 317 = .ok (.i2l, 1) := by decide +kernel
theorem dX11_deposit_318 : decode cX11_deposit 318 = .ok (.lreturn, 1) := by decide +kernel
theorem dX11_about_0 : decode cX11_about 0 = .ok (.aload_n 0, 1) := by decide +kernel
theorem dX11_about_1 : decode cX11_about 1 = .ok (.iload_n 1, 1) := by decide +kernel
theorem dX11_about_2 : decode cX11_about 2 = .ok (.invokevirtual 155, 3) := by decide +kernel
theorem dX11_about_5 : decode cX11_about 5 = .ok (.ifCond .eq 13, 3) := by decide +kernel
theorem dX11_about_8 : decode cX11_about 8 = .ok (.iload_n 2, 1) := by decide +kernel
theorem dX11_about_9 : decode cX11_about 9 = .ok (.iconst 0, 1) := by decide +kernel
theorem dX11_about_10 : decode cX11_about 10 = .ok (.bipush 8, 2) := by decide +kernel
theorem dX11_about_12 : decode cX11_about 12 = .ok (.invokestatic 104, 3) := by decide +kernel
theorem dX11_about_15 : decode cX11_about 15 = .ok (.ifCond .ne 9, 3) := by decide +kernel
theorem dX11_about_18 : decode cX11_about 18 = .ok (.aload_n 0, 1) := by decide +kernel
theorem dX11_about_19 : decode cX11_about 19 = .ok (.iconst 1, 1) := by decide +kernel
theorem dX11_about_20 : decode cX11_about 20 = .ok (.invokevirtual 112, 3) := by decide +kernel
theorem dX11_about_23 : decode cX11_about 23 = .ok (.lreturn, 1) := by decide +kernel
theorem dX11_about_24 : decode cX11_about 24 = .ok (.iload_n 2, 1) := by decide +kernel
theorem dX11_about_25 : decode cX11_about 25 = .ok (.tableswitch 127 0 7 #[47, 55, 63, 89, 97, 104, 112, 120], 47) := by decide +kernel
theorem dX11_about_72 : decode cX11_about 72 = .ok (.aload_n 0, 1) := by decide +kernel
theorem dX11_about_73 : decode cX11_about 73 = .ok (.getfield 43, 3) := by decide +kernel
theorem dX11_about_76 : decode cX11_about 76 = .ok (.iload_n 1, 1) := by decide +kernel
theorem dX11_about_77 : decode cX11_about 77 = .ok (.iaload, 1) := by decide +kernel
theorem dX11_about_78 : decode cX11_about 78 = .ok (.i2l, 1) := by decide +kernel
theorem dX11_about_79 : decode cX11_about 79 = .ok (.lreturn, 1) := by decide +kernel
theorem dX11_about_80 : decode cX11_about 80 = .ok (.aload_n 0, 1) := by decide +kernel
theorem dX11_about_81 : decode cX11_about 81 = .ok (.getfield 46, 3) := by decide +kernel
theorem dX11_about_84 : decode cX11_about 84 = .ok (.iload_n 1, 1) := by decide +kernel
theorem dX11_about_85 : decode cX11_about 85 = .ok (.iaload, 1) := by decide +kernel
theorem dX11_about_86 : decode cX11_about 86 = .ok (.i2l, 1) := by decide +kernel
theorem dX11_about_87 : decode cX11_about 87 = .ok (.lreturn, 1) := by decide +kernel
theorem dX11_about_88 : decode cX11_about 88 = .ok (.aload_n 0, 1) := by decide +kernel
theorem dX11_about_89 : decode cX11_about 89 = .ok (.getfield 43, 3) := by decide +kernel
theorem dX11_about_92 : decode cX11_about 92 = .ok (.iload_n 1, 1) := by decide +kernel
theorem dX11_about_93 : decode cX11_about 93 = .ok (.iaload, 1) := by decide +kernel
theorem dX11_about_94 : decode cX11_about 94 = .ok (.iconst 1, 1) := by decide +kernel
theorem dX11_about_95 : decode cX11_about 95 = .ok (.if_icmp .ne 13, 3) := by decide +kernel
theorem dX11_about_98 : decode cX11_about 98 = .ok (.aload_n 0, 1) := by decide +kernel
theorem dX11_about_99 : decode cX11_about 99 = .ok (.getfield 49, 3) := by decide +kernel
theorem dX11_about_102 : decode cX11_about 102 = .ok (.iload_n 1, 1) := by decide +kernel
theorem dX11_about_103 : decode cX11_about 103 = .ok (.iaload, 1) := by decide +kernel
theorem dX11_about_104 : decode cX11_about 104 = .ok (.i2l, 1) := by decide +kernel
theorem dX11_about_105 : decode cX11_about 105 = .ok (.goto 8, 3) := by decide +kernel
theorem dX11_about_108 : decode cX11_about 108 = .ok (.aload_n 0, 1) := by decide +kernel
theorem dX11_about_109 : decode cX11_about 109 = .ok (.iconst 2, 1) := by decide +kernel
theorem dX11_about_110 : decode cX11_about 110 = .ok (.invokevirtual 112, 3) := by decide +kernel
theorem dX11_about_113 : decode cX11_about 113 = .ok (.lreturn, 1) := by decide +kernel
theorem dX11_about_114 : decode cX11_about 114 = .ok (.aload_n 0, 1) := by decide +kernel
theorem dX11_about_115 : decode cX11_about 115 = .ok (.getfield 52, 3) := by decide +kernel
theorem dX11_about_118 : decode cX11_about 118 = .ok (.iload_n 1, 1) := by decide +kernel
theorem dX11_about_119 : decode cX11_about 119 = .ok (.iaload, 1) := by decide +kernel
theorem dX11_about_120 : decode cX11_about 120 = .ok (.i2l, 1) := by decide +kernel
theorem dX11_about_121 : decode cX11_about 121 = .ok (.lreturn, 1) := by decide +kernel
theorem dX11_about_122 : decode cX11_about 122 = .ok (.aload_n 0, 1) := by decide +kernel
theorem dX11_about_123 : decode cX11_about 123 = .ok (.getfield 55, 3) := by decide +kernel
theorem dX11_about_126 : decode cX11_about 126 = .ok (.iload_n 1, 1) := by decide +kernel
theorem dX11_about_127 : decode cX11_about 127 = .ok (.laload, 1) := by decide +kernel
theorem dX11_about_128 : decode cX11_about 128 = .ok (.lreturn, 1) := by decide +kernel
theorem dX11_about_129 : decode cX11_about 129 = .ok (.aload_n 0, 1) := by decide +kernel
theorem dX11_about_130 : decode cX11_about 130 = .ok (.getfield 59, 3) := by decide +kernel
theorem dX11_about_133 : decode cX11_about 133 = .ok (.iload_n 1, 1) := by decide +kernel
theorem dX11_about_134 : decode cX11_about 134 = .ok (.iaload, 1) := by decide +kernel
theorem dX11_about_135 : decode cX11_about 135 = .ok (.i2l, 1) := by decide +kernel
theorem dX11_about_136 : decode cX11_about 136 = .ok (.lreturn, 1) := by decide +kernel
theorem dX11_about_137 : decode cX11_about 137 = .ok (.aload_n 0, 1) := by decide +kernel
theorem dX11_about_138 : decode cX11_about 138 = .ok (.getfield 62, 3) := by decide +kernel
theorem dX11_about_141 : decode cX11_about 141 = .ok (.iload_n 1, 1) := by decide +kernel
theorem dX11_about_142 : decode cX11_about 142 = .ok (.iaload, 1) := by decide +kernel
theorem dX11_about_143 : decode cX11_about 143 = .ok (.i2l, 1) := by decide +kernel
theorem dX11_about_144 : decode cX11_about 144 = .ok (.lreturn, 1) := by decide +kernel
theorem dX11_about_145 : decode cX11_about 145 = .ok (.aload_n 0, 1) := by decide +kernel
theorem dX11_about_146 : decode cX11_about 146 = .ok (.getfield 65, 3) := by decide +kernel
theorem dX11_about_149 : decode cX11_about 149 = .ok (.iload_n 1, 1) := by decide +kernel
theorem dX11_about_150 : decode cX11_about 150 = .ok (.laload, 1) := by decide +kernel
theorem dX11_about_151 : decode cX11_about 151 = .ok (.lreturn, 1) := by decide +kernel
theorem dX11_about_152 : decode cX11_about 152 = .ok (.aload_n 0, 1) := by decide +kernel
theorem dX11_about_153 : decode cX11_about 153 = .ok (.getfield 68, 3) := by decide +kernel
theorem dX11_about_156 : decode cX11_about 156 = .ok (.iload_n 1, 1) := by decide +kernel
theorem dX11_about_157 : decode cX11_about 157 = .ok (.baload, 1) := by decide +kernel
theorem dX11_about_158 : decode cX11_about 158 = .ok (.ifCond .eq 7, 3) := by decide +kernel
theorem dX11_about_161 : decode cX11_about 161 = .ok (.lconst 1, 1) := by decide +kernel
theorem dX11_about_162 : decode cX11_about 162 = .ok (.goto 4, 3) := by decide +kernel
theorem dX11_about_165 : decode cX11_about 165 = .ok (.lconst 0, 1) := by decide +kernel
theorem dX11_about_166 : decode cX11_about 166 = .ok (.lreturn, 1) := by decide +kernel
theorem dX11_as_0 : decode cX11_as 0 = .ok (.aload_n 0, 1) := by decide +kernel
theorem dX11_as_1 : decode cX11_as 1 = .ok (.iload_n 1, 1) := by decide +kernel
theorem dX11_as_2 : decode cX11_as 2 = .ok (.invokevirtual 155, 3) := by decide +kernel
theorem dX11_as_5 : decode cX11_as 5 = .ok (.ifCond .eq 12, 3) := by decide +kernel
theorem dX11_as_8 : decode cX11_as 8 = .ok (.iload_n 2, 1) := by decide +kernel
theorem dX11_as_9 : decode cX11_as 9 = .ok (.iconst 0, 1) := by decide +kernel
theorem dX11_as_10 : decode cX11_as 10 = .ok (.iconst 2, 1) := by decide +kernel
theorem dX11_as_11 : decode cX11_as 11 = .ok (.invokestatic 104, 3) := by decide +kernel
theorem dX11_as_14 : decode cX11_as 14 = .ok (.ifCond .ne 9, 3) := by decide +kernel
theorem dX11_as_17 : decode cX11_as 17 = .ok (.aload_n 0, 1) := by decide +kernel
theorem dX11_as_18 : decode cX11_as 18 = .ok (.iconst 1, 1) := by decide +kernel
theorem dX11_as_19 : decode cX11_as 19 = .ok (.invokevirtual 112, 3) := by decide +kernel
theorem dX11_as_22 : decode cX11_as 22 = .ok (.lreturn, 1) := by decide +kernel
theorem dX11_as_23 : decode cX11_as 23 = .ok (.iload_n 2, 1) := by decide +kernel
theorem dX11_as_24 : decode cX11_as 24 = .ok (.ifCond .eq 19, 3) := by decide +kernel
theorem dX11_as_27 : decode cX11_as 27 = .ok (.aload_n 0, 1) := by decide +kernel
theorem dX11_as_28 : decode cX11_as 28 = .ok (.getfield 43, 3) := by decide +kernel
theorem dX11_as_31 : decode cX11_as 31 = .ok (.iload_n 1, 1) := by decide +kernel
theorem dX11_as_32 : decode cX11_as 32 = .ok (.iaload, 1) := by decide +kernel
theorem dX11_as_33 : decode cX11_as 33 = .ok (.iload_n 2, 1) := by decide +kernel
theorem dX11_as_34 : decode cX11_as 34 = .ok (.if_icmp .eq 9, 3) := by decide +kernel
theorem dX11_as_37 : decode cX11_as 37 = .ok (.aload_n 0, 1) := by decide +kernel
theorem dX11_as_38 : decode cX11_as 38 = .ok (.iconst 5, 1) := by decide +kernel
theorem dX11_as_39 : decode cX11_as 39 = .ok (.invokevirtual 112, 3) := by decide +kernel
theorem dX11_as_42 : decode cX11_as 42 = .ok (.lreturn, 1) := by decide +kernel
theorem dX11_as_43 : decode cX11_as 43 = .ok (.aload_n 0, 1) := by decide +kernel
theorem dX11_as_44 : decode cX11_as 44 = .ok (.getfield 52, 3) := by decide +kernel
theorem dX11_as_47 : decode cX11_as 47 = .ok (.iload_n 1, 1) := by decide +kernel
theorem dX11_as_48 : decode cX11_as 48 = .ok (.iaload, 1) := by decide +kernel
theorem dX11_as_49 : decode cX11_as 49 = .ok (.i2l, 1) := by decide +kernel
theorem dX11_as_50 : decode cX11_as 50 = .ok (.lreturn, 1) := by decide +kernel
theorem dX11_holderIn_0 : decode cX11_holderIn 0 = .ok (.iconst (-1), 1) := by decide +kernel
theorem dX11_holderIn_1 : decode cX11_holderIn 1 = .ok (.istore_n 3, 1) := by decide +kernel
theorem dX11_holderIn_2 : decode cX11_holderIn 2 = .ok (.iconst 0, 1) := by decide +kernel
theorem dX11_holderIn_3 : decode cX11_holderIn 3 = .ok (.istore 4, 2) := by decide +kernel
theorem dX11_holderIn_5 : decode cX11_holderIn 5 = .ok (.iload 4, 2) := by decide +kernel
theorem dX11_holderIn_7 : decode cX11_holderIn 7 = .ok (.aload_n 0, 1) := by decide +kernel
theorem dX11_holderIn_8 : decode cX11_holderIn 8 = .ok (.getfield 72, 3) := by decide +kernel
theorem dX11_holderIn_11 : decode cX11_holderIn 11 = .ok (.iload_n 1, 1) := by decide +kernel
theorem dX11_holderIn_12 : decode cX11_holderIn 12 = .ok (.iaload, 1) := by decide +kernel
theorem dX11_holderIn_13 : decode cX11_holderIn 13 = .ok (.if_icmp .ge 42, 3) := by decide +kernel
theorem dX11_holderIn_16 : decode cX11_holderIn 16 = .ok (.aload_n 0, 1) := by decide +kernel
theorem dX11_holderIn_17 : decode cX11_holderIn 17 = .ok (.getfield 75, 3) := by decide +kernel
theorem dX11_holderIn_20 : decode cX11_holderIn 20 = .ok (.bipush 7, 2) := by decide +kernel
theorem dX11_holderIn_22 : decode cX11_holderIn 22 = .ok (.iload_n 1, 1) := by decide +kernel
theorem dX11_holderIn_23 : decode cX11_holderIn 23 = .ok (.imul, 1) := by decide +kernel
theorem dX11_holderIn_24 : decode cX11_holderIn 24 = .ok (.iload 4, 2) := by decide +kernel
theorem dX11_holderIn_26 : decode cX11_holderIn 26 = .ok (.iadd, 1) := by decide +kernel
theorem dX11_holderIn_27 : decode cX11_holderIn 27 = .ok (.iaload, 1) := by decide +kernel
theorem dX11_holderIn_28 : decode cX11_holderIn 28 = .ok (.iload_n 2, 1) := by decide +kernel
theorem dX11_holderIn_29 : decode cX11_holderIn 29 = .ok (.if_icmp .gt 18, 3) := by decide +kernel
theorem dX11_holderIn_32 : decode cX11_holderIn 32 = .ok (.aload_n 0, 1) := by decide +kernel
theorem dX11_holderIn_33 : decode cX11_holderIn 33 = .ok (.getfield 78, 3) := by decide +kernel
theorem dX11_holderIn_36 : decode cX11_holderIn 36 = .ok (.bipush 7, 2) := by decide +kernel
theorem dX11_holderIn_38 : decode cX11_holderIn 38 = .ok (.iload_n 1, 1) := by decide +kernel
theorem dX11_holderIn_39 : decode cX11_holderIn 39 = .ok (.imul, 1) := by decide +kernel
theorem dX11_holderIn_40 : decode cX11_holderIn 40 = .ok (.iload 4, 2) := by decide +kernel
theorem dX11_holderIn_42 : decode cX11_holderIn 42 = .ok (.iadd, 1) := by decide +kernel
theorem dX11_holderIn_43 : decode cX11_holderIn 43 = .ok (.iaload, 1) := by decide +kernel
theorem dX11_holderIn_44 : decode cX11_holderIn 44 = .ok (.goto 4, 3) := by decide +kernel
theorem dX11_holderIn_47 : decode cX11_holderIn 47 = .ok (.iload_n 3, 1) := by decide +kernel
end
section
theorem dX11_holderIn_48 : decode cX11_holderIn 48 = .ok (.istore_n 3, 1) := by decide +kernel
theorem dX11_holderIn_49 : decode cX11_holderIn 49 = .ok (.iinc 4 1, 3) := by decide +kernel
theorem dX11_holderIn_52 : decode cX11_holderIn 52 = .ok (.goto (-47), 3) := by decide +kernel
theorem dX11_holderIn_55 : decode cX11_holderIn 55 = .ok (.iload_n 3, 1) := by decide +kernel
theorem dX11_holderIn_56 : decode cX11_holderIn 56 = .ok (.ireturn, 1) := by decide +kernel
theorem dX11_sell_0 : decode cX11_sell 0 = .ok (.aload_n 0, 1) := by decide +kernel
theorem dX11_sell_1 : decode cX11_sell 1 = .ok (.iload_n 1, 1) := by decide +kernel
theorem dX11_sell_2 : decode cX11_sell 2 = .ok (.invokevirtual 155, 3) := by decide +kernel
theorem dX11_sell_5 : decode cX11_sell 5 = .ok (.ifCond .eq 10, 3) := by decide +kernel
theorem dX11_sell_8 : decode cX11_sell 8 = .ok (.iload_n 2, 1) := by decide +kernel
theorem dX11_sell_9 : decode cX11_sell 9 = .ok (.invokestatic 150, 3) := by decide +kernel
theorem dX11_sell_12 : decode cX11_sell 12 = .ok (.ifCond .ne 9, 3) := by decide +kernel
theorem dX11_sell_15 : decode cX11_sell 15 = .ok (.aload_n 0, 1) := by decide +kernel
theorem dX11_sell_16 : decode cX11_sell 16 = .ok (.iconst 1, 1) := by decide +kernel
theorem dX11_sell_17 : decode cX11_sell 17 = .ok (.invokevirtual 112, 3) := by decide +kernel
theorem dX11_sell_20 : decode cX11_sell 20 = .ok (.lreturn, 1) := by decide +kernel
theorem dX11_sell_21 : decode cX11_sell 21 = .ok (.aload_n 0, 1) := by decide +kernel
theorem dX11_sell_22 : decode cX11_sell 22 = .ok (.getfield 68, 3) := by decide +kernel
theorem dX11_sell_25 : decode cX11_sell 25 = .ok (.iload_n 1, 1) := by decide +kernel
theorem dX11_sell_26 : decode cX11_sell 26 = .ok (.baload, 1) := by decide +kernel
theorem dX11_sell_27 : decode cX11_sell 27 = .ok (.ifCond .eq 9, 3) := by decide +kernel
theorem dX11_sell_30 : decode cX11_sell 30 = .ok (.aload_n 0, 1) := by decide +kernel
theorem dX11_sell_31 : decode cX11_sell 31 = .ok (.iconst 3, 1) := by decide +kernel
theorem dX11_sell_32 : decode cX11_sell 32 = .ok (.invokevirtual 112, 3) := by decide +kernel
theorem dX11_sell_35 : decode cX11_sell 35 = .ok (.lreturn, 1) := by decide +kernel
theorem dX11_sell_36 : decode cX11_sell 36 = .ok (.aload_n 0, 1) := by decide +kernel
theorem dX11_sell_37 : decode cX11_sell 37 = .ok (.iload_n 1, 1) := by decide +kernel
theorem dX11_sell_38 : decode cX11_sell 38 = .ok (.aload_n 0, 1) := by decide +kernel
theorem dX11_sell_39 : decode cX11_sell 39 = .ok (.getfield 108, 3) := by decide +kernel
theorem dX11_sell_42 : decode cX11_sell 42 = .ok (.invokevirtual 158, 3) := by decide +kernel
theorem dX11_sell_45 : decode cX11_sell 45 = .ok (.istore_n 3, 1) := by decide +kernel
theorem dX11_sell_46 : decode cX11_sell 46 = .ok (.iload_n 3, 1) := by decide +kernel
theorem dX11_sell_47 : decode cX11_sell 47 = .ok (.iload_n 2, 1) := by decide +kernel
theorem dX11_sell_48 : decode cX11_sell 48 = .ok (.if_icmp .ne 9, 3) := by decide +kernel
theorem dX11_sell_51 : decode cX11_sell 51 = .ok (.aload_n 0, 1) := by decide +kernel
theorem dX11_sell_52 : decode cX11_sell 52 = .ok (.iconst 5, 1) := by decide +kernel
theorem dX11_sell_53 : decode cX11_sell 53 = .ok (.invokevirtual 112, 3) := by decide +kernel
theorem dX11_sell_56 : decode cX11_sell 56 = .ok (.lreturn, 1) := by decide +kernel
theorem dX11_sell_57 : decode cX11_sell 57 = .ok (.bipush 7, 2) := by decide +kernel
theorem dX11_sell_59 : decode cX11_sell 59 = .ok (.iload_n 1, 1) := by decide +kernel
theorem dX11_sell_60 : decode cX11_sell 60 = .ok (.imul, 1) := by decide +kernel
theorem dX11_sell_61 : decode cX11_sell 61 = .ok (.aload_n 0, 1) := by decide +kernel
theorem dX11_sell_62 : decode cX11_sell 62 = .ok (.getfield 72, 3) := by decide +kernel
theorem dX11_sell_65 : decode cX11_sell 65 = .ok (.iload_n 1, 1) := by decide +kernel
theorem dX11_sell_66 : decode cX11_sell 66 = .ok (.iaload, 1) := by decide +kernel
theorem dX11_sell_67 : decode cX11_sell 67 = .ok (.iadd, 1) := by decide +kernel
theorem dX11_sell_68 : decode cX11_sell 68 = .ok (.iconst 1, 1) := by decide +kernel
theorem dX11_sell_69 : decode cX11_sell 69 = .ok (.isub, 1) := by decide +kernel
theorem dX11_sell_70 : decode cX11_sell 70 = .ok (.istore 4, 2) := by decide +kernel
theorem dX11_sell_72 : decode cX11_sell 72 = .ok (.aload_n 0, 1) := by decide +kernel
theorem dX11_sell_73 : decode cX11_sell 73 = .ok (.getfield 75, 3) := by decide +kernel
theorem dX11_sell_76 : decode cX11_sell 76 = .ok (.iload 4, 2) := by decide +kernel
theorem dX11_sell_78 : decode cX11_sell 78 = .ok (.iaload, 1) := by decide +kernel
theorem dX11_sell_79 : decode cX11_sell 79 = .ok (.aload_n 0, 1) := by decide +kernel
theorem dX11_sell_80 : decode cX11_sell 80 = .ok (.getfield 108, 3) := by decide +kernel
theorem dX11_sell_83 : decode cX11_sell 83 = .ok (.if_icmp .eq 33, 3) := by decide +kernel
theorem dX11_sell_86 : decode cX11_sell 86 = .ok (.aload_n 0, 1) := by decide +kernel
theorem dX11_sell_87 : decode cX11_sell 87 = .ok (.getfield 72, 3) := by decide +kernel
theorem dX11_sell_90 : decode cX11_sell 90 = .ok (.iload_n 1, 1) := by decide +kernel
theorem dX11_sell_91 : decode cX11_sell 91 = .ok (.iaload, 1) := by decide +kernel
theorem dX11_sell_92 : decode cX11_sell 92 = .ok (.bipush 7, 2) := by decide +kernel
theorem dX11_sell_94 : decode cX11_sell 94 = .ok (.if_icmp .ne 9, 3) := by decide +kernel
theorem dX11_sell_97 : decode cX11_sell 97 = .ok (.aload_n 0, 1) := by decide +kernel
theorem dX11_sell_98 : decode cX11_sell 98 = .ok (.iconst 4, 1) := by decide +kernel
theorem dX11_sell_99 : decode cX11_sell 99 = .ok (.invokevirtual 112, 3) := by decide +kernel
theorem dX11_sell_102 : decode cX11_sell 102 = .ok (.lreturn, 1) := by decide +kernel
theorem dX11_sell_103 : decode cX11_sell 103 = .ok (.aload_n 0, 1) := by decide +kernel
theorem dX11_sell_104 : decode cX11_sell 104 = .ok (.getfield 72, 3) := by decide +kernel
theorem dX11_sell_107 : decode cX11_sell 107 = .ok (.iload_n 1, 1) := by decide +kernel
theorem dX11_sell_108 : decode cX11_sell 108 = .ok (.dup2, 1) := by decide +kernel
theorem dX11_sell_109 : decode cX11_sell 109 = .ok (.iaload, 1) := by decide +kernel
theorem dX11_sell_110 : decode cX11_sell 110 = .ok (.iconst 1, 1) := by decide +kernel
theorem dX11_sell_111 : decode cX11_sell 111 = .ok (.iadd, 1) := by decide +kernel
theorem dX11_sell_112 : decode cX11_sell 112 = .ok (.iastore, 1) := by decide +kernel
theorem dX11_sell_113 : decode cX11_sell 113 = .ok (.iinc 4 1, 3) := by decide +kernel
theorem dX11_sell_116 : decode cX11_sell 116 = .ok (.aload_n 0, 1) := by decide +kernel
theorem dX11_sell_117 : decode cX11_sell 117 = .ok (.getfield 75, 3) := by decide +kernel
theorem dX11_sell_120 : decode cX11_sell 120 = .ok (.iload 4, 2) := by decide +kernel
theorem dX11_sell_122 : decode cX11_sell 122 = .ok (.aload_n 0, 1) := by decide +kernel
theorem dX11_sell_123 : decode cX11_sell 123 = .ok (.getfield 108, 3) := by decide +kernel
theorem dX11_sell_126 : decode cX11_sell 126 = .ok (.iastore, 1) := by decide +kernel
theorem dX11_sell_127 : decode cX11_sell 127 = .ok (.aload_n 0, 1) := by decide +kernel
theorem dX11_sell_128 : decode cX11_sell 128 = .ok (.getfield 78, 3) := by decide +kernel
theorem dX11_sell_131 : decode cX11_sell 131 = .ok (.iload 4, 2) := by decide +kernel
theorem dX11_sell_133 : decode cX11_sell 133 = .ok (.iload_n 2, 1) := by decide +kernel
theorem dX11_sell_134 : decode cX11_sell 134 = .ok (.iastore, 1) := by decide +kernel
theorem dX11_sell_135 : decode cX11_sell 135 = .ok (.iload_n 3, 1) := by decide +kernel
theorem dX11_sell_136 : decode cX11_sell 136 = .ok (.i2l, 1) := by decide +kernel
theorem dX11_sell_137 : decode cX11_sell 137 = .ok (.lreturn, 1) := by decide +kernel
theorem dX11_holder_0 : decode cX11_holder 0 = .ok (.aload_n 0, 1) := by decide +kernel
theorem dX11_holder_1 : decode cX11_holder 1 = .ok (.iload_n 1, 1) := by decide +kernel
theorem dX11_holder_2 : decode cX11_holder 2 = .ok (.invokevirtual 155, 3) := by decide +kernel
theorem dX11_holder_5 : decode cX11_holder 5 = .ok (.ifCond .eq 10, 3) := by decide +kernel
theorem dX11_holder_8 : decode cX11_holder 8 = .ok (.iload_n 2, 1) := by decide +kernel
theorem dX11_holder_9 : decode cX11_holder 9 = .ok (.invokestatic 119, 3) := by decide +kernel
theorem dX11_holder_12 : decode cX11_holder 12 = .ok (.ifCond .ne 9, 3) := by decide +kernel
theorem dX11_holder_15 : decode cX11_holder 15 = .ok (.aload_n 0, 1) := by decide +kernel
theorem dX11_holder_16 : decode cX11_holder 16 = .ok (.iconst 1, 1) := by decide +kernel
theorem dX11_holder_17 : decode cX11_holder 17 = .ok (.invokevirtual 112, 3) := by decide +kernel
theorem dX11_holder_20 : decode cX11_holder 20 = .ok (.lreturn, 1) := by decide +kernel
theorem dX11_holder_21 : decode cX11_holder 21 = .ok (.aload_n 0, 1) := by decide +kernel
theorem dX11_holder_22 : decode cX11_holder 22 = .ok (.iload_n 1, 1) := by decide +kernel
theorem dX11_holder_23 : decode cX11_holder 23 = .ok (.iload_n 2, 1) := by decide +kernel
theorem dX11_holder_24 : decode cX11_holder 24 = .ok (.invokevirtual 158, 3) := by decide +kernel
theorem dX11_holder_27 : decode cX11_holder 27 = .ok (.istore_n 3, 1) := by decide +kernel
theorem dX11_holder_28 : decode cX11_holder 28 = .ok (.iload_n 3, 1) := by decide +kernel
theorem dX11_holder_29 : decode cX11_holder 29 = .ok (.ifCond .ge 11, 3) := by decide +kernel
theorem dX11_holder_32 : decode cX11_holder 32 = .ok (.aload_n 0, 1) := by decide +kernel
theorem dX11_holder_33 : decode cX11_holder 33 = .ok (.iconst 2, 1) := by decide +kernel
theorem dX11_holder_34 : decode cX11_holder 34 = .ok (.invokevirtual 112, 3) := by decide +kernel
theorem dX11_holder_37 : decode cX11_holder 37 = .ok (.goto 5, 3) := by decide +kernel
theorem dX11_holder_40 : decode cX11_holder 40 = .ok (.iload_n 3, 1) := by decide +kernel
theorem dX11_holder_41 : decode cX11_holder 41 = .ok (.i2l, 1) := by decide +kernel
theorem dX11_holder_42 : decode cX11_holder 42 = .ok (.lreturn, 1) := by decide +kernel
theorem dX11_counted_0 : decode cX11_counted 0 = .ok (.iload_n 2, 1) := by decide +kernel
theorem dX11_counted_1 : decode cX11_counted 1 = .ok (.ifCond .ge 7, 3) := by decide +kernel
theorem dX11_counted_4 : decode cX11_counted 4 = .ok (.iconst (-1), 1) := by decide +kernel
theorem dX11_counted_5 : decode cX11_counted 5 = .ok (.goto 9, 3) := by decide +kernel
theorem dX11_counted_8 : decode cX11_counted 8 = .ok (.aload_n 0, 1) := by decide +kernel
theorem dX11_counted_9 : decode cX11_counted 9 = .ok (.iload_n 2, 1) := by decide +kernel
theorem dX11_counted_10 : decode cX11_counted 10 = .ok (.iload_n 3, 1) := by decide +kernel
theorem dX11_counted_11 : decode cX11_counted 11 = .ok (.invokevirtual 146, 3) := by decide +kernel
theorem dX11_counted_14 : decode cX11_counted 14 = .ok (.istore 4, 2) := by decide +kernel
theorem dX11_counted_16 : decode cX11_counted 16 = .ok (.iload 4, 2) := by decide +kernel
theorem dX11_counted_18 : decode cX11_counted 18 = .ok (.ifCond .lt 24, 3) := by decide +kernel
theorem dX11_counted_21 : decode cX11_counted 21 = .ok (.aload_n 0, 1) := by decide +kernel
theorem dX11_counted_22 : decode cX11_counted 22 = .ok (.getfield 37, 3) := by decide +kernel
theorem dX11_counted_25 : decode cX11_counted 25 = .ok (.iload 4, 2) := by decide +kernel
theorem dX11_counted_27 : decode cX11_counted 27 = .ok (.iaload, 1) := by decide +kernel
theorem dX11_counted_28 : decode cX11_counted 28 = .ok (.aload_n 0, 1) := by decide +kernel
theorem dX11_counted_29 : decode cX11_counted 29 = .ok (.getfield 62, 3) := by decide +kernel
theorem dX11_counted_32 : decode cX11_counted 32 = .ok (.iload_n 1, 1) := by decide +kernel
theorem dX11_counted_33 : decode cX11_counted 33 = .ok (.iaload, 1) := by decide +kernel
theorem dX11_counted_34 : decode cX11_counted 34 = .ok (.if_icmp .lt 8, 3) := by decide +kernel
theorem dX11_counted_37 : decode cX11_counted 37 = .ok (.iload 4, 2) := by decide +kernel
theorem dX11_counted_39 : decode cX11_counted 39 = .ok (.goto 4, 3) := by decide +kernel
theorem dX11_counted_42 : decode cX11_counted 42 = .ok (.iconst (-1), 1) := by decide +kernel
theorem dX11_counted_43 : decode cX11_counted 43 = .ok (.ireturn, 1) := by decide +kernel
theorem dX11_fallOf_0 : decode cX11_fallOf 0 = .ok (.aload_n 0, 1) := by decide +kernel
theorem dX11_fallOf_1 : decode cX11_fallOf 1 = .ok (.getfield 62, 3) := by decide +kernel
theorem dX11_fallOf_4 : decode cX11_fallOf 4 = .ok (.iload_n 1, 1) := by decide +kernel
theorem dX11_fallOf_5 : decode cX11_fallOf 5 = .ok (.iaload, 1) := by decide +kernel
theorem dX11_fallOf_6 : decode cX11_fallOf 6 = .ok (.iload_n 2, 1) := by decide +kernel
theorem dX11_fallOf_7 : decode cX11_fallOf 7 = .ok (.if_icmp .le 5, 3) := by decide +kernel
theorem dX11_fallOf_10 : decode cX11_fallOf 10 = .ok (.iconst (-1), 1) := by decide +kernel
theorem dX11_fallOf_11 : decode cX11_fallOf 11 = .ok (.ireturn, 1) := by decide +kernel
theorem dX11_fallOf_12 : decode cX11_fallOf 12 = .ok (.aload_n 0, 1) := by decide +kernel
theorem dX11_fallOf_13 : decode cX11_fallOf 13 = .ok (.iload_n 1, 1) := by decide +kernel
theorem dX11_fallOf_14 : decode cX11_fallOf 14 = .ok (.aload_n 0, 1) := by decide +kernel
theorem dX11_fallOf_15 : decode cX11_fallOf 15 = .ok (.getfield 46, 3) := by decide +kernel
theorem dX11_fallOf_18 : decode cX11_fallOf 18 = .ok (.iload_n 1, 1) := by decide +kernel
theorem dX11_fallOf_19 : decode cX11_fallOf 19 = .ok (.iaload, 1) := by decide +kernel
theorem dX11_fallOf_20 : decode cX11_fallOf 20 = .ok (.iload_n 2, 1) := by decide +kernel
theorem dX11_fallOf_21 : decode cX11_fallOf 21 = .ok (.invokevirtual 161, 3) := by decide +kernel
theorem dX11_fallOf_24 : decode cX11_fallOf 24 = .ok (.istore_n 3, 1) := by decide +kernel
theorem dX11_fallOf_25 : decode cX11_fallOf 25 = .ok (.aload_n 0, 1) := by decide +kernel
theorem dX11_fallOf_26 : decode cX11_fallOf 26 = .ok (.iload_n 1, 1) := by decide +kernel
theorem dX11_fallOf_27 : decode cX11_fallOf 27 = .ok (.aload_n 0, 1) := by decide +kernel
theorem dX11_fallOf_28 : decode cX11_fallOf 28 = .ok (.getfield 49, 3) := by decide +kernel
theorem dX11_fallOf_31 : decode cX11_fallOf 31 = .ok (.iload_n 1, 1) := by decide +kernel
theorem dX11_fallOf_32 : decode cX11_fallOf 32 = .ok (.iaload, 1) := by decide +kernel
theorem dX11_fallOf_33 : decode cX11_fallOf 33 = .ok (.iload_n 2, 1) := by decide +kernel
theorem dX11_fallOf_34 : decode cX11_fallOf 34 = .ok (.invokevirtual 161, 3) := by decide +kernel
theorem dX11_fallOf_37 : decode cX11_fallOf 37 = .ok (.istore 4, 2) := by decide +kernel
theorem dX11_fallOf_39 : decode cX11_fallOf 39 = .ok (.iload_n 3, 1) := by decide +kernel
theorem dX11_fallOf_40 : decode cX11_fallOf 40 = .ok (.ifCond .lt 8, 3) := by decide +kernel
theorem dX11_fallOf_43 : decode cX11_fallOf 43 = .ok (.iload 4, 2) := by decide +kernel
theorem dX11_fallOf_45 : decode cX11_fallOf 45 = .ok (.ifCond .ge 14, 3) := by decide +kernel
theorem dX11_fallOf_48 : decode cX11_fallOf 48 = .ok (.iload_n 3, 1) := by decide +kernel
theorem dX11_fallOf_49 : decode cX11_fallOf 49 = .ok (.ifCond .ge 8, 3) := by decide +kernel
theorem dX11_fallOf_52 : decode cX11_fallOf 52 = .ok (.iload 4, 2) := by decide +kernel
theorem dX11_fallOf_54 : decode cX11_fallOf 54 = .ok (.goto 4, 3) := by decide +kernel
theorem dX11_fallOf_57 : decode cX11_fallOf 57 = .ok (.iload_n 3, 1) := by decide +kernel
theorem dX11_fallOf_58 : decode cX11_fallOf 58 = .ok (.ireturn, 1) := by decide +kernel
theorem dX11_fallOf_59 : decode cX11_fallOf 59 = .ok (.aload_n 0, 1) := by decide +kernel
theorem dX11_fallOf_60 : decode cX11_fallOf 60 = .ok (.getfield 34, 3) := by decide +kernel
theorem dX11_fallOf_63 : decode cX11_fallOf 63 = .ok (.iload_n 3, 1) := by decide +kernel
theorem dX11_fallOf_64 : decode cX11_fallOf 64 = .ok (.iaload, 1) := by decide +kernel
theorem dX11_fallOf_65 : decode cX11_fallOf 65 = .ok (.ifCond .ne 7, 3) := by decide +kernel
theorem dX11_fallOf_68 : decode cX11_fallOf 68 = .ok (.iconst 1, 1) := by decide +kernel
theorem dX11_fallOf_69 : decode cX11_fallOf 69 = .ok (.goto 4, 3) := by decide +kernel
theorem dX11_fallOf_72 : decode cX11_fallOf 72 = .ok (.iconst 0, 1) := by decide +kernel
theorem dX11_fallOf_73 : decode cX11_fallOf 73 = .ok (.istore 5, 2) := by decide +kernel
theorem dX11_fallOf_75 : decode cX11_fallOf 75 = .ok (.aload_n 0, 1) := by decide +kernel
theorem dX11_fallOf_76 : decode cX11_fallOf 76 = .ok (.getfield 34, 3) := by decide +kernel
theorem dX11_fallOf_79 : decode cX11_fallOf 79 = .ok (.iload 4, 2) := by decide +kernel
theorem dX11_fallOf_81 : decode cX11_fallOf 81 = .ok (.iaload, 1) := by decide +kernel
theorem dX11_fallOf_82 : decode cX11_fallOf 82 = .ok (.ifCond .ne 7, 3) := by decide +kernel
theorem dX11_fallOf_85 : decode cX11_fallOf 85 = .ok (.iconst 1, 1) := by decide +kernel
theorem dX11_fallOf_86 : decode cX11_fallOf 86 = .ok (.goto 4, 3) := by decide +kernel
theorem dX11_fallOf_89 : decode cX11_fallOf 89 = .ok (.iconst 0, 1) := by decide +kernel
theorem dX11_fallOf_90 : decode cX11_fallOf 90 = .ok (.istore 6, 2) := by decide +kernel
theorem dX11_fallOf_92 : decode cX11_fallOf 92 = .ok (.iload 5, 2) := by decide +kernel
theorem dX11_fallOf_94 : decode cX11_fallOf 94 = .ok (.iload 6, 2) := by decide +kernel
theorem dX11_fallOf_96 : decode cX11_fallOf 96 = .ok (.if_icmp .eq 15, 3) := by decide +kernel
theorem dX11_fallOf_99 : decode cX11_fallOf 99 = .ok (.iload 5, 2) := by decide +kernel
theorem dX11_fallOf_101 : decode cX11_fallOf 101 = .ok (.ifCond .eq 7, 3) := by decide +kernel
theorem dX11_fallOf_104 : decode cX11_fallOf 104 = .ok (.iload_n 3, 1) := by decide +kernel
theorem dX11_fallOf_105 : decode cX11_fallOf 105 = .ok (.goto 5, 3) := by decide +kernel
theorem dX11_fallOf_108 : decode cX11_fallOf 108 = .ok (.iload 4, 2) := by decide +kernel
theorem dX11_fallOf_110 : decode cX11_fallOf 110 = .ok (.ireturn, 1) := by decide +kernel
theorem dX11_fallOf_111 : decode cX11_fallOf 111 = .ok (.aload_n 0, 1) := by decide +kernel
theorem dX11_fallOf_112 : decode cX11_fallOf 112 = .ok (.getfield 37, 3) := by decide +kernel
theorem dX11_fallOf_115 : decode cX11_fallOf 115 = .ok (.iload 4, 2) := by decide +kernel
theorem dX11_fallOf_117 : decode cX11_fallOf 117 = .ok (.iaload, 1) := by decide +kernel
theorem dX11_fallOf_118 : decode cX11_fallOf 118 = .ok (.aload_n 0, 1) := by decide +kernel
theorem dX11_fallOf_119 : decode cX11_fallOf 119 = .ok (.getfield 37, 3) := by decide +kernel
theorem dX11_fallOf_122 : decode cX11_fallOf 122 = .ok (.iload_n 3, 1) := by decide +kernel
theorem dX11_fallOf_123 : decode cX11_fallOf 123 = .ok (.iaload, 1) := by decide +kernel
theorem dX11_fallOf_124 : decode cX11_fallOf 124 = .ok (.if_icmp .ge 8, 3) := by decide +kernel
theorem dX11_fallOf_127 : decode cX11_fallOf 127 = .ok (.iload 4, 2) := by decide +kernel
theorem dX11_fallOf_129 : decode cX11_fallOf 129 = .ok (.goto 4, 3) := by decide +kernel
theorem dX11_fallOf_132 : decode cX11_fallOf 132 = .ok (.iload_n 3, 1) := by decide +kernel
theorem dX11_fallOf_133 : decode cX11_fallOf 133 = .ok (.ireturn, 1) := by decide +kernel
theorem dX11_dueMonth_0 : decode cX11_dueMonth 0 = .ok (.aload_n 0, 1) := by decide +kernel
theorem dX11_dueMonth_1 : decode cX11_dueMonth 1 = .ok (.getfield 37, 3) := by decide +kernel
theorem dX11_dueMonth_4 : decode cX11_dueMonth 4 = .ok (.iload_n 1, 1) := by decide +kernel
theorem dX11_dueMonth_5 : decode cX11_dueMonth 5 = .ok (.iaload, 1) := by decide +kernel
theorem dX11_dueMonth_6 : decode cX11_dueMonth 6 = .ok (.aload_n 0, 1) := by decide +kernel
theorem dX11_dueMonth_7 : decode cX11_dueMonth 7 = .ok (.iconst 0, 1) := by decide +kernel
theorem dX11_dueMonth_8 : decode cX11_dueMonth 8 = .ok (.aload_n 0, 1) := by decide +kernel
theorem dX11_dueMonth_9 : decode cX11_dueMonth 9 = .ok (.getfield 37, 3) := by decide +kernel
theorem dX11_dueMonth_12 : decode cX11_dueMonth 12 = .ok (.iload_n 1, 1) := by decide +kernel
theorem dX11_dueMonth_13 : decode cX11_dueMonth 13 = .ok (.iaload, 1) := by decide +kernel
theorem dX11_dueMonth_14 : decode cX11_dueMonth 14 = .ok (.iload_n 2, 1) := by decide +kernel
theorem dX11_dueMonth_15 : decode cX11_dueMonth 15 = .ok (.invokevirtual 130, 3) := by decide +kernel
theorem dX11_dueMonth_18 : decode cX11_dueMonth 18 = .ok (.iadd, 1) := by decide +kernel
theorem dX11_dueMonth_19 : decode cX11_dueMonth 19 = .ok (.ireturn, 1) := by decide +kernel
theorem dX11_dueOf_0 : decode cX11_dueOf 0 = .ok (.aload_n 0, 1) := by decide +kernel
theorem dX11_dueOf_1 : decode cX11_dueOf 1 = .ok (.getfield 37, 3) := by decide +kernel
theorem dX11_dueOf_4 : decode cX11_dueOf 4 = .ok (.iload_n 2, 1) := by decide +kernel
theorem dX11_dueOf_5 : decode cX11_dueOf 5 = .ok (.iaload, 1) := by decide +kernel
theorem dX11_dueOf_6 : decode cX11_dueOf 6 = .ok (.istore 4, 2) := by decide +kernel
theorem dX11_dueOf_8 : decode cX11_dueOf 8 = .ok (.lconst 0, 1) := by decide +kernel
theorem dX11_dueOf_9 : decode cX11_dueOf 9 = .ok (.lstore 5, 2) := by decide +kernel
theorem dX11_dueOf_11 : decode cX11_dueOf 11 = .ok (.aload_n 0, 1) := by decide +kernel
theorem dX11_dueOf_12 : decode cX11_dueOf 12 = .ok (.getfield 34, 3) := by decide +kernel
theorem dX11_dueOf_15 : decode cX11_dueOf 15 = .ok (.iload_n 2, 1) := by decide +kernel
theorem dX11_dueOf_16 : decode cX11_dueOf 16 = .ok (.iaload, 1) := by decide +kernel
theorem dX11_dueOf_17 : decode cX11_dueOf 17 = .ok (.iconst 2, 1) := by decide +kernel
theorem dX11_dueOf_18 : decode cX11_dueOf 18 = .ok (.if_icmp .ne 29, 3) := by decide +kernel
theorem dX11_dueOf_21 : decode cX11_dueOf 21 = .ok (.aload_n 0, 1) := by decide +kernel
theorem dX11_dueOf_22 : decode cX11_dueOf 22 = .ok (.getfield 52, 3) := by decide +kernel
theorem dX11_dueOf_25 : decode cX11_dueOf 25 = .ok (.iload_n 1, 1) := by decide +kernel
theorem dX11_dueOf_26 : decode cX11_dueOf 26 = .ok (.iaload, 1) := by decide +kernel
theorem dX11_dueOf_27 : decode cX11_dueOf 27 = .ok (.i2l, 1) := by decide +kernel
theorem dX11_dueOf_28 : decode cX11_dueOf 28 = .ok (.aload_n 0, 1) := by decide +kernel
theorem dX11_dueOf_29 : decode cX11_dueOf 29 = .ok (.iconst 1, 1) := by decide +kernel
theorem dX11_dueOf_30 : decode cX11_dueOf 30 = .ok (.iload 4, 2) := by decide +kernel
theorem dX11_dueOf_32 : decode cX11_dueOf 32 = .ok (.iload_n 3, 1) := by decide +kernel
theorem dX11_dueOf_33 : decode cX11_dueOf 33 = .ok (.invokevirtual 130, 3) := by decide +kernel
theorem dX11_dueOf_36 : decode cX11_dueOf 36 = .ok (.i2l, 1) := by decide +kernel
theorem dX11_dueOf_37 : decode cX11_dueOf 37 = .ok (.lmul, 1) := by decide +kernel
theorem dX11_dueOf_38 : decode cX11_dueOf 38 = .ok (.ldc2_w 164, 3) := by decide +kernel
theorem dX11_dueOf_41 : decode cX11_dueOf 41 = .ok (.ldiv, 1) := by decide +kernel
theorem dX11_dueOf_42 : decode cX11_dueOf 42 = .ok (.lstore 5, 2) := by decide +kernel
theorem dX11_dueOf_44 : decode cX11_dueOf 44 = .ok (.goto 92, 3) := by decide +kernel
theorem dX11_dueOf_47 : decode cX11_dueOf 47 = .ok (.aload_n 0, 1) := by decide +kernel
theorem dX11_dueOf_48 : decode cX11_dueOf 48 = .ok (.getfield 34, 3) := by decide +kernel
theorem dX11_dueOf_51 : decode cX11_dueOf 51 = .ok (.iload_n 2, 1) := by decide +kernel
theorem dX11_dueOf_52 : decode cX11_dueOf 52 = .ok (.iaload, 1) := by decide +kernel
theorem dX11_dueOf_53 : decode cX11_dueOf 53 = .ok (.iconst 1, 1) := by decide +kernel
theorem dX11_dueOf_54 : decode cX11_dueOf 54 = .ok (.if_icmp .ne 38, 3) := by decide +kernel
theorem dX11_dueOf_57 : decode cX11_dueOf 57 = .ok (.aload_n 0, 1) := by decide +kernel
theorem dX11_dueOf_58 : decode cX11_dueOf 58 = .ok (.getfield 43, 3) := by decide +kernel
theorem dX11_dueOf_61 : decode cX11_dueOf 61 = .ok (.iload_n 1, 1) := by decide +kernel
theorem dX11_dueOf_62 : decode cX11_dueOf 62 = .ok (.iaload, 1) := by decide +kernel
theorem dX11_dueOf_63 : decode cX11_dueOf 63 = .ok (.iconst 2, 1) := by decide +kernel
theorem dX11_dueOf_64 : decode cX11_dueOf 64 = .ok (.if_icmp .eq 28, 3) := by decide +kernel
theorem dX11_dueOf_67 : decode cX11_dueOf 67 = .ok (.aload_n 0, 1) := by decide +kernel
theorem dX11_dueOf_68 : decode cX11_dueOf 68 = .ok (.getfield 55, 3) := by decide +kernel
theorem dX11_dueOf_71 : decode cX11_dueOf 71 = .ok (.iload_n 1, 1) := by decide +kernel
theorem dX11_dueOf_72 : decode cX11_dueOf 72 = .ok (.laload, 1) := by decide +kernel
theorem dX11_dueOf_73 : decode cX11_dueOf 73 = .ok (.aload_n 0, 1) := by decide +kernel
theorem dX11_dueOf_74 : decode cX11_dueOf 74 = .ok (.iconst 2, 1) := by decide +kernel
theorem dX11_dueOf_75 : decode cX11_dueOf 75 = .ok (.iload 4, 2) := by decide +kernel
theorem dX11_dueOf_77 : decode cX11_dueOf 77 = .ok (.iload_n 3, 1) := by decide +kernel
theorem dX11_dueOf_78 : decode cX11_dueOf 78 = .ok (.invokevirtual 130, 3) := by decide +kernel
theorem dX11_dueOf_81 : decode cX11_dueOf 81 = .ok (.i2l, 1) := by decide +kernel
theorem dX11_dueOf_82 : decode cX11_dueOf 82 = .ok (.lmul, 1) := by decide +kernel
theorem dX11_dueOf_83 : decode cX11_dueOf 83 = .ok (.ldc2_w 164, 3) := by decide +kernel
theorem dX11_dueOf_86 : decode cX11_dueOf 86 = .ok (.ldiv, 1) := by decide +kernel
theorem dX11_dueOf_87 : decode cX11_dueOf 87 = .ok (.lstore 5, 2) := by decide +kernel
theorem dX11_dueOf_89 : decode cX11_dueOf 89 = .ok (.goto 47, 3) := by decide +kernel
theorem dX11_dueOf_92 : decode cX11_dueOf 92 = .ok (.iload 4, 2) := by decide +kernel
theorem dX11_dueOf_94 : decode cX11_dueOf 94 = .ok (.aload_n 0, 1) := by decide +kernel
theorem dX11_dueOf_95 : decode cX11_dueOf 95 = .ok (.getfield 59, 3) := by decide +kernel
theorem dX11_dueOf_98 : decode cX11_dueOf 98 = .ok (.iload_n 1, 1) := by decide +kernel
theorem dX11_dueOf_99 : decode cX11_dueOf 99 = .ok (.iaload, 1) := by decide +kernel
theorem dX11_dueOf_100 : decode cX11_dueOf 100 = .ok (.if_icmp .lt 14, 3) := by decide +kernel
theorem dX11_dueOf_103 : decode cX11_dueOf 103 = .ok (.aload_n 0, 1) := by decide +kernel
theorem dX11_dueOf_104 : decode cX11_dueOf 104 = .ok (.getfield 55, 3) := by decide +kernel
theorem dX11_dueOf_107 : decode cX11_dueOf 107 = .ok (.iload_n 1, 1) := by decide +kernel
theorem dX11_dueOf_108 : decode cX11_dueOf 108 = .ok (.laload, 1) := by decide +kernel
theorem dX11_dueOf_109 : decode cX11_dueOf 109 = .ok (.lstore 5, 2) := by decide +kernel
theorem dX11_dueOf_111 : decode cX11_dueOf 111 = .ok (.goto 25, 3) := by decide +kernel
theorem dX11_dueOf_114 : decode cX11_dueOf 114 = .ok (.aload_n 0, 1) := by decide +kernel
theorem dX11_dueOf_115 : decode cX11_dueOf 115 = .ok (.getfield 55, 3) := by decide +kernel
theorem dX11_dueOf_118 : decode cX11_dueOf 118 = .ok (.iload_n 1, 1) := by decide +kernel
theorem dX11_dueOf_119 : decode cX11_dueOf 119 = .ok (.laload, 1) := by decide +kernel
theorem dX11_dueOf_120 : decode cX11_dueOf 120 = .ok (.aload_n 0, 1) := by decide +kernel
theorem dX11_dueOf_121 : decode cX11_dueOf 121 = .ok (.iconst 3, 1) := by decide +kernel
theorem dX11_dueOf_122 : decode cX11_dueOf 122 = .ok (.iload 4, 2) := by decide +kernel
theorem dX11_dueOf_124 : decode cX11_dueOf 124 = .ok (.iload_n 3, 1) := by decide +kernel
theorem dX11_dueOf_125 : decode cX11_dueOf 125 = .ok (.invokevirtual 130, 3) := by decide +kernel
theorem dX11_dueOf_128 : decode cX11_dueOf 128 = .ok (.i2l, 1) := by decide +kernel
theorem dX11_dueOf_129 : decode cX11_dueOf 129 = .ok (.lmul, 1) := by decide +kernel
theorem dX11_dueOf_130 : decode cX11_dueOf 130 = .ok (.ldc2_w 164, 3) := by decide +kernel
theorem dX11_dueOf_133 : decode cX11_dueOf 133 = .ok (.ldiv, 1) := by decide +kernel
theorem dX11_dueOf_134 : decode cX11_dueOf 134 = .ok (.lstore 5, 2) := by decide +kernel
theorem dX11_dueOf_136 : decode cX11_dueOf 136 = .ok (.lload 5, 2) := by decide +kernel
theorem dX11_dueOf_138 : decode cX11_dueOf 138 = .ok (.lload 5, 2) := by decide +kernel
theorem dX11_dueOf_140 : decode cX11_dueOf 140 = .ok (.aload_n 0, 1) := by decide +kernel
theorem dX11_dueOf_141 : decode cX11_dueOf 141 = .ok (.iconst 4, 1) := by decide +kernel
theorem dX11_dueOf_142 : decode cX11_dueOf 142 = .ok (.aload_n 0, 1) := by decide +kernel
theorem dX11_dueOf_143 : decode cX11_dueOf 143 = .ok (.iload_n 2, 1) := by decide +kernel
theorem dX11_dueOf_144 : decode cX11_dueOf 144 = .ok (.iload_n 3, 1) := by decide +kernel
theorem dX11_dueOf_145 : decode cX11_dueOf 145 = .ok (.invokevirtual 166, 3) := by decide +kernel
theorem dX11_dueOf_148 : decode cX11_dueOf 148 = .ok (.iload_n 3, 1) := by decide +kernel
theorem dX11_dueOf_149 : decode cX11_dueOf 149 = .ok (.invokevirtual 130, 3) := by decide +kernel
theorem dX11_dueOf_152 : decode cX11_dueOf 152 = .ok (.i2l, 1) := by decide +kernel
theorem dX11_dueOf_153 : decode cX11_dueOf 153 = .ok (.lmul, 1) := by decide +kernel
theorem dX11_dueOf_154 : decode cX11_dueOf 154 = .ok (.ldc2_w 164, 3) := by decide +kernel
theorem dX11_dueOf_157 : decode cX11_dueOf 157 = .ok (.ldiv, 1) := by decide +kernel
theorem dX11_dueOf_158 : decode cX11_dueOf 158 = .ok (.lsub, 1) := by decide +kernel
theorem dX11_dueOf_159 : decode cX11_dueOf 159 = .ok (.lreturn, 1) := by decide +kernel
theorem dX11_due_0 : decode cX11_due 0 = .ok (.aload_n 0, 1) := by decide +kernel
theorem dX11_due_1 : decode cX11_due 1 = .ok (.iload_n 1, 1) := by decide +kernel
theorem dX11_due_2 : decode cX11_due 2 = .ok (.invokevirtual 155, 3) := by decide +kernel
theorem dX11_due_5 : decode cX11_due 5 = .ok (.ifCond .eq 19, 3) := by decide +kernel
theorem dX11_due_8 : decode cX11_due 8 = .ok (.iload_n 2, 1) := by decide +kernel
theorem dX11_due_9 : decode cX11_due 9 = .ok (.invokestatic 119, 3) := by decide +kernel
theorem dX11_due_12 : decode cX11_due 12 = .ok (.ifCond .eq 12, 3) := by decide +kernel
theorem dX11_due_15 : decode cX11_due 15 = .ok (.iload_n 3, 1) := by decide +kernel
theorem dX11_due_16 : decode cX11_due 16 = .ok (.iconst 0, 1) := by decide +kernel
theorem dX11_due_17 : decode cX11_due 17 = .ok (.iconst 3, 1) := by decide +kernel
theorem dX11_due_18 : decode cX11_due 18 = .ok (.invokestatic 104, 3) := by decide +kernel
theorem dX11_due_21 : decode cX11_due 21 = .ok (.ifCond .ne 9, 3) := by decide +kernel
theorem dX11_due_24 : decode cX11_due 24 = .ok (.aload_n 0, 1) := by decide +kernel
theorem dX11_due_25 : decode cX11_due 25 = .ok (.iconst 1, 1) := by decide +kernel
theorem dX11_due_26 : decode cX11_due 26 = .ok (.invokevirtual 112, 3) := by decide +kernel
theorem dX11_due_29 : decode cX11_due 29 = .ok (.lreturn, 1) := by decide +kernel
theorem dX11_due_30 : decode cX11_due 30 = .ok (.aload_n 0, 1) := by decide +kernel
theorem dX11_due_31 : decode cX11_due 31 = .ok (.iload_n 1, 1) := by decide +kernel
theorem dX11_due_32 : decode cX11_due 32 = .ok (.iload_n 2, 1) := by decide +kernel
theorem dX11_due_33 : decode cX11_due 33 = .ok (.invokevirtual 169, 3) := by decide +kernel
theorem dX11_due_36 : decode cX11_due 36 = .ok (.istore 4, 2) := by decide +kernel
theorem dX11_due_38 : decode cX11_due 38 = .ok (.iload 4, 2) := by decide +kernel
theorem dX11_due_40 : decode cX11_due 40 = .ok (.ifCond .ge 9, 3) := by decide +kernel
theorem dX11_due_43 : decode cX11_due 43 = .ok (.aload_n 0, 1) := by decide +kernel
theorem dX11_due_44 : decode cX11_due 44 = .ok (.iconst 2, 1) := by decide +kernel
theorem dX11_due_45 : decode cX11_due 45 = .ok (.invokevirtual 112, 3) := by decide +kernel
theorem dX11_due_48 : decode cX11_due 48 = .ok (.lreturn, 1) := by decide +kernel
theorem dX11_due_49 : decode cX11_due 49 = .ok (.iload_n 3, 1) := by decide +kernel
theorem dX11_due_50 : decode cX11_due 50 = .ok (.ifCond .ne 14, 3) := by decide +kernel
theorem dX11_due_53 : decode cX11_due 53 = .ok (.aload_n 0, 1) := by decide +kernel
theorem dX11_due_54 : decode cX11_due 54 = .ok (.getfield 37, 3) := by decide +kernel
theorem dX11_due_57 : decode cX11_due 57 = .ok (.iload 4, 2) := by decide +kernel
theorem dX11_due_59 : decode cX11_due 59 = .ok (.iaload, 1) := by decide +kernel
theorem dX11_due_60 : decode cX11_due 60 = .ok (.i2l, 1) := by decide +kernel
theorem dX11_due_61 : decode cX11_due 61 = .ok (.goto 43, 3) := by decide +kernel
theorem dX11_due_64 : decode cX11_due 64 = .ok (.iload_n 3, 1) := by decide +kernel
theorem dX11_due_65 : decode cX11_due 65 = .ok (.iconst 1, 1) := by decide +kernel
theorem dX11_due_66 : decode cX11_due 66 = .ok (.if_icmp .ne 14, 3) := by decide +kernel
theorem dX11_due_69 : decode cX11_due 69 = .ok (.aload_n 0, 1) := by decide +kernel
theorem dX11_due_70 : decode cX11_due 70 = .ok (.iload 4, 2) := by decide +kernel
theorem dX11_due_72 : decode cX11_due 72 = .ok (.iload_n 2, 1) := by decide +kernel
theorem dX11_due_73 : decode cX11_due 73 = .ok (.invokevirtual 166, 3) := by decide +kernel
theorem dX11_due_76 : decode cX11_due 76 = .ok (.i2l, 1) := by decide +kernel
theorem dX11_due_77 : decode cX11_due 77 = .ok (.goto 27, 3) := by decide +kernel
theorem dX11_due_80 : decode cX11_due 80 = .ok (.iload_n 3, 1) := by decide +kernel
theorem dX11_due_81 : decode cX11_due 81 = .ok (.iconst 2, 1) := by decide +kernel
theorem dX11_due_82 : decode cX11_due 82 = .ok (.if_icmp .ne 14, 3) := by decide +kernel
theorem dX11_due_85 : decode cX11_due 85 = .ok (.aload_n 0, 1) := by decide +kernel
theorem dX11_due_86 : decode cX11_due 86 = .ok (.iload_n 1, 1) := by decide +kernel
theorem dX11_due_87 : decode cX11_due 87 = .ok (.iload 4, 2) := by decide +kernel
theorem dX11_due_89 : decode cX11_due 89 = .ok (.iload_n 2, 1) := by decide +kernel
theorem dX11_due_90 : decode cX11_due 90 = .ok (.invokevirtual 172, 3) := by decide +kernel
theorem dX11_due_93 : decode cX11_due 93 = .ok (.goto 11, 3) := by decide +kernel
theorem dX11_due_96 : decode cX11_due 96 = .ok (.aload_n 0, 1) := by decide +kernel
theorem dX11_due_97 : decode cX11_due 97 = .ok (.getfield 34, 3) := by decide +kernel
theorem dX11_due_100 : decode cX11_due 100 = .ok (.iload 4, 2) := by decide +kernel
theorem dX11_due_102 : decode cX11_due 102 = .ok (.iaload, 1) := by decide +kernel
theorem dX11_due_103 : decode cX11_due 103 = .ok (.i2l, 1) := by decide +kernel
theorem dX11_due_104 : decode cX11_due 104 = .ok (.lreturn, 1) := by decide +kernel
theorem dX11_foretold_0 : decode cX11_foretold 0 = .ok (.iload_n 1, 1) := by decide +kernel
theorem dX11_foretold_1 : decode cX11_foretold 1 = .ok (.invokestatic 119, 3) := by decide +kernel
theorem dX11_foretold_4 : decode cX11_foretold 4 = .ok (.ifCond .ne 9, 3) := by decide +kernel
theorem dX11_foretold_7 : decode cX11_foretold 7 = .ok (.aload_n 0, 1) := by decide +kernel
theorem dX11_foretold_8 : decode cX11_foretold 8 = .ok (.iconst 1, 1) := by decide +kernel
theorem dX11_foretold_9 : decode cX11_foretold 9 = .ok (.invokevirtual 112, 3) := by decide +kernel
theorem dX11_foretold_12 : decode cX11_foretold 12 = .ok (.lreturn, 1) := by decide +kernel
theorem dX11_foretold_13 : decode cX11_foretold 13 = .ok (.lconst 0, 1) := by decide +kernel
theorem dX11_foretold_14 : decode cX11_foretold 14 = .ok (.lstore_n 2, 1) := by decide +kernel
theorem dX11_foretold_15 : decode cX11_foretold 15 = .ok (.iconst 0, 1) := by decide +kernel
theorem dX11_foretold_16 : decode cX11_foretold 16 = .ok (.istore 4, 2) := by decide +kernel
theorem dX11_foretold_18 : decode cX11_foretold 18 = .ok (.iload 4, 2) := by decide +kernel
theorem dX11_foretold_20 : decode cX11_foretold 20 = .ok (.aload_n 0, 1) := by decide +kernel
theorem dX11_foretold_21 : decode cX11_foretold 21 = .ok (.getfield 137, 3) := by decide +kernel
theorem dX11_foretold_24 : decode cX11_foretold 24 = .ok (.if_icmp .ge 46, 3) := by decide +kernel
theorem dX11_foretold_27 : decode cX11_foretold 27 = .ok (.aload_n 0, 1) := by decide +kernel
theorem dX11_foretold_28 : decode cX11_foretold 28 = .ok (.iload 4, 2) := by decide +kernel
theorem dX11_foretold_30 : decode cX11_foretold 30 = .ok (.iload_n 1, 1) := by decide +kernel
theorem dX11_foretold_31 : decode cX11_foretold 31 = .ok (.invokevirtual 169, 3) := by decide +kernel
theorem dX11_foretold_34 : decode cX11_foretold 34 = .ok (.istore 5, 2) := by decide +kernel
theorem dX11_foretold_36 : decode cX11_foretold 36 = .ok (.iload 5, 2) := by decide +kernel
theorem dX11_foretold_38 : decode cX11_foretold 38 = .ok (.ifCond .lt 26, 3) := by decide +kernel
theorem dX11_foretold_41 : decode cX11_foretold 41 = .ok (.aload_n 0, 1) := by decide +kernel
theorem dX11_foretold_42 : decode cX11_foretold 42 = .ok (.iload 5, 2) := by decide +kernel
theorem dX11_foretold_44 : decode cX11_foretold 44 = .ok (.iload_n 1, 1) := by decide +kernel
theorem dX11_foretold_45 : decode cX11_foretold 45 = .ok (.invokevirtual 166, 3) := by decide +kernel
theorem dX11_foretold_48 : decode cX11_foretold 48 = .ok (.iload_n 1, 1) := by decide +kernel
theorem dX11_foretold_49 : decode cX11_foretold 49 = .ok (.if_icmp .ne 15, 3) := by decide +kernel
theorem dX11_foretold_52 : decode cX11_foretold 52 = .ok (.lload_n 2, 1) := by decide +kernel
theorem dX11_foretold_53 : decode cX11_foretold 53 = .ok (.aload_n 0, 1) := by decide +kernel
theorem dX11_foretold_54 : decode cX11_foretold 54 = .ok (.iload 4, 2) := by decide +kernel
theorem dX11_foretold_56 : decode cX11_foretold 56 = .ok (.iload 5, 2) := by decide +kernel
theorem dX11_foretold_58 : decode cX11_foretold 58 = .ok (.iload_n 1, 1) := by decide +kernel
theorem dX11_foretold_59 : decode cX11_foretold 59 = .ok (.invokevirtual 172, 3) := by decide +kernel
theorem dX11_foretold_62 : decode cX11_foretold 62 = .ok (.ladd, 1) := by decide +kernel
theorem dX11_foretold_63 : decode cX11_foretold 63 = .ok (.lstore_n 2, 1) := by decide +kernel
theorem dX11_foretold_64 : decode cX11_foretold 64 = .ok (.iinc 4 1, 3) := by decide +kernel
theorem dX11_foretold_67 : decode cX11_foretold 67 = .ok (.goto (-49), 3) := by decide +kernel
theorem dX11_foretold_70 : decode cX11_foretold 70 = .ok (.lload_n 2, 1) := by decide +kernel
theorem dX11_foretold_71 : decode cX11_foretold 71 = .ok (.lreturn, 1) := by decide +kernel
theorem dX11_income_0 : decode cX11_income 0 = .ok (.iload_n 1, 1) := by decide +kernel
theorem dX11_income_1 : decode cX11_income 1 = .ok (.iconst 0, 1) := by decide +kernel
theorem dX11_income_2 : decode cX11_income 2 = .ok (.ldc 176, 2) := by decide +kernel
theorem dX11_income_4 : decode cX11_income 4 = .ok (.invokestatic 104, 3) := by decide +kernel
theorem dX11_income_7 : decode cX11_income 7 = .ok (.ifCond .ne 9, 3) := by decide +kernel
theorem dX11_income_10 : decode cX11_income 10 = .ok (.aload_n 0, 1) := by decide +kernel
theorem dX11_income_11 : decode cX11_income 11 = .ok (.iconst 1, 1) := by decide +kernel
theorem dX11_income_12 : decode cX11_income 12 = .ok (.invokevirtual 112, 3) := by decide +kernel
theorem dX11_income_15 : decode cX11_income 15 = .ok (.lreturn, 1) := by decide +kernel
theorem dX11_income_16 : decode cX11_income 16 = .ok (.aload_n 0, 1) := by decide +kernel
theorem dX11_income_17 : decode cX11_income 17 = .ok (.getfield 177, 3) := by decide +kernel
theorem dX11_income_20 : decode cX11_income 20 = .ok (.iload_n 1, 1) := by decide +kernel
theorem dX11_income_21 : decode cX11_income 21 = .ok (.i2l, 1) := by decide +kernel
theorem dX11_income_22 : decode cX11_income 22 = .ok (.ladd, 1) := by decide +kernel
theorem dX11_income_23 : decode cX11_income 23 = .ok (.ldc2_w 181, 3) := by decide +kernel
theorem dX11_income_26 : decode cX11_income 26 = .ok (.lcmp, 1) := by decide +kernel
theorem dX11_income_27 : decode cX11_income 27 = .ok (.ifCond .le 9, 3) := by decide +kernel
theorem dX11_income_30 : decode cX11_income 30 = .ok (.aload_n 0, 1) := by decide +kernel
theorem dX11_income_31 : decode cX11_income 31 = .ok (.iconst 4, 1) := by decide +kernel
theorem dX11_income_32 : decode cX11_income 32 = .ok (.invokevirtual 112, 3) := by decide +kernel
theorem dX11_income_35 : decode cX11_income 35 = .ok (.lreturn, 1) := by decide +kernel
theorem dX11_income_36 : decode cX11_income 36 = .ok (.aload_n 0, 1) := by decide +kernel
theorem dX11_income_37 : decode cX11_income 37 = .ok (.dup, 1) := by decide +kernel
theorem dX11_income_38 : decode cX11_income 38 = .ok (.getfield 177, 3) := by decide +kernel
theorem dX11_income_41 : decode cX11_income 41 = .ok (.iload_n 1, 1) := by decide +kernel
theorem dX11_income_42 : decode cX11_income 42 = .ok (.i2l, 1) := by decide +kernel
theorem dX11_income_43 : decode cX11_income 43 = .ok (.ladd, 1) := by decide +kernel
theorem dX11_income_44 : decode cX11_income 44 = .ok (.putfield 177, 3) := by decide +kernel
theorem dX11_income_47 : decode cX11_income 47 = .ok (.aload_n 0, 1) := by decide +kernel
theorem dX11_income_48 : decode cX11_income 48 = .ok (.dup, 1) := by decide +kernel
theorem dX11_income_49 : decode cX11_income 49 = .ok (.getfield 183, 3) := by decide +kernel
theorem dX11_income_52 : decode cX11_income 52 = .ok (.iload_n 1, 1) := by decide +kernel
theorem dX11_income_53 : decode cX11_income 53 = .ok (.i2l, 1) := by decide +kernel
theorem dX11_income_54 : decode cX11_income 54 = .ok (.ladd, 1) := by decide +kernel
theorem dX11_income_55 : decode cX11_income 55 = .ok (.putfield 183, 3) := by decide +kernel
theorem dX11_income_58 : decode cX11_income 58 = .ok (.aload_n 0, 1) := by decide +kernel
theorem dX11_income_59 : decode cX11_income 59 = .ok (.getfield 177, 3) := by decide +kernel
theorem dX11_income_62 : decode cX11_income 62 = .ok (.lreturn, 1) := by decide +kernel
theorem dX11_pay_0 : decode cX11_pay 0 = .ok (.aload_n 0, 1) := by decide +kernel
theorem dX11_pay_1 : decode cX11_pay 1 = .ok (.getfield 65, 3) := by decide +kernel
theorem dX11_pay_4 : decode cX11_pay 4 = .ok (.iload_n 1, 1) := by decide +kernel
theorem dX11_pay_5 : decode cX11_pay 5 = .ok (.dup2, 1) := by decide +kernel
theorem dX11_pay_6 : decode cX11_pay 6 = .ok (.laload, 1) := by decide +kernel
theorem dX11_pay_7 : decode cX11_pay 7 = .ok (.lload_n 2, 1) := by decide +kernel
theorem dX11_pay_8 : decode cX11_pay 8 = .ok (.ladd, 1) := by decide +kernel
theorem dX11_pay_9 : decode cX11_pay 9 = .ok (.lastore, 1) := by decide +kernel
theorem dX11_pay_10 : decode cX11_pay 10 = .ok (.aload_n 0, 1) := by decide +kernel
theorem dX11_pay_11 : decode cX11_pay 11 = .ok (.getfield 99, 3) := by decide +kernel
theorem dX11_pay_14 : decode cX11_pay 14 = .ok (.iload_n 1, 1) := by decide +kernel
theorem dX11_pay_15 : decode cX11_pay 15 = .ok (.dup2, 1) := by decide +kernel
theorem dX11_pay_16 : decode cX11_pay 16 = .ok (.laload, 1) := by decide +kernel
theorem dX11_pay_17 : decode cX11_pay 17 = .ok (.lload_n 2, 1) := by decide +kernel
theorem dX11_pay_18 : decode cX11_pay 18 = .ok (.lsub, 1) := by decide +kernel
theorem dX11_pay_19 : decode cX11_pay 19 = .ok (.lastore, 1) := by decide +kernel
theorem dX11_pay_20 : decode cX11_pay 20 = .ok (.aload_n 0, 1) := by decide +kernel
theorem dX11_pay_21 : decode cX11_pay 21 = .ok (.dup, 1) := by decide +kernel
theorem dX11_pay_22 : decode cX11_pay 22 = .ok (.getfield 177, 3) := by decide +kernel
theorem dX11_pay_25 : decode cX11_pay 25 = .ok (.lload_n 2, 1) := by decide +kernel
theorem dX11_pay_26 : decode cX11_pay 26 = .ok (.lsub, 1) := by decide +kernel
theorem dX11_pay_27 : decode cX11_pay 27 = .ok (.putfield 177, 3) := by decide +kernel
theorem dX11_pay_30 : decode cX11_pay 30 = .ok (.aload_n 0, 1) := by decide +kernel
theorem dX11_pay_31 : decode cX11_pay 31 = .ok (.dup, 1) := by decide +kernel
theorem dX11_pay_32 : decode cX11_pay 32 = .ok (.getfield 186, 3) := by decide +kernel
theorem dX11_pay_35 : decode cX11_pay 35 = .ok (.lload_n 2, 1) := by decide +kernel
theorem dX11_pay_36 : decode cX11_pay 36 = .ok (.ladd, 1) := by decide +kernel
theorem dX11_pay_37 : decode cX11_pay 37 = .ok (.putfield 186, 3) := by decide +kernel
theorem dX11_pay_40 : decode cX11_pay 40 = .ok (.aload_n 0, 1) := by decide +kernel
theorem dX11_pay_41 : decode cX11_pay 41 = .ok (.getfield 81, 3) := by decide +kernel
theorem dX11_pay_44 : decode cX11_pay 44 = .ok (.aload_n 0, 1) := by decide +kernel
theorem dX11_pay_45 : decode cX11_pay 45 = .ok (.iload_n 1, 1) := by decide +kernel
theorem dX11_pay_46 : decode cX11_pay 46 = .ok (.aload_n 0, 1) := by decide +kernel
theorem dX11_pay_47 : decode cX11_pay 47 = .ok (.getfield 108, 3) := by decide +kernel
theorem dX11_pay_50 : decode cX11_pay 50 = .ok (.invokevirtual 158, 3) := by decide +kernel
theorem dX11_pay_53 : decode cX11_pay 53 = .ok (.dup2, 1) := by decide +kernel
theorem dX11_pay_54 : decode cX11_pay 54 = .ok (.laload, 1) := by decide +kernel
theorem dX11_pay_55 : decode cX11_pay 55 = .ok (.lload_n 2, 1) := by decide +kernel
theorem dX11_pay_56 : decode cX11_pay 56 = .ok (.ladd, 1) := by decide +kernel
theorem dX11_pay_57 : decode cX11_pay 57 = .ok (.lastore, 1) := by decide +kernel
theorem dX11_pay_58 : decode cX11_pay 58 = .ok (.return_, 1) := by decide +kernel
theorem dX11_goOn_0 : decode cX11_goOn 0 = .ok (.lconst 0, 1) := by decide +kernel
theorem dX11_goOn_1 : decode cX11_goOn 1 = .ok (.lstore_n 1, 1) := by decide +kernel
theorem dX11_goOn_2 : decode cX11_goOn 2 = .ok (.aload_n 0, 1) := by decide +kernel
theorem dX11_goOn_3 : decode cX11_goOn 3 = .ok (.iconst 0, 1) := by decide +kernel
theorem dX11_goOn_4 : decode cX11_goOn 4 = .ok (.putfield 189, 3) := by decide +kernel
theorem dX11_goOn_7 : decode cX11_goOn 7 = .ok (.iconst 0, 1) := by decide +kernel
theorem dX11_goOn_8 : decode cX11_goOn 8 = .ok (.istore_n 3, 1) := by decide +kernel
theorem dX11_goOn_9 : decode cX11_goOn 9 = .ok (.iload_n 3, 1) := by decide +kernel
theorem dX11_goOn_10 : decode cX11_goOn 10 = .ok (.aload_n 0, 1) := by decide +kernel
theorem dX11_goOn_11 : decode cX11_goOn 11 = .ok (.getfield 137, 3) := by decide +kernel
theorem dX11_goOn_14 : decode cX11_goOn 14 = .ok (.if_icmp .ge 133, 3) := by decide +kernel
theorem dX11_goOn_17 : decode cX11_goOn 17 = .ok (.aload_n 0, 1) := by decide +kernel
theorem dX11_goOn_18 : decode cX11_goOn 18 = .ok (.getfield 68, 3) := by decide +kernel
theorem dX11_goOn_21 : decode cX11_goOn 21 = .ok (.iload_n 3, 1) := by decide +kernel
theorem dX11_goOn_22 : decode cX11_goOn 22 = .ok (.baload, 1) := by decide +kernel
theorem dX11_goOn_23 : decode cX11_goOn 23 = .ok (.ifCond .eq 7, 3) := by decide +kernel
theorem dX11_goOn_26 : decode cX11_goOn 26 = .ok (.iconst (-1), 1) := by decide +kernel
theorem dX11_goOn_27 : decode cX11_goOn 27 = .ok (.goto 12, 3) := by decide +kernel
theorem dX11_goOn_30 : decode cX11_goOn 30 = .ok (.aload_n 0, 1) := by decide +kernel
theorem dX11_goOn_31 : decode cX11_goOn 31 = .ok (.iload_n 3, 1) := by decide +kernel
theorem dX11_goOn_32 : decode cX11_goOn 32 = .ok (.aload_n 0, 1) := by decide +kernel
theorem dX11_goOn_33 : decode cX11_goOn 33 = .ok (.getfield 108, 3) := by decide +kernel
theorem dX11_goOn_36 : decode cX11_goOn 36 = .ok (.invokevirtual 169, 3) := by decide +kernel
theorem dX11_goOn_39 : decode cX11_goOn 39 = .ok (.istore 4, 2) := by decide +kernel
theorem dX11_goOn_41 : decode cX11_goOn 41 = .ok (.aload_n 0, 1) := by decide +kernel
theorem dX11_goOn_42 : decode cX11_goOn 42 = .ok (.getfield 96, 3) := by decide +kernel
theorem dX11_goOn_45 : decode cX11_goOn 45 = .ok (.iload_n 3, 1) := by decide +kernel
theorem dX11_goOn_46 : decode cX11_goOn 46 = .ok (.iload 4, 2) := by decide +kernel
theorem dX11_goOn_48 : decode cX11_goOn 48 = .ok (.ifCond .lt 24, 3) := by decide +kernel
theorem dX11_goOn_51 : decode cX11_goOn 51 = .ok (.aload_n 0, 1) := by decide +kernel
theorem dX11_goOn_52 : decode cX11_goOn 52 = .ok (.iload 4, 2) := by decide +kernel
theorem dX11_goOn_54 : decode cX11_goOn 54 = .ok (.aload_n 0, 1) := by decide +kernel
theorem dX11_goOn_55 : decode cX11_goOn 55 = .ok (.getfield 108, 3) := by decide +kernel
theorem dX11_goOn_58 : decode cX11_goOn 58 = .ok (.invokevirtual 166, 3) := by decide +kernel
theorem dX11_goOn_61 : decode cX11_goOn 61 = .ok (.aload_n 0, 1) := by decide +kernel
theorem dX11_goOn_62 : decode cX11_goOn 62 = .ok (.getfield 108, 3) := by decide +kernel
theorem dX11_goOn_65 : decode cX11_goOn 65 = .ok (.if_icmp .gt 7, 3) := by decide +kernel
theorem dX11_goOn_68 : decode cX11_goOn 68 = .ok (.iconst 1, 1) := by decide +kernel
theorem dX11_goOn_69 : decode cX11_goOn 69 = .ok (.goto 4, 3) := by decide +kernel
theorem dX11_goOn_72 : decode cX11_goOn 72 = .ok (.iconst 0, 1) := by decide +kernel
theorem dX11_goOn_73 : decode cX11_goOn 73 = .ok (.bastore, 1) := by decide +kernel
theorem dX11_goOn_74 : decode cX11_goOn 74 = .ok (.aload_n 0, 1) := by decide +kernel
theorem dX11_goOn_75 : decode cX11_goOn 75 = .ok (.getfield 96, 3) := by decide +kernel
theorem dX11_goOn_78 : decode cX11_goOn 78 = .ok (.iload_n 3, 1) := by decide +kernel
theorem dX11_goOn_79 : decode cX11_goOn 79 = .ok (.baload, 1) := by decide +kernel
theorem dX11_goOn_80 : decode cX11_goOn 80 = .ok (.ifCond .eq 61, 3) := by decide +kernel
theorem dX11_goOn_83 : decode cX11_goOn 83 = .ok (.aload_n 0, 1) := by decide +kernel
theorem dX11_goOn_84 : decode cX11_goOn 84 = .ok (.iload_n 3, 1) := by decide +kernel
theorem dX11_goOn_85 : decode cX11_goOn 85 = .ok (.iload 4, 2) := by decide +kernel
theorem dX11_goOn_87 : decode cX11_goOn 87 = .ok (.aload_n 0, 1) := by decide +kernel
theorem dX11_goOn_88 : decode cX11_goOn 88 = .ok (.getfield 108, 3) := by decide +kernel
theorem dX11_goOn_91 : decode cX11_goOn 91 = .ok (.invokevirtual 172, 3) := by decide +kernel
theorem dX11_goOn_94 : decode cX11_goOn 94 = .ok (.aload_n 0, 1) := by decide +kernel
theorem dX11_goOn_95 : decode cX11_goOn 95 = .ok (.getfield 65, 3) := by decide +kernel
theorem dX11_goOn_98 : decode cX11_goOn 98 = .ok (.iload_n 3, 1) := by decide +kernel
theorem dX11_goOn_99 : decode cX11_goOn 99 = .ok (.laload, 1) := by decide +kernel
theorem dX11_goOn_100 : decode cX11_goOn 100 = .ok (.lsub, 1) := by decide +kernel
theorem dX11_goOn_101 : decode cX11_goOn 101 = .ok (.lstore 5, 2) := by decide +kernel
theorem dX11_goOn_103 : decode cX11_goOn 103 = .ok (.aload_n 0, 1) := by decide +kernel
theorem dX11_goOn_104 : decode cX11_goOn 104 = .ok (.getfield 99, 3) := by decide +kernel
theorem dX11_goOn_107 : decode cX11_goOn 107 = .ok (.iload_n 3, 1) := by decide +kernel
theorem dX11_goOn_108 : decode cX11_goOn 108 = .ok (.lload 5, 2) := by decide +kernel
theorem dX11_goOn_110 : decode cX11_goOn 110 = .ok (.lconst 0, 1) := by decide +kernel
theorem dX11_goOn_111 : decode cX11_goOn 111 = .ok (.lcmp, 1) := by decide +kernel
theorem dX11_goOn_112 : decode cX11_goOn 112 = .ok (.ifCond .ge 7, 3) := by decide +kernel
theorem dX11_goOn_115 : decode cX11_goOn 115 = .ok (.lconst 0, 1) := by decide +kernel
theorem dX11_goOn_116 : decode cX11_goOn 116 = .ok (.goto 5, 3) := by decide +kernel
theorem dX11_goOn_119 : decode cX11_goOn 119 = .ok (.lload 5, 2) := by decide +kernel
theorem dX11_goOn_121 : decode cX11_goOn 121 = .ok (.lastore, 1) := by decide +kernel
theorem dX11_goOn_122 : decode cX11_goOn 122 = .ok (.lload_n 1, 1) := by decide +kernel
theorem dX11_goOn_123 : decode cX11_goOn 123 = .ok (.aload_n 0, 1) := by decide +kernel
theorem dX11_goOn_124 : decode cX11_goOn 124 = .ok (.getfield 99, 3) := by decide +kernel
theorem dX11_goOn_127 : decode cX11_goOn 127 = .ok (.iload_n 3, 1) := by decide +kernel
theorem dX11_goOn_128 : decode cX11_goOn 128 = .ok (.laload, 1) := by decide +kernel
theorem dX11_goOn_129 : decode cX11_goOn 129 = .ok (.ladd, 1) := by decide +kernel
theorem dX11_goOn_130 : decode cX11_goOn 130 = .ok (.lstore_n 1, 1) := by decide +kernel
theorem dX11_goOn_131 : decode cX11_goOn 131 = .ok (.aload_n 0, 1) := by decide +kernel
theorem dX11_goOn_132 : decode cX11_goOn 132 = .ok (.dup, 1) := by decide +kernel
theorem dX11_goOn_133 : decode cX11_goOn 133 = .ok (.getfield 189, 3) := by decide +kernel
theorem dX11_goOn_136 : decode cX11_goOn 136 = .ok (.iconst 1, 1) := by decide +kernel
theorem dX11_goOn_137 : decode cX11_goOn 137 = .ok (.iadd, 1) := by decide +kernel
theorem dX11_goOn_138 : decode cX11_goOn 138 = .ok (.putfield 189, 3) := by decide +kernel
theorem dX11_goOn_141 : decode cX11_goOn 141 = .ok (.iinc 3 1, 3) := by decide +kernel
theorem dX11_goOn_144 : decode cX11_goOn 144 = .ok (.goto (-135), 3) := by decide +kernel
theorem dX11_goOn_147 : decode cX11_goOn 147 = .ok (.aload_n 0, 1) := by decide +kernel
theorem dX11_goOn_148 : decode cX11_goOn 148 = .ok (.getfield 177, 3) := by decide +kernel
theorem dX11_goOn_151 : decode cX11_goOn 151 = .ok (.lstore_n 3, 1) := by decide +kernel
theorem dX11_goOn_152 : decode cX11_goOn 152 = .ok (.lload_n 3, 1) := by decide +kernel
theorem dX11_goOn_153 : decode cX11_goOn 153 = .ok (.lload_n 1, 1) := by decide +kernel
theorem dX11_goOn_154 : decode cX11_goOn 154 = .ok (.lcmp, 1) := by decide +kernel
theorem dX11_goOn_155 : decode cX11_goOn 155 = .ok (.ifCond .lt 7, 3) := by decide +kernel
theorem dX11_goOn_158 : decode cX11_goOn 158 = .ok (.iconst 1, 1) := by decide +kernel
theorem dX11_goOn_159 : decode cX11_goOn 159 = .ok (.goto 4, 3) := by decide +kernel
theorem dX11_goOn_162 : decode cX11_goOn 162 = .ok (.iconst 0, 1) := by decide +kernel
theorem dX11_goOn_163 : decode cX11_goOn 163 = .ok (.istore 5, 2) := by decide +kernel
theorem dX11_goOn_165 : decode cX11_goOn 165 = .ok (.iconst 0, 1) := by decide +kernel
theorem dX11_goOn_166 : decode cX11_goOn 166 = .ok (.istore 6, 2) := by decide +kernel
theorem dX11_goOn_168 : decode cX11_goOn 168 = .ok (.iload 6, 2) := by decide +kernel
theorem dX11_goOn_170 : decode cX11_goOn 170 = .ok (.aload_n 0, 1) := by decide +kernel
theorem dX11_goOn_171 : decode cX11_goOn 171 = .ok (.getfield 137, 3) := by decide +kernel
theorem dX11_goOn_174 : decode cX11_goOn 174 = .ok (.if_icmp .ge 51, 3) := by decide +kernel
theorem dX11_goOn_177 : decode cX11_goOn 177 = .ok (.aload_n 0, 1) := by decide +kernel
theorem dX11_goOn_178 : decode cX11_goOn 178 = .ok (.getfield 96, 3) := by decide +kernel
theorem dX11_goOn_181 : decode cX11_goOn 181 = .ok (.iload 6, 2) := by decide +kernel
theorem dX11_goOn_183 : decode cX11_goOn 183 = .ok (.baload, 1) := by decide +kernel
theorem dX11_goOn_184 : decode cX11_goOn 184 = .ok (.ifCond .eq 35, 3) := by decide +kernel
theorem dX11_goOn_187 : decode cX11_goOn 187 = .ok (.aload_n 0, 1) := by decide +kernel
theorem dX11_goOn_188 : decode cX11_goOn 188 = .ok (.iload 6, 2) := by decide +kernel
theorem dX11_goOn_190 : decode cX11_goOn 190 = .ok (.iload 5, 2) := by decide +kernel
theorem dX11_goOn_192 : decode cX11_goOn 192 = .ok (.ifCond .eq 13, 3) := by decide +kernel
theorem dX11_goOn_195 : decode cX11_goOn 195 = .ok (.aload_n 0, 1) := by decide +kernel
theorem dX11_goOn_196 : decode cX11_goOn 196 = .ok (.getfield 99, 3) := by decide +kernel
theorem dX11_goOn_199 : decode cX11_goOn 199 = .ok (.iload 6, 2) := by decide +kernel
theorem dX11_goOn_201 : decode cX11_goOn 201 = .ok (.laload, 1) := by decide +kernel
theorem dX11_goOn_202 : decode cX11_goOn 202 = .ok (.goto 14, 3) := by decide +kernel
theorem dX11_goOn_205 : decode cX11_goOn 205 = .ok (.aload_n 0, 1) := by decide +kernel
theorem dX11_goOn_206 : decode cX11_goOn 206 = .ok (.getfield 99, 3) := by decide +kernel
theorem dX11_goOn_209 : decode cX11_goOn 209 = .ok (.iload 6, 2) := by decide +kernel
theorem dX11_goOn_211 : decode cX11_goOn 211 = .ok (.laload, 1) := by decide +kernel
theorem dX11_goOn_212 : decode cX11_goOn 212 = .ok (.lload_n 3, 1) := by decide +kernel
theorem dX11_goOn_213 : decode cX11_goOn 213 = .ok (.lmul, 1) := by decide +kernel
theorem dX11_goOn_214 : decode cX11_goOn 214 = .ok (.lload_n 1, 1) := by decide +kernel
theorem dX11_goOn_215 : decode cX11_goOn 215 = .ok (.ldiv, 1) := by decide +kernel
theorem dX11_goOn_216 : decode cX11_goOn 216 = .ok (.invokevirtual 192, 3) := by decide +kernel
theorem dX11_goOn_219 : decode cX11_goOn 219 = .ok (.iinc 6 1, 3) := by decide +kernel
theorem dX11_goOn_222 : decode cX11_goOn 222 = .ok (.goto (-54), 3) := by decide +kernel
theorem dX11_goOn_225 : decode cX11_goOn 225 = .ok (.iconst 0, 1) := by decide +kernel
theorem dX11_goOn_226 : decode cX11_goOn 226 = .ok (.istore 6, 2) := by decide +kernel
theorem dX11_goOn_228 : decode cX11_goOn 228 = .ok (.iload 6, 2) := by decide +kernel
theorem dX11_goOn_230 : decode cX11_goOn 230 = .ok (.aload_n 0, 1) := by decide +kernel
theorem dX11_goOn_231 : decode cX11_goOn 231 = .ok (.getfield 137, 3) := by decide +kernel
theorem dX11_goOn_234 : decode cX11_goOn 234 = .ok (.if_icmp .ge 52, 3) := by decide +kernel
theorem dX11_goOn_237 : decode cX11_goOn 237 = .ok (.iload 5, 2) := by decide +kernel
theorem dX11_goOn_239 : decode cX11_goOn 239 = .ok (.ifCond .ne 47, 3) := by decide +kernel
theorem dX11_goOn_242 : decode cX11_goOn 242 = .ok (.aload_n 0, 1) := by decide +kernel
theorem dX11_goOn_243 : decode cX11_goOn 243 = .ok (.getfield 96, 3) := by decide +kernel
theorem dX11_goOn_246 : decode cX11_goOn 246 = .ok (.iload 6, 2) := by decide +kernel
theorem dX11_goOn_248 : decode cX11_goOn 248 = .ok (.baload, 1) := by decide +kernel
theorem dX11_goOn_249 : decode cX11_goOn 249 = .ok (.ifCond .eq 31, 3) := by decide +kernel
theorem dX11_goOn_252 : decode cX11_goOn 252 = .ok (.aload_n 0, 1) := by decide +kernel
theorem dX11_goOn_253 : decode cX11_goOn 253 = .ok (.getfield 99, 3) := by decide +kernel
theorem dX11_goOn_256 : decode cX11_goOn 256 = .ok (.iload 6, 2) := by decide +kernel
theorem dX11_goOn_258 : decode cX11_goOn 258 = .ok (.laload, 1) := by decide +kernel
theorem dX11_goOn_259 : decode cX11_goOn 259 = .ok (.lconst 0, 1) := by decide +kernel
theorem dX11_goOn_260 : decode cX11_goOn 260 = .ok (.lcmp, 1) := by decide +kernel
theorem dX11_goOn_261 : decode cX11_goOn 261 = .ok (.ifCond .le 19, 3) := by decide +kernel
theorem dX11_goOn_264 : decode cX11_goOn 264 = .ok (.aload_n 0, 1) := by decide +kernel
theorem dX11_goOn_265 : decode cX11_goOn 265 = .ok (.getfield 177, 3) := by decide +kernel
theorem dX11_goOn_268 : decode cX11_goOn 268 = .ok (.lconst 0, 1) := by decide +kernel
theorem dX11_goOn_269 : decode cX11_goOn 269 = .ok (.lcmp, 1) := by decide +kernel
theorem dX11_goOn_270 : decode cX11_goOn 270 = .ok (.ifCond .le 10, 3) := by decide +kernel
theorem dX11_goOn_273 : decode cX11_goOn 273 = .ok (.aload_n 0, 1) := by decide +kernel
theorem dX11_goOn_274 : decode cX11_goOn 274 = .ok (.iload 6, 2) := by decide +kernel
theorem dX11_goOn_276 : decode cX11_goOn 276 = .ok (.lconst 1, 1) := by decide +kernel
theorem dX11_goOn_277 : decode cX11_goOn 277 = .ok (.invokevirtual 192, 3) := by decide +kernel
theorem dX11_goOn_280 : decode cX11_goOn 280 = .ok (.iinc 6 1, 3) := by decide +kernel
theorem dX11_goOn_283 : decode cX11_goOn 283 = .ok (.goto (-55), 3) := by decide +kernel
theorem dX11_goOn_286 : decode cX11_goOn 286 = .ok (.aload_n 0, 1) := by decide +kernel
theorem dX11_goOn_287 : decode cX11_goOn 287 = .ok (.lconst 0, 1) := by decide +kernel
theorem dX11_goOn_288 : decode cX11_goOn 288 = .ok (.putfield 196, 3) := by decide +kernel
theorem dX11_goOn_291 : decode cX11_goOn 291 = .ok (.iconst 0, 1) := by decide +kernel
theorem dX11_goOn_292 : decode cX11_goOn 292 = .ok (.istore 6, 2) := by decide +kernel
theorem dX11_goOn_294 : decode cX11_goOn 294 = .ok (.iload 6, 2) := by decide +kernel
theorem dX11_goOn_296 : decode cX11_goOn 296 = .ok (.aload_n 0, 1) := by decide +kernel
theorem dX11_goOn_297 : decode cX11_goOn 297 = .ok (.getfield 137, 3) := by decide +kernel
theorem dX11_goOn_300 : decode cX11_goOn 300 = .ok (.if_icmp .ge 59, 3) := by decide +kernel
theorem dX11_goOn_303 : decode cX11_goOn 303 = .ok (.aload_n 0, 1) := by decide +kernel
theorem dX11_goOn_304 : decode cX11_goOn 304 = .ok (.getfield 96, 3) := by decide +kernel
theorem dX11_goOn_307 : decode cX11_goOn 307 = .ok (.iload 6, 2) := by decide +kernel
theorem dX11_goOn_309 : decode cX11_goOn 309 = .ok (.baload, 1) := by decide +kernel
theorem dX11_goOn_310 : decode cX11_goOn 310 = .ok (.ifCond .eq 43, 3) := by decide +kernel
theorem dX11_goOn_313 : decode cX11_goOn 313 = .ok (.aload_n 0, 1) := by decide +kernel
theorem dX11_goOn_314 : decode cX11_goOn 314 = .ok (.getfield 68, 3) := by decide +kernel
theorem dX11_goOn_317 : decode cX11_goOn 317 = .ok (.iload 6, 2) := by decide +kernel
theorem dX11_goOn_319 : decode cX11_goOn 319 = .ok (.aload_n 0, 1) := by decide +kernel
theorem dX11_goOn_320 : decode cX11_goOn 320 = .ok (.getfield 99, 3) := by decide +kernel
theorem dX11_goOn_323 : decode cX11_goOn 323 = .ok (.iload 6, 2) := by decide +kernel
theorem dX11_goOn_325 : decode cX11_goOn 325 = .ok (.laload, 1) := by decide +kernel
theorem dX11_goOn_326 : decode cX11_goOn 326 = .ok (.lconst 0, 1) := by decide +kernel
theorem dX11_goOn_327 : decode cX11_goOn 327 = .ok (.lcmp, 1) := by decide +kernel
theorem dX11_goOn_328 : decode cX11_goOn 328 = .ok (.ifCond .ne 7, 3) := by decide +kernel
theorem dX11_goOn_331 : decode cX11_goOn 331 = .ok (.iconst 1, 1) := by decide +kernel
theorem dX11_goOn_332 : decode cX11_goOn 332 = .ok (.goto 4, 3) := by decide +kernel
theorem dX11_goOn_335 : decode cX11_goOn 335 = .ok (.iconst 0, 1) := by decide +kernel
theorem dX11_goOn_336 : decode cX11_goOn 336 = .ok (.bastore, 1) := by decide +kernel
theorem dX11_goOn_337 : decode cX11_goOn 337 = .ok (.aload_n 0, 1) := by decide +kernel
theorem dX11_goOn_338 : decode cX11_goOn 338 = .ok (.dup, 1) := by decide +kernel
theorem dX11_goOn_339 : decode cX11_goOn 339 = .ok (.getfield 196, 3) := by decide +kernel
theorem dX11_goOn_342 : decode cX11_goOn 342 = .ok (.aload_n 0, 1) := by decide +kernel
theorem dX11_goOn_343 : decode cX11_goOn 343 = .ok (.getfield 99, 3) := by decide +kernel
theorem dX11_goOn_346 : decode cX11_goOn 346 = .ok (.iload 6, 2) := by decide +kernel
theorem dX11_goOn_348 : decode cX11_goOn 348 = .ok (.laload, 1) := by decide +kernel
theorem dX11_goOn_349 : decode cX11_goOn 349 = .ok (.ladd, 1) := by decide +kernel
theorem dX11_goOn_350 : decode cX11_goOn 350 = .ok (.putfield 196, 3) := by decide +kernel
theorem dX11_goOn_353 : decode cX11_goOn 353 = .ok (.iinc 6 1, 3) := by decide +kernel
theorem dX11_goOn_356 : decode cX11_goOn 356 = .ok (.goto (-62), 3) := by decide +kernel
theorem dX11_goOn_359 : decode cX11_goOn 359 = .ok (.aload_n 0, 1) := by decide +kernel
theorem dX11_goOn_360 : decode cX11_goOn 360 = .ok (.dup, 1) := by decide +kernel
theorem dX11_goOn_361 : decode cX11_goOn 361 = .ok (.getfield 108, 3) := by decide +kernel
theorem dX11_goOn_364 : decode cX11_goOn 364 = .ok (.iconst 1, 1) := by decide +kernel
theorem dX11_goOn_365 : decode cX11_goOn 365 = .ok (.iadd, 1) := by decide +kernel
theorem dX11_goOn_366 : decode cX11_goOn 366 = .ok (.putfield 108, 3) := by decide +kernel
theorem dX11_goOn_369 : decode cX11_goOn 369 = .ok (.return_, 1) := by decide +kernel
theorem dX11_outMany_0 : decode cX11_outMany 0 = .ok (.iconst 0, 1) := by decide +kernel
theorem dX11_outMany_1 : decode cX11_outMany 1 = .ok (.istore_n 1, 1) := by decide +kernel
theorem dX11_outMany_2 : decode cX11_outMany 2 = .ok (.iconst 0, 1) := by decide +kernel
theorem dX11_outMany_3 : decode cX11_outMany 3 = .ok (.istore_n 2, 1) := by decide +kernel
theorem dX11_outMany_4 : decode cX11_outMany 4 = .ok (.iload_n 2, 1) := by decide +kernel
theorem dX11_outMany_5 : decode cX11_outMany 5 = .ok (.aload_n 0, 1) := by decide +kernel
theorem dX11_outMany_6 : decode cX11_outMany 6 = .ok (.getfield 137, 3) := by decide +kernel
theorem dX11_outMany_9 : decode cX11_outMany 9 = .ok (.if_icmp .ge 26, 3) := by decide +kernel
theorem dX11_outMany_12 : decode cX11_outMany 12 = .ok (.iload_n 1, 1) := by decide +kernel
theorem dX11_outMany_13 : decode cX11_outMany 13 = .ok (.aload_n 0, 1) := by decide +kernel
theorem dX11_outMany_14 : decode cX11_outMany 14 = .ok (.getfield 68, 3) := by decide +kernel
theorem dX11_outMany_17 : decode cX11_outMany 17 = .ok (.iload_n 2, 1) := by decide +kernel
theorem dX11_outMany_18 : decode cX11_outMany 18 = .ok (.baload, 1) := by decide +kernel
theorem dX11_outMany_19 : decode cX11_outMany 19 = .ok (.ifCond .eq 7, 3) := by decide +kernel
theorem dX11_outMany_22 : decode cX11_outMany 22 = .ok (.iconst 1, 1) := by decide +kernel
theorem dX11_outMany_23 : decode cX11_outMany 23 = .ok (.goto 4, 3) := by decide +kernel
theorem dX11_outMany_26 : decode cX11_outMany 26 = .ok (.iconst 0, 1) := by decide +kernel
theorem dX11_outMany_27 : decode cX11_outMany 27 = .ok (.iadd, 1) := by decide +kernel
theorem dX11_outMany_28 : decode cX11_outMany 28 = .ok (.istore_n 1, 1) := by decide +kernel
theorem dX11_outMany_29 : decode cX11_outMany 29 = .ok (.iinc 2 1, 3) := by decide +kernel
theorem dX11_outMany_32 : decode cX11_outMany 32 = .ok (.goto (-28), 3) := by decide +kernel
theorem dX11_outMany_35 : decode cX11_outMany 35 = .ok (.iload_n 1, 1) := by decide +kernel
theorem dX11_outMany_36 : decode cX11_outMany 36 = .ok (.ireturn, 1) := by decide +kernel
theorem dX11_purse_0 : decode cX11_purse 0 = .ok (.iload_n 1, 1) := by decide +kernel
theorem dX11_purse_1 : decode cX11_purse 1 = .ok (.tableswitch 71 0 5 #[39, 44, 49, 54, 59, 65], 39) := by decide +kernel
theorem dX11_purse_40 : decode cX11_purse 40 = .ok (.aload_n 0, 1) := by decide +kernel
theorem dX11_purse_41 : decode cX11_purse 41 = .ok (.getfield 177, 3) := by decide +kernel
theorem dX11_purse_44 : decode cX11_purse 44 = .ok (.lreturn, 1) := by decide +kernel
theorem dX11_purse_45 : decode cX11_purse 45 = .ok (.aload_n 0, 1) := by decide +kernel
theorem dX11_purse_46 : decode cX11_purse 46 = .ok (.getfield 183, 3) := by decide +kernel
theorem dX11_purse_49 : decode cX11_purse 49 = .ok (.lreturn, 1) := by decide +kernel
theorem dX11_purse_50 : decode cX11_purse 50 = .ok (.aload_n 0, 1) := by decide +kernel
theorem dX11_purse_51 : decode cX11_purse 51 = .ok (.getfield 186, 3) := by decide +kernel
theorem dX11_purse_54 : decode cX11_purse 54 = .ok (.lreturn, 1) := by decide +kernel
theorem dX11_purse_55 : decode cX11_purse 55 = .ok (.aload_n 0, 1) := by decide +kernel
theorem dX11_purse_56 : decode cX11_purse 56 = .ok (.getfield 196, 3) := by decide +kernel
theorem dX11_purse_59 : decode cX11_purse 59 = .ok (.lreturn, 1) := by decide +kernel
theorem dX11_purse_60 : decode cX11_purse 60 = .ok (.aload_n 0, 1) := by decide +kernel
theorem dX11_purse_61 : decode cX11_purse 61 = .ok (.getfield 189, 3) := by decide +kernel
theorem dX11_purse_64 : decode cX11_purse 64 = .ok (.i2l, 1) := by decide +kernel
theorem dX11_purse_65 : decode cX11_purse 65 = .ok (.lreturn, 1) := by decide +kernel
theorem dX11_purse_66 : decode cX11_purse 66 = .ok (.aload_n 0, 1) := by decide +kernel
theorem dX11_purse_67 : decode cX11_purse 67 = .ok (.invokevirtual 199, 3) := by decide +kernel
theorem dX11_purse_70 : decode cX11_purse 70 = .ok (.i2l, 1) := by decide +kernel
theorem dX11_purse_71 : decode cX11_purse 71 = .ok (.lreturn, 1) := by decide +kernel
theorem dX11_purse_72 : decode cX11_purse 72 = .ok (.aload_n 0, 1) := by decide +kernel
theorem dX11_purse_73 : decode cX11_purse 73 = .ok (.iconst 1, 1) := by decide +kernel
theorem dX11_purse_74 : decode cX11_purse 74 = .ok (.invokevirtual 112, 3) := by decide +kernel
theorem dX11_purse_77 : decode cX11_purse 77 = .ok (.lreturn, 1) := by decide +kernel
theorem dX11_paid_0 : decode cX11_paid 0 = .ok (.iload_n 1, 1) := by decide +kernel
theorem dX11_paid_1 : decode cX11_paid 1 = .ok (.invokestatic 150, 3) := by decide +kernel
theorem dX11_paid_4 : decode cX11_paid 4 = .ok (.ifCond .eq 12, 3) := by decide +kernel
theorem dX11_paid_7 : decode cX11_paid 7 = .ok (.aload_n 0, 1) := by decide +kernel
theorem dX11_paid_8 : decode cX11_paid 8 = .ok (.getfield 81, 3) := by decide +kernel
theorem dX11_paid_11 : decode cX11_paid 11 = .ok (.iload_n 1, 1) := by decide +kernel
theorem dX11_paid_12 : decode cX11_paid 12 = .ok (.laload, 1) := by decide +kernel
theorem dX11_paid_13 : decode cX11_paid 13 = .ok (.goto 8, 3) := by decide +kernel
theorem dX11_paid_16 : decode cX11_paid 16 = .ok (.aload_n 0, 1) := by decide +kernel
theorem dX11_paid_17 : decode cX11_paid 17 = .ok (.iconst 1, 1) := by decide +kernel
theorem dX11_paid_18 : decode cX11_paid 18 = .ok (.invokevirtual 112, 3) := by decide +kernel
theorem dX11_paid_21 : decode cX11_paid 21 = .ok (.lreturn, 1) := by decide +kernel
theorem dX11_lives_0 : decode cX11_lives 0 = .ok (.iload_n 1, 1) := by decide +kernel
theorem dX11_lives_1 : decode cX11_lives 1 = .ok (.iconst 0, 1) := by decide +kernel
theorem dX11_lives_2 : decode cX11_lives 2 = .ok (.bipush 20, 2) := by decide +kernel
theorem dX11_lives_4 : decode cX11_lives 4 = .ok (.invokestatic 104, 3) := by decide +kernel
theorem dX11_lives_7 : decode cX11_lives 7 = .ok (.ifCond .eq 49, 3) := by decide +kernel
theorem dX11_lives_10 : decode cX11_lives 10 = .ok (.iload_n 2, 1) := by decide +kernel
theorem dX11_lives_11 : decode cX11_lives 11 = .ok (.iconst 0, 1) := by decide +kernel
theorem dX11_lives_12 : decode cX11_lives 12 = .ok (.sipush 1000, 3) := by decide +kernel
theorem dX11_lives_15 : decode cX11_lives 15 = .ok (.invokestatic 104, 3) := by decide +kernel
theorem dX11_lives_18 : decode cX11_lives 18 = .ok (.ifCond .eq 38, 3) := by decide +kernel
theorem dX11_lives_21 : decode cX11_lives 21 = .ok (.iload_n 3, 1) := by decide +kernel
theorem dX11_lives_22 : decode cX11_lives 22 = .ok (.iconst 0, 1) := by decide +kernel
theorem dX11_lives_23 : decode cX11_lives 23 = .ok (.sipush 1000, 3) := by decide +kernel
theorem dX11_lives_26 : decode cX11_lives 26 = .ok (.invokestatic 104, 3) := by decide +kernel
theorem dX11_lives_29 : decode cX11_lives 29 = .ok (.ifCond .eq 27, 3) := by decide +kernel
theorem dX11_lives_32 : decode cX11_lives 32 = .ok (.iload 4, 2) := by decide +kernel
theorem dX11_lives_34 : decode cX11_lives 34 = .ok (.iconst 0, 1) := by decide +kernel
theorem dX11_lives_35 : decode cX11_lives 35 = .ok (.sipush 1000, 3) := by decide +kernel
theorem dX11_lives_38 : decode cX11_lives 38 = .ok (.invokestatic 104, 3) := by decide +kernel
theorem dX11_lives_41 : decode cX11_lives 41 = .ok (.ifCond .eq 15, 3) := by decide +kernel
theorem dX11_lives_44 : decode cX11_lives 44 = .ok (.iload_n 2, 1) := by decide +kernel
theorem dX11_lives_45 : decode cX11_lives 45 = .ok (.iload_n 3, 1) := by decide +kernel
theorem dX11_lives_46 : decode cX11_lives 46 = .ok (.iadd, 1) := by decide +kernel
theorem dX11_lives_47 : decode cX11_lives 47 = .ok (.iload 4, 2) := by decide +kernel
theorem dX11_lives_49 : decode cX11_lives 49 = .ok (.iadd, 1) := by decide +kernel
theorem dX11_lives_50 : decode cX11_lives 50 = .ok (.sipush 1000, 3) := by decide +kernel
theorem dX11_lives_53 : decode cX11_lives 53 = .ok (.if_icmp .le 9, 3) := by decide +kernel
theorem dX11_lives_56 : decode cX11_lives 56 = .ok (.aload_n 0, 1) := by decide +kernel
theorem dX11_lives_57 : decode cX11_lives 57 = .ok (.iconst 1, 1) := by decide +kernel
theorem dX11_lives_58 : decode cX11_lives 58 = .ok (.invokevirtual 112, 3) := by decide +kernel
theorem dX11_lives_61 : decode cX11_lives 61 = .ok (.lreturn, 1) := by decide +kernel
theorem dX11_lives_62 : decode cX11_lives 62 = .ok (.aload_n 0, 1) := by decide +kernel
theorem dX11_lives_63 : decode cX11_lives 63 = .ok (.getfield 84, 3) := by decide +kernel
theorem dX11_lives_66 : decode cX11_lives 66 = .ok (.iload_n 1, 1) := by decide +kernel
theorem dX11_lives_67 : decode cX11_lives 67 = .ok (.iload_n 2, 1) := by decide +kernel
theorem dX11_lives_68 : decode cX11_lives 68 = .ok (.iastore, 1) := by decide +kernel
theorem dX11_lives_69 : decode cX11_lives 69 = .ok (.aload_n 0, 1) := by decide +kernel
theorem dX11_lives_70 : decode cX11_lives 70 = .ok (.getfield 87, 3) := by decide +kernel
theorem dX11_lives_73 : decode cX11_lives 73 = .ok (.iload_n 1, 1) := by decide +kernel
theorem dX11_lives_74 : decode cX11_lives 74 = .ok (.iload_n 3, 1) := by decide +kernel
theorem dX11_lives_75 : decode cX11_lives 75 = .ok (.iastore, 1) := by decide +kernel
theorem dX11_lives_76 : decode cX11_lives 76 = .ok (.aload_n 0, 1) := by decide +kernel
theorem dX11_lives_77 : decode cX11_lives 77 = .ok (.getfield 90, 3) := by decide +kernel
theorem dX11_lives_80 : decode cX11_lives 80 = .ok (.iload_n 1, 1) := by decide +kernel
theorem dX11_lives_81 : decode cX11_lives 81 = .ok (.iload 4, 2) := by decide +kernel
theorem dX11_lives_83 : decode cX11_lives 83 = .ok (.iastore, 1) := by decide +kernel
theorem dX11_lives_84 : decode cX11_lives 84 = .ok (.sipush 1000, 3) := by decide +kernel
theorem dX11_lives_87 : decode cX11_lives 87 = .ok (.iload_n 2, 1) := by decide +kernel
theorem dX11_lives_88 : decode cX11_lives 88 = .ok (.isub, 1) := by decide +kernel
theorem dX11_lives_89 : decode cX11_lives 89 = .ok (.iload_n 3, 1) := by decide +kernel
theorem dX11_lives_90 : decode cX11_lives 90 = .ok (.isub, 1) := by decide +kernel
theorem dX11_lives_91 : decode cX11_lives 91 = .ok (.iload 4, 2) := by decide +kernel
theorem dX11_lives_93 : decode cX11_lives 93 = .ok (.isub, 1) := by decide +kernel
theorem dX11_lives_94 : decode cX11_lives 94 = .ok (.i2l, 1) := by decide +kernel
theorem dX11_lives_95 : decode cX11_lives 95 = .ok (.lreturn, 1) := by decide +kernel
theorem dX11_live_0 : decode cX11_live 0 = .ok (.aload_n 0, 1) := by decide +kernel
theorem dX11_live_1 : decode cX11_live 1 = .ok (.ldc2_w 203, 3) := by decide +kernel
theorem dX11_live_4 : decode cX11_live 4 = .ok (.putfield 205, 3) := by decide +kernel
theorem dX11_live_7 : decode cX11_live 7 = .ok (.aload_n 0, 1) := by decide +kernel
theorem dX11_live_8 : decode cX11_live 8 = .ok (.lconst 0, 1) := by decide +kernel
theorem dX11_live_9 : decode cX11_live 9 = .ok (.putfield 208, 3) := by decide +kernel
theorem dX11_live_12 : decode cX11_live 12 = .ok (.iload_n 1, 1) := by decide +kernel
theorem dX11_live_13 : decode cX11_live 13 = .ok (.istore_n 3, 1) := by decide +kernel
theorem dX11_live_14 : decode cX11_live 14 = .ok (.iload_n 3, 1) := by decide +kernel
theorem dX11_live_15 : decode cX11_live 15 = .ok (.iload_n 2, 1) := by decide +kernel
theorem dX11_live_16 : decode cX11_live 16 = .ok (.if_icmp .ge 83, 3) := by decide +kernel
theorem dX11_live_19 : decode cX11_live 19 = .ok (.aload_n 0, 1) := by decide +kernel
theorem dX11_live_20 : decode cX11_live 20 = .ok (.getfield 205, 3) := by decide +kernel
theorem dX11_live_23 : decode cX11_live 23 = .ok (.aload_n 0, 1) := by decide +kernel
theorem dX11_live_24 : decode cX11_live 24 = .ok (.getfield 87, 3) := by decide +kernel
theorem dX11_live_27 : decode cX11_live 27 = .ok (.iload_n 3, 1) := by decide +kernel
theorem dX11_live_28 : decode cX11_live 28 = .ok (.iaload, 1) := by decide +kernel
theorem dX11_live_29 : decode cX11_live 29 = .ok (.i2l, 1) := by decide +kernel
theorem dX11_live_30 : decode cX11_live 30 = .ok (.lmul, 1) := by decide +kernel
theorem dX11_live_31 : decode cX11_live 31 = .ok (.ldc2_w 164, 3) := by decide +kernel
theorem dX11_live_34 : decode cX11_live 34 = .ok (.ldiv, 1) := by decide +kernel
theorem dX11_live_35 : decode cX11_live 35 = .ok (.lstore 4, 2) := by decide +kernel
theorem dX11_live_37 : decode cX11_live 37 = .ok (.aload_n 0, 1) := by decide +kernel
theorem dX11_live_38 : decode cX11_live 38 = .ok (.dup, 1) := by decide +kernel
theorem dX11_live_39 : decode cX11_live 39 = .ok (.getfield 208, 3) := by decide +kernel
theorem dX11_live_42 : decode cX11_live 42 = .ok (.lload 4, 2) := by decide +kernel
theorem dX11_live_44 : decode cX11_live 44 = .ok (.ladd, 1) := by decide +kernel
theorem dX11_live_45 : decode cX11_live 45 = .ok (.putfield 208, 3) := by decide +kernel
theorem dX11_live_48 : decode cX11_live 48 = .ok (.aload_n 0, 1) := by decide +kernel
theorem dX11_live_49 : decode cX11_live 49 = .ok (.dup, 1) := by decide +kernel
theorem dX11_live_50 : decode cX11_live 50 = .ok (.getfield 205, 3) := by decide +kernel
theorem dX11_live_53 : decode cX11_live 53 = .ok (.lload 4, 2) := by decide +kernel
theorem dX11_live_55 : decode cX11_live 55 = .ok (.aload_n 0, 1) := by decide +kernel
theorem dX11_live_56 : decode cX11_live 56 = .ok (.getfield 205, 3) := by decide +kernel
theorem dX11_live_59 : decode cX11_live 59 = .ok (.aload_n 0, 1) := by decide +kernel
theorem dX11_live_60 : decode cX11_live 60 = .ok (.getfield 84, 3) := by decide +kernel
theorem dX11_live_63 : decode cX11_live 63 = .ok (.iload_n 3, 1) := by decide +kernel
theorem dX11_live_64 : decode cX11_live 64 = .ok (.iaload, 1) := by decide +kernel
theorem dX11_live_65 : decode cX11_live 65 = .ok (.i2l, 1) := by decide +kernel
theorem dX11_live_66 : decode cX11_live 66 = .ok (.lmul, 1) := by decide +kernel
theorem dX11_live_67 : decode cX11_live 67 = .ok (.ldc2_w 164, 3) := by decide +kernel
theorem dX11_live_70 : decode cX11_live 70 = .ok (.ldiv, 1) := by decide +kernel
theorem dX11_live_71 : decode cX11_live 71 = .ok (.ladd, 1) := by decide +kernel
theorem dX11_live_72 : decode cX11_live 72 = .ok (.aload_n 0, 1) := by decide +kernel
theorem dX11_live_73 : decode cX11_live 73 = .ok (.getfield 205, 3) := by decide +kernel
theorem dX11_live_76 : decode cX11_live 76 = .ok (.aload_n 0, 1) := by decide +kernel
theorem dX11_live_77 : decode cX11_live 77 = .ok (.getfield 90, 3) := by decide +kernel
theorem dX11_live_80 : decode cX11_live 80 = .ok (.iload_n 3, 1) := by decide +kernel
theorem dX11_live_81 : decode cX11_live 81 = .ok (.iaload, 1) := by decide +kernel
theorem dX11_live_82 : decode cX11_live 82 = .ok (.i2l, 1) := by decide +kernel
theorem dX11_live_83 : decode cX11_live 83 = .ok (.lmul, 1) := by decide +kernel
theorem dX11_live_84 : decode cX11_live 84 = .ok (.ldc2_w 164, 3) := by decide +kernel
theorem dX11_live_87 : decode cX11_live 87 = .ok (.ldiv, 1) := by decide +kernel
theorem dX11_live_88 : decode cX11_live 88 = .ok (.ladd, 1) := by decide +kernel
theorem dX11_live_89 : decode cX11_live 89 = .ok (.lsub, 1) := by decide +kernel
theorem dX11_live_90 : decode cX11_live 90 = .ok (.putfield 205, 3) := by decide +kernel
theorem dX11_live_93 : decode cX11_live 93 = .ok (.iinc 3 1, 3) := by decide +kernel
theorem dX11_live_96 : decode cX11_live 96 = .ok (.goto (-82), 3) := by decide +kernel
theorem dX11_live_99 : decode cX11_live 99 = .ok (.return_, 1) := by decide +kernel
theorem dX11_areAges_0 : decode cX11_areAges 0 = .ok (.iload_n 0, 1) := by decide +kernel
theorem dX11_areAges_1 : decode cX11_areAges 1 = .ok (.iconst 0, 1) := by decide +kernel
theorem dX11_areAges_2 : decode cX11_areAges 2 = .ok (.bipush 20, 2) := by decide +kernel
theorem dX11_areAges_4 : decode cX11_areAges 4 = .ok (.invokestatic 104, 3) := by decide +kernel
theorem dX11_areAges_7 : decode cX11_areAges 7 = .ok (.ifCond .eq 17, 3) := by decide +kernel
theorem dX11_areAges_10 : decode cX11_areAges 10 = .ok (.iload_n 1, 1) := by decide +kernel
theorem dX11_areAges_11 : decode cX11_areAges 11 = .ok (.iload_n 0, 1) := by decide +kernel
theorem dX11_areAges_12 : decode cX11_areAges 12 = .ok (.bipush 21, 2) := by decide +kernel
theorem dX11_areAges_14 : decode cX11_areAges 14 = .ok (.invokestatic 104, 3) := by decide +kernel
theorem dX11_areAges_17 : decode cX11_areAges 17 = .ok (.ifCond .eq 7, 3) := by decide +kernel
theorem dX11_areAges_20 : decode cX11_areAges 20 = .ok (.iconst 1, 1) := by decide +kernel
theorem dX11_areAges_21 : decode cX11_areAges 21 = .ok (.goto 4, 3) := by decide +kernel
theorem dX11_areAges_24 : decode cX11_areAges 24 = .ok (.iconst 0, 1) := by decide +kernel
theorem dX11_areAges_25 : decode cX11_areAges 25 = .ok (.ireturn, 1) := by decide +kernel
theorem dX11_value_0 : decode cX11_value 0 = .ok (.iload_n 1, 1) := by decide +kernel
theorem dX11_value_1 : decode cX11_value 1 = .ok (.iload_n 2, 1) := by decide +kernel
theorem dX11_value_2 : decode cX11_value 2 = .ok (.invokestatic 211, 3) := by decide +kernel
theorem dX11_value_5 : decode cX11_value 5 = .ok (.ifCond .eq 13, 3) := by decide +kernel
theorem dX11_value_8 : decode cX11_value 8 = .ok (.iload_n 3, 1) := by decide +kernel
theorem dX11_value_9 : decode cX11_value 9 = .ok (.iconst 0, 1) := by decide +kernel
theorem dX11_value_10 : decode cX11_value 10 = .ok (.ldc 214, 2) := by decide +kernel
theorem dX11_value_12 : decode cX11_value 12 = .ok (.invokestatic 104, 3) := by decide +kernel
theorem dX11_value_15 : decode cX11_value 15 = .ok (.ifCond .ne 9, 3) := by decide +kernel
theorem dX11_value_18 : decode cX11_value 18 = .ok (.aload_n 0, 1) := by decide +kernel
theorem dX11_value_19 : decode cX11_value 19 = .ok (.iconst 1, 1) := by decide +kernel
theorem dX11_value_20 : decode cX11_value 20 = .ok (.invokevirtual 112, 3) := by decide +kernel
theorem dX11_value_23 : decode cX11_value 23 = .ok (.lreturn, 1) := by decide +kernel
theorem dX11_value_24 : decode cX11_value 24 = .ok (.aload_n 0, 1) := by decide +kernel
theorem dX11_value_25 : decode cX11_value 25 = .ok (.iload_n 1, 1) := by decide +kernel
theorem dX11_value_26 : decode cX11_value 26 = .ok (.iload_n 2, 1) := by decide +kernel
theorem dX11_value_27 : decode cX11_value 27 = .ok (.invokevirtual 215, 3) := by decide +kernel
theorem dX11_value_30 : decode cX11_value 30 = .ok (.iload_n 3, 1) := by decide +kernel
theorem dX11_value_31 : decode cX11_value 31 = .ok (.i2l, 1) := by decide +kernel
theorem dX11_value_32 : decode cX11_value 32 = .ok (.aload_n 0, 1) := by decide +kernel
theorem dX11_value_33 : decode cX11_value 33 = .ok (.getfield 208, 3) := by decide +kernel
theorem dX11_value_36 : decode cX11_value 36 = .ok (.lmul, 1) := by decide +kernel
theorem dX11_value_37 : decode cX11_value 37 = .ok (.ldc2_w 203, 3) := by decide +kernel
theorem dX11_value_40 : decode cX11_value 40 = .ok (.ldiv, 1) := by decide +kernel
theorem dX11_value_41 : decode cX11_value 41 = .ok (.lreturn, 1) := by decide +kernel
theorem dX11_left_0 : decode cX11_left 0 = .ok (.iload_n 1, 1) := by decide +kernel
theorem dX11_left_1 : decode cX11_left 1 = .ok (.iload_n 2, 1) := by decide +kernel
theorem dX11_left_2 : decode cX11_left 2 = .ok (.invokestatic 211, 3) := by decide +kernel
theorem dX11_left_5 : decode cX11_left 5 = .ok (.ifCond .ne 9, 3) := by decide +kernel
theorem dX11_left_8 : decode cX11_left 8 = .ok (.aload_n 0, 1) := by decide +kernel
theorem dX11_left_9 : decode cX11_left 9 = .ok (.iconst 1, 1) := by decide +kernel
theorem dX11_left_10 : decode cX11_left 10 = .ok (.invokevirtual 112, 3) := by decide +kernel
theorem dX11_left_13 : decode cX11_left 13 = .ok (.lreturn, 1) := by decide +kernel
theorem dX11_left_14 : decode cX11_left 14 = .ok (.aload_n 0, 1) := by decide +kernel
theorem dX11_left_15 : decode cX11_left 15 = .ok (.iload_n 1, 1) := by decide +kernel
theorem dX11_left_16 : decode cX11_left 16 = .ok (.iload_n 2, 1) := by decide +kernel
theorem dX11_left_17 : decode cX11_left 17 = .ok (.invokevirtual 215, 3) := by decide +kernel
theorem dX11_left_20 : decode cX11_left 20 = .ok (.aload_n 0, 1) := by decide +kernel
theorem dX11_left_21 : decode cX11_left 21 = .ok (.getfield 205, 3) := by decide +kernel
theorem dX11_left_24 : decode cX11_left 24 = .ok (.lreturn, 1) := by decide +kernel
theorem dX11_tell_0 : decode cX11_tell 0 = .ok (.aload_n 0, 1) := by decide +kernel
theorem dX11_tell_1 : decode cX11_tell 1 = .ok (.getfield 219, 3) := by decide +kernel
theorem dX11_tell_4 : decode cX11_tell 4 = .ok (.bipush 30, 2) := by decide +kernel
theorem dX11_tell_6 : decode cX11_tell 6 = .ok (.if_icmp .ne 9, 3) := by decide +kernel
theorem dX11_tell_9 : decode cX11_tell 9 = .ok (.aload_n 0, 1) := by decide +kernel
theorem dX11_tell_10 : decode cX11_tell 10 = .ok (.iconst 4, 1) := by decide +kernel
theorem dX11_tell_11 : decode cX11_tell 11 = .ok (.invokevirtual 112, 3) := by decide +kernel
theorem dX11_tell_14 : decode cX11_tell 14 = .ok (.lreturn, 1) := by decide +kernel
theorem dX11_tell_15 : decode cX11_tell 15 = .ok (.aload_n 0, 1) := by decide +kernel
theorem dX11_tell_16 : decode cX11_tell 16 = .ok (.getfield 93, 3) := by decide +kernel
theorem dX11_tell_19 : decode cX11_tell 19 = .ok (.aload_n 0, 1) := by decide +kernel
theorem dX11_tell_20 : decode cX11_tell 20 = .ok (.getfield 219, 3) := by decide +kernel
theorem dX11_tell_23 : decode cX11_tell 23 = .ok (.iload_n 1, 1) := by decide +kernel
theorem dX11_tell_24 : decode cX11_tell 24 = .ok (.iastore, 1) := by decide +kernel
theorem dX11_tell_25 : decode cX11_tell 25 = .ok (.aload_n 0, 1) := by decide +kernel
theorem dX11_tell_26 : decode cX11_tell 26 = .ok (.dup, 1) := by decide +kernel
theorem dX11_tell_27 : decode cX11_tell 27 = .ok (.getfield 219, 3) := by decide +kernel
theorem dX11_tell_30 : decode cX11_tell 30 = .ok (.iconst 1, 1) := by decide +kernel
theorem dX11_tell_31 : decode cX11_tell 31 = .ok (.iadd, 1) := by decide +kernel
theorem dX11_tell_32 : decode cX11_tell 32 = .ok (.putfield 219, 3) := by decide +kernel
theorem dX11_tell_35 : decode cX11_tell 35 = .ok (.aload_n 0, 1) := by decide +kernel
theorem dX11_tell_36 : decode cX11_tell 36 = .ok (.getfield 219, 3) := by decide +kernel
theorem dX11_tell_39 : decode cX11_tell 39 = .ok (.i2l, 1) := by decide +kernel
theorem dX11_tell_40 : decode cX11_tell 40 = .ok (.lreturn, 1) := by decide +kernel
theorem dX11_check_0 : decode cX11_check 0 = .ok (.aload_n 0, 1) := by decide +kernel
theorem dX11_check_1 : decode cX11_check 1 = .ok (.getfield 219, 3) := by decide +kernel
theorem dX11_check_4 : decode cX11_check 4 = .ok (.istore_n 1, 1) := by decide +kernel
theorem dX11_check_5 : decode cX11_check 5 = .ok (.aload_n 0, 1) := by decide +kernel
theorem dX11_check_6 : decode cX11_check 6 = .ok (.iconst 0, 1) := by decide +kernel
theorem dX11_check_7 : decode cX11_check 7 = .ok (.putfield 219, 3) := by decide +kernel
theorem dX11_check_10 : decode cX11_check 10 = .ok (.iconst 0, 1) := by decide +kernel
theorem dX11_check_11 : decode cX11_check 11 = .ok (.istore_n 2, 1) := by decide +kernel
theorem dX11_check_12 : decode cX11_check 12 = .ok (.iload_n 2, 1) := by decide +kernel
theorem dX11_check_13 : decode cX11_check 13 = .ok (.aload_n 0, 1) := by decide +kernel
theorem dX11_check_14 : decode cX11_check 14 = .ok (.getfield 137, 3) := by decide +kernel
theorem dX11_check_17 : decode cX11_check 17 = .ok (.if_icmp .ge 62, 3) := by decide +kernel
theorem dX11_check_20 : decode cX11_check 20 = .ok (.aload_n 0, 1) := by decide +kernel
theorem dX11_check_21 : decode cX11_check 21 = .ok (.iload_n 2, 1) := by decide +kernel
theorem dX11_check_22 : decode cX11_check 22 = .ok (.aload_n 0, 1) := by decide +kernel
theorem dX11_check_23 : decode cX11_check 23 = .ok (.getfield 108, 3) := by decide +kernel
theorem dX11_check_26 : decode cX11_check 26 = .ok (.invokevirtual 169, 3) := by decide +kernel
theorem dX11_check_29 : decode cX11_check 29 = .ok (.istore_n 3, 1) := by decide +kernel
theorem dX11_check_30 : decode cX11_check 30 = .ok (.iload_n 3, 1) := by decide +kernel
theorem dX11_check_31 : decode cX11_check 31 = .ok (.ifCond .ge 7, 3) := by decide +kernel
theorem dX11_check_34 : decode cX11_check 34 = .ok (.lconst 0, 1) := by decide +kernel
theorem dX11_check_35 : decode cX11_check 35 = .ok (.goto 13, 3) := by decide +kernel
theorem dX11_check_38 : decode cX11_check 38 = .ok (.aload_n 0, 1) := by decide +kernel
theorem dX11_check_39 : decode cX11_check 39 = .ok (.iload_n 2, 1) := by decide +kernel
theorem dX11_check_40 : decode cX11_check 40 = .ok (.iload_n 3, 1) := by decide +kernel
theorem dX11_check_41 : decode cX11_check 41 = .ok (.aload_n 0, 1) := by decide +kernel
theorem dX11_check_42 : decode cX11_check 42 = .ok (.getfield 108, 3) := by decide +kernel
theorem dX11_check_45 : decode cX11_check 45 = .ok (.invokevirtual 172, 3) := by decide +kernel
theorem dX11_check_48 : decode cX11_check 48 = .ok (.lstore 4, 2) := by decide +kernel
theorem dX11_check_50 : decode cX11_check 50 = .ok (.iload_n 2, 1) := by decide +kernel
theorem dX11_check_51 : decode cX11_check 51 = .ok (.iload_n 1, 1) := by decide +kernel
theorem dX11_check_52 : decode cX11_check 52 = .ok (.if_icmp .ge 16, 3) := by decide +kernel
theorem dX11_check_55 : decode cX11_check 55 = .ok (.aload_n 0, 1) := by decide +kernel
theorem dX11_check_56 : decode cX11_check 56 = .ok (.getfield 93, 3) := by decide +kernel
theorem dX11_check_59 : decode cX11_check 59 = .ok (.iload_n 2, 1) := by decide +kernel
theorem dX11_check_60 : decode cX11_check 60 = .ok (.iaload, 1) := by decide +kernel
theorem dX11_check_61 : decode cX11_check 61 = .ok (.i2l, 1) := by decide +kernel
theorem dX11_check_62 : decode cX11_check 62 = .ok (.lload 4, 2) := by decide +kernel
theorem dX11_check_64 : decode cX11_check 64 = .ok (.lcmp, 1) := by decide +kernel
theorem dX11_check_65 : decode cX11_check 65 = .ok (.ifCond .eq 8, 3) := by decide +kernel
theorem dX11_check_68 : decode cX11_check 68 = .ok (.iconst 1, 1) := by decide +kernel
theorem dX11_check_69 : decode cX11_check 69 = .ok (.iload_n 2, 1) := by decide +kernel
theorem dX11_check_70 : decode cX11_check 70 = .ok (.iadd, 1) := by decide +kernel
theorem dX11_check_71 : decode cX11_check 71 = .ok (.i2l, 1) := by decide +kernel
theorem dX11_check_72 : decode cX11_check 72 = .ok (.lreturn, 1) := by decide +kernel
theorem dX11_check_73 : decode cX11_check 73 = .ok (.iinc 2 1, 3) := by decide +kernel
theorem dX11_check_76 : decode cX11_check 76 = .ok (.goto (-64), 3) := by decide +kernel
theorem dX11_check_79 : decode cX11_check 79 = .ok (.iload_n 1, 1) := by decide +kernel
theorem dX11_check_80 : decode cX11_check 80 = .ok (.aload_n 0, 1) := by decide +kernel
theorem dX11_check_81 : decode cX11_check 81 = .ok (.getfield 137, 3) := by decide +kernel
theorem dX11_check_84 : decode cX11_check 84 = .ok (.if_icmp .le 9, 3) := by decide +kernel
theorem dX11_check_87 : decode cX11_check 87 = .ok (.ldc2_w 222, 3) := by decide +kernel
theorem dX11_check_90 : decode cX11_check 90 = .ok (.goto 4, 3) := by decide +kernel
theorem dX11_check_93 : decode cX11_check 93 = .ok (.lconst 0, 1) := by decide +kernel
theorem dX11_check_94 : decode cX11_check 94 = .ok (.lreturn, 1) := by decide +kernel
theorem dX11_count_0 : decode cX11_count 0 = .ok (.iload_n 1, 1) := by decide +kernel
theorem dX11_count_1 : decode cX11_count 1 = .ok (.tableswitch 75 0 5 #[39, 45, 51, 57, 63, 69], 39) := by decide +kernel
theorem dX11_count_40 : decode cX11_count 40 = .ok (.aload_n 0, 1) := by decide +kernel
theorem dX11_count_41 : decode cX11_count 41 = .ok (.getfield 108, 3) := by decide +kernel
theorem dX11_count_44 : decode cX11_count 44 = .ok (.i2l, 1) := by decide +kernel
theorem dX11_count_45 : decode cX11_count 45 = .ok (.lreturn, 1) := by decide +kernel
theorem dX11_count_46 : decode cX11_count 46 = .ok (.aload_n 0, 1) := by decide +kernel
theorem dX11_count_47 : decode cX11_count 47 = .ok (.getfield 127, 3) := by decide +kernel
theorem dX11_count_50 : decode cX11_count 50 = .ok (.i2l, 1) := by decide +kernel
theorem dX11_count_51 : decode cX11_count 51 = .ok (.lreturn, 1) := by decide +kernel
theorem dX11_count_52 : decode cX11_count 52 = .ok (.aload_n 0, 1) := by decide +kernel
theorem dX11_count_53 : decode cX11_count 53 = .ok (.getfield 134, 3) := by decide +kernel
theorem dX11_count_56 : decode cX11_count 56 = .ok (.i2l, 1) := by decide +kernel
theorem dX11_count_57 : decode cX11_count 57 = .ok (.lreturn, 1) := by decide +kernel
theorem dX11_count_58 : decode cX11_count 58 = .ok (.aload_n 0, 1) := by decide +kernel
theorem dX11_count_59 : decode cX11_count 59 = .ok (.getfield 143, 3) := by decide +kernel
theorem dX11_count_62 : decode cX11_count 62 = .ok (.i2l, 1) := by decide +kernel
theorem dX11_count_63 : decode cX11_count 63 = .ok (.lreturn, 1) := by decide +kernel
theorem dX11_count_64 : decode cX11_count 64 = .ok (.aload_n 0, 1) := by decide +kernel
theorem dX11_count_65 : decode cX11_count 65 = .ok (.getfield 137, 3) := by decide +kernel
theorem dX11_count_68 : decode cX11_count 68 = .ok (.i2l, 1) := by decide +kernel
theorem dX11_count_69 : decode cX11_count 69 = .ok (.lreturn, 1) := by decide +kernel
theorem dX11_count_70 : decode cX11_count 70 = .ok (.aload_n 0, 1) := by decide +kernel
theorem dX11_count_71 : decode cX11_count 71 = .ok (.getfield 219, 3) := by decide +kernel
theorem dX11_count_74 : decode cX11_count 74 = .ok (.i2l, 1) := by decide +kernel
theorem dX11_count_75 : decode cX11_count 75 = .ok (.lreturn, 1) := by decide +kernel
theorem dX11_count_76 : decode cX11_count 76 = .ok (.aload_n 0, 1) := by decide +kernel
theorem dX11_count_77 : decode cX11_count 77 = .ok (.iconst 1, 1) := by decide +kernel
theorem dX11_count_78 : decode cX11_count 78 = .ok (.invokevirtual 112, 3) := by decide +kernel
theorem dX11_count_81 : decode cX11_count 81 = .ok (.lreturn, 1) := by decide +kernel
theorem dX11_found_0 : decode cX11_found 0 = .ok (.iload_n 1, 1) := by decide +kernel
theorem dX11_found_1 : decode cX11_found 1 = .ok (.iconst 1, 1) := by decide +kernel
theorem dX11_found_2 : decode cX11_found 2 = .ok (.iconst 5, 1) := by decide +kernel
theorem dX11_found_3 : decode cX11_found 3 = .ok (.invokestatic 104, 3) := by decide +kernel
theorem dX11_found_6 : decode cX11_found 6 = .ok (.ifCond .eq 13, 3) := by decide +kernel
theorem dX11_found_9 : decode cX11_found 9 = .ok (.aload_n 0, 1) := by decide +kernel
theorem dX11_found_10 : decode cX11_found 10 = .ok (.getfield 7, 3) := by decide +kernel
theorem dX11_found_13 : decode cX11_found 13 = .ok (.iload_n 1, 1) := by decide +kernel
theorem dX11_found_14 : decode cX11_found 14 = .ok (.iaload, 1) := by decide +kernel
theorem dX11_found_15 : decode cX11_found 15 = .ok (.i2l, 1) := by decide +kernel
theorem dX11_found_16 : decode cX11_found 16 = .ok (.goto 8, 3) := by decide +kernel
theorem dX11_found_19 : decode cX11_found 19 = .ok (.aload_n 0, 1) := by decide +kernel
theorem dX11_found_20 : decode cX11_found 20 = .ok (.iconst 1, 1) := by decide +kernel
theorem dX11_found_21 : decode cX11_found 21 = .ok (.invokevirtual 112, 3) := by decide +kernel
theorem dX11_found_24 : decode cX11_found 24 = .ok (.lreturn, 1) := by decide +kernel
theorem dJ9_max_7cf53_0 : decode cJ9_max_7cf53 0 = .ok (.iload_n 0, 1) := by decide +kernel
theorem dJ9_max_7cf53_1 : decode cJ9_max_7cf53 1 = .ok (.iload_n 1, 1) := by decide +kernel
theorem dJ9_max_7cf53_2 : decode cJ9_max_7cf53 2 = .ok (.if_icmp .lt 7, 3) := by decide +kernel
theorem dJ9_max_7cf53_5 : decode cJ9_max_7cf53 5 = .ok (.iload_n 0, 1) := by decide +kernel
theorem dJ9_max_7cf53_6 : decode cJ9_max_7cf53 6 = .ok (.goto 4, 3) := by decide +kernel
theorem dJ9_max_7cf53_9 : decode cJ9_max_7cf53 9 = .ok (.iload_n 1, 1) := by decide +kernel
theorem dJ9_max_7cf53_10 : decode cJ9_max_7cf53 10 = .ok (.ireturn, 1) := by decide +kernel
theorem dJ9_max_f86c9_0 : decode cJ9_max_f86c9 0 = .ok (.lload_n 0, 1) := by decide +kernel
theorem dJ9_max_f86c9_1 : decode cJ9_max_f86c9 1 = .ok (.lload_n 2, 1) := by decide +kernel
theorem dJ9_max_f86c9_2 : decode cJ9_max_f86c9 2 = .ok (.lcmp, 1) := by decide +kernel
theorem dJ9_max_f86c9_3 : decode cJ9_max_f86c9 3 = .ok (.ifCond .lt 7, 3) := by decide +kernel
theorem dJ9_max_f86c9_6 : decode cJ9_max_f86c9 6 = .ok (.lload_n 0, 1) := by decide +kernel
theorem dJ9_max_f86c9_7 : decode cJ9_max_f86c9 7 = .ok (.goto 4, 3) := by decide +kernel
theorem dJ9_max_f86c9_10 : decode cJ9_max_f86c9 10 = .ok (.lload_n 2, 1) := by decide +kernel
theorem dJ9_max_f86c9_11 : decode cJ9_max_f86c9 11 = .ok (.lreturn, 1) := by decide +kernel
theorem dJ9_min_7cf53_0 : decode cJ9_min_7cf53 0 = .ok (.iload_n 0, 1) := by decide +kernel
theorem dJ9_min_7cf53_1 : decode cJ9_min_7cf53 1 = .ok (.iload_n 1, 1) := by decide +kernel
theorem dJ9_min_7cf53_2 : decode cJ9_min_7cf53 2 = .ok (.if_icmp .gt 7, 3) := by decide +kernel
theorem dJ9_min_7cf53_5 : decode cJ9_min_7cf53 5 = .ok (.iload_n 0, 1) := by decide +kernel
theorem dJ9_min_7cf53_6 : decode cJ9_min_7cf53 6 = .ok (.goto 4, 3) := by decide +kernel
theorem dJ9_min_7cf53_9 : decode cJ9_min_7cf53 9 = .ok (.iload_n 1, 1) := by decide +kernel
theorem dJ9_min_7cf53_10 : decode cJ9_min_7cf53 10 = .ok (.ireturn, 1) := by decide +kernel
theorem dJ9_min_f86c9_0 : decode cJ9_min_f86c9 0 = .ok (.lload_n 0, 1) := by decide +kernel
theorem dJ9_min_f86c9_1 : decode cJ9_min_f86c9 1 = .ok (.lload_n 2, 1) := by decide +kernel
theorem dJ9_min_f86c9_2 : decode cJ9_min_f86c9 2 = .ok (.lcmp, 1) := by decide +kernel
theorem dJ9_min_f86c9_3 : decode cJ9_min_f86c9 3 = .ok (.ifCond .gt 7, 3) := by decide +kernel
theorem dJ9_min_f86c9_6 : decode cJ9_min_f86c9 6 = .ok (.lload_n 0, 1) := by decide +kernel
theorem dJ9_min_f86c9_7 : decode cJ9_min_f86c9 7 = .ok (.goto 4, 3) := by decide +kernel
theorem dJ9_min_f86c9_10 : decode cJ9_min_f86c9 10 = .ok (.lload_n 2, 1) := by decide +kernel
theorem dJ9_min_f86c9_11 : decode cJ9_min_f86c9 11 = .ok (.lreturn, 1) := by decide +kernel
theorem dJ7_fill_53178_0 : decode cJ7_fill_53178 0 = .ok (.iconst 0, 1) := by decide +kernel
theorem dJ7_fill_53178_1 : decode cJ7_fill_53178 1 = .ok (.istore_n 2, 1) := by decide +kernel
theorem dJ7_fill_53178_2 : decode cJ7_fill_53178 2 = .ok (.aload_n 0, 1) := by decide +kernel
theorem dJ7_fill_53178_3 : decode cJ7_fill_53178 3 = .ok (.arraylength, 1) := by decide +kernel
theorem dJ7_fill_53178_4 : decode cJ7_fill_53178 4 = .ok (.istore_n 3, 1) := by decide +kernel
theorem dJ7_fill_53178_5 : decode cJ7_fill_53178 5 = .ok (.iload_n 2, 1) := by decide +kernel
theorem dJ7_fill_53178_6 : decode cJ7_fill_53178 6 = .ok (.iload_n 3, 1) := by decide +kernel
theorem dJ7_fill_53178_7 : decode cJ7_fill_53178 7 = .ok (.if_icmp .ge 13, 3) := by decide +kernel
theorem dJ7_fill_53178_10 : decode cJ7_fill_53178 10 = .ok (.aload_n 0, 1) := by decide +kernel
theorem dJ7_fill_53178_11 : decode cJ7_fill_53178 11 = .ok (.iload_n 2, 1) := by decide +kernel
theorem dJ7_fill_53178_12 : decode cJ7_fill_53178 12 = .ok (.iload_n 1, 1) := by decide +kernel
theorem dJ7_fill_53178_13 : decode cJ7_fill_53178 13 = .ok (.iastore, 1) := by decide +kernel
theorem dJ7_fill_53178_14 : decode cJ7_fill_53178 14 = .ok (.iinc 2 1, 3) := by decide +kernel
theorem dJ7_fill_53178_17 : decode cJ7_fill_53178 17 = .ok (.goto (-12), 3) := by decide +kernel
theorem dJ7_fill_53178_20 : decode cJ7_fill_53178 20 = .ok (.return_, 1) := by decide +kernel
end
section
theorem dL_law_0 : decode cL_law 0 = .ok (.new 7, 3) := by decide +kernel
theorem dL_law_3 : decode cL_law 3 = .ok (.dup, 1) := by decide +kernel
theorem dL_law_4 : decode cL_law 4 = .ok (.invokespecial 9, 3) := by decide +kernel
theorem dL_law_7 : decode cL_law 7 = .ok (.astore_n 1, 1) := by decide +kernel
theorem dL_law_8 : decode cL_law 8 = .ok (.new 10, 3) := by decide +kernel
theorem dL_law_11 : decode cL_law 11 = .ok (.dup, 1) := by decide +kernel
theorem dL_law_12 : decode cL_law 12 = .ok (.invokespecial 12, 3) := by decide +kernel
theorem dL_law_15 : decode cL_law 15 = .ok (.astore_n 2, 1) := by decide +kernel
theorem dL_law_16 : decode cL_law 16 = .ok (.iconst 0, 1) := by decide +kernel
theorem dL_law_17 : decode cL_law 17 = .ok (.istore_n 3, 1) := by decide +kernel
theorem dL_law_18 : decode cL_law 18 = .ok (.iload_n 3, 1) := by decide +kernel
theorem dL_law_19 : decode cL_law 19 = .ok (.aload_n 0, 1) := by decide +kernel
theorem dL_law_20 : decode cL_law 20 = .ok (.arraylength, 1) := by decide +kernel
theorem dL_law_21 : decode cL_law 21 = .ok (.bipush 6, 2) := by decide +kernel
theorem dL_law_23 : decode cL_law 23 = .ok (.isub, 1) := by decide +kernel
theorem dL_law_24 : decode cL_law 24 = .ok (.if_icmp .gt 958, 3) := by decide +kernel
theorem dL_law_27 : decode cL_law 27 = .ok (.aload_n 0, 1) := by decide +kernel
theorem dL_law_28 : decode cL_law 28 = .ok (.iload_n 3, 1) := by decide +kernel
theorem dL_law_29 : decode cL_law 29 = .ok (.iaload, 1) := by decide +kernel
theorem dL_law_30 : decode cL_law 30 = .ok (.bipush 31, 2) := by decide +kernel
theorem dL_law_32 : decode cL_law 32 = .ok (.iand, 1) := by decide +kernel
theorem dL_law_33 : decode cL_law 33 = .ok (.tableswitch 943 0 23 #[111, 135, 179, 223, 257, 281, 325, 385, 449, 483, 517, 551, 585, 629, 653, 677, 701, 725, 779, 823, 857, 881, 895, 919], 111) := by decide +kernel
theorem dL_law_144 : decode cL_law 144 = .ok (.aload_n 1, 1) := by decide +kernel
theorem dL_law_145 : decode cL_law 145 = .ok (.aload_n 0, 1) := by decide +kernel
theorem dL_law_146 : decode cL_law 146 = .ok (.iload_n 3, 1) := by decide +kernel
theorem dL_law_147 : decode cL_law 147 = .ok (.iconst 1, 1) := by decide +kernel
theorem dL_law_148 : decode cL_law 148 = .ok (.iadd, 1) := by decide +kernel
theorem dL_law_149 : decode cL_law 149 = .ok (.iaload, 1) := by decide +kernel
theorem dL_law_150 : decode cL_law 150 = .ok (.invokevirtual 13, 3) := by decide +kernel
theorem dL_law_153 : decode cL_law 153 = .ok (.aload_n 2, 1) := by decide +kernel
theorem dL_law_154 : decode cL_law 154 = .ok (.aload_n 0, 1) := by decide +kernel
theorem dL_law_155 : decode cL_law 155 = .ok (.iload_n 3, 1) := by decide +kernel
theorem dL_law_156 : decode cL_law 156 = .ok (.iconst 1, 1) := by decide +kernel
theorem dL_law_157 : decode cL_law 157 = .ok (.iadd, 1) := by decide +kernel
theorem dL_law_158 : decode cL_law 158 = .ok (.iaload, 1) := by decide +kernel
theorem dL_law_159 : decode cL_law 159 = .ok (.invokevirtual 17, 3) := by decide +kernel
theorem dL_law_162 : decode cL_law 162 = .ok (.lcmp, 1) := by decide +kernel
theorem dL_law_163 : decode cL_law 163 = .ok (.ifCond .eq 813, 3) := by decide +kernel
theorem dL_law_166 : decode cL_law 166 = .ok (.iconst 0, 1) := by decide +kernel
theorem dL_law_167 : decode cL_law 167 = .ok (.ireturn, 1) := by decide +kernel
theorem dL_law_168 : decode cL_law 168 = .ok (.aload_n 1, 1) := by decide +kernel
theorem dL_law_169 : decode cL_law 169 = .ok (.aload_n 0, 1) := by decide +kernel
theorem dL_law_170 : decode cL_law 170 = .ok (.iload_n 3, 1) := by decide +kernel
theorem dL_law_171 : decode cL_law 171 = .ok (.iconst 1, 1) := by decide +kernel
theorem dL_law_172 : decode cL_law 172 = .ok (.iadd, 1) := by decide +kernel
theorem dL_law_173 : decode cL_law 173 = .ok (.iaload, 1) := by decide +kernel
theorem dL_law_174 : decode cL_law 174 = .ok (.aload_n 0, 1) := by decide +kernel
theorem dL_law_175 : decode cL_law 175 = .ok (.iload_n 3, 1) := by decide +kernel
theorem dL_law_176 : decode cL_law 176 = .ok (.iconst 2, 1) := by decide +kernel
theorem dL_law_177 : decode cL_law 177 = .ok (.iadd, 1) := by decide +kernel
theorem dL_law_178 : decode cL_law 178 = .ok (.iaload, 1) := by decide +kernel
theorem dL_law_179 : decode cL_law 179 = .ok (.aload_n 0, 1) := by decide +kernel
theorem dL_law_180 : decode cL_law 180 = .ok (.iload_n 3, 1) := by decide +kernel
theorem dL_law_181 : decode cL_law 181 = .ok (.iconst 3, 1) := by decide +kernel
theorem dL_law_182 : decode cL_law 182 = .ok (.iadd, 1) := by decide +kernel
theorem dL_law_183 : decode cL_law 183 = .ok (.iaload, 1) := by decide +kernel
theorem dL_law_184 : decode cL_law 184 = .ok (.invokevirtual 18, 3) := by decide +kernel
theorem dL_law_187 : decode cL_law 187 = .ok (.aload_n 2, 1) := by decide +kernel
theorem dL_law_188 : decode cL_law 188 = .ok (.aload_n 0, 1) := by decide +kernel
theorem dL_law_189 : decode cL_law 189 = .ok (.iload_n 3, 1) := by decide +kernel
theorem dL_law_190 : decode cL_law 190 = .ok (.iconst 1, 1) := by decide +kernel
theorem dL_law_191 : decode cL_law 191 = .ok (.iadd, 1) := by decide +kernel
theorem dL_law_192 : decode cL_law 192 = .ok (.iaload, 1) := by decide +kernel
theorem dL_law_193 : decode cL_law 193 = .ok (.aload_n 0, 1) := by decide +kernel
theorem dL_law_194 : decode cL_law 194 = .ok (.iload_n 3, 1) := by decide +kernel
theorem dL_law_195 : decode cL_law 195 = .ok (.iconst 2, 1) := by decide +kernel
theorem dL_law_196 : decode cL_law 196 = .ok (.iadd, 1) := by decide +kernel
theorem dL_law_197 : decode cL_law 197 = .ok (.iaload, 1) := by decide +kernel
theorem dL_law_198 : decode cL_law 198 = .ok (.aload_n 0, 1) := by decide +kernel
theorem dL_law_199 : decode cL_law 199 = .ok (.iload_n 3, 1) := by decide +kernel
theorem dL_law_200 : decode cL_law 200 = .ok (.iconst 3, 1) := by decide +kernel
theorem dL_law_201 : decode cL_law 201 = .ok (.iadd, 1) := by decide +kernel
theorem dL_law_202 : decode cL_law 202 = .ok (.iaload, 1) := by decide +kernel
theorem dL_law_203 : decode cL_law 203 = .ok (.invokevirtual 22, 3) := by decide +kernel
theorem dL_law_206 : decode cL_law 206 = .ok (.lcmp, 1) := by decide +kernel
theorem dL_law_207 : decode cL_law 207 = .ok (.ifCond .eq 769, 3) := by decide +kernel
theorem dL_law_210 : decode cL_law 210 = .ok (.iconst 0, 1) := by decide +kernel
theorem dL_law_211 : decode cL_law 211 = .ok (.ireturn, 1) := by decide +kernel
theorem dL_law_212 : decode cL_law 212 = .ok (.aload_n 1, 1) := by decide +kernel
theorem dL_law_213 : decode cL_law 213 = .ok (.aload_n 0, 1) := by decide +kernel
theorem dL_law_214 : decode cL_law 214 = .ok (.iload_n 3, 1) := by decide +kernel
theorem dL_law_215 : decode cL_law 215 = .ok (.iconst 1, 1) := by decide +kernel
theorem dL_law_216 : decode cL_law 216 = .ok (.iadd, 1) := by decide +kernel
theorem dL_law_217 : decode cL_law 217 = .ok (.iaload, 1) := by decide +kernel
theorem dL_law_218 : decode cL_law 218 = .ok (.aload_n 0, 1) := by decide +kernel
theorem dL_law_219 : decode cL_law 219 = .ok (.iload_n 3, 1) := by decide +kernel
theorem dL_law_220 : decode cL_law 220 = .ok (.iconst 2, 1) := by decide +kernel
theorem dL_law_221 : decode cL_law 221 = .ok (.iadd, 1) := by decide +kernel
theorem dL_law_222 : decode cL_law 222 = .ok (.iaload, 1) := by decide +kernel
theorem dL_law_223 : decode cL_law 223 = .ok (.aload_n 0, 1) := by decide +kernel
theorem dL_law_224 : decode cL_law 224 = .ok (.iload_n 3, 1) := by decide +kernel
theorem dL_law_225 : decode cL_law 225 = .ok (.iconst 3, 1) := by decide +kernel
theorem dL_law_226 : decode cL_law 226 = .ok (.iadd, 1) := by decide +kernel
theorem dL_law_227 : decode cL_law 227 = .ok (.iaload, 1) := by decide +kernel
theorem dL_law_228 : decode cL_law 228 = .ok (.invokevirtual 23, 3) := by decide +kernel
theorem dL_law_231 : decode cL_law 231 = .ok (.aload_n 2, 1) := by decide +kernel
theorem dL_law_232 : decode cL_law 232 = .ok (.aload_n 0, 1) := by decide +kernel
theorem dL_law_233 : decode cL_law 233 = .ok (.iload_n 3, 1) := by decide +kernel
theorem dL_law_234 : decode cL_law 234 = .ok (.iconst 1, 1) := by decide +kernel
theorem dL_law_235 : decode cL_law 235 = .ok (.iadd, 1) := by decide +kernel
theorem dL_law_236 : decode cL_law 236 = .ok (.iaload, 1) := by decide +kernel
theorem dL_law_237 : decode cL_law 237 = .ok (.aload_n 0, 1) := by decide +kernel
theorem dL_law_238 : decode cL_law 238 = .ok (.iload_n 3, 1) := by decide +kernel
theorem dL_law_239 : decode cL_law 239 = .ok (.iconst 2, 1) := by decide +kernel
theorem dL_law_240 : decode cL_law 240 = .ok (.iadd, 1) := by decide +kernel
theorem dL_law_241 : decode cL_law 241 = .ok (.iaload, 1) := by decide +kernel
theorem dL_law_242 : decode cL_law 242 = .ok (.aload_n 0, 1) := by decide +kernel
theorem dL_law_243 : decode cL_law 243 = .ok (.iload_n 3, 1) := by decide +kernel
theorem dL_law_244 : decode cL_law 244 = .ok (.iconst 3, 1) := by decide +kernel
theorem dL_law_245 : decode cL_law 245 = .ok (.iadd, 1) := by decide +kernel
theorem dL_law_246 : decode cL_law 246 = .ok (.iaload, 1) := by decide +kernel
theorem dL_law_247 : decode cL_law 247 = .ok (.invokevirtual 26, 3) := by decide +kernel
theorem dL_law_250 : decode cL_law 250 = .ok (.lcmp, 1) := by decide +kernel
theorem dL_law_251 : decode cL_law 251 = .ok (.ifCond .eq 725, 3) := by decide +kernel
theorem dL_law_254 : decode cL_law 254 = .ok (.iconst 0, 1) := by decide +kernel
theorem dL_law_255 : decode cL_law 255 = .ok (.ireturn, 1) := by decide +kernel
theorem dL_law_256 : decode cL_law 256 = .ok (.aload_n 1, 1) := by decide +kernel
theorem dL_law_257 : decode cL_law 257 = .ok (.aload_n 0, 1) := by decide +kernel
theorem dL_law_258 : decode cL_law 258 = .ok (.iload_n 3, 1) := by decide +kernel
theorem dL_law_259 : decode cL_law 259 = .ok (.iconst 1, 1) := by decide +kernel
theorem dL_law_260 : decode cL_law 260 = .ok (.iadd, 1) := by decide +kernel
theorem dL_law_261 : decode cL_law 261 = .ok (.iaload, 1) := by decide +kernel
theorem dL_law_262 : decode cL_law 262 = .ok (.aload_n 0, 1) := by decide +kernel
theorem dL_law_263 : decode cL_law 263 = .ok (.iload_n 3, 1) := by decide +kernel
theorem dL_law_264 : decode cL_law 264 = .ok (.iconst 2, 1) := by decide +kernel
theorem dL_law_265 : decode cL_law 265 = .ok (.iadd, 1) := by decide +kernel
theorem dL_law_266 : decode cL_law 266 = .ok (.iaload, 1) := by decide +kernel
theorem dL_law_267 : decode cL_law 267 = .ok (.invokevirtual 27, 3) := by decide +kernel
theorem dL_law_270 : decode cL_law 270 = .ok (.aload_n 2, 1) := by decide +kernel
theorem dL_law_271 : decode cL_law 271 = .ok (.aload_n 0, 1) := by decide +kernel
theorem dL_law_272 : decode cL_law 272 = .ok (.iload_n 3, 1) := by decide +kernel
theorem dL_law_273 : decode cL_law 273 = .ok (.iconst 1, 1) := by decide +kernel
theorem dL_law_274 : decode cL_law 274 = .ok (.iadd, 1) := by decide +kernel
theorem dL_law_275 : decode cL_law 275 = .ok (.iaload, 1) := by decide +kernel
theorem dL_law_276 : decode cL_law 276 = .ok (.aload_n 0, 1) := by decide +kernel
theorem dL_law_277 : decode cL_law 277 = .ok (.iload_n 3, 1) := by decide +kernel
theorem dL_law_278 : decode cL_law 278 = .ok (.iconst 2, 1) := by decide +kernel
theorem dL_law_279 : decode cL_law 279 = .ok (.iadd, 1) := by decide +kernel
theorem dL_law_280 : decode cL_law 280 = .ok (.iaload, 1) := by decide +kernel
theorem dL_law_281 : decode cL_law 281 = .ok (.invokevirtual 31, 3) := by decide +kernel
theorem dL_law_284 : decode cL_law 284 = .ok (.lcmp, 1) := by decide +kernel
theorem dL_law_285 : decode cL_law 285 = .ok (.ifCond .eq 691, 3) := by decide +kernel
theorem dL_law_288 : decode cL_law 288 = .ok (.iconst 0, 1) := by decide +kernel
theorem dL_law_289 : decode cL_law 289 = .ok (.ireturn, 1) := by decide +kernel
theorem dL_law_290 : decode cL_law 290 = .ok (.aload_n 1, 1) := by decide +kernel
theorem dL_law_291 : decode cL_law 291 = .ok (.aload_n 0, 1) := by decide +kernel
theorem dL_law_292 : decode cL_law 292 = .ok (.iload_n 3, 1) := by decide +kernel
theorem dL_law_293 : decode cL_law 293 = .ok (.iconst 1, 1) := by decide +kernel
theorem dL_law_294 : decode cL_law 294 = .ok (.iadd, 1) := by decide +kernel
theorem dL_law_295 : decode cL_law 295 = .ok (.iaload, 1) := by decide +kernel
theorem dL_law_296 : decode cL_law 296 = .ok (.invokevirtual 32, 3) := by decide +kernel
theorem dL_law_299 : decode cL_law 299 = .ok (.aload_n 2, 1) := by decide +kernel
theorem dL_law_300 : decode cL_law 300 = .ok (.aload_n 0, 1) := by decide +kernel
theorem dL_law_301 : decode cL_law 301 = .ok (.iload_n 3, 1) := by decide +kernel
theorem dL_law_302 : decode cL_law 302 = .ok (.iconst 1, 1) := by decide +kernel
theorem dL_law_303 : decode cL_law 303 = .ok (.iadd, 1) := by decide +kernel
theorem dL_law_304 : decode cL_law 304 = .ok (.iaload, 1) := by decide +kernel
theorem dL_law_305 : decode cL_law 305 = .ok (.invokevirtual 35, 3) := by decide +kernel
theorem dL_law_308 : decode cL_law 308 = .ok (.lcmp, 1) := by decide +kernel
theorem dL_law_309 : decode cL_law 309 = .ok (.ifCond .eq 667, 3) := by decide +kernel
theorem dL_law_312 : decode cL_law 312 = .ok (.iconst 0, 1) := by decide +kernel
theorem dL_law_313 : decode cL_law 313 = .ok (.ireturn, 1) := by decide +kernel
theorem dL_law_314 : decode cL_law 314 = .ok (.aload_n 1, 1) := by decide +kernel
theorem dL_law_315 : decode cL_law 315 = .ok (.aload_n 0, 1) := by decide +kernel
theorem dL_law_316 : decode cL_law 316 = .ok (.iload_n 3, 1) := by decide +kernel
theorem dL_law_317 : decode cL_law 317 = .ok (.iconst 1, 1) := by decide +kernel
theorem dL_law_318 : decode cL_law 318 = .ok (.iadd, 1) := by decide +kernel
theorem dL_law_319 : decode cL_law 319 = .ok (.iaload, 1) := by decide +kernel
theorem dL_law_320 : decode cL_law 320 = .ok (.aload_n 0, 1) := by decide +kernel
theorem dL_law_321 : decode cL_law 321 = .ok (.iload_n 3, 1) := by decide +kernel
theorem dL_law_322 : decode cL_law 322 = .ok (.iconst 2, 1) := by decide +kernel
theorem dL_law_323 : decode cL_law 323 = .ok (.iadd, 1) := by decide +kernel
theorem dL_law_324 : decode cL_law 324 = .ok (.iaload, 1) := by decide +kernel
theorem dL_law_325 : decode cL_law 325 = .ok (.aload_n 0, 1) := by decide +kernel
theorem dL_law_326 : decode cL_law 326 = .ok (.iload_n 3, 1) := by decide +kernel
theorem dL_law_327 : decode cL_law 327 = .ok (.iconst 3, 1) := by decide +kernel
theorem dL_law_328 : decode cL_law 328 = .ok (.iadd, 1) := by decide +kernel
theorem dL_law_329 : decode cL_law 329 = .ok (.iaload, 1) := by decide +kernel
theorem dL_law_330 : decode cL_law 330 = .ok (.invokevirtual 36, 3) := by decide +kernel
theorem dL_law_333 : decode cL_law 333 = .ok (.aload_n 2, 1) := by decide +kernel
theorem dL_law_334 : decode cL_law 334 = .ok (.aload_n 0, 1) := by decide +kernel
theorem dL_law_335 : decode cL_law 335 = .ok (.iload_n 3, 1) := by decide +kernel
theorem dL_law_336 : decode cL_law 336 = .ok (.iconst 1, 1) := by decide +kernel
theorem dL_law_337 : decode cL_law 337 = .ok (.iadd, 1) := by decide +kernel
theorem dL_law_338 : decode cL_law 338 = .ok (.iaload, 1) := by decide +kernel
theorem dL_law_339 : decode cL_law 339 = .ok (.aload_n 0, 1) := by decide +kernel
theorem dL_law_340 : decode cL_law 340 = .ok (.iload_n 3, 1) := by decide +kernel
theorem dL_law_341 : decode cL_law 341 = .ok (.iconst 2, 1) := by decide +kernel
theorem dL_law_342 : decode cL_law 342 = .ok (.iadd, 1) := by decide +kernel
theorem dL_law_343 : decode cL_law 343 = .ok (.iaload, 1) := by decide +kernel
theorem dL_law_344 : decode cL_law 344 = .ok (.aload_n 0, 1) := by decide +kernel
theorem dL_law_345 : decode cL_law 345 = .ok (.iload_n 3, 1) := by decide +kernel
theorem dL_law_346 : decode cL_law 346 = .ok (.iconst 3, 1) := by decide +kernel
theorem dL_law_347 : decode cL_law 347 = .ok (.iadd, 1) := by decide +kernel
theorem dL_law_348 : decode cL_law 348 = .ok (.iaload, 1) := by decide +kernel
theorem dL_law_349 : decode cL_law 349 = .ok (.invokevirtual 39, 3) := by decide +kernel
theorem dL_law_352 : decode cL_law 352 = .ok (.lcmp, 1) := by decide +kernel
theorem dL_law_353 : decode cL_law 353 = .ok (.ifCond .eq 623, 3) := by decide +kernel
theorem dL_law_356 : decode cL_law 356 = .ok (.iconst 0, 1) := by decide +kernel
theorem dL_law_357 : decode cL_law 357 = .ok (.ireturn, 1) := by decide +kernel
theorem dL_law_358 : decode cL_law 358 = .ok (.aload_n 1, 1) := by decide +kernel
theorem dL_law_359 : decode cL_law 359 = .ok (.aload_n 0, 1) := by decide +kernel
theorem dL_law_360 : decode cL_law 360 = .ok (.iload_n 3, 1) := by decide +kernel
theorem dL_law_361 : decode cL_law 361 = .ok (.iconst 1, 1) := by decide +kernel
theorem dL_law_362 : decode cL_law 362 = .ok (.iadd, 1) := by decide +kernel
theorem dL_law_363 : decode cL_law 363 = .ok (.iaload, 1) := by decide +kernel
theorem dL_law_364 : decode cL_law 364 = .ok (.aload_n 0, 1) := by decide +kernel
theorem dL_law_365 : decode cL_law 365 = .ok (.iload_n 3, 1) := by decide +kernel
theorem dL_law_366 : decode cL_law 366 = .ok (.iconst 2, 1) := by decide +kernel
theorem dL_law_367 : decode cL_law 367 = .ok (.iadd, 1) := by decide +kernel
theorem dL_law_368 : decode cL_law 368 = .ok (.iaload, 1) := by decide +kernel
theorem dL_law_369 : decode cL_law 369 = .ok (.aload_n 0, 1) := by decide +kernel
theorem dL_law_370 : decode cL_law 370 = .ok (.iload_n 3, 1) := by decide +kernel
theorem dL_law_371 : decode cL_law 371 = .ok (.iconst 3, 1) := by decide +kernel
theorem dL_law_372 : decode cL_law 372 = .ok (.iadd, 1) := by decide +kernel
theorem dL_law_373 : decode cL_law 373 = .ok (.iaload, 1) := by decide +kernel
theorem dL_law_374 : decode cL_law 374 = .ok (.ifCond .eq 7, 3) := by decide +kernel
theorem dL_law_377 : decode cL_law 377 = .ok (.iconst 1, 1) := by decide +kernel
theorem dL_law_378 : decode cL_law 378 = .ok (.goto 4, 3) := by decide +kernel
theorem dL_law_381 : decode cL_law 381 = .ok (.iconst 0, 1) := by decide +kernel
theorem dL_law_382 : decode cL_law 382 = .ok (.invokevirtual 40, 3) := by decide +kernel
theorem dL_law_385 : decode cL_law 385 = .ok (.aload_n 2, 1) := by decide +kernel
theorem dL_law_386 : decode cL_law 386 = .ok (.aload_n 0, 1) := by decide +kernel
theorem dL_law_387 : decode cL_law 387 = .ok (.iload_n 3, 1) := by decide +kernel
theorem dL_law_388 : decode cL_law 388 = .ok (.iconst 1, 1) := by decide +kernel
theorem dL_law_389 : decode cL_law 389 = .ok (.iadd, 1) := by decide +kernel
theorem dL_law_390 : decode cL_law 390 = .ok (.iaload, 1) := by decide +kernel
theorem dL_law_391 : decode cL_law 391 = .ok (.aload_n 0, 1) := by decide +kernel
theorem dL_law_392 : decode cL_law 392 = .ok (.iload_n 3, 1) := by decide +kernel
theorem dL_law_393 : decode cL_law 393 = .ok (.iconst 2, 1) := by decide +kernel
theorem dL_law_394 : decode cL_law 394 = .ok (.iadd, 1) := by decide +kernel
theorem dL_law_395 : decode cL_law 395 = .ok (.iaload, 1) := by decide +kernel
theorem dL_law_396 : decode cL_law 396 = .ok (.aload_n 0, 1) := by decide +kernel
theorem dL_law_397 : decode cL_law 397 = .ok (.iload_n 3, 1) := by decide +kernel
theorem dL_law_398 : decode cL_law 398 = .ok (.iconst 3, 1) := by decide +kernel
theorem dL_law_399 : decode cL_law 399 = .ok (.iadd, 1) := by decide +kernel
theorem dL_law_400 : decode cL_law 400 = .ok (.iaload, 1) := by decide +kernel
theorem dL_law_401 : decode cL_law 401 = .ok (.ifCond .eq 7, 3) := by decide +kernel
theorem dL_law_404 : decode cL_law 404 = .ok (.iconst 1, 1) := by decide +kernel
theorem dL_law_405 : decode cL_law 405 = .ok (.goto 4, 3) := by decide +kernel
theorem dL_law_408 : decode cL_law 408 = .ok (.iconst 0, 1) := by decide +kernel
theorem dL_law_409 : decode cL_law 409 = .ok (.invokevirtual 44, 3) := by decide +kernel
theorem dL_law_412 : decode cL_law 412 = .ok (.lcmp, 1) := by decide +kernel
theorem dL_law_413 : decode cL_law 413 = .ok (.ifCond .eq 563, 3) := by decide +kernel
theorem dL_law_416 : decode cL_law 416 = .ok (.iconst 0, 1) := by decide +kernel
theorem dL_law_417 : decode cL_law 417 = .ok (.ireturn, 1) := by decide +kernel
theorem dL_law_418 : decode cL_law 418 = .ok (.aload_n 1, 1) := by decide +kernel
theorem dL_law_419 : decode cL_law 419 = .ok (.aload_n 0, 1) := by decide +kernel
theorem dL_law_420 : decode cL_law 420 = .ok (.iload_n 3, 1) := by decide +kernel
theorem dL_law_421 : decode cL_law 421 = .ok (.iconst 1, 1) := by decide +kernel
theorem dL_law_422 : decode cL_law 422 = .ok (.iadd, 1) := by decide +kernel
theorem dL_law_423 : decode cL_law 423 = .ok (.iaload, 1) := by decide +kernel
theorem dL_law_424 : decode cL_law 424 = .ok (.aload_n 0, 1) := by decide +kernel
theorem dL_law_425 : decode cL_law 425 = .ok (.iload_n 3, 1) := by decide +kernel
theorem dL_law_426 : decode cL_law 426 = .ok (.iconst 2, 1) := by decide +kernel
theorem dL_law_427 : decode cL_law 427 = .ok (.iadd, 1) := by decide +kernel
theorem dL_law_428 : decode cL_law 428 = .ok (.iaload, 1) := by decide +kernel
theorem dL_law_429 : decode cL_law 429 = .ok (.aload_n 0, 1) := by decide +kernel
theorem dL_law_430 : decode cL_law 430 = .ok (.iload_n 3, 1) := by decide +kernel
theorem dL_law_431 : decode cL_law 431 = .ok (.iconst 3, 1) := by decide +kernel
theorem dL_law_432 : decode cL_law 432 = .ok (.iadd, 1) := by decide +kernel
theorem dL_law_433 : decode cL_law 433 = .ok (.iaload, 1) := by decide +kernel
theorem dL_law_434 : decode cL_law 434 = .ok (.aload_n 0, 1) := by decide +kernel
theorem dL_law_435 : decode cL_law 435 = .ok (.iload_n 3, 1) := by decide +kernel
theorem dL_law_436 : decode cL_law 436 = .ok (.iconst 4, 1) := by decide +kernel
theorem dL_law_437 : decode cL_law 437 = .ok (.iadd, 1) := by decide +kernel
theorem dL_law_438 : decode cL_law 438 = .ok (.iaload, 1) := by decide +kernel
theorem dL_law_439 : decode cL_law 439 = .ok (.aload_n 0, 1) := by decide +kernel
theorem dL_law_440 : decode cL_law 440 = .ok (.iload_n 3, 1) := by decide +kernel
theorem dL_law_441 : decode cL_law 441 = .ok (.iconst 5, 1) := by decide +kernel
theorem dL_law_442 : decode cL_law 442 = .ok (.iadd, 1) := by decide +kernel
theorem dL_law_443 : decode cL_law 443 = .ok (.iaload, 1) := by decide +kernel
theorem dL_law_444 : decode cL_law 444 = .ok (.invokevirtual 45, 3) := by decide +kernel
theorem dL_law_447 : decode cL_law 447 = .ok (.aload_n 2, 1) := by decide +kernel
theorem dL_law_448 : decode cL_law 448 = .ok (.aload_n 0, 1) := by decide +kernel
theorem dL_law_449 : decode cL_law 449 = .ok (.iload_n 3, 1) := by decide +kernel
theorem dL_law_450 : decode cL_law 450 = .ok (.iconst 1, 1) := by decide +kernel
theorem dL_law_451 : decode cL_law 451 = .ok (.iadd, 1) := by decide +kernel
theorem dL_law_452 : decode cL_law 452 = .ok (.iaload, 1) := by decide +kernel
theorem dL_law_453 : decode cL_law 453 = .ok (.aload_n 0, 1) := by decide +kernel
theorem dL_law_454 : decode cL_law 454 = .ok (.iload_n 3, 1) := by decide +kernel
theorem dL_law_455 : decode cL_law 455 = .ok (.iconst 2, 1) := by decide +kernel
theorem dL_law_456 : decode cL_law 456 = .ok (.iadd, 1) := by decide +kernel
theorem dL_law_457 : decode cL_law 457 = .ok (.iaload, 1) := by decide +kernel
theorem dL_law_458 : decode cL_law 458 = .ok (.aload_n 0, 1) := by decide +kernel
theorem dL_law_459 : decode cL_law 459 = .ok (.iload_n 3, 1) := by decide +kernel
theorem dL_law_460 : decode cL_law 460 = .ok (.iconst 3, 1) := by decide +kernel
theorem dL_law_461 : decode cL_law 461 = .ok (.iadd, 1) := by decide +kernel
theorem dL_law_462 : decode cL_law 462 = .ok (.iaload, 1) := by decide +kernel
theorem dL_law_463 : decode cL_law 463 = .ok (.aload_n 0, 1) := by decide +kernel
theorem dL_law_464 : decode cL_law 464 = .ok (.iload_n 3, 1) := by decide +kernel
theorem dL_law_465 : decode cL_law 465 = .ok (.iconst 4, 1) := by decide +kernel
theorem dL_law_466 : decode cL_law 466 = .ok (.iadd, 1) := by decide +kernel
theorem dL_law_467 : decode cL_law 467 = .ok (.iaload, 1) := by decide +kernel
theorem dL_law_468 : decode cL_law 468 = .ok (.aload_n 0, 1) := by decide +kernel
theorem dL_law_469 : decode cL_law 469 = .ok (.iload_n 3, 1) := by decide +kernel
theorem dL_law_470 : decode cL_law 470 = .ok (.iconst 5, 1) := by decide +kernel
theorem dL_law_471 : decode cL_law 471 = .ok (.iadd, 1) := by decide +kernel
theorem dL_law_472 : decode cL_law 472 = .ok (.iaload, 1) := by decide +kernel
theorem dL_law_473 : decode cL_law 473 = .ok (.invokevirtual 49, 3) := by decide +kernel
theorem dL_law_476 : decode cL_law 476 = .ok (.lcmp, 1) := by decide +kernel
theorem dL_law_477 : decode cL_law 477 = .ok (.ifCond .eq 499, 3) := by decide +kernel
theorem dL_law_480 : decode cL_law 480 = .ok (.iconst 0, 1) := by decide +kernel
theorem dL_law_481 : decode cL_law 481 = .ok (.ireturn, 1) := by decide +kernel
theorem dL_law_482 : decode cL_law 482 = .ok (.aload_n 1, 1) := by decide +kernel
theorem dL_law_483 : decode cL_law 483 = .ok (.aload_n 0, 1) := by decide +kernel
theorem dL_law_484 : decode cL_law 484 = .ok (.iload_n 3, 1) := by decide +kernel
theorem dL_law_485 : decode cL_law 485 = .ok (.iconst 1, 1) := by decide +kernel
theorem dL_law_486 : decode cL_law 486 = .ok (.iadd, 1) := by decide +kernel
theorem dL_law_487 : decode cL_law 487 = .ok (.iaload, 1) := by decide +kernel
theorem dL_law_488 : decode cL_law 488 = .ok (.aload_n 0, 1) := by decide +kernel
theorem dL_law_489 : decode cL_law 489 = .ok (.iload_n 3, 1) := by decide +kernel
theorem dL_law_490 : decode cL_law 490 = .ok (.iconst 2, 1) := by decide +kernel
theorem dL_law_491 : decode cL_law 491 = .ok (.iadd, 1) := by decide +kernel
theorem dL_law_492 : decode cL_law 492 = .ok (.iaload, 1) := by decide +kernel
theorem dL_law_493 : decode cL_law 493 = .ok (.invokevirtual 50, 3) := by decide +kernel
theorem dL_law_496 : decode cL_law 496 = .ok (.aload_n 2, 1) := by decide +kernel
theorem dL_law_497 : decode cL_law 497 = .ok (.aload_n 0, 1) := by decide +kernel
theorem dL_law_498 : decode cL_law 498 = .ok (.iload_n 3, 1) := by decide +kernel
theorem dL_law_499 : decode cL_law 499 = .ok (.iconst 1, 1) := by decide +kernel
theorem dL_law_500 : decode cL_law 500 = .ok (.iadd, 1) := by decide +kernel
theorem dL_law_501 : decode cL_law 501 = .ok (.iaload, 1) := by decide +kernel
theorem dL_law_502 : decode cL_law 502 = .ok (.aload_n 0, 1) := by decide +kernel
theorem dL_law_503 : decode cL_law 503 = .ok (.iload_n 3, 1) := by decide +kernel
theorem dL_law_504 : decode cL_law 504 = .ok (.iconst 2, 1) := by decide +kernel
theorem dL_law_505 : decode cL_law 505 = .ok (.iadd, 1) := by decide +kernel
theorem dL_law_506 : decode cL_law 506 = .ok (.iaload, 1) := by decide +kernel
theorem dL_law_507 : decode cL_law 507 = .ok (.invokevirtual 53, 3) := by decide +kernel
theorem dL_law_510 : decode cL_law 510 = .ok (.lcmp, 1) := by decide +kernel
theorem dL_law_511 : decode cL_law 511 = .ok (.ifCond .eq 465, 3) := by decide +kernel
theorem dL_law_514 : decode cL_law 514 = .ok (.iconst 0, 1) := by decide +kernel
theorem dL_law_515 : decode cL_law 515 = .ok (.ireturn, 1) := by decide +kernel
theorem dL_law_516 : decode cL_law 516 = .ok (.aload_n 1, 1) := by decide +kernel
theorem dL_law_517 : decode cL_law 517 = .ok (.aload_n 0, 1) := by decide +kernel
theorem dL_law_518 : decode cL_law 518 = .ok (.iload_n 3, 1) := by decide +kernel
theorem dL_law_519 : decode cL_law 519 = .ok (.iconst 1, 1) := by decide +kernel
theorem dL_law_520 : decode cL_law 520 = .ok (.iadd, 1) := by decide +kernel
theorem dL_law_521 : decode cL_law 521 = .ok (.iaload, 1) := by decide +kernel
theorem dL_law_522 : decode cL_law 522 = .ok (.aload_n 0, 1) := by decide +kernel
theorem dL_law_523 : decode cL_law 523 = .ok (.iload_n 3, 1) := by decide +kernel
theorem dL_law_524 : decode cL_law 524 = .ok (.iconst 2, 1) := by decide +kernel
theorem dL_law_525 : decode cL_law 525 = .ok (.iadd, 1) := by decide +kernel
theorem dL_law_526 : decode cL_law 526 = .ok (.iaload, 1) := by decide +kernel
theorem dL_law_527 : decode cL_law 527 = .ok (.invokevirtual 54, 3) := by decide +kernel
theorem dL_law_530 : decode cL_law 530 = .ok (.aload_n 2, 1) := by decide +kernel
theorem dL_law_531 : decode cL_law 531 = .ok (.aload_n 0, 1) := by decide +kernel
theorem dL_law_532 : decode cL_law 532 = .ok (.iload_n 3, 1) := by decide +kernel
theorem dL_law_533 : decode cL_law 533 = .ok (.iconst 1, 1) := by decide +kernel
theorem dL_law_534 : decode cL_law 534 = .ok (.iadd, 1) := by decide +kernel
theorem dL_law_535 : decode cL_law 535 = .ok (.iaload, 1) := by decide +kernel
theorem dL_law_536 : decode cL_law 536 = .ok (.aload_n 0, 1) := by decide +kernel
theorem dL_law_537 : decode cL_law 537 = .ok (.iload_n 3, 1) := by decide +kernel
theorem dL_law_538 : decode cL_law 538 = .ok (.iconst 2, 1) := by decide +kernel
theorem dL_law_539 : decode cL_law 539 = .ok (.iadd, 1) := by decide +kernel
theorem dL_law_540 : decode cL_law 540 = .ok (.iaload, 1) := by decide +kernel
theorem dL_law_541 : decode cL_law 541 = .ok (.invokevirtual 57, 3) := by decide +kernel
theorem dL_law_544 : decode cL_law 544 = .ok (.lcmp, 1) := by decide +kernel
theorem dL_law_545 : decode cL_law 545 = .ok (.ifCond .eq 431, 3) := by decide +kernel
theorem dL_law_548 : decode cL_law 548 = .ok (.iconst 0, 1) := by decide +kernel
theorem dL_law_549 : decode cL_law 549 = .ok (.ireturn, 1) := by decide +kernel
theorem dL_law_550 : decode cL_law 550 = .ok (.aload_n 1, 1) := by decide +kernel
theorem dL_law_551 : decode cL_law 551 = .ok (.aload_n 0, 1) := by decide +kernel
theorem dL_law_552 : decode cL_law 552 = .ok (.iload_n 3, 1) := by decide +kernel
theorem dL_law_553 : decode cL_law 553 = .ok (.iconst 1, 1) := by decide +kernel
theorem dL_law_554 : decode cL_law 554 = .ok (.iadd, 1) := by decide +kernel
theorem dL_law_555 : decode cL_law 555 = .ok (.iaload, 1) := by decide +kernel
theorem dL_law_556 : decode cL_law 556 = .ok (.aload_n 0, 1) := by decide +kernel
theorem dL_law_557 : decode cL_law 557 = .ok (.iload_n 3, 1) := by decide +kernel
theorem dL_law_558 : decode cL_law 558 = .ok (.iconst 2, 1) := by decide +kernel
theorem dL_law_559 : decode cL_law 559 = .ok (.iadd, 1) := by decide +kernel
theorem dL_law_560 : decode cL_law 560 = .ok (.iaload, 1) := by decide +kernel
theorem dL_law_561 : decode cL_law 561 = .ok (.invokevirtual 58, 3) := by decide +kernel
theorem dL_law_564 : decode cL_law 564 = .ok (.aload_n 2, 1) := by decide +kernel
theorem dL_law_565 : decode cL_law 565 = .ok (.aload_n 0, 1) := by decide +kernel
theorem dL_law_566 : decode cL_law 566 = .ok (.iload_n 3, 1) := by decide +kernel
theorem dL_law_567 : decode cL_law 567 = .ok (.iconst 1, 1) := by decide +kernel
theorem dL_law_568 : decode cL_law 568 = .ok (.iadd, 1) := by decide +kernel
theorem dL_law_569 : decode cL_law 569 = .ok (.iaload, 1) := by decide +kernel
theorem dL_law_570 : decode cL_law 570 = .ok (.aload_n 0, 1) := by decide +kernel
theorem dL_law_571 : decode cL_law 571 = .ok (.iload_n 3, 1) := by decide +kernel
theorem dL_law_572 : decode cL_law 572 = .ok (.iconst 2, 1) := by decide +kernel
theorem dL_law_573 : decode cL_law 573 = .ok (.iadd, 1) := by decide +kernel
theorem dL_law_574 : decode cL_law 574 = .ok (.iaload, 1) := by decide +kernel
theorem dL_law_575 : decode cL_law 575 = .ok (.invokevirtual 61, 3) := by decide +kernel
theorem dL_law_578 : decode cL_law 578 = .ok (.lcmp, 1) := by decide +kernel
theorem dL_law_579 : decode cL_law 579 = .ok (.ifCond .eq 397, 3) := by decide +kernel
theorem dL_law_582 : decode cL_law 582 = .ok (.iconst 0, 1) := by decide +kernel
theorem dL_law_583 : decode cL_law 583 = .ok (.ireturn, 1) := by decide +kernel
theorem dL_law_584 : decode cL_law 584 = .ok (.aload_n 1, 1) := by decide +kernel
theorem dL_law_585 : decode cL_law 585 = .ok (.aload_n 0, 1) := by decide +kernel
theorem dL_law_586 : decode cL_law 586 = .ok (.iload_n 3, 1) := by decide +kernel
theorem dL_law_587 : decode cL_law 587 = .ok (.iconst 1, 1) := by decide +kernel
theorem dL_law_588 : decode cL_law 588 = .ok (.iadd, 1) := by decide +kernel
theorem dL_law_589 : decode cL_law 589 = .ok (.iaload, 1) := by decide +kernel
theorem dL_law_590 : decode cL_law 590 = .ok (.aload_n 0, 1) := by decide +kernel
theorem dL_law_591 : decode cL_law 591 = .ok (.iload_n 3, 1) := by decide +kernel
theorem dL_law_592 : decode cL_law 592 = .ok (.iconst 2, 1) := by decide +kernel
theorem dL_law_593 : decode cL_law 593 = .ok (.iadd, 1) := by decide +kernel
theorem dL_law_594 : decode cL_law 594 = .ok (.iaload, 1) := by decide +kernel
theorem dL_law_595 : decode cL_law 595 = .ok (.invokevirtual 62, 3) := by decide +kernel
theorem dL_law_598 : decode cL_law 598 = .ok (.aload_n 2, 1) := by decide +kernel
theorem dL_law_599 : decode cL_law 599 = .ok (.aload_n 0, 1) := by decide +kernel
theorem dL_law_600 : decode cL_law 600 = .ok (.iload_n 3, 1) := by decide +kernel
theorem dL_law_601 : decode cL_law 601 = .ok (.iconst 1, 1) := by decide +kernel
theorem dL_law_602 : decode cL_law 602 = .ok (.iadd, 1) := by decide +kernel
theorem dL_law_603 : decode cL_law 603 = .ok (.iaload, 1) := by decide +kernel
theorem dL_law_604 : decode cL_law 604 = .ok (.aload_n 0, 1) := by decide +kernel
theorem dL_law_605 : decode cL_law 605 = .ok (.iload_n 3, 1) := by decide +kernel
theorem dL_law_606 : decode cL_law 606 = .ok (.iconst 2, 1) := by decide +kernel
theorem dL_law_607 : decode cL_law 607 = .ok (.iadd, 1) := by decide +kernel
theorem dL_law_608 : decode cL_law 608 = .ok (.iaload, 1) := by decide +kernel
theorem dL_law_609 : decode cL_law 609 = .ok (.invokevirtual 65, 3) := by decide +kernel
theorem dL_law_612 : decode cL_law 612 = .ok (.lcmp, 1) := by decide +kernel
theorem dL_law_613 : decode cL_law 613 = .ok (.ifCond .eq 363, 3) := by decide +kernel
theorem dL_law_616 : decode cL_law 616 = .ok (.iconst 0, 1) := by decide +kernel
theorem dL_law_617 : decode cL_law 617 = .ok (.ireturn, 1) := by decide +kernel
theorem dL_law_618 : decode cL_law 618 = .ok (.aload_n 1, 1) := by decide +kernel
theorem dL_law_619 : decode cL_law 619 = .ok (.aload_n 0, 1) := by decide +kernel
theorem dL_law_620 : decode cL_law 620 = .ok (.iload_n 3, 1) := by decide +kernel
theorem dL_law_621 : decode cL_law 621 = .ok (.iconst 1, 1) := by decide +kernel
theorem dL_law_622 : decode cL_law 622 = .ok (.iadd, 1) := by decide +kernel
theorem dL_law_623 : decode cL_law 623 = .ok (.iaload, 1) := by decide +kernel
theorem dL_law_624 : decode cL_law 624 = .ok (.aload_n 0, 1) := by decide +kernel
theorem dL_law_625 : decode cL_law 625 = .ok (.iload_n 3, 1) := by decide +kernel
theorem dL_law_626 : decode cL_law 626 = .ok (.iconst 2, 1) := by decide +kernel
theorem dL_law_627 : decode cL_law 627 = .ok (.iadd, 1) := by decide +kernel
theorem dL_law_628 : decode cL_law 628 = .ok (.iaload, 1) := by decide +kernel
theorem dL_law_629 : decode cL_law 629 = .ok (.aload_n 0, 1) := by decide +kernel
theorem dL_law_630 : decode cL_law 630 = .ok (.iload_n 3, 1) := by decide +kernel
theorem dL_law_631 : decode cL_law 631 = .ok (.iconst 3, 1) := by decide +kernel
theorem dL_law_632 : decode cL_law 632 = .ok (.iadd, 1) := by decide +kernel
theorem dL_law_633 : decode cL_law 633 = .ok (.iaload, 1) := by decide +kernel
theorem dL_law_634 : decode cL_law 634 = .ok (.invokevirtual 66, 3) := by decide +kernel
theorem dL_law_637 : decode cL_law 637 = .ok (.aload_n 2, 1) := by decide +kernel
theorem dL_law_638 : decode cL_law 638 = .ok (.aload_n 0, 1) := by decide +kernel
theorem dL_law_639 : decode cL_law 639 = .ok (.iload_n 3, 1) := by decide +kernel
theorem dL_law_640 : decode cL_law 640 = .ok (.iconst 1, 1) := by decide +kernel
theorem dL_law_641 : decode cL_law 641 = .ok (.iadd, 1) := by decide +kernel
theorem dL_law_642 : decode cL_law 642 = .ok (.iaload, 1) := by decide +kernel
theorem dL_law_643 : decode cL_law 643 = .ok (.aload_n 0, 1) := by decide +kernel
theorem dL_law_644 : decode cL_law 644 = .ok (.iload_n 3, 1) := by decide +kernel
theorem dL_law_645 : decode cL_law 645 = .ok (.iconst 2, 1) := by decide +kernel
theorem dL_law_646 : decode cL_law 646 = .ok (.iadd, 1) := by decide +kernel
theorem dL_law_647 : decode cL_law 647 = .ok (.iaload, 1) := by decide +kernel
theorem dL_law_648 : decode cL_law 648 = .ok (.aload_n 0, 1) := by decide +kernel
theorem dL_law_649 : decode cL_law 649 = .ok (.iload_n 3, 1) := by decide +kernel
theorem dL_law_650 : decode cL_law 650 = .ok (.iconst 3, 1) := by decide +kernel
theorem dL_law_651 : decode cL_law 651 = .ok (.iadd, 1) := by decide +kernel
theorem dL_law_652 : decode cL_law 652 = .ok (.iaload, 1) := by decide +kernel
theorem dL_law_653 : decode cL_law 653 = .ok (.invokevirtual 69, 3) := by decide +kernel
theorem dL_law_656 : decode cL_law 656 = .ok (.lcmp, 1) := by decide +kernel
theorem dL_law_657 : decode cL_law 657 = .ok (.ifCond .eq 319, 3) := by decide +kernel
theorem dL_law_660 : decode cL_law 660 = .ok (.iconst 0, 1) := by decide +kernel
theorem dL_law_661 : decode cL_law 661 = .ok (.ireturn, 1) := by decide +kernel
theorem dL_law_662 : decode cL_law 662 = .ok (.aload_n 1, 1) := by decide +kernel
theorem dL_law_663 : decode cL_law 663 = .ok (.aload_n 0, 1) := by decide +kernel
theorem dL_law_664 : decode cL_law 664 = .ok (.iload_n 3, 1) := by decide +kernel
theorem dL_law_665 : decode cL_law 665 = .ok (.iconst 1, 1) := by decide +kernel
theorem dL_law_666 : decode cL_law 666 = .ok (.iadd, 1) := by decide +kernel
theorem dL_law_667 : decode cL_law 667 = .ok (.iaload, 1) := by decide +kernel
theorem dL_law_668 : decode cL_law 668 = .ok (.invokevirtual 70, 3) := by decide +kernel
theorem dL_law_671 : decode cL_law 671 = .ok (.aload_n 2, 1) := by decide +kernel
theorem dL_law_672 : decode cL_law 672 = .ok (.aload_n 0, 1) := by decide +kernel
theorem dL_law_673 : decode cL_law 673 = .ok (.iload_n 3, 1) := by decide +kernel
theorem dL_law_674 : decode cL_law 674 = .ok (.iconst 1, 1) := by decide +kernel
theorem dL_law_675 : decode cL_law 675 = .ok (.iadd, 1) := by decide +kernel
theorem dL_law_676 : decode cL_law 676 = .ok (.iaload, 1) := by decide +kernel
theorem dL_law_677 : decode cL_law 677 = .ok (.invokevirtual 73, 3) := by decide +kernel
theorem dL_law_680 : decode cL_law 680 = .ok (.lcmp, 1) := by decide +kernel
theorem dL_law_681 : decode cL_law 681 = .ok (.ifCond .eq 295, 3) := by decide +kernel
theorem dL_law_684 : decode cL_law 684 = .ok (.iconst 0, 1) := by decide +kernel
theorem dL_law_685 : decode cL_law 685 = .ok (.ireturn, 1) := by decide +kernel
theorem dL_law_686 : decode cL_law 686 = .ok (.aload_n 1, 1) := by decide +kernel
theorem dL_law_687 : decode cL_law 687 = .ok (.aload_n 0, 1) := by decide +kernel
theorem dL_law_688 : decode cL_law 688 = .ok (.iload_n 3, 1) := by decide +kernel
theorem dL_law_689 : decode cL_law 689 = .ok (.iconst 1, 1) := by decide +kernel
theorem dL_law_690 : decode cL_law 690 = .ok (.iadd, 1) := by decide +kernel
theorem dL_law_691 : decode cL_law 691 = .ok (.iaload, 1) := by decide +kernel
theorem dL_law_692 : decode cL_law 692 = .ok (.invokevirtual 74, 3) := by decide +kernel
theorem dL_law_695 : decode cL_law 695 = .ok (.aload_n 2, 1) := by decide +kernel
theorem dL_law_696 : decode cL_law 696 = .ok (.aload_n 0, 1) := by decide +kernel
theorem dL_law_697 : decode cL_law 697 = .ok (.iload_n 3, 1) := by decide +kernel
theorem dL_law_698 : decode cL_law 698 = .ok (.iconst 1, 1) := by decide +kernel
theorem dL_law_699 : decode cL_law 699 = .ok (.iadd, 1) := by decide +kernel
theorem dL_law_700 : decode cL_law 700 = .ok (.iaload, 1) := by decide +kernel
theorem dL_law_701 : decode cL_law 701 = .ok (.invokevirtual 77, 3) := by decide +kernel
theorem dL_law_704 : decode cL_law 704 = .ok (.lcmp, 1) := by decide +kernel
theorem dL_law_705 : decode cL_law 705 = .ok (.ifCond .eq 271, 3) := by decide +kernel
theorem dL_law_708 : decode cL_law 708 = .ok (.iconst 0, 1) := by decide +kernel
theorem dL_law_709 : decode cL_law 709 = .ok (.ireturn, 1) := by decide +kernel
theorem dL_law_710 : decode cL_law 710 = .ok (.aload_n 1, 1) := by decide +kernel
theorem dL_law_711 : decode cL_law 711 = .ok (.aload_n 0, 1) := by decide +kernel
theorem dL_law_712 : decode cL_law 712 = .ok (.iload_n 3, 1) := by decide +kernel
theorem dL_law_713 : decode cL_law 713 = .ok (.iconst 1, 1) := by decide +kernel
theorem dL_law_714 : decode cL_law 714 = .ok (.iadd, 1) := by decide +kernel
theorem dL_law_715 : decode cL_law 715 = .ok (.iaload, 1) := by decide +kernel
theorem dL_law_716 : decode cL_law 716 = .ok (.invokevirtual 78, 3) := by decide +kernel
theorem dL_law_719 : decode cL_law 719 = .ok (.aload_n 2, 1) := by decide +kernel
theorem dL_law_720 : decode cL_law 720 = .ok (.aload_n 0, 1) := by decide +kernel
theorem dL_law_721 : decode cL_law 721 = .ok (.iload_n 3, 1) := by decide +kernel
theorem dL_law_722 : decode cL_law 722 = .ok (.iconst 1, 1) := by decide +kernel
theorem dL_law_723 : decode cL_law 723 = .ok (.iadd, 1) := by decide +kernel
theorem dL_law_724 : decode cL_law 724 = .ok (.iaload, 1) := by decide +kernel
theorem dL_law_725 : decode cL_law 725 = .ok (.invokevirtual 81, 3) := by decide +kernel
theorem dL_law_728 : decode cL_law 728 = .ok (.lcmp, 1) := by decide +kernel
theorem dL_law_729 : decode cL_law 729 = .ok (.ifCond .eq 247, 3) := by decide +kernel
theorem dL_law_732 : decode cL_law 732 = .ok (.iconst 0, 1) := by decide +kernel
theorem dL_law_733 : decode cL_law 733 = .ok (.ireturn, 1) := by decide +kernel
theorem dL_law_734 : decode cL_law 734 = .ok (.aload_n 1, 1) := by decide +kernel
theorem dL_law_735 : decode cL_law 735 = .ok (.aload_n 0, 1) := by decide +kernel
theorem dL_law_736 : decode cL_law 736 = .ok (.iload_n 3, 1) := by decide +kernel
theorem dL_law_737 : decode cL_law 737 = .ok (.iconst 1, 1) := by decide +kernel
theorem dL_law_738 : decode cL_law 738 = .ok (.iadd, 1) := by decide +kernel
theorem dL_law_739 : decode cL_law 739 = .ok (.iaload, 1) := by decide +kernel
theorem dL_law_740 : decode cL_law 740 = .ok (.invokevirtual 82, 3) := by decide +kernel
theorem dL_law_743 : decode cL_law 743 = .ok (.aload_n 2, 1) := by decide +kernel
theorem dL_law_744 : decode cL_law 744 = .ok (.aload_n 0, 1) := by decide +kernel
theorem dL_law_745 : decode cL_law 745 = .ok (.iload_n 3, 1) := by decide +kernel
theorem dL_law_746 : decode cL_law 746 = .ok (.iconst 1, 1) := by decide +kernel
theorem dL_law_747 : decode cL_law 747 = .ok (.iadd, 1) := by decide +kernel
theorem dL_law_748 : decode cL_law 748 = .ok (.iaload, 1) := by decide +kernel
theorem dL_law_749 : decode cL_law 749 = .ok (.invokevirtual 85, 3) := by decide +kernel
theorem dL_law_752 : decode cL_law 752 = .ok (.lcmp, 1) := by decide +kernel
theorem dL_law_753 : decode cL_law 753 = .ok (.ifCond .eq 223, 3) := by decide +kernel
theorem dL_law_756 : decode cL_law 756 = .ok (.iconst 0, 1) := by decide +kernel
theorem dL_law_757 : decode cL_law 757 = .ok (.ireturn, 1) := by decide +kernel
theorem dL_law_758 : decode cL_law 758 = .ok (.aload_n 1, 1) := by decide +kernel
theorem dL_law_759 : decode cL_law 759 = .ok (.aload_n 0, 1) := by decide +kernel
theorem dL_law_760 : decode cL_law 760 = .ok (.iload_n 3, 1) := by decide +kernel
theorem dL_law_761 : decode cL_law 761 = .ok (.iconst 1, 1) := by decide +kernel
theorem dL_law_762 : decode cL_law 762 = .ok (.iadd, 1) := by decide +kernel
theorem dL_law_763 : decode cL_law 763 = .ok (.iaload, 1) := by decide +kernel
theorem dL_law_764 : decode cL_law 764 = .ok (.aload_n 0, 1) := by decide +kernel
theorem dL_law_765 : decode cL_law 765 = .ok (.iload_n 3, 1) := by decide +kernel
theorem dL_law_766 : decode cL_law 766 = .ok (.iconst 2, 1) := by decide +kernel
theorem dL_law_767 : decode cL_law 767 = .ok (.iadd, 1) := by decide +kernel
theorem dL_law_768 : decode cL_law 768 = .ok (.iaload, 1) := by decide +kernel
theorem dL_law_769 : decode cL_law 769 = .ok (.aload_n 0, 1) := by decide +kernel
theorem dL_law_770 : decode cL_law 770 = .ok (.iload_n 3, 1) := by decide +kernel
theorem dL_law_771 : decode cL_law 771 = .ok (.iconst 3, 1) := by decide +kernel
theorem dL_law_772 : decode cL_law 772 = .ok (.iadd, 1) := by decide +kernel
theorem dL_law_773 : decode cL_law 773 = .ok (.iaload, 1) := by decide +kernel
theorem dL_law_774 : decode cL_law 774 = .ok (.aload_n 0, 1) := by decide +kernel
theorem dL_law_775 : decode cL_law 775 = .ok (.iload_n 3, 1) := by decide +kernel
theorem dL_law_776 : decode cL_law 776 = .ok (.iconst 4, 1) := by decide +kernel
theorem dL_law_777 : decode cL_law 777 = .ok (.iadd, 1) := by decide +kernel
theorem dL_law_778 : decode cL_law 778 = .ok (.iaload, 1) := by decide +kernel
theorem dL_law_779 : decode cL_law 779 = .ok (.invokevirtual 86, 3) := by decide +kernel
theorem dL_law_782 : decode cL_law 782 = .ok (.aload_n 2, 1) := by decide +kernel
theorem dL_law_783 : decode cL_law 783 = .ok (.aload_n 0, 1) := by decide +kernel
theorem dL_law_784 : decode cL_law 784 = .ok (.iload_n 3, 1) := by decide +kernel
theorem dL_law_785 : decode cL_law 785 = .ok (.iconst 1, 1) := by decide +kernel
theorem dL_law_786 : decode cL_law 786 = .ok (.iadd, 1) := by decide +kernel
theorem dL_law_787 : decode cL_law 787 = .ok (.iaload, 1) := by decide +kernel
theorem dL_law_788 : decode cL_law 788 = .ok (.aload_n 0, 1) := by decide +kernel
theorem dL_law_789 : decode cL_law 789 = .ok (.iload_n 3, 1) := by decide +kernel
theorem dL_law_790 : decode cL_law 790 = .ok (.iconst 2, 1) := by decide +kernel
theorem dL_law_791 : decode cL_law 791 = .ok (.iadd, 1) := by decide +kernel
theorem dL_law_792 : decode cL_law 792 = .ok (.iaload, 1) := by decide +kernel
theorem dL_law_793 : decode cL_law 793 = .ok (.aload_n 0, 1) := by decide +kernel
theorem dL_law_794 : decode cL_law 794 = .ok (.iload_n 3, 1) := by decide +kernel
theorem dL_law_795 : decode cL_law 795 = .ok (.iconst 3, 1) := by decide +kernel
theorem dL_law_796 : decode cL_law 796 = .ok (.iadd, 1) := by decide +kernel
theorem dL_law_797 : decode cL_law 797 = .ok (.iaload, 1) := by decide +kernel
theorem dL_law_798 : decode cL_law 798 = .ok (.aload_n 0, 1) := by decide +kernel
theorem dL_law_799 : decode cL_law 799 = .ok (.iload_n 3, 1) := by decide +kernel
theorem dL_law_800 : decode cL_law 800 = .ok (.iconst 4, 1) := by decide +kernel
theorem dL_law_801 : decode cL_law 801 = .ok (.iadd, 1) := by decide +kernel
theorem dL_law_802 : decode cL_law 802 = .ok (.iaload, 1) := by decide +kernel
theorem dL_law_803 : decode cL_law 803 = .ok (.invokevirtual 90, 3) := by decide +kernel
theorem dL_law_806 : decode cL_law 806 = .ok (.lcmp, 1) := by decide +kernel
theorem dL_law_807 : decode cL_law 807 = .ok (.ifCond .eq 169, 3) := by decide +kernel
theorem dL_law_810 : decode cL_law 810 = .ok (.iconst 0, 1) := by decide +kernel
theorem dL_law_811 : decode cL_law 811 = .ok (.ireturn, 1) := by decide +kernel
theorem dL_law_812 : decode cL_law 812 = .ok (.aload_n 1, 1) := by decide +kernel
theorem dL_law_813 : decode cL_law 813 = .ok (.aload_n 0, 1) := by decide +kernel
theorem dL_law_814 : decode cL_law 814 = .ok (.iload_n 3, 1) := by decide +kernel
theorem dL_law_815 : decode cL_law 815 = .ok (.iconst 1, 1) := by decide +kernel
theorem dL_law_816 : decode cL_law 816 = .ok (.iadd, 1) := by decide +kernel
theorem dL_law_817 : decode cL_law 817 = .ok (.iaload, 1) := by decide +kernel
theorem dL_law_818 : decode cL_law 818 = .ok (.aload_n 0, 1) := by decide +kernel
theorem dL_law_819 : decode cL_law 819 = .ok (.iload_n 3, 1) := by decide +kernel
theorem dL_law_820 : decode cL_law 820 = .ok (.iconst 2, 1) := by decide +kernel
theorem dL_law_821 : decode cL_law 821 = .ok (.iadd, 1) := by decide +kernel
theorem dL_law_822 : decode cL_law 822 = .ok (.iaload, 1) := by decide +kernel
theorem dL_law_823 : decode cL_law 823 = .ok (.aload_n 0, 1) := by decide +kernel
theorem dL_law_824 : decode cL_law 824 = .ok (.iload_n 3, 1) := by decide +kernel
theorem dL_law_825 : decode cL_law 825 = .ok (.iconst 3, 1) := by decide +kernel
theorem dL_law_826 : decode cL_law 826 = .ok (.iadd, 1) := by decide +kernel
theorem dL_law_827 : decode cL_law 827 = .ok (.iaload, 1) := by decide +kernel
theorem dL_law_828 : decode cL_law 828 = .ok (.invokevirtual 91, 3) := by decide +kernel
theorem dL_law_831 : decode cL_law 831 = .ok (.aload_n 2, 1) := by decide +kernel
theorem dL_law_832 : decode cL_law 832 = .ok (.aload_n 0, 1) := by decide +kernel
theorem dL_law_833 : decode cL_law 833 = .ok (.iload_n 3, 1) := by decide +kernel
theorem dL_law_834 : decode cL_law 834 = .ok (.iconst 1, 1) := by decide +kernel
theorem dL_law_835 : decode cL_law 835 = .ok (.iadd, 1) := by decide +kernel
theorem dL_law_836 : decode cL_law 836 = .ok (.iaload, 1) := by decide +kernel
theorem dL_law_837 : decode cL_law 837 = .ok (.aload_n 0, 1) := by decide +kernel
theorem dL_law_838 : decode cL_law 838 = .ok (.iload_n 3, 1) := by decide +kernel
theorem dL_law_839 : decode cL_law 839 = .ok (.iconst 2, 1) := by decide +kernel
theorem dL_law_840 : decode cL_law 840 = .ok (.iadd, 1) := by decide +kernel
theorem dL_law_841 : decode cL_law 841 = .ok (.iaload, 1) := by decide +kernel
theorem dL_law_842 : decode cL_law 842 = .ok (.aload_n 0, 1) := by decide +kernel
theorem dL_law_843 : decode cL_law 843 = .ok (.iload_n 3, 1) := by decide +kernel
theorem dL_law_844 : decode cL_law 844 = .ok (.iconst 3, 1) := by decide +kernel
theorem dL_law_845 : decode cL_law 845 = .ok (.iadd, 1) := by decide +kernel
theorem dL_law_846 : decode cL_law 846 = .ok (.iaload, 1) := by decide +kernel
theorem dL_law_847 : decode cL_law 847 = .ok (.invokevirtual 94, 3) := by decide +kernel
theorem dL_law_850 : decode cL_law 850 = .ok (.lcmp, 1) := by decide +kernel
theorem dL_law_851 : decode cL_law 851 = .ok (.ifCond .eq 125, 3) := by decide +kernel
theorem dL_law_854 : decode cL_law 854 = .ok (.iconst 0, 1) := by decide +kernel
theorem dL_law_855 : decode cL_law 855 = .ok (.ireturn, 1) := by decide +kernel
theorem dL_law_856 : decode cL_law 856 = .ok (.aload_n 1, 1) := by decide +kernel
theorem dL_law_857 : decode cL_law 857 = .ok (.aload_n 0, 1) := by decide +kernel
theorem dL_law_858 : decode cL_law 858 = .ok (.iload_n 3, 1) := by decide +kernel
theorem dL_law_859 : decode cL_law 859 = .ok (.iconst 1, 1) := by decide +kernel
theorem dL_law_860 : decode cL_law 860 = .ok (.iadd, 1) := by decide +kernel
theorem dL_law_861 : decode cL_law 861 = .ok (.iaload, 1) := by decide +kernel
theorem dL_law_862 : decode cL_law 862 = .ok (.aload_n 0, 1) := by decide +kernel
theorem dL_law_863 : decode cL_law 863 = .ok (.iload_n 3, 1) := by decide +kernel
theorem dL_law_864 : decode cL_law 864 = .ok (.iconst 2, 1) := by decide +kernel
theorem dL_law_865 : decode cL_law 865 = .ok (.iadd, 1) := by decide +kernel
theorem dL_law_866 : decode cL_law 866 = .ok (.iaload, 1) := by decide +kernel
theorem dL_law_867 : decode cL_law 867 = .ok (.invokevirtual 95, 3) := by decide +kernel
theorem dL_law_870 : decode cL_law 870 = .ok (.aload_n 2, 1) := by decide +kernel
theorem dL_law_871 : decode cL_law 871 = .ok (.aload_n 0, 1) := by decide +kernel
theorem dL_law_872 : decode cL_law 872 = .ok (.iload_n 3, 1) := by decide +kernel
theorem dL_law_873 : decode cL_law 873 = .ok (.iconst 1, 1) := by decide +kernel
theorem dL_law_874 : decode cL_law 874 = .ok (.iadd, 1) := by decide +kernel
theorem dL_law_875 : decode cL_law 875 = .ok (.iaload, 1) := by decide +kernel
theorem dL_law_876 : decode cL_law 876 = .ok (.aload_n 0, 1) := by decide +kernel
theorem dL_law_877 : decode cL_law 877 = .ok (.iload_n 3, 1) := by decide +kernel
theorem dL_law_878 : decode cL_law 878 = .ok (.iconst 2, 1) := by decide +kernel
theorem dL_law_879 : decode cL_law 879 = .ok (.iadd, 1) := by decide +kernel
theorem dL_law_880 : decode cL_law 880 = .ok (.iaload, 1) := by decide +kernel
theorem dL_law_881 : decode cL_law 881 = .ok (.invokevirtual 98, 3) := by decide +kernel
theorem dL_law_884 : decode cL_law 884 = .ok (.lcmp, 1) := by decide +kernel
theorem dL_law_885 : decode cL_law 885 = .ok (.ifCond .eq 91, 3) := by decide +kernel
theorem dL_law_888 : decode cL_law 888 = .ok (.iconst 0, 1) := by decide +kernel
theorem dL_law_889 : decode cL_law 889 = .ok (.ireturn, 1) := by decide +kernel
theorem dL_law_890 : decode cL_law 890 = .ok (.aload_n 1, 1) := by decide +kernel
theorem dL_law_891 : decode cL_law 891 = .ok (.aload_n 0, 1) := by decide +kernel
theorem dL_law_892 : decode cL_law 892 = .ok (.iload_n 3, 1) := by decide +kernel
theorem dL_law_893 : decode cL_law 893 = .ok (.iconst 1, 1) := by decide +kernel
theorem dL_law_894 : decode cL_law 894 = .ok (.iadd, 1) := by decide +kernel
theorem dL_law_895 : decode cL_law 895 = .ok (.iaload, 1) := by decide +kernel
theorem dL_law_896 : decode cL_law 896 = .ok (.invokevirtual 99, 3) := by decide +kernel
theorem dL_law_899 : decode cL_law 899 = .ok (.aload_n 2, 1) := by decide +kernel
theorem dL_law_900 : decode cL_law 900 = .ok (.aload_n 0, 1) := by decide +kernel
theorem dL_law_901 : decode cL_law 901 = .ok (.iload_n 3, 1) := by decide +kernel
theorem dL_law_902 : decode cL_law 902 = .ok (.iconst 1, 1) := by decide +kernel
theorem dL_law_903 : decode cL_law 903 = .ok (.iadd, 1) := by decide +kernel
theorem dL_law_904 : decode cL_law 904 = .ok (.iaload, 1) := by decide +kernel
theorem dL_law_905 : decode cL_law 905 = .ok (.invokevirtual 102, 3) := by decide +kernel
theorem dL_law_908 : decode cL_law 908 = .ok (.lcmp, 1) := by decide +kernel
theorem dL_law_909 : decode cL_law 909 = .ok (.ifCond .eq 67, 3) := by decide +kernel
theorem dL_law_912 : decode cL_law 912 = .ok (.iconst 0, 1) := by decide +kernel
theorem dL_law_913 : decode cL_law 913 = .ok (.ireturn, 1) := by decide +kernel
theorem dL_law_914 : decode cL_law 914 = .ok (.aload_n 1, 1) := by decide +kernel
theorem dL_law_915 : decode cL_law 915 = .ok (.invokevirtual 103, 3) := by decide +kernel
theorem dL_law_918 : decode cL_law 918 = .ok (.aload_n 2, 1) := by decide +kernel
theorem dL_law_919 : decode cL_law 919 = .ok (.invokevirtual 107, 3) := by decide +kernel
theorem dL_law_922 : decode cL_law 922 = .ok (.lcmp, 1) := by decide +kernel
theorem dL_law_923 : decode cL_law 923 = .ok (.ifCond .eq 53, 3) := by decide +kernel
theorem dL_law_926 : decode cL_law 926 = .ok (.iconst 0, 1) := by decide +kernel
theorem dL_law_927 : decode cL_law 927 = .ok (.ireturn, 1) := by decide +kernel
theorem dL_law_928 : decode cL_law 928 = .ok (.aload_n 1, 1) := by decide +kernel
theorem dL_law_929 : decode cL_law 929 = .ok (.aload_n 0, 1) := by decide +kernel
theorem dL_law_930 : decode cL_law 930 = .ok (.iload_n 3, 1) := by decide +kernel
theorem dL_law_931 : decode cL_law 931 = .ok (.iconst 1, 1) := by decide +kernel
theorem dL_law_932 : decode cL_law 932 = .ok (.iadd, 1) := by decide +kernel
theorem dL_law_933 : decode cL_law 933 = .ok (.iaload, 1) := by decide +kernel
theorem dL_law_934 : decode cL_law 934 = .ok (.invokevirtual 108, 3) := by decide +kernel
theorem dL_law_937 : decode cL_law 937 = .ok (.aload_n 2, 1) := by decide +kernel
theorem dL_law_938 : decode cL_law 938 = .ok (.aload_n 0, 1) := by decide +kernel
theorem dL_law_939 : decode cL_law 939 = .ok (.iload_n 3, 1) := by decide +kernel
theorem dL_law_940 : decode cL_law 940 = .ok (.iconst 1, 1) := by decide +kernel
theorem dL_law_941 : decode cL_law 941 = .ok (.iadd, 1) := by decide +kernel
theorem dL_law_942 : decode cL_law 942 = .ok (.iaload, 1) := by decide +kernel
theorem dL_law_943 : decode cL_law 943 = .ok (.invokevirtual 111, 3) := by decide +kernel
theorem dL_law_946 : decode cL_law 946 = .ok (.lcmp, 1) := by decide +kernel
theorem dL_law_947 : decode cL_law 947 = .ok (.ifCond .eq 29, 3) := by decide +kernel
theorem dL_law_950 : decode cL_law 950 = .ok (.iconst 0, 1) := by decide +kernel
theorem dL_law_951 : decode cL_law 951 = .ok (.ireturn, 1) := by decide +kernel
theorem dL_law_952 : decode cL_law 952 = .ok (.aload_n 1, 1) := by decide +kernel
theorem dL_law_953 : decode cL_law 953 = .ok (.aload_n 0, 1) := by decide +kernel
theorem dL_law_954 : decode cL_law 954 = .ok (.iload_n 3, 1) := by decide +kernel
theorem dL_law_955 : decode cL_law 955 = .ok (.iconst 1, 1) := by decide +kernel
theorem dL_law_956 : decode cL_law 956 = .ok (.iadd, 1) := by decide +kernel
theorem dL_law_957 : decode cL_law 957 = .ok (.iaload, 1) := by decide +kernel
theorem dL_law_958 : decode cL_law 958 = .ok (.invokevirtual 112, 3) := by decide +kernel
theorem dL_law_961 : decode cL_law 961 = .ok (.aload_n 2, 1) := by decide +kernel
theorem dL_law_962 : decode cL_law 962 = .ok (.aload_n 0, 1) := by decide +kernel
theorem dL_law_963 : decode cL_law 963 = .ok (.iload_n 3, 1) := by decide +kernel
theorem dL_law_964 : decode cL_law 964 = .ok (.iconst 1, 1) := by decide +kernel
theorem dL_law_965 : decode cL_law 965 = .ok (.iadd, 1) := by decide +kernel
theorem dL_law_966 : decode cL_law 966 = .ok (.iaload, 1) := by decide +kernel
theorem dL_law_967 : decode cL_law 967 = .ok (.invokevirtual 115, 3) := by decide +kernel
theorem dL_law_970 : decode cL_law 970 = .ok (.lcmp, 1) := by decide +kernel
theorem dL_law_971 : decode cL_law 971 = .ok (.ifCond .eq 5, 3) := by decide +kernel
theorem dL_law_974 : decode cL_law 974 = .ok (.iconst 0, 1) := by decide +kernel
theorem dL_law_975 : decode cL_law 975 = .ok (.ireturn, 1) := by decide +kernel
theorem dL_law_976 : decode cL_law 976 = .ok (.iinc 3 6, 3) := by decide +kernel
theorem dL_law_979 : decode cL_law 979 = .ok (.goto (-961), 3) := by decide +kernel
theorem dL_law_982 : decode cL_law 982 = .ok (.iconst 1, 1) := by decide +kernel
theorem dL_law_983 : decode cL_law 983 = .ok (.ireturn, 1) := by decide +kernel
end
section
/-! ===== worlds by index: a cell's number, its address, what it holds ===== -/
def gw (α : Nat → Nat) (E : Nat → va_E) (L : List Nat) : va_W := L.map (fun k => (α k, E k))
theorem gw_get {α : Nat → Nat} {E : Nat → va_E} {L : List Nat} (i : Nat) : (gw α E L)[i]? = (L[i]?).map (fun k => (α k, E k)) := by simp [gw]
theorem gw_at {α : Nat → Nat} {E : Nat → va_E} {L : List Nat} {k : Nat} (hk : k ∈ L) : ∃ q0 : Nat, (gw α E L)[q0]? = some (α k, E k) := by
  obtain ⟨i, hi⟩ := List.getElem?_of_mem hk
  exact ⟨i, by rw [gw_get, hi]; rfl⟩
theorem gw_set {A : Nat → Prop} {α : Nat → Nat} {E : Nat → va_E} {L : List Nat} {k q0 : Nat} {e : va_E} (hD : va_D A (gw α E L)) (hk : k ∈ L) (h : (gw α E L)[q0]? = some (α k, E k)) : (gw α E L).set q0 (α k, e) = gw α (va_up E k e) L := by
  obtain ⟨i, hi⟩ := List.getElem?_of_mem hk
  have h1 : (gw α E L)[i]? = some (α k, E k) := by rw [gw_get, hi]; rfl
  have hiq : i = q0 := hD.1 i q0 _ _ h1 h rfl
  subst hiq
  have hlen : i < (gw α E L).length := (List.getElem?_eq_some_iff.mp h1).1
  apply List.ext_getElem?
  intro j
  by_cases hj : j = i
  · subst hj
    rw [List.getElem?_set_self hlen, gw_get, hi]
    simp [va_up]
  · rw [List.getElem?_set_ne (Ne.symm hj), gw_get, gw_get]
    cases hL : L[j]? with
    | none => rfl
    | some k2 =>
      have hne : k2 ≠ k := by
        intro e2
        subst e2
        have h2 : (gw α E L)[j]? = some (α k2, E k2) := by rw [gw_get, hL]; rfl
        exact hj (hD.1 j i _ _ h2 h1 rfl)
      simp [va_up, hne]
/-- which cells a method may change: its world's, and those that it makes -/
def gA (α : Nat → Nat) (L : List Nat) (sz : Nat) : Nat → Prop := fun q => (∃ k, k ∈ L ∧ q = α k) ∨ sz ≤ q
/-- the array classes -/
def gT (G : Nat → ClassId) : List (ClassId × FieldType) := [(G 0, .int), (G 1, .long), (G 2, .boolean), (G 3, .object RX2)]
/-- the calls between nest mates -/
def gNs : List Cond := [.methodLinkNest RX10 9 yX5_init RX10, .methodLinkNest RX10 18 yX1_init RX10, .methodLinkNest RX10 35 yX0_init RX10, .methodLinkNest RX10 42 yX3_init RX10, .methodLinkNest RX10 58 yX7_init RX10, .methodLinkNest RX10 74 yX6_init RX10, .methodLinkNest RX10 81 yX9_init RX10, .methodLinkNest RX5 15 yX10_isWithin RX10, .methodLinkNest RX0 38 yX10_isWithin RX10, .methodLinkNest RX1 28 yX10_isWithin RX10, .methodLinkNest RX4 66 yX10_thousandths RX10, .methodLinkNest RX7 37 yX10_isHolder RX10, .methodLinkNest RX6 19 yX10_isWithin RX10, .methodLinkNest RX6 43 yX10_thousandths RX10]
def gNest (w : Cond) : Prop := ∃ (a : String) (i : Nat) (x : MethodName) (h : String), w = .methodLinkNest a i x h
theorem gNs_nest : ∀ w ∈ gNs, gNest w := by
  intro w hw
  simp only [gNs, List.mem_cons, List.not_mem_nil, or_false] at hw
  rcases hw with rfl | rfl | rfl | rfl | rfl | rfl | rfl | rfl | rfl | rfl | rfl | rfl | rfl | rfl <;> exact ⟨_, _, _, _, rfl⟩
def gN (U : State) : Prop := ∀ w ∈ gNs, va_Nw w U
theorem gN.moved {s U : State} (hW : s.WarmedH U.vm) (h : gN s) : gN U := by
  intro w hw
  have h1 := h w hw
  obtain ⟨a, i, x, hh, rfl⟩ := gNs_nest w hw
  exact va_Nw.warmM hW h1
theorem gN.same {s U : State} (hv : s.vm = U.vm) (h : gN s) : gN U := by
  intro w hw
  have h1 := h w hw
  obtain ⟨a, i, x, hh, rfl⟩ := gNs_nest w hw
  exact va_Nw.same rfl hv h1
/-- the three static rows of the decrees: least and most value, and the value without a decree -/
def gf0 : Nat → Int32 := fun j => if j = 5 then 12 else 0
def gf1 : Nat → Int32 := fun j => if j = 0 then 60 else if j = 5 then 240 else 1000
def gf2 : Nat → Int32 := fun j => if j = 1 then 500 else if j = 2 then 400 else if j = 5 then 180 else 0
def gZ (τ : Nat → Nat) (A : Nat → Prop) (U : State) (H : Heap) : Prop :=
  (va_Z RX1 "LEAST_VALUE" "[I" (.ref (τ 0)) A U H ∧ va_T .int (τ 0) 6 (fun j => .int (gf0 j)) A U H) ∧ (va_Z RX1 "MOST_VALUE" "[I" (.ref (τ 1)) A U H ∧ va_T .int (τ 1) 6 (fun j => .int (gf1 j)) A U H) ∧ (va_Z RX1 "WITHOUT_ONE" "[I" (.ref (τ 2)) A U H ∧ va_T .int (τ 2) 6 (fun j => .int (gf2 j)) A U H)
theorem gZ.to {τ : Nat → Nat} {A A1 : Nat → Prop} {s U : State} {H H1 : Heap} (hv : s.vm.Alike U.vm) (hq : ∀ a : Nat, a < H.size → ¬ A a → H1[a]? = H[a]?) (hA : ∀ q, A1 q → A q) (h : gZ τ A s H) : gZ τ A1 U H1 :=
  ⟨⟨((h.1.1.kept hq).narrow hA).moved hv, ((h.1.2.kept hq).narrow hA).moved hv⟩, ⟨((h.2.1.1.kept hq).narrow hA).moved hv, ((h.2.1.2.kept hq).narrow hA).moved hv⟩, ⟨((h.2.2.1.kept hq).narrow hA).moved hv, ((h.2.2.2.kept hq).narrow hA).moved hv⟩⟩
/-- what every method may rest on beside its world -/
def gE (D : va_G) (G : Nat → ClassId) (τ : Nat → Nat) (A : Nat → Prop) (U : State) (H : Heap) : Prop := gN U ∧ va_AO RX2 U ∧ va_K D vwCl (gT G) U ∧ gZ τ A U H
/-- a method's start -/
def gPc (D : va_G) (G : Nat → ClassId) (τ : Nat → Nat) (av : List Value) (α : Nat → Nat) (E : Nat → va_E) (L : List Nat) (sz : Nat) : Array Value → State → Prop := va_Pc av (fun U => U.heap.size = sz ∧ gE D G τ (gA α L sz) U U.heap ∧ va_P D vwCl (gw α E L) U.heap ∧ va_D (gA α L sz) (gw α E L))
theorem gPc_blind {D : va_G} {G : Nat → ClassId} {τ : Nat → Nat} {av : List Value} {α : Nat → Nat} {E : Nat → va_E} {L : List Nat} {sz : Nat} : FrameBlind (gPc D G τ av α E L sz) := by
  intro a U g mk q
  obtain ⟨q0, q1, ⟨e1, e2, e3, e4⟩, qP, qD⟩ := q
  exact ⟨q0, q1, ⟨gN.same (s := U) (U := U.calling g mk a) rfl e1, va_AO.moved (u := U) (U := U.calling g mk a) (Vm.Alike.refl U.vm) e2, va_K.moved (u := U) (U := U.calling g mk a) (Vm.Alike.refl U.vm) e3, gZ.to (s := U) (U := U.calling g mk a) (Vm.Alike.refl U.vm) (fun _ _ _ => rfl) (fun _ h => h) e4⟩, qP, qD⟩
/-- between a method's instructions -/
def gB (D : va_G) (G : Nat → ClassId) (τ : Nat → Nat) (A : Nat → Prop) (s : State) (H : Heap) (locs : List Loc) (α : Nat → Nat) (E : Nat → va_E) (L : List Nat) : Prop := gE D G τ A s s.heap ∧ va_P D vwCl (gw α E L) H ∧ va_D A (gw α E L) ∧ va_S A s.heap H locs ∧ ∀ q, s.heap.size ≤ q → A q
theorem gB.sub {D : va_G} {G : Nat → ClassId} {τ : Nat → Nat} {A : Nat → Prop} {s : State} {H : Heap} {locs : List Loc} {α : Nat → Nat} {E : Nat → va_E} {L : List Nat} (B : gB D G τ A s H locs α E L) : ∀ q, gA α L H.size q → A q := by
  intro q h
  rcases h with ⟨k, hk, rfl⟩ | h
  · obtain ⟨q0, hq⟩ := gw_at (α := α) (E := E) hk
    exact B.2.2.1.2 q0 _ hq
  · exact B.2.2.2.2 q (Nat.le_trans B.2.2.2.1.1 h)
theorem gB.pre {D : va_G} {G : Nat → ClassId} {τ : Nat → Nat} {A : Nat → Prop} {s : State} {H : Heap} {locs : List Loc} {α : Nat → Nat} {E : Nat → va_E} {L : List Nat} (B : gB D G τ A s H locs α E L) {av : List Value} : ∀ U : State, U.heap = H → s.WarmedH U.vm → gPc D G τ av α E L H.size av.toArray U := by
  intro U hU hW
  refine ⟨rfl, by rw [hU], ⟨gN.moved hW B.1.1, va_AO.moved hW.alike B.1.2.1, va_K.moved hW.alike B.1.2.2.1, ?_⟩, by rw [hU]; exact B.2.1, ⟨B.2.2.1.1, fun k q hk => ?_⟩⟩
  · refine gZ.to hW.alike ?_ B.sub B.1.2.2.2
    intro a h1 h2
    rw [hU]
    exact B.2.2.2.1.2.1 a h1 h2
  · rw [gw_get] at hk
    cases hL : L[k]? with
    | none => rw [hL] at hk; cases hk
    | some k2 =>
      rw [hL] at hk
      cases hk
      exact Or.inl ⟨k2, List.mem_of_getElem? hL, rfl⟩
theorem gB_start {D : va_G} {G : Nat → ClassId} {τ : Nat → Nat} {av : List Value} {α : Nat → Nat} {E : Nat → va_E} {L : List Nat} {sz : Nat} {args : Array Value} {s : State} (h : gPc D G τ av α E L sz args s) : args = av.toArray ∧ s.heap.size = sz ∧ gB D G τ (gA α L sz) s s.heap [] α E L := by
  obtain ⟨h0, h1, h2, h3, h4⟩ := h
  exact ⟨h0, h1, h2, h3, h4, va_S.rf, fun q hq => Or.inr (by omega)⟩
def rmd (d mc ms : Nat) : Room := { frames := d, cells := mc, slots := ms, locals := 37 * d }
/-- a contract out of its body's walk -/
theorem gM {l : Launch} {D : va_G} {G : Nat → ClassId} {τ : Nat → Nat} {α : Nat → Nat} {E : Nat → va_E} {L : List Nat} {sz : Nat} {y : MethodName} {cc : ByteArray} {nL d mc ms : Nat} {ret : Option FieldType} {own : String} (av : List Value) {Qc : Array Value → State → Outcome → State → Prop} {free : Addr → Prop}
    (hy : plainName y.cls = true) (ho : y.cls = own) (hn : (lg_sl av).length ≤ nL)
    (body : ∀ (p : Program) (e : Env) (s : State) (m : MethodId) (below : List Frame) (meth : Method) (c : Code) (ls : Array Slot), CallFix p m c cc nL s av.toArray gL own → meth.sig.returnType = ret → meth.locks = false → meth.name = y.name → s.heap.size = sz → gB D G τ (gA α L sz) s s.heap [] α E L → lv_has ls nL (lv_args 0 av) → W p l e (rmd d mc ms) s m av.toArray below meth c s.heap [] 0 0 (MQ below Qc av.toArray s mc ms free) (F0 m 0 ls [])) :
    Met l y (.code y cc nL ret :: gL) (rmd d mc ms) (gPc D G τ av α E L sz) Qc mc ms free := by
  refine Met.ofW (cc := cc) (maxL := nL) (ret := ret) hy rfl ?_
  intro p e s m args below meth c s₁ B hml hv
  obtain ⟨rfl, hsz, hB⟩ := gB_start hv
  have hts := atoms_spec (ws := .code y cc nL ret :: gL) B.pre
  have hl := lv_entry av (n := nL) hn
  rw [lg_entry_eq]
  subst ho
  exact body p e s m below meth c _ ⟨B.exec, B.bytes, hml, findClass_of_methodNamed B.named, fun w h => hts w (List.mem_cons_of_mem _ h)⟩ B.returns B.notSynchronized (name_of_methodNamed B.named B.method).1 hsz hB hl
theorem gL_V {own C : String} {idx n : Nat} {y : MethodName} {cc : ByteArray} {ret : Option FieldType} (h1 : Cond.methodLink own idx y ∈ gL) (h2 : Cond.instanceMethod y ∈ gL) (h3 : Cond.selects C y y ∈ gL) (h4 : Cond.initialized C ∈ gL) (h5 : Cond.code y cc n ret ∈ gL) : GoodIn gL (wsV own idx C y (.code y cc n ret :: gL)) := by
  intro w hw
  simp only [wsV, List.cons_append, List.nil_append, List.mem_cons] at hw
  rcases hw with rfl | rfl | rfl | rfl | rfl | hw
  · exact gL_good _ h1
  · exact gL_good _ h2
  · exact gL_good _ h3
  · exact gL_good _ h4
  · exact gL_good _ h5
  · exact gL_good _ hw
theorem gL_C {n : Nat} {y : MethodName} {cc : ByteArray} {ret : Option FieldType} (h5 : Cond.code y cc n ret ∈ gL) : GoodIn gL (.code y cc n ret :: gL) := by
  intro w hw
  rcases List.mem_cons.mp hw with rfl | hw
  · exact gL_good _ h5
  · exact gL_good _ hw
theorem gL_S {own : String} {idx n : Nat} {y : MethodName} {cc : ByteArray} {ret : Option FieldType} (h1 : Cond.methodLink own idx y ∈ gL) (h2 : Cond.static y ∈ gL) (h4 : Cond.initialized own ∈ gL) (h5 : Cond.code y cc n ret ∈ gL) : GoodIn gL (wsS own idx y (.code y cc n ret :: gL)) := by
  intro w hw
  simp only [wsS, List.cons_append, List.nil_append, List.mem_cons] at hw
  rcases hw with rfl | rfl | rfl | rfl | hw
  · exact gL_good _ h1
  · exact gL_good _ h2
  · exact gL_good _ h4
  · exact gL_good _ h5
  · exact gL_good _ hw
theorem gwl {own : String} {idx n : Nat} {y : MethodName} {cc : ByteArray} {ret : Option FieldType} (h1 : Cond.methodLink own idx y ∈ gL) (h2 : Cond.static y ∈ gL) (h4 : Cond.initialized y.cls ∈ gL) (h5 : Cond.code y cc n ret ∈ gL) : GoodIn gL (va_wsS own idx y (.code y cc n ret :: gL)) := by
  intro w hw
  simp only [va_wsS, List.cons_append, List.nil_append, List.mem_cons] at hw
  rcases hw with rfl | rfl | rfl | rfl | hw
  · exact gL_good _ h1
  · exact gL_good _ h2
  · exact gL_good _ h4
  · exact gL_good _ h5
  · exact gL_good _ hw
/-- what a method's answer world is: addresses, cells, the cells' numbers -/
abbrev gU : Type := (Nat → Nat) × (Nat → va_E) × List Nat
def gAt (D : va_G) (A : Nat → Prop) (u : gU) (t : State) : Prop := va_P D vwCl (gw u.1 u.2.1 u.2.2) t.heap ∧ va_D A (gw u.1 u.2.1 u.2.2)
/-! contracts: of methods that only read (Ri, Rl), and of those that write (Wv, Wi, Wl) -/
abbrev Ri (l : Launch) (D : va_G) (G : Nat → ClassId) (τ : Nat → Nat) (y : MethodName) (cc : ByteArray) (nL : Nat) (ret : Option FieldType) (d : Nat) (av : List Value) (α : Nat → Nat) (E : Nat → va_E) (L : List Nat) (sz : Nat) (post : Int32 → Prop) : Prop := Met l y (.code y cc nL ret :: gL) (rmd d 0 0) (gPc D G τ av α E L sz) (vp_Si post) 0 0 (fun _ => False)
abbrev Rl (l : Launch) (D : va_G) (G : Nat → ClassId) (τ : Nat → Nat) (y : MethodName) (cc : ByteArray) (nL : Nat) (ret : Option FieldType) (d : Nat) (av : List Value) (α : Nat → Nat) (E : Nat → va_E) (L : List Nat) (sz : Nat) (post : Int64 → Prop) : Prop := Met l y (.code y cc nL ret :: gL) (rmd d 0 0) (gPc D G τ av α E L sz) (vp_Sl post) 0 0 (fun _ => False)
abbrev Rq (l : Launch) (D : va_G) (G : Nat → ClassId) (τ : Nat → Nat) (y : MethodName) (cc : ByteArray) (nL : Nat) (ret : Option FieldType) (d : Nat) (av : List Value) (α : Nat → Nat) (E : Nat → va_E) (L : List Nat) (sz : Nat) (post : Option Nat → Prop) : Prop := Met l y (.code y cc nL ret :: gL) (rmd d 0 0) (gPc D G τ av α E L sz) (va_Sq post) 0 0 (fun _ => False)
abbrev Wi (l : Launch) (D : va_G) (G : Nat → ClassId) (τ : Nat → Nat) (y : MethodName) (cc : ByteArray) (nL : Nat) (ret : Option FieldType) (d mc ms : Nat) (av : List Value) (α : Nat → Nat) (E : Nat → va_E) (L : List Nat) (sz : Nat) (post : Int32 → gU → Prop) : Prop := Met l y (.code y cc nL ret :: gL) (rmd d mc ms) (gPc D G τ av α E L sz) (va_Qi post (gAt D (gA α L sz)) (gA α L sz)) mc ms (gA α L sz)
abbrev Wl (l : Launch) (D : va_G) (G : Nat → ClassId) (τ : Nat → Nat) (y : MethodName) (cc : ByteArray) (nL : Nat) (ret : Option FieldType) (d mc ms : Nat) (av : List Value) (α : Nat → Nat) (E : Nat → va_E) (L : List Nat) (sz : Nat) (post : Int64 → gU → Prop) : Prop := Met l y (.code y cc nL ret :: gL) (rmd d mc ms) (gPc D G τ av α E L sz) (va_Ql post (gAt D (gA α L sz)) (gA α L sz)) mc ms (gA α L sz)
abbrev Wv (l : Launch) (D : va_G) (G : Nat → ClassId) (τ : Nat → Nat) (y : MethodName) (cc : ByteArray) (nL : Nat) (ret : Option FieldType) (d mc ms : Nat) (av : List Value) (α : Nat → Nat) (E : Nat → va_E) (L : List Nat) (sz : Nat) (post : gU → Prop) : Prop := Met l y (.code y cc nL ret :: gL) (rmd d mc ms) (gPc D G τ av α E L sz) (va_Qv post (gAt D (gA α L sz)) (gA α L sz)) mc ms (gA α L sz)
section GLAYER
variable {p : Program} {l : Launch} {e : Env} {R : Room} {s : State} {m : MethodId} {args : Array Value} {below : List Frame} {meth : Method} {c : Code} {H : Heap} {locs : List Loc} {cells slots : Nat} {Q : State → Prop}
variable {cc : ByteArray} {nL : Nat} {own : String} {pc : Nat} {ls : Array Slot} {rest : List Value} {D : va_G} {G : Nat → ClassId} {τ : Nat → Nat} {A : Nat → Prop} {α : Nat → Nat} {E E' : Nat → va_E} {L : List Nat}
theorem g_get (C : CallFix p m c cc nL s args gL own) (B : gB D G τ A s H locs α E L) (k : Nat) (hk : k ∈ L) {ci : Nat} {fs : List Value} (he : E k = .inr (ci, fs)) {Cn : String} {T : u_T} {N index : Nat} (hc : vwCl[ci]? = some (Cn, T, N)) (hin : ∀ w ∈ u_ws Cn T N, w ∈ gL) (f : Nat) (hf : f < N) (hlink : Cond.fieldLink own index (T f).1 (T f).2.1 (T f).2.2.1 ∈ gL) {v : Value} (hv : fs[f]? = some v) (hdg : decode cc pc = .ok (.getfield index, 3))
    (kk : W p l e R s m args below meth c H locs cells slots Q (F0 m (pc + 3) ls (v :: rest))) : W p l e R s m args below meth c H locs cells slots Q (F0 m pc ls (.ref (α k) :: rest)) := by
  obtain ⟨q0, hq⟩ := gw_at (α := α) (E := E) hk
  rw [he] at hq
  exact va_get (D := D) (cl := vwCl) C.1 C.2.1 C.2.2.2.2 hin C.2.2.2.1 B.1.2.2.1 B.2.1 q0 hq hc f hf (C.2.2.2.2 _ hlink) (fun _ h => h) hv hdg kk
theorem g_put (C : CallFix p m c cc nL s args gL own) (B : gB D G τ A s H locs α E L) (k : Nat) (hk : k ∈ L) {ci : Nat} {fs : List Value} (he : E k = .inr (ci, fs)) {Cn : String} {T : u_T} {N index : Nat} (hc : vwCl[ci]? = some (Cn, T, N)) (hin : ∀ w ∈ u_ws Cn T N, w ∈ gL) (ty0 : Nat → FieldType) (hty : ∀ k, k < N → parseFieldDescriptor (T k).2.2.1 = some (ty0 k)) (hnm : ∀ a, a < N → ∀ b, b < N → a ≠ b → (T a).2.1 ≠ (T b).2.1) (f : Nat) (hf : f < N) (hlink : Cond.fieldLink own index (T f).1 (T f).2.1 (T f).2.2.1 ∈ gL) (hfin : (T f).2.2.2 = false) {ty : FieldType} {v : Value} (hd : parseFieldDescriptor (T f).2.2.1 = some ty) (hn : narrow ty v = v) (hfit : fits ty v = true) (hl : f < fs.length) (hdg : decode cc pc = .ok (.putfield index, 3)) (hE : va_up E k (.inr (ci, fs.set f v)) = E')
    (kk : ∀ (H1 : Heap) (locs1 : List Loc), gB D G τ A s H1 locs1 α E' L → W p l e R s m args below meth c H1 locs1 cells slots Q (F0 m (pc + 3) ls rest)) : W p l e R s m args below meth c H locs cells slots Q (F0 m pc ls (v :: .ref (α k) :: rest)) := by
  obtain ⟨q0, hq⟩ := gw_at (α := α) (E := E) hk
  have hset := gw_set (e := .inr (ci, fs.set f v)) B.2.2.1 hk hq
  rw [he] at hq
  refine va_put (D := D) (cl := vwCl) C.1 C.2.1 C.2.2.2.2 hin ty0 hty hnm C.2.2.2.1 B.1.2.2.1 B.2.1 B.2.2.1 B.2.2.2.1 q0 hq hc f hf (C.2.2.2.2 _ hlink) (fun _ h => h) hfin hd hn hfit hl hdg (fun H1 locs1 hP hD hS => ?_)
  rw [hset, hE] at hP hD
  exact kk H1 locs1 ⟨B.1, hP, hD, hS, B.2.2.2.2⟩
theorem g_putF (C : CallFix p m c cc nL s args gL own) (B : gB D G τ A s H locs α E L) (hinit : meth.name = "<init>") (k : Nat) (hk : k ∈ L) {ci : Nat} {fs : List Value} (he : E k = .inr (ci, fs)) {Cn : String} {T : u_T} {N index : Nat} (hc : vwCl[ci]? = some (Cn, T, N)) (hin : ∀ w ∈ u_ws Cn T N, w ∈ gL) (ty0 : Nat → FieldType) (hty : ∀ k, k < N → parseFieldDescriptor (T k).2.2.1 = some (ty0 k)) (hnm : ∀ a, a < N → ∀ b, b < N → a ≠ b → (T a).2.1 ≠ (T b).2.1) (f : Nat) (hf : f < N) (hlink : Cond.fieldLink own index (T f).1 (T f).2.1 (T f).2.2.1 ∈ gL) (hfin : (T f).2.2.2 = true) (hdecl : (T f).1 = own) {ty : FieldType} {v : Value} (hd : parseFieldDescriptor (T f).2.2.1 = some ty) (hn : narrow ty v = v) (hfit : fits ty v = true) (hl : f < fs.length) (hdg : decode cc pc = .ok (.putfield index, 3)) (hE : va_up E k (.inr (ci, fs.set f v)) = E')
    (kk : ∀ (H1 : Heap) (locs1 : List Loc), gB D G τ A s H1 locs1 α E' L → W p l e R s m args below meth c H1 locs1 cells slots Q (F0 m (pc + 3) ls rest)) : W p l e R s m args below meth c H locs cells slots Q (F0 m pc ls (v :: .ref (α k) :: rest)) := by
  obtain ⟨q0, hq⟩ := gw_at (α := α) (E := E) hk
  have hset := gw_set (e := .inr (ci, fs.set f v)) B.2.2.1 hk hq
  rw [he] at hq
  refine va_putF (D := D) (cl := vwCl) C.1 C.2.1 C.2.2.2.2 hin ty0 hty hnm C.2.2.2.1 B.1.2.2.1 B.2.1 B.2.2.1 B.2.2.2.1 q0 hq hc f hf (C.2.2.2.2 _ hlink) (fun _ h => h) hfin hinit hdecl hd hn hfit hl hdg (fun H1 locs1 hP hD hS => ?_)
  rw [hset, hE] at hP hD
  exact kk H1 locs1 ⟨B.1, hP, hD, hS, B.2.2.2.2⟩
theorem g_iald (C : CallFix p m c cc nL s args gL own) (B : gB D G τ A s H locs α E L) (k : Nat) (hk : k ∈ L) {n : Nat} {f : Nat → Int32} (he : E k = .inl (G 0, n, .inl f)) {i : Int32} (hin : vp_in i n) {j : Nat} (hj : i.toNatClampNeg = j) (hdg : decode cc pc = .ok (.iaload, 1))
    (kk : W p l e R s m args below meth c H locs cells slots Q (F0 m (pc + 1) ls (.int (f j) :: rest))) : W p l e R s m args below meth c H locs cells slots Q (F0 m pc ls (.int i :: .ref (α k) :: rest)) := by
  subst hj
  obtain ⟨q0, hq⟩ := gw_at (α := α) (E := E) hk
  rw [he] at hq
  exact va_iald C.1 C.2.1 B.1.2.2.1 B.2.1 q0 0 hq rfl hin hdg kk
theorem g_zald (C : CallFix p m c cc nL s args gL own) (B : gB D G τ A s H locs α E L) (k : Nat) (hk : k ∈ L) {n : Nat} {f : Nat → Int32} (he : E k = .inl (G 2, n, .inl f)) {i : Int32} (hin : vp_in i n) {j : Nat} (hj : i.toNatClampNeg = j) (hdg : decode cc pc = .ok (.baload, 1))
    (kk : W p l e R s m args below meth c H locs cells slots Q (F0 m (pc + 1) ls (.int (f j) :: rest))) : W p l e R s m args below meth c H locs cells slots Q (F0 m pc ls (.int i :: .ref (α k) :: rest)) := by
  subst hj
  obtain ⟨q0, hq⟩ := gw_at (α := α) (E := E) hk
  rw [he] at hq
  exact va_zald C.1 C.2.1 B.1.2.2.1 B.2.1 q0 2 hq rfl hin hdg kk
theorem g_lald (C : CallFix p m c cc nL s args gL own) (B : gB D G τ A s H locs α E L) (k : Nat) (hk : k ∈ L) {n : Nat} {f : Nat → Int64} (he : E k = .inl (G 1, n, .inr (.inl f))) {i : Int32} (hin : vp_in i n) {j : Nat} (hj : i.toNatClampNeg = j) (hdg : decode cc pc = .ok (.laload, 1))
    (kk : W p l e R s m args below meth c H locs cells slots Q (F0 m (pc + 1) ls (.long (f j) :: rest))) : W p l e R s m args below meth c H locs cells slots Q (F0 m pc ls (.int i :: .ref (α k) :: rest)) := by
  subst hj
  obtain ⟨q0, hq⟩ := gw_at (α := α) (E := E) hk
  rw [he] at hq
  exact va_lald C.1 C.2.1 B.1.2.2.1 B.2.1 q0 1 hq rfl hin hdg kk
theorem g_aldq (C : CallFix p m c cc nL s args gL own) (B : gB D G τ A s H locs α E L) (k : Nat) (hk : k ∈ L) {n : Nat} {f : Nat → Option Nat} (he : E k = .inl (G 3, n, .inr (.inr (.inr (.inr f))))) {i : Int32} (hin : vp_in i n) {j : Nat} (hj : i.toNatClampNeg = j) (hdg : decode cc pc = .ok (.aaload, 1))
    (kk : W p l e R s m args below meth c H locs cells slots Q (F0 m (pc + 1) ls (va_rf (f j) :: rest))) : W p l e R s m args below meth c H locs cells slots Q (F0 m pc ls (.int i :: .ref (α k) :: rest)) := by
  subst hj
  obtain ⟨q0, hq⟩ := gw_at (α := α) (E := E) hk
  rw [he] at hq
  exact va_aldq (C := RX2) C.1 C.2.1 B.1.2.2.1 B.2.1 q0 3 hq rfl hin hdg kk
theorem g_iast (C : CallFix p m c cc nL s args gL own) (B : gB D G τ A s H locs α E L) (k : Nat) (hk : k ∈ L) {n : Nat} {f : Nat → Int32} (he : E k = .inl (G 0, n, .inl f)) {i x : Int32} (hin : vp_in i n) {j : Nat} (hj : i.toNatClampNeg = j) (hdg : decode cc pc = .ok (.iastore, 1)) (hE : va_up E k (.inl (G 0, n, .inl (upd f j x))) = E')
    (kk : ∀ (H1 : Heap) (locs1 : List Loc), gB D G τ A s H1 locs1 α E' L → W p l e R s m args below meth c H1 locs1 cells slots Q (F0 m (pc + 1) ls rest)) : W p l e R s m args below meth c H locs cells slots Q (F0 m pc ls (.int x :: .int i :: .ref (α k) :: rest)) := by
  subst hj
  obtain ⟨q0, hq⟩ := gw_at (α := α) (E := E) hk
  have hset := gw_set (e := .inl (G 0, n, .inl (upd f i.toNatClampNeg x))) B.2.2.1 hk hq
  rw [he] at hq
  refine va_iast C.1 C.2.1 B.1.2.2.1 B.2.1 B.2.2.1 B.2.2.2.1 q0 0 hq rfl hin hdg (fun H1 locs1 hP hD hS => ?_)
  rw [hset, hE] at hP hD
  exact kk H1 locs1 ⟨B.1, hP, hD, hS, B.2.2.2.2⟩
theorem g_zast (C : CallFix p m c cc nL s args gL own) (B : gB D G τ A s H locs α E L) (k : Nat) (hk : k ∈ L) {n : Nat} {f : Nat → Int32} (he : E k = .inl (G 2, n, .inl f)) {i x : Int32} (hin : vp_in i n) {j : Nat} (hj : i.toNatClampNeg = j) (hdg : decode cc pc = .ok (.bastore, 1)) (hE : va_up E k (.inl (G 2, n, .inl (upd f j (vp_nar .boolean x)))) = E')
    (kk : ∀ (H1 : Heap) (locs1 : List Loc), gB D G τ A s H1 locs1 α E' L → W p l e R s m args below meth c H1 locs1 cells slots Q (F0 m (pc + 1) ls rest)) : W p l e R s m args below meth c H locs cells slots Q (F0 m pc ls (.int x :: .int i :: .ref (α k) :: rest)) := by
  subst hj
  obtain ⟨q0, hq⟩ := gw_at (α := α) (E := E) hk
  have hset := gw_set (e := .inl (G 2, n, .inl (upd f i.toNatClampNeg (vp_nar .boolean x)))) B.2.2.1 hk hq
  rw [he] at hq
  refine va_zast C.1 C.2.1 B.1.2.2.1 B.2.1 B.2.2.1 B.2.2.2.1 q0 2 hq rfl hin hdg (fun H1 locs1 hP hD hS => ?_)
  rw [hset, hE] at hP hD
  exact kk H1 locs1 ⟨B.1, hP, hD, hS, B.2.2.2.2⟩
theorem g_last (C : CallFix p m c cc nL s args gL own) (B : gB D G τ A s H locs α E L) (k : Nat) (hk : k ∈ L) {n : Nat} {f : Nat → Int64} (he : E k = .inl (G 1, n, .inr (.inl f))) {i : Int32} {x : Int64} (hin : vp_in i n) {j : Nat} (hj : i.toNatClampNeg = j) (hdg : decode cc pc = .ok (.lastore, 1)) (hE : va_up E k (.inl (G 1, n, .inr (.inl (vp_updL f j x)))) = E')
    (kk : ∀ (H1 : Heap) (locs1 : List Loc), gB D G τ A s H1 locs1 α E' L → W p l e R s m args below meth c H1 locs1 cells slots Q (F0 m (pc + 1) ls rest)) : W p l e R s m args below meth c H locs cells slots Q (F0 m pc ls (.long x :: .int i :: .ref (α k) :: rest)) := by
  subst hj
  obtain ⟨q0, hq⟩ := gw_at (α := α) (E := E) hk
  have hset := gw_set (e := .inl (G 1, n, .inr (.inl (vp_updL f i.toNatClampNeg x)))) B.2.2.1 hk hq
  rw [he] at hq
  refine va_last C.1 C.2.1 B.1.2.2.1 B.2.1 B.2.2.1 B.2.2.2.1 q0 1 hq rfl hin hdg (fun H1 locs1 hP hD hS => ?_)
  rw [hset, hE] at hP hD
  exact kk H1 locs1 ⟨B.1, hP, hD, hS, B.2.2.2.2⟩
/-- a static row of the decrees -/
theorem g_sget (C : CallFix p m c cc nL s args gL own) (B : gB D G τ A s H locs α E L) {n : String} {t : Nat} {index : Nat} (hZ : va_Z RX1 n "[I" (.ref t) A s s.heap) (hlink : Cond.fieldLink own index RX1 n "[I" ∈ gL) (hdg : decode cc pc = .ok (.getstatic index, 3))
    (kk : W p l e R s m args below meth c H locs cells slots Q (F0 m (pc + 3) ls (.ref t :: rest))) : W p l e R s m args below meth c H locs cells slots Q (F0 m pc ls rest) :=
  va_gets C.1 C.2.1 hZ B.2.2.2.1 C.2.2.2.1 (C.2.2.2.2 _ hlink) (fun _ h => h) hdg kk
theorem g_sald (C : CallFix p m c cc nL s args gL own) (B : gB D G τ A s H locs α E L) {t : Nat} {f : Nat → Int32} (hT : va_T .int t 6 (fun j => .int (f j)) A s s.heap) {i : Int32} (hin : vp_in i 6) {j : Nat} (hj : i.toNatClampNeg = j) (hdg : decode cc pc = .ok (.iaload, 1))
    (kk : W p l e R s m args below meth c H locs cells slots Q (F0 m (pc + 1) ls (.int (f j) :: rest))) : W p l e R s m args below meth c H locs cells slots Q (F0 m pc ls (.int i :: .ref t :: rest)) := by
  subst hj
  exact va_ti C.1 C.2.1 hT B.2.2.2.1 hin rfl hdg kk
theorem g_ldc (C : CallFix p m c cc nL s args gL own) {index : Nat} {v : Int32} (h : Cond.constant own index v ∈ gL) (hdg : decode cc pc = .ok (.ldc index, 2)) (kk : W p l e R s m args below meth c H locs cells slots Q (F0 m (pc + 2) ls (.int v :: rest))) : W p l e R s m args below meth c H locs cells slots Q (F0 m pc ls rest) := lv_ldc C.1 C.2.1 C.2.2.2.1 (C.2.2.2.2 _ h) hdg kk
theorem g_ldcw (C : CallFix p m c cc nL s args gL own) {index : Nat} {v : Int32} (h : Cond.constant own index v ∈ gL) (hdg : decode cc pc = .ok (.ldc_w index, 3)) (kk : W p l e R s m args below meth c H locs cells slots Q (F0 m (pc + 3) ls (.int v :: rest))) : W p l e R s m args below meth c H locs cells slots Q (F0 m pc ls rest) := lv_ldcw C.1 C.2.1 C.2.2.2.1 (C.2.2.2.2 _ h) hdg kk
theorem g_ldc2 (C : CallFix p m c cc nL s args gL own) {index : Nat} {v : Int64} (h : Cond.constantLong own index v ∈ gL) (hdg : decode cc pc = .ok (.ldc2_w index, 3)) (kk : W p l e R s m args below meth c H locs cells slots Q (F0 m (pc + 3) ls (.long v :: rest))) : W p l e R s m args below meth c H locs cells slots Q (F0 m pc ls rest) := lv_ldc2 C.1 C.2.1 C.2.2.2.1 (C.2.2.2.2 _ h) hdg kk
/-! calls: how each kind runs -/
theorem gr_V (C : CallFix p m c cc nL s args gL own) (B : gB D G τ A s H locs α E L) {y : MethodName} {bytes : ByteArray} {n d mc ms idx k ci na : Nat} {ret : Option FieldType} {As st : List Value} {Qc : Array Value → State → Outcome → State → Prop} {free : Addr → Prop} {Cn : String} {T : u_T} {N : Nat} {fs : List Value}
    (hM : Met l y (.code y bytes n ret :: gL) (rmd d mc ms) (gPc D G τ (.ref (α k) :: As) α E L H.size) Qc mc ms free) (hk : k ∈ L) (he : E k = .inr (ci, fs)) (hc : vwCl[ci]? = some (Cn, T, N))
    (h1 : Cond.methodLink own idx y ∈ gL) (h2 : Cond.instanceMethod y ∈ gL) (h3 : Cond.selects Cn y y ∈ gL) (h4 : Cond.initialized Cn ∈ gL) (h5 : Cond.code y bytes n ret ∈ gL)
    (hd : y.cls = Cn ∧ y.cls ≠ "java/lang/invoke/MethodHandle" ∧ y.cls ≠ "java/lang/invoke/VarHandle" ∧ (parseMethodDescriptor y.desc).map (fun d => d.parameters.length) = some na) (hna : As.length = na)
    (hR : d + 1 ≤ R.frames ∧ 8 + (n + 11) + 37 * d ≤ R.locals) (hz : cells + mc ≤ R.cells ∧ slots + ms ≤ R.slots) (hs : ls.size = nL) (hst : st = As.reverse ++ .ref (α k) :: rest) (hw : (rest.map fun v => v.category).sum ≤ 8) (hdg : decode cc pc = .ok (.invokevirtual idx, 3)) :
    va_Run p l e R s m args below meth c H locs cells slots mc ms (F0 m pc ls st) rest (Qc (Value.ref (α k) :: As).toArray) free := by
  obtain ⟨q0, hq⟩ := gw_at (α := α) (E := E) hk
  rw [he] at hq
  have hp : PreV s H Cn (α k) (gPc D G τ (.ref (α k) :: As) α E L H.size) As := ⟨gPc_blind, va_recv B.1.2.2.1 B.2.1 hc hq, B.pre⟩
  exact va_runV (As := As) (rest := rest) C hM (cwV na C.2.2.2.2 (gL_V h1 h2 h3 h4 h5) rfl rfl rfl hd hR) hp rfl hna hs hst (lv_room hw) hdg hz
theorem gr_S (C : CallFix p m c cc nL s args gL own) (B : gB D G τ A s H locs α E L) {y : MethodName} {bytes : ByteArray} {n d mc ms idx na : Nat} {ret : Option FieldType} {As st : List Value} {Qc : Array Value → State → Outcome → State → Prop} {free : Addr → Prop}
    (hM : Met l y (.code y bytes n ret :: gL) (rmd d mc ms) (gPc D G τ As α E L H.size) Qc mc ms free)
    (h1 : Cond.methodLink own idx y ∈ gL) (h2 : Cond.static y ∈ gL) (h4 : Cond.initialized y.cls ∈ gL) (h5 : Cond.code y bytes n ret ∈ gL)
    (hd : y.cls ≠ "java/lang/invoke/MethodHandle" ∧ y.cls ≠ "java/lang/invoke/VarHandle" ∧ (parseMethodDescriptor y.desc).map (fun d => d.parameters.length) = some na) (hna : As.length = na)
    (hR : d + 1 ≤ R.frames ∧ 8 + (n + 11) + 37 * d ≤ R.locals) (hz : cells + mc ≤ R.cells ∧ slots + ms ≤ R.slots) (hs : ls.size = nL) (hst : st = As.reverse ++ rest) (hw : (rest.map fun v => v.category).sum ≤ 8) (hdg : decode cc pc = .ok (.invokestatic idx, 3)) :
    va_Run p l e R s m args below meth c H locs cells slots mc ms (F0 m pc ls st) rest (Qc As.toArray) free :=
  va_runS (As := As) (rest := rest) C hM (va_cwS na C.2.2.2.2 (gwl h1 h2 h4 h5) rfl rfl rfl hd hR) ⟨gPc_blind, B.pre⟩ rfl hna hs hst (lv_room hw) hdg hz
theorem gr_SN (C : CallFix p m c cc nL s args gL own) (B : gB D G τ A s H locs α E L) {y : MethodName} {host : String} {bytes : ByteArray} {n d mc ms idx na : Nat} {ret : Option FieldType} {As st : List Value} {Qc : Array Value → State → Outcome → State → Prop} {free : Addr → Prop}
    (hM : Met l y (.code y bytes n ret :: gL) (rmd d mc ms) (gPc D G τ As α E L H.size) Qc mc ms free)
    (h1 : Cond.methodLinkNest own idx y host ∈ gNs) (h2 : Cond.static y ∈ gL) (h4 : Cond.initialized y.cls ∈ gL) (h5 : Cond.code y bytes n ret ∈ gL)
    (hd : y.cls ≠ "java/lang/invoke/MethodHandle" ∧ y.cls ≠ "java/lang/invoke/VarHandle" ∧ (parseMethodDescriptor y.desc).map (fun d => d.parameters.length) = some na) (hna : As.length = na)
    (hR : d + 1 ≤ R.frames ∧ 8 + (n + 11) + 37 * d ≤ R.locals) (hz : cells + mc ≤ R.cells ∧ slots + ms ≤ R.slots) (hs : ls.size = nL) (hst : st = As.reverse ++ rest) (hw : (rest.map fun v => v.category).sum ≤ 8) (hdg : decode cc pc = .ok (.invokestatic idx, 3)) :
    va_Run p l e R s m args below meth c H locs cells slots mc ms (F0 m pc ls st) rest (Qc As.toArray) free :=
  va_runSN (As := As) (rest := rest) C hM ⟨va_cnB na C.2.2.2.2 (gL_C h5) rfl rfl rfl (B.1.1 _ h1) (C.2.2.2.2 _ h4) hd hR, C.2.2.2.2 _ h2, trivial⟩ ⟨gPc_blind, B.pre⟩ rfl hna hs hst (lv_room hw) hdg hz
/-! what comes back -/
theorem gc_i {post : Int32 → Prop} {a : Array Value} {st0 : List Value} (hr : va_Run p l e R s m args below meth c H locs cells slots 0 0 (F0 m pc ls st0) rest (vp_Si post a) (fun _ => False)) (kk : ∀ r : Int32, post r → W p l e R s m args below meth c H locs cells slots Q (F0 m (pc + 3) ls (.int r :: rest))) : W p l e R s m args below meth c H locs cells slots Q (F0 m pc ls st0) := vp_callSi hr.run kk
theorem gc_l {post : Int64 → Prop} {a : Array Value} {st0 : List Value} (hr : va_Run p l e R s m args below meth c H locs cells slots 0 0 (F0 m pc ls st0) rest (vp_Sl post a) (fun _ => False)) (kk : ∀ r : Int64, post r → W p l e R s m args below meth c H locs cells slots Q (F0 m (pc + 3) ls (.long r :: rest))) : W p l e R s m args below meth c H locs cells slots Q (F0 m pc ls st0) := vp_callSl hr.run kk
theorem gc_q {post : Option Nat → Prop} {a : Array Value} {st0 : List Value} (hr : va_Run p l e R s m args below meth c H locs cells slots 0 0 (F0 m pc ls st0) rest (va_Sq post a) (fun _ => False)) (kk : ∀ r : Option Nat, post r → W p l e R s m args below meth c H locs cells slots Q (F0 m (pc + 3) ls (va_rf r :: rest))) : W p l e R s m args below meth c H locs cells slots Q (F0 m pc ls st0) := va_csq hr.run kk
def bI (P : Prop) [Decidable P] : Int32 := if P then 1 else 0
theorem gc_b {P : Prop} [Decidable P] {a : Array Value} {st0 : List Value} (hr : va_Run p l e R s m args below meth c H locs cells slots 0 0 (F0 m pc ls st0) rest (vp_Si (fun r => r = bI P) a) (fun _ => False)) (kt : P → W p l e R s m args below meth c H locs cells slots Q (F0 m (pc + 3) ls (.int 1 :: rest))) (kf : ¬ P → W p l e R s m args below meth c H locs cells slots Q (F0 m (pc + 3) ls (.int 0 :: rest))) : W p l e R s m args below meth c H locs cells slots Q (F0 m pc ls st0) := by
  refine gc_i hr (fun r h => ?_)
  by_cases hP : P
  · rw [h, bI, if_pos hP]; exact kt hP
  · rw [h, bI, if_neg hP]; exact kf hP
theorem gc_o {oI : Option Nat → Int32} {o : Option Nat} {a : Array Value} {st0 : List Value} (hr : va_Run p l e R s m args below meth c H locs cells slots 0 0 (F0 m pc ls st0) rest (vp_Si (fun r => r = oI o) a) (fun _ => False)) (kn : o = none → W p l e R s m args below meth c H locs cells slots Q (F0 m (pc + 3) ls (.int (oI none) :: rest))) (ks : ∀ f : Nat, o = some f → W p l e R s m args below meth c H locs cells slots Q (F0 m (pc + 3) ls (.int (oI (some f)) :: rest))) : W p l e R s m args below meth c H locs cells slots Q (F0 m pc ls st0) := by
  refine gc_i hr (fun r h => ?_)
  subst h
  cases o with
  | none => exact kn rfl
  | some f => exact ks f rfl
theorem gB.back (B : gB D G τ A s H locs α E L) {u : gU} {t : State} {H1 : Heap} {locs1 : List Loc} (ht : t.heap = H1) (hB : gAt D (gA α L H.size) u t) (hS : va_S A s.heap H1 locs1) : gB D G τ A s H1 locs1 u.1 u.2.1 u.2.2 := by
  obtain ⟨h1, h2⟩ := hB
  rw [ht] at h1
  exact ⟨B.1, h1, h2.weaken (fun _ _ _ h => B.sub _ h), hS, B.2.2.2.2⟩
theorem gc_wl {post : Int64 → gU → Prop} {a : Array Value} {st0 : List Value} {mc ms : Nat} (B : gB D G τ A s H locs α E L) (hr : va_Run p l e R s m args below meth c H locs cells slots mc ms (F0 m pc ls st0) rest (va_Ql post (gAt D (gA α L H.size)) (gA α L H.size) a) (gA α L H.size)) (kk : ∀ (r : Int64) (u : gU), post r u → ∀ (H1 : Heap) (locs1 : List Loc), gB D G τ A s H1 locs1 u.1 u.2.1 u.2.2 → W p l e R s m args below meth c H1 locs1 (cells + mc) (slots + ms) Q (F0 m (pc + 3) ls (.long r :: rest))) : W p l e R s m args below meth c H locs cells slots Q (F0 m pc ls st0) :=
  va_calll hr B.2.2.2.1 (fun q _ h => B.sub q h) B.sub (fun r u t H1 locs1 ht _ hp hB _ _ hS => kk r u hp H1 locs1 (B.back ht hB hS))
theorem gc_wi {post : Int32 → gU → Prop} {a : Array Value} {st0 : List Value} {mc ms : Nat} (B : gB D G τ A s H locs α E L) (hr : va_Run p l e R s m args below meth c H locs cells slots mc ms (F0 m pc ls st0) rest (va_Qi post (gAt D (gA α L H.size)) (gA α L H.size) a) (gA α L H.size)) (kk : ∀ (r : Int32) (u : gU), post r u → ∀ (H1 : Heap) (locs1 : List Loc), gB D G τ A s H1 locs1 u.1 u.2.1 u.2.2 → W p l e R s m args below meth c H1 locs1 (cells + mc) (slots + ms) Q (F0 m (pc + 3) ls (.int r :: rest))) : W p l e R s m args below meth c H locs cells slots Q (F0 m pc ls st0) :=
  va_calli hr B.2.2.2.1 (fun q _ h => B.sub q h) B.sub (fun r u t H1 locs1 ht _ hp hB _ _ hS => kk r u hp H1 locs1 (B.back ht hB hS))
theorem gc_wv {post : gU → Prop} {a : Array Value} {st0 : List Value} {mc ms : Nat} (B : gB D G τ A s H locs α E L) (hr : va_Run p l e R s m args below meth c H locs cells slots mc ms (F0 m pc ls st0) rest (va_Qv post (gAt D (gA α L H.size)) (gA α L H.size) a) (gA α L H.size)) (kk : ∀ (u : gU), post u → ∀ (H1 : Heap) (locs1 : List Loc), gB D G τ A s H1 locs1 u.1 u.2.1 u.2.2 → W p l e R s m args below meth c H1 locs1 (cells + mc) (slots + ms) Q (F0 m (pc + 3) ls rest)) : W p l e R s m args below meth c H locs cells slots Q (F0 m pc ls st0) :=
  va_callv hr B.2.2.2.1 (fun q _ h => B.sub q h) B.sub (fun u t H1 locs1 ht _ hp hB _ _ hS => kk u hp H1 locs1 (B.back ht hB hS))
/-! the ends -/
theorem ge_i (C : CallFix p m c cc nL s args gL own) {ty : FieldType} {v : Int32} {post : Int32 → Prop} (hr : meth.sig.returnType = some ty) (hn : narrow ty (.int v) = .int v) (hlk : meth.locks = false) (hp : post v) (hdg : decode cc pc = .ok (.ireturn, 1)) : W p l e R s m args below meth c s.heap [] cells slots (MQ below (vp_Si post) args s cells slots (fun _ => False)) (F0 m pc ls [.int v]) :=
  W.zret C.1 C.2.1 hr hn (fun t ht _ => ⟨v, rfl, hp, ht⟩) (fun q h => by cases h) hdg hlk
theorem ge_l (C : CallFix p m c cc nL s args gL own) {v : Int64} {post : Int64 → Prop} (hr : meth.sig.returnType = some .long) (hlk : meth.locks = false) (hp : post v) (hdg : decode cc pc = .ok (.lreturn, 1)) : W p l e R s m args below meth c s.heap [] cells slots (MQ below (vp_Sl post) args s cells slots (fun _ => False)) (F0 m pc ls [.long v]) :=
  W.lret C.1 C.2.1 hr (fun t ht _ => ⟨v, rfl, hp, ht⟩) (fun q h => by cases h) hdg hlk
theorem ge_wl (C : CallFix p m c cc nL s args gL own) (B : gB D G τ A s H locs α E L) {v : Int64} {post : Int64 → gU → Prop} (hr : meth.sig.returnType = some .long) (hlk : meth.locks = false) (hp : post v (α, E, L)) (hdg : decode cc pc = .ok (.lreturn, 1)) : W p l e R s m args below meth c H locs cells slots (MQ below (va_Ql post (gAt D A) A) args s cells slots A) (F0 m pc ls [.long v]) :=
  W.lret C.1 C.2.1 hr (fun t ht _ => ⟨⟨v, (α, E, L), rfl, hp, by rw [ht]; exact B.2.1, B.2.2.1⟩, B.2.2.2.1.F ht⟩) B.2.2.2.1.2.2 hdg hlk
theorem ge_wi (C : CallFix p m c cc nL s args gL own) (B : gB D G τ A s H locs α E L) {ty : FieldType} {v : Int32} {post : Int32 → gU → Prop} (hr : meth.sig.returnType = some ty) (hn : narrow ty (.int v) = .int v) (hlk : meth.locks = false) (hp : post v (α, E, L)) (hdg : decode cc pc = .ok (.ireturn, 1)) : W p l e R s m args below meth c H locs cells slots (MQ below (va_Qi post (gAt D A) A) args s cells slots A) (F0 m pc ls [.int v]) :=
  W.zret C.1 C.2.1 hr hn (fun t ht _ => ⟨⟨v, (α, E, L), rfl, hp, by rw [ht]; exact B.2.1, B.2.2.1⟩, B.2.2.2.1.F ht⟩) B.2.2.2.1.2.2 hdg hlk
theorem ge_wv (C : CallFix p m c cc nL s args gL own) (B : gB D G τ A s H locs α E L) {post : gU → Prop} (hr : meth.sig.returnType = none) (hlk : meth.locks = false) (hp : post (α, E, L)) (hdg : decode cc pc = .ok (.return_, 1)) : W p l e R s m args below meth c H locs cells slots (MQ below (va_Qv post (gAt D A) A) args s cells slots A) (F0 m pc ls []) :=
  W.vret C.1 C.2.1 hr (fun t ht _ => ⟨⟨(α, E, L), rfl, hp, by rw [ht]; exact B.2.1, B.2.2.1⟩, B.2.2.2.1.F ht⟩) B.2.2.2.1.2.2 hdg hlk
end GLAYER
end
section
/-! ===== the state: ints, longs, rows of ints, rows of longs, by the reference's field numbers ===== -/
abbrev St : Type := (Nat → Int32) × (Nat → Int64) × (Nat → Nat → Int32) × (Nat → Nat → Int64)
def uI (S : St) (k : Nat) (x : Int32) : St := (va_up S.1 k x, S.2.1, S.2.2.1, S.2.2.2)
def uJ (S : St) (k : Nat) (x : Int64) : St := (S.1, va_up S.2.1 k x, S.2.2.1, S.2.2.2)
def uA (S : St) (k : Nat) (f : Nat → Int32) : St := (S.1, S.2.1, va_up S.2.2.1 k f, S.2.2.2)
def uB (S : St) (k : Nat) (f : Nat → Int64) : St := (S.1, S.2.1, S.2.2.1, va_up S.2.2.2 k f)
theorem up_lit {α : Type} (f : Nat → α) (k : Nat) (v : α) (j : Nat) : va_up f k v j = if j = k then v else f j := rfl
/-- the numbers of the reference's cells: the object is 0, a row has its field's number -/
def Lm : List Nat := [0, 1, 3, 4, 5, 6, 7, 9, 11, 12, 13, 14, 16, 17, 18, 19, 20, 21, 22, 23, 24, 25, 26, 27, 33, 34, 35, 36, 38, 39, 40]
def mF (α : Nat → Nat) (S : St) : List Value := [.int (S.1 0), .ref (α 1), .int (S.1 2), .ref (α 3), .ref (α 4), .ref (α 5), .ref (α 6), .ref (α 7), .int (S.1 8), .ref (α 9), .int (S.1 10), .ref (α 11), .ref (α 12), .ref (α 13), .ref (α 14), .int (S.1 15), .ref (α 16), .ref (α 17), .ref (α 18), .ref (α 19), .ref (α 20), .ref (α 21), .ref (α 22), .ref (α 23), .ref (α 24), .ref (α 25), .ref (α 26), .ref (α 27), .long (S.2.1 28), .long (S.2.1 29), .long (S.2.1 30), .long (S.2.1 31), .int (S.1 32), .ref (α 33), .ref (α 34), .ref (α 35), .ref (α 36), .int (S.1 37), .ref (α 38), .ref (α 39), .ref (α 40), .long (S.2.1 41), .long (S.2.1 42)]
def mC (G : Nat → ClassId) (α : Nat → Nat) (S : St) : List va_E := [.inr (11, mF α S), .inl (G 0, 6, .inl (S.2.2.1 1)), .inr (0, []), .inl (G 0, 60, .inl (S.2.2.1 3)), .inl (G 0, 60, .inl (S.2.2.1 4)), .inl (G 0, 60, .inl (S.2.2.1 5)), .inl (G 0, 60, .inl (S.2.2.1 6)), .inl (G 0, 21, .inl (S.2.2.1 7)), .inr (0, []), .inl (G 0, 30, .inl (S.2.2.1 9)), .inr (0, []), .inl (G 0, 90, .inl (S.2.2.1 11)), .inl (G 0, 90, .inl (S.2.2.1 12)), .inl (G 0, 90, .inl (S.2.2.1 13)), .inl (G 0, 90, .inl (S.2.2.1 14)), .inr (0, []), .inl (G 0, 30, .inl (S.2.2.1 16)), .inl (G 0, 30, .inl (S.2.2.1 17)), .inl (G 0, 30, .inl (S.2.2.1 18)), .inl (G 0, 30, .inl (S.2.2.1 19)), .inl (G 1, 30, .inr (.inl (S.2.2.2 20))), .inl (G 0, 30, .inl (S.2.2.1 21)), .inl (G 0, 30, .inl (S.2.2.1 22)), .inl (G 1, 30, .inr (.inl (S.2.2.2 23))), .inl (G 2, 30, .inl (S.2.2.1 24)), .inl (G 0, 30, .inl (S.2.2.1 25)), .inl (G 0, 210, .inl (S.2.2.1 26)), .inl (G 0, 210, .inl (S.2.2.1 27)), .inr (0, []), .inr (0, []), .inr (0, []), .inr (0, []), .inr (0, []), .inl (G 1, 10, .inr (.inl (S.2.2.2 33))), .inl (G 0, 21, .inl (S.2.2.1 34)), .inl (G 0, 21, .inl (S.2.2.1 35)), .inl (G 0, 21, .inl (S.2.2.1 36)), .inr (0, []), .inl (G 0, 30, .inl (S.2.2.1 38)), .inl (G 2, 30, .inl (S.2.2.1 39)), .inl (G 1, 30, .inr (.inl (S.2.2.2 40))), .inr (0, []), .inr (0, [])]
def cJ (l : List va_E) (dep : Nat → va_E) : Nat → va_E := fun k => match l[k]? with
  | some e => e
  | none => dep k
theorem cJ_set {l : List va_E} {dep : Nat → va_E} {k : Nat} {e : va_E} (hk : k < l.length) : va_up (cJ l dep) k e = cJ (l.set k e) dep := by
  funext j
  by_cases hj : j = k
  · subst hj
    simp [va_up, cJ, List.getElem?_set_self hk]
  · simp [va_up, cJ, hj, List.getElem?_set_ne (Ne.symm hj)]
theorem cJ_setD {l : List va_E} {dep : Nat → va_E} {k : Nat} {e : va_E} (hk : l.length ≤ k) : va_up (cJ l dep) k e = cJ l (va_up dep k e) := by
  funext j
  by_cases hj : j = k
  · subst hj
    simp [va_up, cJ, List.getElem?_eq_none hk]
  · simp only [va_up, cJ, if_neg hj]
theorem cJ_out {l : List va_E} {dep : Nat → va_E} {k : Nat} (hk : l.length ≤ k) : cJ l dep k = dep k := by
  simp [cJ, List.getElem?_eq_none hk]
/-- the reference's cells -/
def mE (G : Nat → ClassId) (α : Nat → Nat) (S : St) : Nat → va_E := cJ (mC G α S) (fun _ => .inr (0, []))
section MST
variable {G : Nat → ClassId} {α : Nat → Nat} {S : St}
theorem mE_0 : mE G α S 0 = .inr (11, mF α S) := rfl
theorem mE_1 : mE G α S 1 = .inl (G 0, 6, .inl (S.2.2.1 1)) := rfl
theorem mE_3 : mE G α S 3 = .inl (G 0, 60, .inl (S.2.2.1 3)) := rfl
theorem mE_4 : mE G α S 4 = .inl (G 0, 60, .inl (S.2.2.1 4)) := rfl
theorem mE_5 : mE G α S 5 = .inl (G 0, 60, .inl (S.2.2.1 5)) := rfl
theorem mE_6 : mE G α S 6 = .inl (G 0, 60, .inl (S.2.2.1 6)) := rfl
theorem mE_7 : mE G α S 7 = .inl (G 0, 21, .inl (S.2.2.1 7)) := rfl
theorem mE_9 : mE G α S 9 = .inl (G 0, 30, .inl (S.2.2.1 9)) := rfl
theorem mE_11 : mE G α S 11 = .inl (G 0, 90, .inl (S.2.2.1 11)) := rfl
theorem mE_12 : mE G α S 12 = .inl (G 0, 90, .inl (S.2.2.1 12)) := rfl
theorem mE_13 : mE G α S 13 = .inl (G 0, 90, .inl (S.2.2.1 13)) := rfl
theorem mE_14 : mE G α S 14 = .inl (G 0, 90, .inl (S.2.2.1 14)) := rfl
theorem mE_16 : mE G α S 16 = .inl (G 0, 30, .inl (S.2.2.1 16)) := rfl
theorem mE_17 : mE G α S 17 = .inl (G 0, 30, .inl (S.2.2.1 17)) := rfl
theorem mE_18 : mE G α S 18 = .inl (G 0, 30, .inl (S.2.2.1 18)) := rfl
theorem mE_19 : mE G α S 19 = .inl (G 0, 30, .inl (S.2.2.1 19)) := rfl
theorem mE_20 : mE G α S 20 = .inl (G 1, 30, .inr (.inl (S.2.2.2 20))) := rfl
theorem mE_21 : mE G α S 21 = .inl (G 0, 30, .inl (S.2.2.1 21)) := rfl
theorem mE_22 : mE G α S 22 = .inl (G 0, 30, .inl (S.2.2.1 22)) := rfl
theorem mE_23 : mE G α S 23 = .inl (G 1, 30, .inr (.inl (S.2.2.2 23))) := rfl
theorem mE_24 : mE G α S 24 = .inl (G 2, 30, .inl (S.2.2.1 24)) := rfl
theorem mE_25 : mE G α S 25 = .inl (G 0, 30, .inl (S.2.2.1 25)) := rfl
theorem mE_26 : mE G α S 26 = .inl (G 0, 210, .inl (S.2.2.1 26)) := rfl
theorem mE_27 : mE G α S 27 = .inl (G 0, 210, .inl (S.2.2.1 27)) := rfl
theorem mE_33 : mE G α S 33 = .inl (G 1, 10, .inr (.inl (S.2.2.2 33))) := rfl
theorem mE_34 : mE G α S 34 = .inl (G 0, 21, .inl (S.2.2.1 34)) := rfl
theorem mE_35 : mE G α S 35 = .inl (G 0, 21, .inl (S.2.2.1 35)) := rfl
theorem mE_36 : mE G α S 36 = .inl (G 0, 21, .inl (S.2.2.1 36)) := rfl
theorem mE_38 : mE G α S 38 = .inl (G 0, 30, .inl (S.2.2.1 38)) := rfl
theorem mE_39 : mE G α S 39 = .inl (G 2, 30, .inl (S.2.2.1 39)) := rfl
theorem mE_40 : mE G α S 40 = .inl (G 1, 30, .inr (.inl (S.2.2.2 40))) := rfl
theorem mF_0 : (mF α S)[0]? = some (.int (S.1 0)) := rfl
theorem mF_1 : (mF α S)[1]? = some (.ref (α 1)) := rfl
theorem mF_2 : (mF α S)[2]? = some (.int (S.1 2)) := rfl
theorem mF_3 : (mF α S)[3]? = some (.ref (α 3)) := rfl
theorem mF_4 : (mF α S)[4]? = some (.ref (α 4)) := rfl
theorem mF_5 : (mF α S)[5]? = some (.ref (α 5)) := rfl
theorem mF_6 : (mF α S)[6]? = some (.ref (α 6)) := rfl
theorem mF_7 : (mF α S)[7]? = some (.ref (α 7)) := rfl
theorem mF_8 : (mF α S)[8]? = some (.int (S.1 8)) := rfl
theorem mF_9 : (mF α S)[9]? = some (.ref (α 9)) := rfl
theorem mF_10 : (mF α S)[10]? = some (.int (S.1 10)) := rfl
theorem mF_11 : (mF α S)[11]? = some (.ref (α 11)) := rfl
theorem mF_12 : (mF α S)[12]? = some (.ref (α 12)) := rfl
theorem mF_13 : (mF α S)[13]? = some (.ref (α 13)) := rfl
theorem mF_14 : (mF α S)[14]? = some (.ref (α 14)) := rfl
theorem mF_15 : (mF α S)[15]? = some (.int (S.1 15)) := rfl
theorem mF_16 : (mF α S)[16]? = some (.ref (α 16)) := rfl
theorem mF_17 : (mF α S)[17]? = some (.ref (α 17)) := rfl
theorem mF_18 : (mF α S)[18]? = some (.ref (α 18)) := rfl
theorem mF_19 : (mF α S)[19]? = some (.ref (α 19)) := rfl
theorem mF_20 : (mF α S)[20]? = some (.ref (α 20)) := rfl
theorem mF_21 : (mF α S)[21]? = some (.ref (α 21)) := rfl
theorem mF_22 : (mF α S)[22]? = some (.ref (α 22)) := rfl
theorem mF_23 : (mF α S)[23]? = some (.ref (α 23)) := rfl
theorem mF_24 : (mF α S)[24]? = some (.ref (α 24)) := rfl
theorem mF_25 : (mF α S)[25]? = some (.ref (α 25)) := rfl
theorem mF_26 : (mF α S)[26]? = some (.ref (α 26)) := rfl
theorem mF_27 : (mF α S)[27]? = some (.ref (α 27)) := rfl
theorem mF_28 : (mF α S)[28]? = some (.long (S.2.1 28)) := rfl
theorem mF_29 : (mF α S)[29]? = some (.long (S.2.1 29)) := rfl
theorem mF_30 : (mF α S)[30]? = some (.long (S.2.1 30)) := rfl
theorem mF_31 : (mF α S)[31]? = some (.long (S.2.1 31)) := rfl
theorem mF_32 : (mF α S)[32]? = some (.int (S.1 32)) := rfl
theorem mF_33 : (mF α S)[33]? = some (.ref (α 33)) := rfl
theorem mF_34 : (mF α S)[34]? = some (.ref (α 34)) := rfl
theorem mF_35 : (mF α S)[35]? = some (.ref (α 35)) := rfl
theorem mF_36 : (mF α S)[36]? = some (.ref (α 36)) := rfl
theorem mF_37 : (mF α S)[37]? = some (.int (S.1 37)) := rfl
theorem mF_38 : (mF α S)[38]? = some (.ref (α 38)) := rfl
theorem mF_39 : (mF α S)[39]? = some (.ref (α 39)) := rfl
theorem mF_40 : (mF α S)[40]? = some (.ref (α 40)) := rfl
theorem mF_41 : (mF α S)[41]? = some (.long (S.2.1 41)) := rfl
theorem mF_42 : (mF α S)[42]? = some (.long (S.2.1 42)) := rfl
theorem mF_len : (mF α S).length = 43 := rfl
theorem mU_1 {f : Nat → Int32} : va_up (mE G α S) 1 (.inl (G 0, 6, .inl f)) = mE G α (uA S 1 f) := (cJ_set (Nat.le_of_ble_eq_true rfl)).trans rfl
theorem mU_3 {f : Nat → Int32} : va_up (mE G α S) 3 (.inl (G 0, 60, .inl f)) = mE G α (uA S 3 f) := (cJ_set (Nat.le_of_ble_eq_true rfl)).trans rfl
theorem mU_4 {f : Nat → Int32} : va_up (mE G α S) 4 (.inl (G 0, 60, .inl f)) = mE G α (uA S 4 f) := (cJ_set (Nat.le_of_ble_eq_true rfl)).trans rfl
theorem mU_5 {f : Nat → Int32} : va_up (mE G α S) 5 (.inl (G 0, 60, .inl f)) = mE G α (uA S 5 f) := (cJ_set (Nat.le_of_ble_eq_true rfl)).trans rfl
theorem mU_6 {f : Nat → Int32} : va_up (mE G α S) 6 (.inl (G 0, 60, .inl f)) = mE G α (uA S 6 f) := (cJ_set (Nat.le_of_ble_eq_true rfl)).trans rfl
theorem mU_7 {f : Nat → Int32} : va_up (mE G α S) 7 (.inl (G 0, 21, .inl f)) = mE G α (uA S 7 f) := (cJ_set (Nat.le_of_ble_eq_true rfl)).trans rfl
theorem mU_9 {f : Nat → Int32} : va_up (mE G α S) 9 (.inl (G 0, 30, .inl f)) = mE G α (uA S 9 f) := (cJ_set (Nat.le_of_ble_eq_true rfl)).trans rfl
theorem mU_11 {f : Nat → Int32} : va_up (mE G α S) 11 (.inl (G 0, 90, .inl f)) = mE G α (uA S 11 f) := (cJ_set (Nat.le_of_ble_eq_true rfl)).trans rfl
theorem mU_12 {f : Nat → Int32} : va_up (mE G α S) 12 (.inl (G 0, 90, .inl f)) = mE G α (uA S 12 f) := (cJ_set (Nat.le_of_ble_eq_true rfl)).trans rfl
theorem mU_13 {f : Nat → Int32} : va_up (mE G α S) 13 (.inl (G 0, 90, .inl f)) = mE G α (uA S 13 f) := (cJ_set (Nat.le_of_ble_eq_true rfl)).trans rfl
theorem mU_14 {f : Nat → Int32} : va_up (mE G α S) 14 (.inl (G 0, 90, .inl f)) = mE G α (uA S 14 f) := (cJ_set (Nat.le_of_ble_eq_true rfl)).trans rfl
theorem mU_16 {f : Nat → Int32} : va_up (mE G α S) 16 (.inl (G 0, 30, .inl f)) = mE G α (uA S 16 f) := (cJ_set (Nat.le_of_ble_eq_true rfl)).trans rfl
theorem mU_17 {f : Nat → Int32} : va_up (mE G α S) 17 (.inl (G 0, 30, .inl f)) = mE G α (uA S 17 f) := (cJ_set (Nat.le_of_ble_eq_true rfl)).trans rfl
theorem mU_18 {f : Nat → Int32} : va_up (mE G α S) 18 (.inl (G 0, 30, .inl f)) = mE G α (uA S 18 f) := (cJ_set (Nat.le_of_ble_eq_true rfl)).trans rfl
theorem mU_19 {f : Nat → Int32} : va_up (mE G α S) 19 (.inl (G 0, 30, .inl f)) = mE G α (uA S 19 f) := (cJ_set (Nat.le_of_ble_eq_true rfl)).trans rfl
theorem mU_20 {f : Nat → Int64} : va_up (mE G α S) 20 (.inl (G 1, 30, .inr (.inl f))) = mE G α (uB S 20 f) := (cJ_set (Nat.le_of_ble_eq_true rfl)).trans rfl
theorem mU_21 {f : Nat → Int32} : va_up (mE G α S) 21 (.inl (G 0, 30, .inl f)) = mE G α (uA S 21 f) := (cJ_set (Nat.le_of_ble_eq_true rfl)).trans rfl
theorem mU_22 {f : Nat → Int32} : va_up (mE G α S) 22 (.inl (G 0, 30, .inl f)) = mE G α (uA S 22 f) := (cJ_set (Nat.le_of_ble_eq_true rfl)).trans rfl
theorem mU_23 {f : Nat → Int64} : va_up (mE G α S) 23 (.inl (G 1, 30, .inr (.inl f))) = mE G α (uB S 23 f) := (cJ_set (Nat.le_of_ble_eq_true rfl)).trans rfl
theorem mU_24 {f : Nat → Int32} : va_up (mE G α S) 24 (.inl (G 2, 30, .inl f)) = mE G α (uA S 24 f) := (cJ_set (Nat.le_of_ble_eq_true rfl)).trans rfl
theorem mU_25 {f : Nat → Int32} : va_up (mE G α S) 25 (.inl (G 0, 30, .inl f)) = mE G α (uA S 25 f) := (cJ_set (Nat.le_of_ble_eq_true rfl)).trans rfl
theorem mU_26 {f : Nat → Int32} : va_up (mE G α S) 26 (.inl (G 0, 210, .inl f)) = mE G α (uA S 26 f) := (cJ_set (Nat.le_of_ble_eq_true rfl)).trans rfl
theorem mU_27 {f : Nat → Int32} : va_up (mE G α S) 27 (.inl (G 0, 210, .inl f)) = mE G α (uA S 27 f) := (cJ_set (Nat.le_of_ble_eq_true rfl)).trans rfl
theorem mU_33 {f : Nat → Int64} : va_up (mE G α S) 33 (.inl (G 1, 10, .inr (.inl f))) = mE G α (uB S 33 f) := (cJ_set (Nat.le_of_ble_eq_true rfl)).trans rfl
theorem mU_34 {f : Nat → Int32} : va_up (mE G α S) 34 (.inl (G 0, 21, .inl f)) = mE G α (uA S 34 f) := (cJ_set (Nat.le_of_ble_eq_true rfl)).trans rfl
theorem mU_35 {f : Nat → Int32} : va_up (mE G α S) 35 (.inl (G 0, 21, .inl f)) = mE G α (uA S 35 f) := (cJ_set (Nat.le_of_ble_eq_true rfl)).trans rfl
theorem mU_36 {f : Nat → Int32} : va_up (mE G α S) 36 (.inl (G 0, 21, .inl f)) = mE G α (uA S 36 f) := (cJ_set (Nat.le_of_ble_eq_true rfl)).trans rfl
theorem mU_38 {f : Nat → Int32} : va_up (mE G α S) 38 (.inl (G 0, 30, .inl f)) = mE G α (uA S 38 f) := (cJ_set (Nat.le_of_ble_eq_true rfl)).trans rfl
theorem mU_39 {f : Nat → Int32} : va_up (mE G α S) 39 (.inl (G 2, 30, .inl f)) = mE G α (uA S 39 f) := (cJ_set (Nat.le_of_ble_eq_true rfl)).trans rfl
theorem mU_40 {f : Nat → Int64} : va_up (mE G α S) 40 (.inl (G 1, 30, .inr (.inl f))) = mE G α (uB S 40 f) := (cJ_set (Nat.le_of_ble_eq_true rfl)).trans rfl
theorem mO_0 {x : Int32} : va_up (mE G α S) 0 (.inr (11, (mF α S).set 0 (.int x))) = mE G α (uI S 0 x) := (cJ_set (Nat.le_of_ble_eq_true rfl)).trans rfl
theorem mO_2 {x : Int32} : va_up (mE G α S) 0 (.inr (11, (mF α S).set 2 (.int x))) = mE G α (uI S 2 x) := (cJ_set (Nat.le_of_ble_eq_true rfl)).trans rfl
theorem mO_8 {x : Int32} : va_up (mE G α S) 0 (.inr (11, (mF α S).set 8 (.int x))) = mE G α (uI S 8 x) := (cJ_set (Nat.le_of_ble_eq_true rfl)).trans rfl
theorem mO_10 {x : Int32} : va_up (mE G α S) 0 (.inr (11, (mF α S).set 10 (.int x))) = mE G α (uI S 10 x) := (cJ_set (Nat.le_of_ble_eq_true rfl)).trans rfl
theorem mO_15 {x : Int32} : va_up (mE G α S) 0 (.inr (11, (mF α S).set 15 (.int x))) = mE G α (uI S 15 x) := (cJ_set (Nat.le_of_ble_eq_true rfl)).trans rfl
theorem mO_28 {x : Int64} : va_up (mE G α S) 0 (.inr (11, (mF α S).set 28 (.long x))) = mE G α (uJ S 28 x) := (cJ_set (Nat.le_of_ble_eq_true rfl)).trans rfl
theorem mO_29 {x : Int64} : va_up (mE G α S) 0 (.inr (11, (mF α S).set 29 (.long x))) = mE G α (uJ S 29 x) := (cJ_set (Nat.le_of_ble_eq_true rfl)).trans rfl
theorem mO_30 {x : Int64} : va_up (mE G α S) 0 (.inr (11, (mF α S).set 30 (.long x))) = mE G α (uJ S 30 x) := (cJ_set (Nat.le_of_ble_eq_true rfl)).trans rfl
theorem mO_31 {x : Int64} : va_up (mE G α S) 0 (.inr (11, (mF α S).set 31 (.long x))) = mE G α (uJ S 31 x) := (cJ_set (Nat.le_of_ble_eq_true rfl)).trans rfl
theorem mO_32 {x : Int32} : va_up (mE G α S) 0 (.inr (11, (mF α S).set 32 (.int x))) = mE G α (uI S 32 x) := (cJ_set (Nat.le_of_ble_eq_true rfl)).trans rfl
theorem mO_37 {x : Int32} : va_up (mE G α S) 0 (.inr (11, (mF α S).set 37 (.int x))) = mE G α (uI S 37 x) := (cJ_set (Nat.le_of_ble_eq_true rfl)).trans rfl
theorem mO_41 {x : Int64} : va_up (mE G α S) 0 (.inr (11, (mF α S).set 41 (.long x))) = mE G α (uJ S 41 x) := (cJ_set (Nat.le_of_ble_eq_true rfl)).trans rfl
theorem mO_42 {x : Int64} : va_up (mE G α S) 0 (.inr (11, (mF α S).set 42 (.long x))) = mE G α (uJ S 42 x) := (cJ_set (Nat.le_of_ble_eq_true rfl)).trans rfl
end MST
def cF_0 (α : Nat → Nat) (S : St) : List Value := [.ref (α 1), .ref (α 3), .ref (α 8), .ref (α 9), .ref (α 15), .ref (α 17), .ref (α 18), .ref (α 20), .ref (α 21), .ref (α 25), .int (S.1 0)]
def cF_1 (α : Nat → Nat) (S : St) : List Value := [.ref (α 2)]
def cF_3 (α : Nat → Nat) (S : St) : List Value := [.ref (α 4), .ref (α 5), .ref (α 6), .ref (α 7), .int (S.1 2)]
def cF_9 (α : Nat → Nat) (S : St) : List Value := [.ref (α 10), .int (S.1 8), .ref (α 11), .ref (α 12), .ref (α 13), .ref (α 14), .int (S.1 10)]
def cF_15 (α : Nat → Nat) (S : St) : List Value := [.ref (α 16), .int (S.1 15)]
def cF_17 (α : Nat → Nat) (S : St) : List Value := [.ref (α 3), .ref (α 9)]
def cF_18 (α : Nat → Nat) (S : St) : List Value := [.long (S.2.1 28), .long (S.2.1 29), .long (S.2.1 30), .ref (α 19)]
def cF_20 (α : Nat → Nat) (S : St) : List Value := [.ref (α 15), .ref (α 18), .long (S.2.1 31), .int (S.1 32)]
def cF_21 (α : Nat → Nat) (S : St) : List Value := [.ref (α 22), .ref (α 23), .ref (α 24)]
def cF_25 (α : Nat → Nat) (S : St) : List Value := [.ref (α 26), .int (S.1 37)]
/-- the deposits in their row -/
def cRows (α : Nat → Nat) (n : Nat) : Nat → Option Nat := fun i => if i < n then some (α (27 + 3 * i)) else none
def cC (G : Nat → ClassId) (α : Nat → Nat) (S : St) (n : Nat) : List va_E := [.inr (10, cF_0 α S), .inr (5, cF_1 α S), .inl (G 0, 6, .inl (S.2.2.1 1)), .inr (1, cF_3 α S), .inl (G 0, 60, .inl (S.2.2.1 3)), .inl (G 0, 60, .inl (S.2.2.1 4)), .inl (G 0, 60, .inl (S.2.2.1 5)), .inl (G 0, 60, .inl (S.2.2.1 6)), .inl (G 0, 21, .inl (S.2.2.1 7)), .inr (0, cF_9 α S), .inl (G 0, 30, .inl (S.2.2.1 9)), .inl (G 0, 90, .inl (S.2.2.1 11)), .inl (G 0, 90, .inl (S.2.2.1 12)), .inl (G 0, 90, .inl (S.2.2.1 13)), .inl (G 0, 90, .inl (S.2.2.1 14)), .inr (3, cF_15 α S), .inl (G 3, 30, .inr (.inr (.inr (.inr (cRows α n))))), .inr (4, cF_17 α S), .inr (7, cF_18 α S), .inl (G 1, 10, .inr (.inl (S.2.2.2 33))), .inr (8, cF_20 α S), .inr (6, cF_21 α S), .inl (G 0, 21, .inl (S.2.2.1 34)), .inl (G 0, 21, .inl (S.2.2.1 35)), .inl (G 0, 21, .inl (S.2.2.1 36)), .inr (9, cF_25 α S), .inl (G 0, 30, .inl (S.2.2.1 38))]
/-- a deposit's fields; J: what the class alone keeps -/
def cD (α : Nat → Nat) (S J : St) (i : Nat) : List Value := [.int (S.2.2.1 16 i), .int (S.2.2.1 17 i), .int (J.2.2.1 0 i), .int (S.2.2.1 22 i), .int (S.2.2.1 19 i), .long (S.2.2.2 20 i), .int (S.2.2.1 21 i), .ref (α (28 + 3 * i)), .ref (α (29 + 3 * i)), .int (S.2.2.1 25 i - 1), .long (S.2.2.2 23 i), .int (S.2.2.1 24 i), .int (J.2.2.1 1 i), .long (J.2.2.2 0 i), .int (J.2.2.1 2 i), .long (J.2.2.2 1 i)]
def cHo (S : St) (i : Nat) : Nat → Int32 := fun j => if j < 7 then S.2.2.1 27 (7 * i + j) else 0
def cFr (S : St) (i : Nat) : Nat → Int32 := fun j => if j < 7 then S.2.2.1 26 (7 * i + j) else 0
def cDp (G : Nat → ClassId) (α : Nat → Nat) (S J : St) : Nat → va_E := fun k => if k < 27 then .inr (0, []) else if (k - 27) % 3 = 0 then .inr (2, cD α S J ((k - 27) / 3)) else if (k - 27) % 3 = 1 then .inl (G 0, 7, .inl (cHo S ((k - 27) / 3))) else .inl (G 0, 7, .inl (cFr S ((k - 27) / 3)))
/-- the class's cells: n deposits stand in the row -/
def cE (G : Nat → ClassId) (α : Nat → Nat) (S J : St) (n : Nat) : Nat → va_E := cJ (cC G α S n) (cDp G α S J)
def Lc (n : Nat) : List Nat := List.range (27 + 3 * n)
theorem Lc_in {k n : Nat} (h : k < 27) : k ∈ Lc n := List.mem_range.mpr (by omega)
theorem Lc_d {k i n : Nat} (h : i < n) (h1 : 27 + 3 * i ≤ k) (h2 : k < 30 + 3 * i) : k ∈ Lc n := List.mem_range.mpr (by omega)
section CST
variable {G : Nat → ClassId} {α : Nat → Nat} {S J : St} {n : Nat}
theorem cE_0 : cE G α S J n 0 = .inr (10, cF_0 α S) := rfl
theorem cE_1 : cE G α S J n 1 = .inr (5, cF_1 α S) := rfl
theorem cE_2 : cE G α S J n 2 = .inl (G 0, 6, .inl (S.2.2.1 1)) := rfl
theorem cE_3 : cE G α S J n 3 = .inr (1, cF_3 α S) := rfl
theorem cE_4 : cE G α S J n 4 = .inl (G 0, 60, .inl (S.2.2.1 3)) := rfl
theorem cE_5 : cE G α S J n 5 = .inl (G 0, 60, .inl (S.2.2.1 4)) := rfl
theorem cE_6 : cE G α S J n 6 = .inl (G 0, 60, .inl (S.2.2.1 5)) := rfl
theorem cE_7 : cE G α S J n 7 = .inl (G 0, 60, .inl (S.2.2.1 6)) := rfl
theorem cE_8 : cE G α S J n 8 = .inl (G 0, 21, .inl (S.2.2.1 7)) := rfl
theorem cE_9 : cE G α S J n 9 = .inr (0, cF_9 α S) := rfl
theorem cE_10 : cE G α S J n 10 = .inl (G 0, 30, .inl (S.2.2.1 9)) := rfl
theorem cE_11 : cE G α S J n 11 = .inl (G 0, 90, .inl (S.2.2.1 11)) := rfl
theorem cE_12 : cE G α S J n 12 = .inl (G 0, 90, .inl (S.2.2.1 12)) := rfl
theorem cE_13 : cE G α S J n 13 = .inl (G 0, 90, .inl (S.2.2.1 13)) := rfl
theorem cE_14 : cE G α S J n 14 = .inl (G 0, 90, .inl (S.2.2.1 14)) := rfl
theorem cE_15 : cE G α S J n 15 = .inr (3, cF_15 α S) := rfl
theorem cE_16 : cE G α S J n 16 = .inl (G 3, 30, .inr (.inr (.inr (.inr (cRows α n))))) := rfl
theorem cE_17 : cE G α S J n 17 = .inr (4, cF_17 α S) := rfl
theorem cE_18 : cE G α S J n 18 = .inr (7, cF_18 α S) := rfl
theorem cE_19 : cE G α S J n 19 = .inl (G 1, 10, .inr (.inl (S.2.2.2 33))) := rfl
theorem cE_20 : cE G α S J n 20 = .inr (8, cF_20 α S) := rfl
theorem cE_21 : cE G α S J n 21 = .inr (6, cF_21 α S) := rfl
theorem cE_22 : cE G α S J n 22 = .inl (G 0, 21, .inl (S.2.2.1 34)) := rfl
theorem cE_23 : cE G α S J n 23 = .inl (G 0, 21, .inl (S.2.2.1 35)) := rfl
theorem cE_24 : cE G α S J n 24 = .inl (G 0, 21, .inl (S.2.2.1 36)) := rfl
theorem cE_25 : cE G α S J n 25 = .inr (9, cF_25 α S) := rfl
theorem cE_26 : cE G α S J n 26 = .inl (G 0, 30, .inl (S.2.2.1 38)) := rfl
theorem cF_0_0 : (cF_0 α S)[0]? = some (.ref (α 1)) := rfl
theorem cF_0_1 : (cF_0 α S)[1]? = some (.ref (α 3)) := rfl
theorem cF_0_2 : (cF_0 α S)[2]? = some (.ref (α 8)) := rfl
theorem cF_0_3 : (cF_0 α S)[3]? = some (.ref (α 9)) := rfl
theorem cF_0_4 : (cF_0 α S)[4]? = some (.ref (α 15)) := rfl
theorem cF_0_5 : (cF_0 α S)[5]? = some (.ref (α 17)) := rfl
theorem cF_0_6 : (cF_0 α S)[6]? = some (.ref (α 18)) := rfl
theorem cF_0_7 : (cF_0 α S)[7]? = some (.ref (α 20)) := rfl
theorem cF_0_8 : (cF_0 α S)[8]? = some (.ref (α 21)) := rfl
theorem cF_0_9 : (cF_0 α S)[9]? = some (.ref (α 25)) := rfl
theorem cF_0_10 : (cF_0 α S)[10]? = some (.int (S.1 0)) := rfl
theorem cF_1_0 : (cF_1 α S)[0]? = some (.ref (α 2)) := rfl
theorem cF_3_0 : (cF_3 α S)[0]? = some (.ref (α 4)) := rfl
theorem cF_3_1 : (cF_3 α S)[1]? = some (.ref (α 5)) := rfl
theorem cF_3_2 : (cF_3 α S)[2]? = some (.ref (α 6)) := rfl
theorem cF_3_3 : (cF_3 α S)[3]? = some (.ref (α 7)) := rfl
theorem cF_3_4 : (cF_3 α S)[4]? = some (.int (S.1 2)) := rfl
theorem cF_9_0 : (cF_9 α S)[0]? = some (.ref (α 10)) := rfl
theorem cF_9_1 : (cF_9 α S)[1]? = some (.int (S.1 8)) := rfl
theorem cF_9_2 : (cF_9 α S)[2]? = some (.ref (α 11)) := rfl
theorem cF_9_3 : (cF_9 α S)[3]? = some (.ref (α 12)) := rfl
theorem cF_9_4 : (cF_9 α S)[4]? = some (.ref (α 13)) := rfl
theorem cF_9_5 : (cF_9 α S)[5]? = some (.ref (α 14)) := rfl
theorem cF_9_6 : (cF_9 α S)[6]? = some (.int (S.1 10)) := rfl
theorem cF_15_0 : (cF_15 α S)[0]? = some (.ref (α 16)) := rfl
theorem cF_15_1 : (cF_15 α S)[1]? = some (.int (S.1 15)) := rfl
theorem cF_17_0 : (cF_17 α S)[0]? = some (.ref (α 3)) := rfl
theorem cF_17_1 : (cF_17 α S)[1]? = some (.ref (α 9)) := rfl
theorem cF_18_0 : (cF_18 α S)[0]? = some (.long (S.2.1 28)) := rfl
theorem cF_18_1 : (cF_18 α S)[1]? = some (.long (S.2.1 29)) := rfl
theorem cF_18_2 : (cF_18 α S)[2]? = some (.long (S.2.1 30)) := rfl
theorem cF_18_3 : (cF_18 α S)[3]? = some (.ref (α 19)) := rfl
theorem cF_20_0 : (cF_20 α S)[0]? = some (.ref (α 15)) := rfl
theorem cF_20_1 : (cF_20 α S)[1]? = some (.ref (α 18)) := rfl
theorem cF_20_2 : (cF_20 α S)[2]? = some (.long (S.2.1 31)) := rfl
theorem cF_20_3 : (cF_20 α S)[3]? = some (.int (S.1 32)) := rfl
theorem cF_21_0 : (cF_21 α S)[0]? = some (.ref (α 22)) := rfl
theorem cF_21_1 : (cF_21 α S)[1]? = some (.ref (α 23)) := rfl
theorem cF_21_2 : (cF_21 α S)[2]? = some (.ref (α 24)) := rfl
theorem cF_25_0 : (cF_25 α S)[0]? = some (.ref (α 26)) := rfl
theorem cF_25_1 : (cF_25 α S)[1]? = some (.int (S.1 37)) := rfl
theorem cU_2 {f : Nat → Int32} : va_up (cE G α S J n) 2 (.inl (G 0, 6, .inl f)) = cE G α (uA S 1 f) J n := (cJ_set (Nat.le_of_ble_eq_true rfl)).trans rfl
theorem cU_4 {f : Nat → Int32} : va_up (cE G α S J n) 4 (.inl (G 0, 60, .inl f)) = cE G α (uA S 3 f) J n := (cJ_set (Nat.le_of_ble_eq_true rfl)).trans rfl
theorem cU_5 {f : Nat → Int32} : va_up (cE G α S J n) 5 (.inl (G 0, 60, .inl f)) = cE G α (uA S 4 f) J n := (cJ_set (Nat.le_of_ble_eq_true rfl)).trans rfl
theorem cU_6 {f : Nat → Int32} : va_up (cE G α S J n) 6 (.inl (G 0, 60, .inl f)) = cE G α (uA S 5 f) J n := (cJ_set (Nat.le_of_ble_eq_true rfl)).trans rfl
theorem cU_7 {f : Nat → Int32} : va_up (cE G α S J n) 7 (.inl (G 0, 60, .inl f)) = cE G α (uA S 6 f) J n := (cJ_set (Nat.le_of_ble_eq_true rfl)).trans rfl
theorem cU_8 {f : Nat → Int32} : va_up (cE G α S J n) 8 (.inl (G 0, 21, .inl f)) = cE G α (uA S 7 f) J n := (cJ_set (Nat.le_of_ble_eq_true rfl)).trans rfl
theorem cU_10 {f : Nat → Int32} : va_up (cE G α S J n) 10 (.inl (G 0, 30, .inl f)) = cE G α (uA S 9 f) J n := (cJ_set (Nat.le_of_ble_eq_true rfl)).trans rfl
theorem cU_11 {f : Nat → Int32} : va_up (cE G α S J n) 11 (.inl (G 0, 90, .inl f)) = cE G α (uA S 11 f) J n := (cJ_set (Nat.le_of_ble_eq_true rfl)).trans rfl
theorem cU_12 {f : Nat → Int32} : va_up (cE G α S J n) 12 (.inl (G 0, 90, .inl f)) = cE G α (uA S 12 f) J n := (cJ_set (Nat.le_of_ble_eq_true rfl)).trans rfl
theorem cU_13 {f : Nat → Int32} : va_up (cE G α S J n) 13 (.inl (G 0, 90, .inl f)) = cE G α (uA S 13 f) J n := (cJ_set (Nat.le_of_ble_eq_true rfl)).trans rfl
theorem cU_14 {f : Nat → Int32} : va_up (cE G α S J n) 14 (.inl (G 0, 90, .inl f)) = cE G α (uA S 14 f) J n := (cJ_set (Nat.le_of_ble_eq_true rfl)).trans rfl
theorem cU_22 {f : Nat → Int32} : va_up (cE G α S J n) 22 (.inl (G 0, 21, .inl f)) = cE G α (uA S 34 f) J n := (cJ_set (Nat.le_of_ble_eq_true rfl)).trans rfl
theorem cU_23 {f : Nat → Int32} : va_up (cE G α S J n) 23 (.inl (G 0, 21, .inl f)) = cE G α (uA S 35 f) J n := (cJ_set (Nat.le_of_ble_eq_true rfl)).trans rfl
theorem cU_24 {f : Nat → Int32} : va_up (cE G α S J n) 24 (.inl (G 0, 21, .inl f)) = cE G α (uA S 36 f) J n := (cJ_set (Nat.le_of_ble_eq_true rfl)).trans rfl
theorem cU_26 {f : Nat → Int32} : va_up (cE G α S J n) 26 (.inl (G 0, 30, .inl f)) = cE G α (uA S 38 f) J n := (cJ_set (Nat.le_of_ble_eq_true rfl)).trans rfl
theorem cU_19 {f : Nat → Int64} : va_up (cE G α S J n) 19 (.inl (G 1, 10, .inr (.inl f))) = cE G α (uB S 33 f) J n := (cJ_set (Nat.le_of_ble_eq_true rfl)).trans rfl
theorem cO_0_10 {x : Int32} : va_up (cE G α S J n) 0 (.inr (10, (cF_0 α S).set 10 (.int x))) = cE G α (uI S 0 x) J n := (cJ_set (Nat.le_of_ble_eq_true rfl)).trans rfl
theorem cO_3_4 {x : Int32} : va_up (cE G α S J n) 3 (.inr (1, (cF_3 α S).set 4 (.int x))) = cE G α (uI S 2 x) J n := (cJ_set (Nat.le_of_ble_eq_true rfl)).trans rfl
theorem cO_9_1 {x : Int32} : va_up (cE G α S J n) 9 (.inr (0, (cF_9 α S).set 1 (.int x))) = cE G α (uI S 8 x) J n := (cJ_set (Nat.le_of_ble_eq_true rfl)).trans rfl
theorem cO_9_6 {x : Int32} : va_up (cE G α S J n) 9 (.inr (0, (cF_9 α S).set 6 (.int x))) = cE G α (uI S 10 x) J n := (cJ_set (Nat.le_of_ble_eq_true rfl)).trans rfl
theorem cO_15_1 {x : Int32} : va_up (cE G α S J n) 15 (.inr (3, (cF_15 α S).set 1 (.int x))) = cE G α (uI S 15 x) J n := (cJ_set (Nat.le_of_ble_eq_true rfl)).trans rfl
theorem cO_18_0 {x : Int64} : va_up (cE G α S J n) 18 (.inr (7, (cF_18 α S).set 0 (.long x))) = cE G α (uJ S 28 x) J n := (cJ_set (Nat.le_of_ble_eq_true rfl)).trans rfl
theorem cO_18_1 {x : Int64} : va_up (cE G α S J n) 18 (.inr (7, (cF_18 α S).set 1 (.long x))) = cE G α (uJ S 29 x) J n := (cJ_set (Nat.le_of_ble_eq_true rfl)).trans rfl
theorem cO_18_2 {x : Int64} : va_up (cE G α S J n) 18 (.inr (7, (cF_18 α S).set 2 (.long x))) = cE G α (uJ S 30 x) J n := (cJ_set (Nat.le_of_ble_eq_true rfl)).trans rfl
theorem cO_20_2 {x : Int64} : va_up (cE G α S J n) 20 (.inr (8, (cF_20 α S).set 2 (.long x))) = cE G α (uJ S 31 x) J n := (cJ_set (Nat.le_of_ble_eq_true rfl)).trans rfl
theorem cO_20_3 {x : Int32} : va_up (cE G α S J n) 20 (.inr (8, (cF_20 α S).set 3 (.int x))) = cE G α (uI S 32 x) J n := (cJ_set (Nat.le_of_ble_eq_true rfl)).trans rfl
theorem cO_25_1 {x : Int32} : va_up (cE G α S J n) 25 (.inr (9, (cF_25 α S).set 1 (.int x))) = cE G α (uI S 37 x) J n := (cJ_set (Nat.le_of_ble_eq_true rfl)).trans rfl
theorem cC_len : (cC G α S n).length = 27 := rfl
theorem cE_d {i : Nat} : cE G α S J n (27 + 3 * i) = .inr (2, cD α S J i) := by
  rw [cE, cJ_out (by rw [cC_len]; omega), cDp, if_neg (by omega), if_pos (by omega), show (27 + 3 * i - 27) / 3 = i by omega]
theorem cE_h {i : Nat} : cE G α S J n (28 + 3 * i) = .inl (G 0, 7, .inl (cHo S i)) := by
  rw [cE, cJ_out (by rw [cC_len]; omega), cDp, if_neg (by omega), if_neg (by omega), if_pos (by omega), show (28 + 3 * i - 27) / 3 = i by omega]
theorem cE_f {i : Nat} : cE G α S J n (29 + 3 * i) = .inl (G 0, 7, .inl (cFr S i)) := by
  rw [cE, cJ_out (by rw [cC_len]; omega), cDp, if_neg (by omega), if_neg (by omega), if_neg (by omega), show (29 + 3 * i - 27) / 3 = i by omega]
theorem cU_dep {S' J' : St} {i : Nat} {l : List Value} (hC : cC G α S' n = cC G α S n) (hi : cD α S' J' i = l) (ho : ∀ t, t ≠ i → cD α S' J' t = cD α S J t) (hh : ∀ t, cHo S' t = cHo S t) (hf : ∀ t, cFr S' t = cFr S t) : va_up (cE G α S J n) (27 + 3 * i) (.inr (2, l)) = cE G α S' J' n := by
  rw [cE, cJ_setD (by rw [cC_len]; omega), cE, hC]
  congr 1
  funext k
  by_cases hk : k = 27 + 3 * i
  · subst hk
    rw [va_up_self, cDp, if_neg (by omega), if_pos (by omega), show (27 + 3 * i - 27) / 3 = i by omega, hi]
  · rw [va_up_ne _ _ hk, cDp, cDp]
    by_cases h9 : k < 27
    · rw [if_pos h9, if_pos h9]
    · rw [if_neg h9, if_neg h9]
      by_cases h0 : (k - 27) % 3 = 0
      · rw [if_pos h0, if_pos h0, ho _ (by omega)]
      · rw [if_neg h0, if_neg h0, hh, hf]
theorem cU_hold {i : Nat} {f : Nat → Int32} {j : Nat} {x : Int32} (hj : j < 7) (hf : f = cHo S i) : va_up (cE G α S J n) (28 + 3 * i) (.inl (G 0, 7, .inl (upd f j x))) = cE G α (uA S 27 (upd (S.2.2.1 27) (7 * i + j) x)) J n := by
  subst hf
  rw [cE, cJ_setD (by rw [cC_len]; omega), cE]
  show cJ (cC G α S n) _ = cJ (cC G α S n) _
  congr 1
  funext k
  by_cases hk : k = 28 + 3 * i
  · subst hk
    rw [va_up_self, cDp, if_neg (by omega), if_neg (by omega), if_pos (by omega), show (28 + 3 * i - 27) / 3 = i by omega]
    congr 4
    funext q
    simp only [cHo, uA, upd, va_up]
    by_cases hq : q = j
    · subst hq; simp [hj, upd]
    · by_cases h7 : q < 7
      · simp [hq, h7, upd]
      · simp [hq, h7, upd]
  · rw [va_up_ne _ _ hk, cDp, cDp]
    by_cases h9 : k < 27
    · rw [if_pos h9, if_pos h9]
    · rw [if_neg h9, if_neg h9]
      by_cases h0 : (k - 27) % 3 = 0
      · rw [if_pos h0, if_pos h0]; rfl
      · rw [if_neg h0, if_neg h0]
        by_cases h1 : (k - 27) % 3 = 1
        · rw [if_pos h1, if_pos h1]
          congr 4
          funext q
          simp only [cHo, uA, upd, va_up]
          by_cases h7 : q < 7
          · have h8 : ¬ (7 * ((k - 27) / 3) + q = 7 * i + j) := by omega
            simp [h7, h8, upd]
          · simp [h7]
        · rw [if_neg h1, if_neg h1]; rfl
theorem cU_from {i : Nat} {f : Nat → Int32} {j : Nat} {x : Int32} (hj : j < 7) (hf : f = cFr S i) : va_up (cE G α S J n) (29 + 3 * i) (.inl (G 0, 7, .inl (upd f j x))) = cE G α (uA S 26 (upd (S.2.2.1 26) (7 * i + j) x)) J n := by
  subst hf
  rw [cE, cJ_setD (by rw [cC_len]; omega), cE]
  show cJ (cC G α S n) _ = cJ (cC G α S n) _
  congr 1
  funext k
  by_cases hk : k = 29 + 3 * i
  · subst hk
    rw [va_up_self, cDp, if_neg (by omega), if_neg (by omega), if_neg (by omega), show (29 + 3 * i - 27) / 3 = i by omega]
    congr 4
    funext q
    simp only [cFr, uA, upd, va_up]
    by_cases hq : q = j
    · subst hq; simp [hj, upd]
    · by_cases h7 : q < 7
      · simp [hq, h7, upd]
      · simp [hq, h7, upd]
  · rw [va_up_ne _ _ hk, cDp, cDp]
    by_cases h9 : k < 27
    · rw [if_pos h9, if_pos h9]
    · rw [if_neg h9, if_neg h9]
      by_cases h0 : (k - 27) % 3 = 0
      · rw [if_pos h0, if_pos h0]; rfl
      · rw [if_neg h0, if_neg h0]
        by_cases h1 : (k - 27) % 3 = 1
        · rw [if_pos h1, if_pos h1]; rfl
        · rw [if_neg h1, if_neg h1]
          congr 4
          funext q
          simp only [cFr, uA, upd, va_up]
          by_cases h7 : q < 7
          · have h8 : ¬ (7 * ((k - 27) / 3) + q = 7 * i + j) := by omega
            simp [h7, h8, upd]
          · simp [h7]
theorem cV_sum {i : Nat} {x : Int32} : va_up (cE G α S J n) (27 + 3 * i) (.inr (2, (cD α S J i).set 4 (.int x))) = cE G α (uA S 19 (upd (S.2.2.1 19) i x)) (J) n := by
  refine cU_dep rfl ?_ (fun t ht => ?_) (fun t => rfl) (fun t => rfl)
  · simp [cD, uA, uB, va_up, upd, vp_updL]
  · simp [cD, uA, uB, va_up, upd, vp_updL, ht]
theorem cV_dowry {i : Nat} {x : Int64} : va_up (cE G α S J n) (27 + 3 * i) (.inr (2, (cD α S J i).set 5 (.long x))) = cE G α (uB S 20 (vp_updL (S.2.2.2 20) i x)) (J) n := by
  refine cU_dep rfl ?_ (fun t ht => ?_) (fun t => rfl) (fun t => rfl)
  · simp [cD, uA, uB, va_up, upd, vp_updL]
  · simp [cD, uA, uB, va_up, upd, vp_updL, ht]
theorem cV_end {i : Nat} {x : Int32} : va_up (cE G α S J n) (27 + 3 * i) (.inr (2, (cD α S J i).set 6 (.int x))) = cE G α (uA S 21 (upd (S.2.2.1 21) i x)) (J) n := by
  refine cU_dep rfl ?_ (fun t ht => ?_) (fun t => rfl) (fun t => rfl)
  · simp [cD, uA, uB, va_up, upd, vp_updL]
  · simp [cD, uA, uB, va_up, upd, vp_updL, ht]
theorem cV_last {i : Nat} {x : Int32} : va_up (cE G α S J n) (27 + 3 * i) (.inr (2, (cD α S J i).set 9 (.int x))) = cE G α (uA S 25 (upd (S.2.2.1 25) i (x + 1))) (J) n := by
  refine cU_dep rfl ?_ (fun t ht => ?_) (fun t => rfl) (fun t => rfl)
  · simp [cD, uA, uB, va_up, upd, vp_updL, Int32.add_sub_cancel]
  · simp [cD, uA, uB, va_up, upd, vp_updL, ht]
theorem cV_received {i : Nat} {x : Int64} : va_up (cE G α S J n) (27 + 3 * i) (.inr (2, (cD α S J i).set 10 (.long x))) = cE G α (uB S 23 (vp_updL (S.2.2.2 23) i x)) (J) n := by
  refine cU_dep rfl ?_ (fun t ht => ?_) (fun t => rfl) (fun t => rfl)
  · simp [cD, uA, uB, va_up, upd, vp_updL]
  · simp [cD, uA, uB, va_up, upd, vp_updL, ht]
theorem cV_paidOut {i : Nat} {x : Int32} : va_up (cE G α S J n) (27 + 3 * i) (.inr (2, (cD α S J i).set 11 (.int x))) = cE G α (uA S 24 (upd (S.2.2.1 24) i x)) (J) n := by
  refine cU_dep rfl ?_ (fun t ht => ?_) (fun t => rfl) (fun t => rfl)
  · simp [cD, uA, uB, va_up, upd, vp_updL]
  · simp [cD, uA, uB, va_up, upd, vp_updL, ht]
theorem cV_dueMonth {i : Nat} {x : Int32} : va_up (cE G α S J n) (27 + 3 * i) (.inr (2, (cD α S J i).set 12 (.int x))) = cE G α (S) (uA J 1 (upd (J.2.2.1 1) i x)) n := by
  refine cU_dep rfl ?_ (fun t ht => ?_) (fun t => rfl) (fun t => rfl)
  · simp [cD, uA, uB, va_up, upd, vp_updL]
  · simp [cD, uA, uB, va_up, upd, vp_updL, ht]
theorem cV_dueSum {i : Nat} {x : Int64} : va_up (cE G α S J n) (27 + 3 * i) (.inr (2, (cD α S J i).set 13 (.long x))) = cE G α (S) (uB J 0 (vp_updL (J.2.2.2 0) i x)) n := by
  refine cU_dep rfl ?_ (fun t ht => ?_) (fun t => rfl) (fun t => rfl)
  · simp [cD, uA, uB, va_up, upd, vp_updL]
  · simp [cD, uA, uB, va_up, upd, vp_updL, ht]
theorem cV_onRoll {i : Nat} {x : Int32} : va_up (cE G α S J n) (27 + 3 * i) (.inr (2, (cD α S J i).set 14 (.int x))) = cE G α (S) (uA J 2 (upd (J.2.2.1 2) i x)) n := by
  refine cU_dep rfl ?_ (fun t ht => ?_) (fun t => rfl) (fun t => rfl)
  · simp [cD, uA, uB, va_up, upd, vp_updL]
  · simp [cD, uA, uB, va_up, upd, vp_updL, ht]
theorem cV_owed {i : Nat} {x : Int64} : va_up (cE G α S J n) (27 + 3 * i) (.inr (2, (cD α S J i).set 15 (.long x))) = cE G α (S) (uB J 1 (vp_updL (J.2.2.2 1) i x)) n := by
  refine cU_dep rfl ?_ (fun t ht => ?_) (fun t => rfl) (fun t => rfl)
  · simp [cD, uA, uB, va_up, upd, vp_updL]
  · simp [cD, uA, uB, va_up, upd, vp_updL, ht]
theorem cD_0 {i : Nat} : (cD α S J i)[0]? = some (.int (S.2.2.1 16 i)) := rfl
theorem cD_1 {i : Nat} : (cD α S J i)[1]? = some (.int (S.2.2.1 17 i)) := rfl
theorem cD_2 {i : Nat} : (cD α S J i)[2]? = some (.int (J.2.2.1 0 i)) := rfl
theorem cD_3 {i : Nat} : (cD α S J i)[3]? = some (.int (S.2.2.1 22 i)) := rfl
theorem cD_4 {i : Nat} : (cD α S J i)[4]? = some (.int (S.2.2.1 19 i)) := rfl
theorem cD_5 {i : Nat} : (cD α S J i)[5]? = some (.long (S.2.2.2 20 i)) := rfl
theorem cD_6 {i : Nat} : (cD α S J i)[6]? = some (.int (S.2.2.1 21 i)) := rfl
theorem cD_7 {i : Nat} : (cD α S J i)[7]? = some (.ref (α (28 + 3 * i))) := rfl
theorem cD_8 {i : Nat} : (cD α S J i)[8]? = some (.ref (α (29 + 3 * i))) := rfl
theorem cD_9 {i : Nat} : (cD α S J i)[9]? = some (.int (S.2.2.1 25 i - 1)) := rfl
theorem cD_10 {i : Nat} : (cD α S J i)[10]? = some (.long (S.2.2.2 23 i)) := rfl
theorem cD_11 {i : Nat} : (cD α S J i)[11]? = some (.int (S.2.2.1 24 i)) := rfl
theorem cD_12 {i : Nat} : (cD α S J i)[12]? = some (.int (J.2.2.1 1 i)) := rfl
theorem cD_13 {i : Nat} : (cD α S J i)[13]? = some (.long (J.2.2.2 0 i)) := rfl
theorem cD_14 {i : Nat} : (cD α S J i)[14]? = some (.int (J.2.2.1 2 i)) := rfl
theorem cD_15 {i : Nat} : (cD α S J i)[15]? = some (.long (J.2.2.2 1 i)) := rfl
end CST
end
section
/-! ===== small rows: comparisons of longs, answers that may be null, switches, ranges ===== -/
section GLEM
variable {p : Program} {l : Launch} {e : Env} {R : Room} {s : State} {m : MethodId} {args : Array Value} {below : List Frame} {meth : Method} {c : Code} {H : Heap} {locs : List Loc} {cells slots : Nat} {Q : State → Prop}
variable {cc : ByteArray} {pc : Nat} {ls : Array Slot} {rest : List Value}
theorem gl_eq (hx : p.tables.exec = Jvm.exec) (hb : c.code = cc) {x y : Int64} {off : Int} {tgt : Nat} (h1 : decode cc pc = .ok (.lcmp, 1)) (h2 : decode cc (pc + 1) = .ok (.ifCond .eq off, 3)) (ht : ((pc + 1 : Nat) : Int) + off = (tgt : Int)) (kt : x = y → W p l e R s m args below meth c H locs cells slots Q (F0 m tgt ls rest)) (kf : ¬ x = y → W p l e R s m args below meth c H locs cells slots Q (F0 m (pc + 1 + 3) ls rest)) : W p l e R s m args below meth c H locs cells slots Q (F0 m pc ls (.long y :: .long x :: rest)) :=
  W.lcmp hx hb h1 (lv_if_eq hx hb h2 ht (fun h => kt ((lg_cmp_eq x y).mp h)) (fun h => kf (fun q => h ((lg_cmp_eq x y).mpr q))))
theorem gl_ne (hx : p.tables.exec = Jvm.exec) (hb : c.code = cc) {x y : Int64} {off : Int} {tgt : Nat} (h1 : decode cc pc = .ok (.lcmp, 1)) (h2 : decode cc (pc + 1) = .ok (.ifCond .ne off, 3)) (ht : ((pc + 1 : Nat) : Int) + off = (tgt : Int)) (kt : ¬ x = y → W p l e R s m args below meth c H locs cells slots Q (F0 m tgt ls rest)) (kf : x = y → W p l e R s m args below meth c H locs cells slots Q (F0 m (pc + 1 + 3) ls rest)) : W p l e R s m args below meth c H locs cells slots Q (F0 m pc ls (.long y :: .long x :: rest)) :=
  W.lcmp hx hb h1 (lv_if_ne hx hb h2 ht (fun h => kt (fun q => h ((lg_cmp_eq x y).mpr q))) (fun h => kf ((lg_cmp_eq x y).mp h)))
theorem gl_lt (hx : p.tables.exec = Jvm.exec) (hb : c.code = cc) {x y : Int64} {off : Int} {tgt : Nat} (h1 : decode cc pc = .ok (.lcmp, 1)) (h2 : decode cc (pc + 1) = .ok (.ifCond .lt off, 3)) (ht : ((pc + 1 : Nat) : Int) + off = (tgt : Int)) (kt : x < y → W p l e R s m args below meth c H locs cells slots Q (F0 m tgt ls rest)) (kf : ¬ x < y → W p l e R s m args below meth c H locs cells slots Q (F0 m (pc + 1 + 3) ls rest)) : W p l e R s m args below meth c H locs cells slots Q (F0 m pc ls (.long y :: .long x :: rest)) :=
  W.lcmp hx hb h1 (lv_if_lt hx hb h2 ht (fun h => kt ((lg_cmp_lt x y).mp h)) (fun h => kf (fun q => h ((lg_cmp_lt x y).mpr q))))
theorem gl_ge (hx : p.tables.exec = Jvm.exec) (hb : c.code = cc) {x y : Int64} {off : Int} {tgt : Nat} (h1 : decode cc pc = .ok (.lcmp, 1)) (h2 : decode cc (pc + 1) = .ok (.ifCond .ge off, 3)) (ht : ((pc + 1 : Nat) : Int) + off = (tgt : Int)) (kt : y ≤ x → W p l e R s m args below meth c H locs cells slots Q (F0 m tgt ls rest)) (kf : ¬ y ≤ x → W p l e R s m args below meth c H locs cells slots Q (F0 m (pc + 1 + 3) ls rest)) : W p l e R s m args below meth c H locs cells slots Q (F0 m pc ls (.long y :: .long x :: rest)) :=
  W.lcmp hx hb h1 (lv_if_ge hx hb h2 ht (fun h => kt ((lg_cmp_ge x y).mp h)) (fun h => kf (fun q => h ((lg_cmp_ge x y).mpr q))))
theorem gl_gt (hx : p.tables.exec = Jvm.exec) (hb : c.code = cc) {x y : Int64} {off : Int} {tgt : Nat} (h1 : decode cc pc = .ok (.lcmp, 1)) (h2 : decode cc (pc + 1) = .ok (.ifCond .gt off, 3)) (ht : ((pc + 1 : Nat) : Int) + off = (tgt : Int)) (kt : y < x → W p l e R s m args below meth c H locs cells slots Q (F0 m tgt ls rest)) (kf : ¬ y < x → W p l e R s m args below meth c H locs cells slots Q (F0 m (pc + 1 + 3) ls rest)) : W p l e R s m args below meth c H locs cells slots Q (F0 m pc ls (.long y :: .long x :: rest)) :=
  W.lcmp hx hb h1 (lv_if_gt hx hb h2 ht (fun h => kt ((lg_cmp_gt x y).mp h)) (fun h => kf (fun q => h ((lg_cmp_gt x y).mpr q))))
theorem gl_le (hx : p.tables.exec = Jvm.exec) (hb : c.code = cc) {x y : Int64} {off : Int} {tgt : Nat} (h1 : decode cc pc = .ok (.lcmp, 1)) (h2 : decode cc (pc + 1) = .ok (.ifCond .le off, 3)) (ht : ((pc + 1 : Nat) : Int) + off = (tgt : Int)) (kt : x ≤ y → W p l e R s m args below meth c H locs cells slots Q (F0 m tgt ls rest)) (kf : ¬ x ≤ y → W p l e R s m args below meth c H locs cells slots Q (F0 m (pc + 1 + 3) ls rest)) : W p l e R s m args below meth c H locs cells slots Q (F0 m pc ls (.long y :: .long x :: rest)) :=
  W.lcmp hx hb h1 (lv_if_le hx hb h2 ht (fun h => kt ((lg_cmp_le x y).mp h)) (fun h => kf (fun q => h ((lg_cmp_le x y).mpr q))))
theorem gc_f {P : Prop} [Decidable P] {k : Nat} {a : Array Value} {st0 : List Value} (hr : va_Run p l e R s m args below meth c H locs cells slots 0 0 (F0 m pc ls st0) rest (va_Sq (fun r => r = if P then some k else none) a) (fun _ => False)) (kt : P → W p l e R s m args below meth c H locs cells slots Q (F0 m (pc + 3) ls (.ref k :: rest))) (kf : ¬ P → W p l e R s m args below meth c H locs cells slots Q (F0 m (pc + 3) ls (.null :: rest))) : W p l e R s m args below meth c H locs cells slots Q (F0 m pc ls st0) := by
  refine gc_q hr (fun r h => ?_)
  by_cases hP : P
  · rw [if_pos hP] at h; subst h; exact kt hP
  · rw [if_neg hP] at h; subst h; exact kf hP
end GLEM
theorem i3l (a b : Int32) : a < b ↔ a.toInt < b.toInt := Int32.lt_iff_toInt_lt
theorem i3e (a b : Int32) : a ≤ b ↔ a.toInt ≤ b.toInt := Int32.le_iff_toInt_le
theorem i3q (a b : Int32) : a = b ↔ a.toInt = b.toInt := Int32.toInt_inj.symm
theorem i6l (a b : Int64) : a < b ↔ a.toInt < b.toInt := Int64.lt_iff_toInt_lt
theorem i6e (a b : Int64) : a ≤ b ↔ a.toInt ≤ b.toInt := Int64.le_iff_toInt_le
theorem i6q (a b : Int64) : a = b ↔ a.toInt = b.toInt := Int64.toInt_inj.symm
theorem vp_le {x M : Int32} {n : Nat} (h0 : 0 ≤ x) (h1 : x ≤ M) (hM : M.toInt < (n : Int)) : vp_in x n := by
  rw [i3e] at h0 h1
  exact vp_in_iff.mpr ⟨h0, by omega⟩
theorem vp_lt {x M : Int32} {n : Nat} (h0 : 0 ≤ x) (h1 : x < M) (hM : M.toInt ≤ (n : Int)) : vp_in x n := by
  rw [i3e] at h0
  rw [i3l] at h1
  exact vp_in_iff.mpr ⟨h0, by omega⟩
theorem sw_n (x : Int32) (n : Nat) (hn : n < 2 ^ 31) : (∃ j, j ≤ n ∧ x = nI j) ∨ (x.toInt < 0 ∨ (n : Int) < x.toInt) := by
  by_cases h0 : x < 0
  · exact Or.inr (Or.inl ((i3l x 0).mp h0))
  · obtain ⟨j, h1, rfl⟩ := nI_of h0
    by_cases h2 : j ≤ n
    · exact Or.inl ⟨j, h2, rfl⟩
    · right; right; rw [nI_toInt h1]; omega
theorem sw_7 (x : Int32) : x = 0 ∨ x = 1 ∨ x = 2 ∨ x = 3 ∨ x = 4 ∨ x = 5 ∨ x = 6 ∨ x = 7 ∨ (x.toInt < 0 ∨ 7 < x.toInt) := by
  rcases sw_n x 7 (by decide) with ⟨j, hj, rfl⟩ | h
  · rcases (show j = 0 ∨ j = 1 ∨ j = 2 ∨ j = 3 ∨ j = 4 ∨ j = 5 ∨ j = 6 ∨ j = 7 by omega) with rfl | rfl | rfl | rfl | rfl | rfl | rfl | rfl <;> decide
  · exact Or.inr (Or.inr (Or.inr (Or.inr (Or.inr (Or.inr (Or.inr (Or.inr h)))))))
theorem sw_5 (x : Int32) : x = 0 ∨ x = 1 ∨ x = 2 ∨ x = 3 ∨ x = 4 ∨ x = 5 ∨ (x.toInt < 0 ∨ 5 < x.toInt) := by
  rcases sw_n x 5 (by decide) with ⟨j, hj, rfl⟩ | h
  · rcases (show j = 0 ∨ j = 1 ∨ j = 2 ∨ j = 3 ∨ j = 4 ∨ j = 5 by omega) with rfl | rfl | rfl | rfl | rfl | rfl <;> decide
  · exact Or.inr (Or.inr (Or.inr (Or.inr (Or.inr (Or.inr h)))))
theorem sw_2 (x : Int32) : x = 0 ∨ x = 1 ∨ x = 2 ∨ (x.toInt < 0 ∨ 2 < x.toInt) := by
  rcases sw_n x 2 (by decide) with ⟨j, hj, rfl⟩ | h
  · rcases (show j = 0 ∨ j = 1 ∨ j = 2 by omega) with rfl | rfl | rfl <;> decide
  · exact Or.inr (Or.inr (Or.inr h))
/-! ===== what a state's numbers say: the reference's own recursions ===== -/
def nOf (S : St) (k : Nat) : Nat := (S.1 k).toNatClampNeg
/-- an index that may be none -/
def oI : Option Nat → Int32
  | none => -1
  | some k => nI k
def dflt (kind : Int32) : Int32 := if kind = 1 then 500 else if kind = 2 then 400 else if kind = 5 then 180 else 0
/-- of the first decrees: the value in force, and the month from which it holds -/
def infL (S : St) (kind month known : Int32) : Nat → Int32 × Int32
  | 0 => (dflt kind, 0)
  | k + 1 => if S.2.2.1 3 k = kind ∧ S.2.2.1 6 k ≤ known ∧ S.2.2.1 4 k ≤ month ∧ (infL S kind month known k).2 ≤ S.2.2.1 4 k then (S.2.2.1 5 k, S.2.2.1 4 k) else infL S kind month known k
def sInf (S : St) (kind month known : Int32) : Int32 := (infL S kind month known (nOf S 2)).1
/-- the fate told last of the first ones -/
def lastF (S : St) (child known : Int32) : Nat → Option Nat
  | 0 => none
  | k + 1 => if S.2.2.1 11 k = child ∧ S.2.2.1 14 k ≤ known then some k else lastF S child known k
def sFate (S : St) (child known : Int32) : Option Nat := match lastF S child known (nOf S 10) with
  | none => none
  | some k => if S.2.2.1 12 k < 3 then some k else none
def sCnt (S : St) (made child known : Int32) : Option Nat := match sFate S child known with
  | none => none
  | some f => if made ≤ S.2.2.1 13 f then some f else none
def sAhead (S : St) (a b : Option Nat) : Option Nat := match a, b with
  | none, b => b
  | some a, none => some a
  | some a, some b => if (S.2.2.1 12 a = 0) = (S.2.2.1 12 b = 0) then (if S.2.2.1 13 b < S.2.2.1 13 a then some b else some a) else if S.2.2.1 12 a = 0 then some a else some b
def sFall (S : St) (d : Nat) (known : Int32) : Option Nat := if known < S.2.2.1 22 d then none else sAhead S (sCnt S (S.2.2.1 22 d) (S.2.2.1 17 d) known) (if S.2.2.1 16 d = 1 then sCnt S (S.2.2.1 22 d) (S.2.2.1 18 d) known else none)
def sDueM (S : St) (f : Nat) (known : Int32) : Int32 := S.2.2.1 13 f + sInf S 0 (S.2.2.1 13 f) known
def th (x : Int64) (h : Int32) : Int64 := x * h.toInt64 / 1000
def sPre (S : St) (d f : Nat) (known : Int32) : Int64 := if S.2.2.1 12 f = 2 then th (S.2.2.1 19 d).toInt64 (sInf S 1 (S.2.2.1 13 f) known) else if S.2.2.1 12 f = 1 ∧ ¬ S.2.2.1 16 d = 2 then th (S.2.2.2 20 d) (sInf S 2 (S.2.2.1 13 f) known) else if S.2.2.1 21 d ≤ S.2.2.1 13 f then S.2.2.2 20 d else th (S.2.2.2 20 d) (sInf S 3 (S.2.2.1 13 f) known)
def sDue (S : St) (d f : Nat) (known : Int32) : Int64 := sPre S d f known - th (sPre S d f known) (sInf S 4 (sDueM S f known) known)
/-- a finding is answered, and counted -/
def sNo (S : St) (k : Int32) : Int64 × St := ((-1000000000000) - k.toInt64, uA S 1 (upd (S.2.2.1 1) k.toNatClampNeg (S.2.2.1 1 k.toNatClampNeg + 1)))
/-- who holds deposit d in a month: of the first k sales -/
def holdL (S : St) (d : Nat) (month : Int32) : Nat → Int32
  | 0 => -1
  | k + 1 => if S.2.2.1 26 (7 * d + k) ≤ month then S.2.2.1 27 (7 * d + k) else holdL S d month k
def sHold (S : St) (d : Nat) (month : Int32) : Int32 := holdL S d month (S.2.2.1 25 d).toNatClampNeg
abbrev inR (x a b : Int32) : Prop := a ≤ x ∧ x ≤ b
abbrev isC (S : St) (c : Int32) : Prop := 0 ≤ c ∧ c < S.1 8
abbrev isD (S : St) (d : Int32) : Prop := 0 ≤ d ∧ d < S.1 15
/-! what holds of every state that calls can reach -/
def okN (S : St) : Prop := (0 ≤ S.1 0 ∧ S.1 0 ≤ 1199) ∧ (0 ≤ S.1 2 ∧ S.1 2 ≤ 60) ∧ (0 ≤ S.1 8 ∧ S.1 8 ≤ 30) ∧ (0 ≤ S.1 10 ∧ S.1 10 ≤ 90) ∧ (0 ≤ S.1 15 ∧ S.1 15 ≤ 30) ∧ (0 ≤ S.1 37 ∧ S.1 37 ≤ 30)
def okD (S : St) : Prop := ∀ k, k < nOf S 2 → (0 ≤ S.2.2.1 3 k ∧ S.2.2.1 3 k ≤ 5) ∧ (0 ≤ S.2.2.1 4 k ∧ S.2.2.1 4 k ≤ 1199) ∧ S.2.2.1 6 k ≤ S.1 0 ∧ (0 ≤ S.2.2.1 5 k ∧ S.2.2.1 5 k ≤ 1000) ∧ (S.2.2.1 3 k = 0 → S.2.2.1 5 k ≤ 60) ∧ (S.2.2.1 3 k = 5 → 12 ≤ S.2.2.1 5 k ∧ S.2.2.1 5 k ≤ 240)
def okR (S : St) : Prop := ∀ k, 1 ≤ k → k ≤ 20 → 100 ≤ S.2.2.1 7 k ∧ S.2.2.1 7 k ≤ 1000
def okC (S : St) : Prop := ∀ k, k < nOf S 8 → 0 ≤ S.2.2.1 9 k ∧ S.2.2.1 9 k ≤ S.1 0
def okF (S : St) : Prop := ∀ k, k < nOf S 10 → (0 ≤ S.2.2.1 12 k ∧ S.2.2.1 12 k ≤ 3) ∧ (S.2.2.1 12 k < 3 → 0 ≤ S.2.2.1 13 k ∧ S.2.2.1 13 k ≤ 1199) ∧ S.2.2.1 14 k ≤ S.1 0
def okS (S : St) (k : Nat) : Prop := (1 ≤ S.2.2.1 25 k ∧ S.2.2.1 25 k ≤ 7) ∧ S.2.2.1 26 (7 * k) = S.2.2.1 22 k ∧ (∀ j, j + 1 < (S.2.2.1 25 k).toNatClampNeg → S.2.2.1 26 (7 * k + j) < S.2.2.1 26 (7 * k + (j + 1))) ∧ S.2.2.1 26 (7 * k + ((S.2.2.1 25 k).toNatClampNeg - 1)) ≤ S.1 0 ∧ (∀ j, j < (S.2.2.1 25 k).toNatClampNeg → 0 ≤ S.2.2.1 27 (7 * k + j) ∧ S.2.2.1 27 (7 * k + j) ≤ 9)
def okP (S : St) : Prop := ∀ k, k < nOf S 15 → (0 ≤ S.2.2.1 16 k ∧ S.2.2.1 16 k ≤ 2) ∧ 0 ≤ S.2.2.1 17 k ∧ (S.2.2.1 16 k = 1 → 0 ≤ S.2.2.1 18 k) ∧ (¬ S.2.2.1 16 k = 1 → S.2.2.1 18 k = -1) ∧ (1 ≤ S.2.2.1 19 k ∧ S.2.2.1 19 k ≤ 10000) ∧ (0 ≤ S.2.2.2 20 k ∧ S.2.2.2 20 k ≤ 100000) ∧ (0 ≤ S.2.2.1 22 k ∧ S.2.2.1 22 k ≤ S.1 0) ∧ (0 ≤ S.2.2.2 23 k ∧ S.2.2.2 23 k ≤ 100000) ∧ (S.2.2.1 24 k = 0 ∨ S.2.2.1 24 k = 1) ∧ okS S k
def okZ (S : St) : Prop := ∀ q, 7 * nOf S 15 ≤ q → S.2.2.1 26 q = 0 ∧ S.2.2.1 27 q = 0
def okM (S : St) : Prop := 0 ≤ S.2.1 28 ∧ S.2.1 28 ≤ 1000000000
def Ok (S : St) : Prop := okN S ∧ okD S ∧ okR S ∧ okC S ∧ okF S ∧ okP S ∧ okZ S ∧ okM S
theorem nOf_eq {S : St} {k : Nat} (h : 0 ≤ S.1 k) : S.1 k = nI (nOf S k) := by
  obtain ⟨j, h1, h2⟩ := nI_of (x := S.1 k) (by rw [i3l]; rw [i3e] at h; omega)
  rw [nOf, h2, nI_clamp h1]
theorem nOf_le {S : St} {k : Nat} {M : Int32} {n : Nat} (h : 0 ≤ S.1 k) (h2 : S.1 k ≤ M) (hM : M.toInt ≤ (n : Int)) : nOf S k ≤ n := by
  obtain ⟨j, h1, h3⟩ := nI_of (x := S.1 k) (by rw [i3l]; rw [i3e] at h; omega)
  rw [nOf, h3, nI_clamp h1]
  rw [i3e, h3, nI_toInt h1] at h2
  omega
theorem cl_eq {x : Int32} (h : 0 ≤ x) : x = nI x.toNatClampNeg := by
  obtain ⟨j, h1, h2⟩ := nI_of (x := x) (by rw [i3l]; rw [i3e] at h; omega)
  rw [h2, nI_clamp h1]
theorem cl_lt {x : Int32} : x.toNatClampNeg < 2 ^ 31 := by
  have h := Int32.toInt_lt x
  show x.toInt.toNat < 2 ^ 31
  omega
theorem cl_int {x : Int32} (h : 0 ≤ x) : (x.toNatClampNeg : Int) = x.toInt := by
  have h1 := cl_eq h
  have h2 := nI_toInt (cl_lt (x := x))
  rw [← h1] at h2
  omega
theorem nI_m1 {n : Nat} (h : n < 2 ^ 31) : ¬ nI n = -1 := by
  intro q
  rw [i3q, nI_toInt h] at q
  exact absurd q (by show ¬ (n : Int) = -1; omega)
theorem n7 (d k : Nat) : (7 : Int32) * nI d + nI k = nI (7 * d + k) := by rw [show (7 : Int32) = nI 7 from rfl, pk_mul, nI_add]
theorem infL_b {S : St} {kind month known : Int32} : ∀ {n : Nat}, n ≤ nOf S 2 → okD S → 0 ≤ (infL S kind month known n).2
  | 0, _, _ => by simp only [infL]; decide
  | n + 1, h, hd => by
    rw [infL]
    split
    · exact (hd n (by omega)).2.1.1
    · exact infL_b (by omega) hd
theorem lastF_lt {S : St} {child known : Int32} {f : Nat} : ∀ {n : Nat}, lastF S child known n = some f → f < n
  | 0, h => by simp [lastF] at h
  | n + 1, h => by
    rw [lastF] at h
    split at h
    · cases h; omega
    · have := lastF_lt h; omega
theorem sFate_lt {S : St} {child known : Int32} {f : Nat} (h : sFate S child known = some f) : f < nOf S 10 ∧ S.2.2.1 12 f < 3 := by
  rw [sFate] at h
  cases hl : lastF S child known (nOf S 10) with
  | none => rw [hl] at h; cases h
  | some k =>
    rw [hl] at h
    dsimp only at h
    split at h
    · cases h; exact ⟨lastF_lt hl, by assumption⟩
    · cases h
theorem sCnt_lt {S : St} {made child known : Int32} {f : Nat} (h : sCnt S made child known = some f) : f < nOf S 10 ∧ S.2.2.1 12 f < 3 := by
  rw [sCnt] at h
  cases hl : sFate S child known with
  | none => rw [hl] at h; cases h
  | some k =>
    rw [hl] at h
    dsimp only at h
    split at h
    · cases h; exact sFate_lt hl
    · cases h
theorem sFall_lt {S : St} {d : Nat} {known : Int32} {f : Nat} (h : sFall S d known = some f) : f < nOf S 10 ∧ S.2.2.1 12 f < 3 := by
  rw [sFall] at h
  split at h
  · cases h
  · rw [sAhead.eq_def] at h
    split at h
    · rename_i h2
      split at h
      · exact sCnt_lt h
      · cases h
    · rename_i a h1 h2
      cases h
      exact sCnt_lt h1
    · rename_i a b h1 h2
      have h3 := sCnt_lt h1
      have h4 : b < nOf S 10 ∧ S.2.2.1 12 b < 3 := by
        split at h2
        · exact sCnt_lt h2
        · cases h2
      split at h
      · split at h
        · cases h; exact h4
        · cases h; exact h3
      · split at h
        · cases h; exact h3
        · cases h; exact h4
theorem i3m1 : Int32.toInt (-1) = -1 := rfl
theorem sub1 {x : Int32} (h0 : 0 ≤ x) : (x - 1).toInt = x.toInt - 1 := by
  rw [i3e] at h0
  have h1 := Int32.toInt_lt x
  have h2 : (0 : Int) ≤ x.toInt := h0
  rw [Int32.toInt_sub]
  show (x.toInt - 1).bmod (2 ^ 32) = x.toInt - 1
  rw [Int.bmod_eq_of_le (by omega) (by omega)]
theorem zi_0 : Int32.toInt 0 = 0 := rfl
theorem zi_1 : Int32.toInt 1 = 1 := rfl
theorem zi_2 : Int32.toInt 2 = 2 := rfl
theorem zi_3 : Int32.toInt 3 = 3 := rfl
theorem zi_4 : Int32.toInt 4 = 4 := rfl
theorem zi_5 : Int32.toInt 5 = 5 := rfl
theorem zi_6 : Int32.toInt 6 = 6 := rfl
theorem zi_7 : Int32.toInt 7 = 7 := rfl
theorem zi_8 : Int32.toInt 8 = 8 := rfl
theorem zi_9 : Int32.toInt 9 = 9 := rfl
theorem zi_10 : Int32.toInt 10 = 10 := rfl
theorem zi_12 : Int32.toInt 12 = 12 := rfl
theorem zi_20 : Int32.toInt 20 = 20 := rfl
theorem zi_21 : Int32.toInt 21 = 21 := rfl
theorem zi_30 : Int32.toInt 30 = 30 := rfl
theorem zi_60 : Int32.toInt 60 = 60 := rfl
theorem zi_90 : Int32.toInt 90 = 90 := rfl
theorem zi_99 : Int32.toInt 99 = 99 := rfl
theorem zi_100 : Int32.toInt 100 = 100 := rfl
theorem zi_180 : Int32.toInt 180 = 180 := rfl
theorem zi_240 : Int32.toInt 240 = 240 := rfl
theorem zi_400 : Int32.toInt 400 = 400 := rfl
theorem zi_500 : Int32.toInt 500 = 500 := rfl
theorem zi_1000 : Int32.toInt 1000 = 1000 := rfl
theorem zi_1199 : Int32.toInt 1199 = 1199 := rfl
theorem zi_10000 : Int32.toInt 10000 = 10000 := rfl
theorem zi_100000 : Int32.toInt 100000 = 100000 := rfl
theorem zi_1000000 : Int32.toInt 1000000 = 1000000 := rfl
theorem zj_0 : Int64.toInt 0 = 0 := rfl
theorem zj_1 : Int64.toInt 1 = 1 := rfl
theorem zj_100 : Int64.toInt 100 = 100 := rfl
theorem zj_1000 : Int64.toInt 1000 = 1000 := rfl
theorem zj_1199 : Int64.toInt 1199 = 1199 := rfl
theorem zj_100000 : Int64.toInt 100000 = 100000 := rfl
theorem zj_1000000 : Int64.toInt 1000000 = 1000000 := rfl
theorem zj_1000000000 : Int64.toInt 1000000000 = 1000000000 := rfl
end
section
theorem bI_t {P : Prop} [Decidable P] (h : P) : (1 : Int32) = bI P := by rw [bI, if_pos h]
theorem bI_f {P : Prop} [Decidable P] (h : ¬ P) : (0 : Int32) = bI P := by rw [bI, if_neg h]
theorem bI_1 {P : Prop} [Decidable P] : narrow .boolean (.int (bI P)) = .int (bI P) := by
  by_cases h : P
  · rw [bI, if_pos h]; rfl
  · rw [bI, if_neg h]; rfl
set_option maxHeartbeats 4000000 in
set_option maxRecDepth 100000 in
theorem c_X11_in (l : Launch) (D : va_G) (G : Nat → ClassId) (τ α : Nat → Nat) (E : Nat → va_E) (L : List Nat) (sz : Nat) (v a b : Int32) : Ri l D G τ yX11_in cX11_in 3 (some .boolean) 0 [.int v, .int a, .int b] α E L sz (fun r => r = bI (inR v a b)) := by
  refine gM _ (by decide) rfl (Nat.le_of_ble_eq_true rfl) ?_
  intro p e s m below meth c ls C hr hlk hnm hsz B hl
  have hx := C.1
  have hb := C.2.1
  have hl : lv_has ls 3 [(0, .int v), (1, .int a), (2, .int b)] := hl
  refine lv_iload_n hx hb dX11_in_0 rfl (lv_at hl 0 rfl) ?_
  refine lv_iload_n hx hb dX11_in_1 rfl (lv_at hl 1 rfl) ?_
  refine lv_icmp_lt (tgt := 14) hx hb dX11_in_2 (by decide) (fun c1 => ?_) (fun c1 => ?_)
  · refine lv_iconst (v := 0) hx hb dX11_in_14 (by decide) ?_
    exact ge_i C hr rfl hlk (bI_f (by simp only [i3l, i3e, i3q, inR, isC, isD, zi_0, zi_1, zi_2, zi_3, zi_4, zi_5, zi_6, zi_7, zi_8, zi_9, zi_10, zi_12, zi_20, zi_21, zi_30, zi_60, zi_90, zi_99, zi_100, zi_180, zi_240, zi_400, zi_500, zi_1000, zi_1199, zi_10000, zi_100000, zi_1000000, i3m1] at c1 ⊢; omega)) dX11_in_15
  · refine lv_iload_n hx hb dX11_in_5 rfl (lv_at hl 0 rfl) ?_
    refine lv_iload_n hx hb dX11_in_6 rfl (lv_at hl 2 rfl) ?_
    refine lv_icmp_gt (tgt := 14) hx hb dX11_in_7 (by decide) (fun c2 => ?_) (fun c2 => ?_)
    · refine lv_iconst (v := 0) hx hb dX11_in_14 (by decide) ?_
      exact ge_i C hr rfl hlk (bI_f (by simp only [i3l, i3e, i3q, inR, isC, isD, zi_0, zi_1, zi_2, zi_3, zi_4, zi_5, zi_6, zi_7, zi_8, zi_9, zi_10, zi_12, zi_20, zi_21, zi_30, zi_60, zi_90, zi_99, zi_100, zi_180, zi_240, zi_400, zi_500, zi_1000, zi_1199, zi_10000, zi_100000, zi_1000000, i3m1] at c1 c2 ⊢; omega)) dX11_in_15
    · refine lv_iconst (v := 1) hx hb dX11_in_10 (by decide) ?_
      refine lv_goto (tgt := 15) hx hb dX11_in_11 (by decide) ?_
      exact ge_i C hr rfl hlk (bI_t (by simp only [i3l, i3e, i3q, inR, isC, isD, zi_0, zi_1, zi_2, zi_3, zi_4, zi_5, zi_6, zi_7, zi_8, zi_9, zi_10, zi_12, zi_20, zi_21, zi_30, zi_60, zi_90, zi_99, zi_100, zi_180, zi_240, zi_400, zi_500, zi_1000, zi_1199, zi_10000, zi_100000, zi_1000000, i3m1] at c1 c2 ⊢; omega)) dX11_in_15
set_option maxHeartbeats 4000000 in
set_option maxRecDepth 100000 in
theorem c_X10_isWithin (l : Launch) (D : va_G) (G : Nat → ClassId) (τ α : Nat → Nat) (E : Nat → va_E) (L : List Nat) (sz : Nat) (v a b : Int32) : Ri l D G τ yX10_isWithin cX10_isWithin 3 (some .boolean) 0 [.int v, .int a, .int b] α E L sz (fun r => r = bI (inR v a b)) := by
  refine gM _ (by decide) rfl (Nat.le_of_ble_eq_true rfl) ?_
  intro p e s m below meth c ls C hr hlk hnm hsz B hl
  have hx := C.1
  have hb := C.2.1
  have hl : lv_has ls 3 [(0, .int v), (1, .int a), (2, .int b)] := hl
  refine lv_iload_n hx hb dX10_isWithin_0 rfl (lv_at hl 0 rfl) ?_
  refine lv_iload_n hx hb dX10_isWithin_1 rfl (lv_at hl 1 rfl) ?_
  refine lv_icmp_lt (tgt := 14) hx hb dX10_isWithin_2 (by decide) (fun c1 => ?_) (fun c1 => ?_)
  · refine lv_iconst (v := 0) hx hb dX10_isWithin_14 (by decide) ?_
    exact ge_i C hr rfl hlk (bI_f (by simp only [i3l, i3e, i3q, inR, isC, isD, zi_0, zi_1, zi_2, zi_3, zi_4, zi_5, zi_6, zi_7, zi_8, zi_9, zi_10, zi_12, zi_20, zi_21, zi_30, zi_60, zi_90, zi_99, zi_100, zi_180, zi_240, zi_400, zi_500, zi_1000, zi_1199, zi_10000, zi_100000, zi_1000000, i3m1] at c1 ⊢; omega)) dX10_isWithin_15
  · refine lv_iload_n hx hb dX10_isWithin_5 rfl (lv_at hl 0 rfl) ?_
    refine lv_iload_n hx hb dX10_isWithin_6 rfl (lv_at hl 2 rfl) ?_
    refine lv_icmp_gt (tgt := 14) hx hb dX10_isWithin_7 (by decide) (fun c2 => ?_) (fun c2 => ?_)
    · refine lv_iconst (v := 0) hx hb dX10_isWithin_14 (by decide) ?_
      exact ge_i C hr rfl hlk (bI_f (by simp only [i3l, i3e, i3q, inR, isC, isD, zi_0, zi_1, zi_2, zi_3, zi_4, zi_5, zi_6, zi_7, zi_8, zi_9, zi_10, zi_12, zi_20, zi_21, zi_30, zi_60, zi_90, zi_99, zi_100, zi_180, zi_240, zi_400, zi_500, zi_1000, zi_1199, zi_10000, zi_100000, zi_1000000, i3m1] at c1 c2 ⊢; omega)) dX10_isWithin_15
    · refine lv_iconst (v := 1) hx hb dX10_isWithin_10 (by decide) ?_
      refine lv_goto (tgt := 15) hx hb dX10_isWithin_11 (by decide) ?_
      exact ge_i C hr rfl hlk (bI_t (by simp only [i3l, i3e, i3q, inR, isC, isD, zi_0, zi_1, zi_2, zi_3, zi_4, zi_5, zi_6, zi_7, zi_8, zi_9, zi_10, zi_12, zi_20, zi_21, zi_30, zi_60, zi_90, zi_99, zi_100, zi_180, zi_240, zi_400, zi_500, zi_1000, zi_1199, zi_10000, zi_100000, zi_1000000, i3m1] at c1 c2 ⊢; omega)) dX10_isWithin_15
set_option maxHeartbeats 4000000 in
set_option maxRecDepth 100000 in
theorem c_X11_isMonth (l : Launch) (D : va_G) (G : Nat → ClassId) (τ α : Nat → Nat) (E : Nat → va_E) (L : List Nat) (sz : Nat) (v : Int32) : Ri l D G τ yX11_isMonth cX11_isMonth 1 (some .boolean) 1 [.int v] α E L sz (fun r => r = bI (inR v 0 1199)) := by
  refine gM _ (by decide) rfl (Nat.le_of_ble_eq_true rfl) ?_
  intro p e s m below meth c ls C hr hlk hnm hsz B hl
  have hx := C.1
  have hb := C.2.1
  have hl : lv_has ls 1 [(0, .int v)] := hl
  refine lv_iload_n hx hb dX11_isMonth_0 rfl (lv_at hl 0 rfl) ?_
  refine lv_iconst (v := 0) hx hb dX11_isMonth_1 (by decide) ?_
  refine lv_sipush (v := 1199) hx hb dX11_isMonth_2 (by decide) ?_
  refine gc_b (gr_S C B (As := [.int v, .int 0, .int 1199]) (rest := []) (c_X11_in l D G τ α _ _ _ v 0 1199) wl_862 wl_863 wl_40 wl_864 (na := 3) (by decide +kernel) rfl ⟨Nat.le_of_ble_eq_true rfl, Nat.le_of_ble_eq_true rfl⟩ ⟨Nat.le_of_ble_eq_true rfl, Nat.le_of_ble_eq_true rfl⟩ hl.1 rfl (Nat.le_of_ble_eq_true rfl) dX11_isMonth_5) (fun c1 => ?_) (fun c1 => ?_)
  · exact ge_i C hr rfl hlk (bI_t c1) dX11_isMonth_8
  · exact ge_i C hr rfl hlk (bI_f c1) dX11_isMonth_8
set_option maxHeartbeats 4000000 in
set_option maxRecDepth 100000 in
theorem c_X11_isHolder (l : Launch) (D : va_G) (G : Nat → ClassId) (τ α : Nat → Nat) (E : Nat → va_E) (L : List Nat) (sz : Nat) (v : Int32) : Ri l D G τ yX11_isHolder cX11_isHolder 1 (some .boolean) 1 [.int v] α E L sz (fun r => r = bI (inR v 0 9)) := by
  refine gM _ (by decide) rfl (Nat.le_of_ble_eq_true rfl) ?_
  intro p e s m below meth c ls C hr hlk hnm hsz B hl
  have hx := C.1
  have hb := C.2.1
  have hl : lv_has ls 1 [(0, .int v)] := hl
  refine lv_iload_n hx hb dX11_isHolder_0 rfl (lv_at hl 0 rfl) ?_
  refine lv_iconst (v := 0) hx hb dX11_isHolder_1 (by decide) ?_
  refine lv_bipush (v := 9) hx hb dX11_isHolder_2 (by decide) ?_
  refine gc_b (gr_S C B (As := [.int v, .int 0, .int 9]) (rest := []) (c_X11_in l D G τ α _ _ _ v 0 9) wl_862 wl_863 wl_40 wl_864 (na := 3) (by decide +kernel) rfl ⟨Nat.le_of_ble_eq_true rfl, Nat.le_of_ble_eq_true rfl⟩ ⟨Nat.le_of_ble_eq_true rfl, Nat.le_of_ble_eq_true rfl⟩ hl.1 rfl (Nat.le_of_ble_eq_true rfl) dX11_isHolder_4) (fun c1 => ?_) (fun c1 => ?_)
  · exact ge_i C hr rfl hlk (bI_t c1) dX11_isHolder_7
  · exact ge_i C hr rfl hlk (bI_f c1) dX11_isHolder_7
set_option maxHeartbeats 4000000 in
set_option maxRecDepth 100000 in
theorem c_X10_isMonth (l : Launch) (D : va_G) (G : Nat → ClassId) (τ α : Nat → Nat) (E : Nat → va_E) (L : List Nat) (sz : Nat) (v : Int32) : Ri l D G τ yX10_isMonth cX10_isMonth 1 (some .boolean) 1 [.int v] α E L sz (fun r => r = bI (inR v 0 1199)) := by
  refine gM _ (by decide) rfl (Nat.le_of_ble_eq_true rfl) ?_
  intro p e s m below meth c ls C hr hlk hnm hsz B hl
  have hx := C.1
  have hb := C.2.1
  have hl : lv_has ls 1 [(0, .int v)] := hl
  refine lv_iload_n hx hb dX10_isMonth_0 rfl (lv_at hl 0 rfl) ?_
  refine lv_iconst (v := 0) hx hb dX10_isMonth_1 (by decide) ?_
  refine lv_sipush (v := 1199) hx hb dX10_isMonth_2 (by decide) ?_
  refine gc_b (gr_S C B (As := [.int v, .int 0, .int 1199]) (rest := []) (c_X10_isWithin l D G τ α _ _ _ v 0 1199) wl_264 wl_265 wl_29 wl_266 (na := 3) (by decide +kernel) rfl ⟨Nat.le_of_ble_eq_true rfl, Nat.le_of_ble_eq_true rfl⟩ ⟨Nat.le_of_ble_eq_true rfl, Nat.le_of_ble_eq_true rfl⟩ hl.1 rfl (Nat.le_of_ble_eq_true rfl) dX10_isMonth_5) (fun c1 => ?_) (fun c1 => ?_)
  · exact ge_i C hr rfl hlk (bI_t c1) dX10_isMonth_8
  · exact ge_i C hr rfl hlk (bI_f c1) dX10_isMonth_8
set_option maxHeartbeats 4000000 in
set_option maxRecDepth 100000 in
theorem c_X10_isHolder (l : Launch) (D : va_G) (G : Nat → ClassId) (τ α : Nat → Nat) (E : Nat → va_E) (L : List Nat) (sz : Nat) (v : Int32) : Ri l D G τ yX10_isHolder cX10_isHolder 1 (some .boolean) 1 [.int v] α E L sz (fun r => r = bI (inR v 0 9)) := by
  refine gM _ (by decide) rfl (Nat.le_of_ble_eq_true rfl) ?_
  intro p e s m below meth c ls C hr hlk hnm hsz B hl
  have hx := C.1
  have hb := C.2.1
  have hl : lv_has ls 1 [(0, .int v)] := hl
  refine lv_iload_n hx hb dX10_isHolder_0 rfl (lv_at hl 0 rfl) ?_
  refine lv_iconst (v := 0) hx hb dX10_isHolder_1 (by decide) ?_
  refine lv_bipush (v := 9) hx hb dX10_isHolder_2 (by decide) ?_
  refine gc_b (gr_S C B (As := [.int v, .int 0, .int 9]) (rest := []) (c_X10_isWithin l D G τ α _ _ _ v 0 9) wl_264 wl_265 wl_29 wl_266 (na := 3) (by decide +kernel) rfl ⟨Nat.le_of_ble_eq_true rfl, Nat.le_of_ble_eq_true rfl⟩ ⟨Nat.le_of_ble_eq_true rfl, Nat.le_of_ble_eq_true rfl⟩ hl.1 rfl (Nat.le_of_ble_eq_true rfl) dX10_isHolder_4) (fun c1 => ?_) (fun c1 => ?_)
  · exact ge_i C hr rfl hlk (bI_t c1) dX10_isHolder_7
  · exact ge_i C hr rfl hlk (bI_f c1) dX10_isHolder_7
set_option maxHeartbeats 4000000 in
set_option maxRecDepth 100000 in
theorem c_X10_isDepositKind (l : Launch) (D : va_G) (G : Nat → ClassId) (τ α : Nat → Nat) (E : Nat → va_E) (L : List Nat) (sz : Nat) (v : Int32) : Ri l D G τ yX10_isDepositKind cX10_isDepositKind 1 (some .boolean) 1 [.int v] α E L sz (fun r => r = bI (inR v 0 2)) := by
  refine gM _ (by decide) rfl (Nat.le_of_ble_eq_true rfl) ?_
  intro p e s m below meth c ls C hr hlk hnm hsz B hl
  have hx := C.1
  have hb := C.2.1
  have hl : lv_has ls 1 [(0, .int v)] := hl
  refine lv_iload_n hx hb dX10_isDepositKind_0 rfl (lv_at hl 0 rfl) ?_
  refine lv_iconst (v := 0) hx hb dX10_isDepositKind_1 (by decide) ?_
  refine lv_iconst (v := 2) hx hb dX10_isDepositKind_2 (by decide) ?_
  refine gc_b (gr_S C B (As := [.int v, .int 0, .int 2]) (rest := []) (c_X10_isWithin l D G τ α _ _ _ v 0 2) wl_264 wl_265 wl_29 wl_266 (na := 3) (by decide +kernel) rfl ⟨Nat.le_of_ble_eq_true rfl, Nat.le_of_ble_eq_true rfl⟩ ⟨Nat.le_of_ble_eq_true rfl, Nat.le_of_ble_eq_true rfl⟩ hl.1 rfl (Nat.le_of_ble_eq_true rfl) dX10_isDepositKind_3) (fun c1 => ?_) (fun c1 => ?_)
  · exact ge_i C hr rfl hlk (bI_t c1) dX10_isDepositKind_6
  · exact ge_i C hr rfl hlk (bI_f c1) dX10_isDepositKind_6
set_option maxHeartbeats 4000000 in
set_option maxRecDepth 100000 in
theorem c_X1_isKind (l : Launch) (D : va_G) (G : Nat → ClassId) (τ α : Nat → Nat) (E : Nat → va_E) (L : List Nat) (sz : Nat) (v : Int32) : Ri l D G τ yX1_isKind cX1_isKind 1 (some .boolean) 1 [.int v] α E L sz (fun r => r = bI (inR v 0 5)) := by
  refine gM _ (by decide) rfl (Nat.le_of_ble_eq_true rfl) ?_
  intro p e s m below meth c ls C hr hlk hnm hsz B hl
  have hx := C.1
  have hb := C.2.1
  have hl : lv_has ls 1 [(0, .int v)] := hl
  refine lv_iload_n hx hb dX1_isKind_0 rfl (lv_at hl 0 rfl) ?_
  refine lv_iconst (v := 0) hx hb dX1_isKind_1 (by decide) ?_
  refine lv_iconst (v := 5) hx hb dX1_isKind_2 (by decide) ?_
  refine gc_b (gr_SN C B (As := [.int v, .int 0, .int 5]) (rest := []) (c_X10_isWithin l D G τ α _ _ _ v 0 5) (by decide +kernel : Cond.methodLinkNest RX1 28 yX10_isWithin RX10 ∈ gNs) wl_265 wl_29 wl_266 (na := 3) (by decide +kernel) rfl ⟨Nat.le_of_ble_eq_true rfl, Nat.le_of_ble_eq_true rfl⟩ ⟨Nat.le_of_ble_eq_true rfl, Nat.le_of_ble_eq_true rfl⟩ hl.1 rfl (Nat.le_of_ble_eq_true rfl) dX1_isKind_3) (fun c1 => ?_) (fun c1 => ?_)
  · exact ge_i C hr rfl hlk (bI_t c1) dX1_isKind_6
  · exact ge_i C hr rfl hlk (bI_f c1) dX1_isKind_6
set_option maxHeartbeats 4000000 in
set_option maxRecDepth 100000 in
theorem c_X6_isAge (l : Launch) (D : va_G) (G : Nat → ClassId) (τ α : Nat → Nat) (E : Nat → va_E) (L : List Nat) (sz : Nat) (v : Int32) : Ri l D G τ yX6_isAge cX6_isAge 1 (some .boolean) 1 [.int v] α E L sz (fun r => r = bI (inR v 0 20)) := by
  refine gM _ (by decide) rfl (Nat.le_of_ble_eq_true rfl) ?_
  intro p e s m below meth c ls C hr hlk hnm hsz B hl
  have hx := C.1
  have hb := C.2.1
  have hl : lv_has ls 1 [(0, .int v)] := hl
  refine lv_iload_n hx hb dX6_isAge_0 rfl (lv_at hl 0 rfl) ?_
  refine lv_iconst (v := 0) hx hb dX6_isAge_1 (by decide) ?_
  refine lv_bipush (v := 20) hx hb dX6_isAge_2 (by decide) ?_
  refine gc_b (gr_SN C B (As := [.int v, .int 0, .int 20]) (rest := []) (c_X10_isWithin l D G τ α _ _ _ v 0 20) (by decide +kernel : Cond.methodLinkNest RX6 19 yX10_isWithin RX10 ∈ gNs) wl_265 wl_29 wl_266 (na := 3) (by decide +kernel) rfl ⟨Nat.le_of_ble_eq_true rfl, Nat.le_of_ble_eq_true rfl⟩ ⟨Nat.le_of_ble_eq_true rfl, Nat.le_of_ble_eq_true rfl⟩ hl.1 rfl (Nat.le_of_ble_eq_true rfl) dX6_isAge_4) (fun c1 => ?_) (fun c1 => ?_)
  · exact ge_i C hr rfl hlk (bI_t c1) dX6_isAge_7
  · exact ge_i C hr rfl hlk (bI_f c1) dX6_isAge_7
set_option maxHeartbeats 4000000 in
set_option maxRecDepth 100000 in
theorem c_X11_areAges (l : Launch) (D : va_G) (G : Nat → ClassId) (τ α : Nat → Nat) (E : Nat → va_E) (L : List Nat) (sz : Nat) (a b : Int32) : Ri l D G τ yX11_areAges cX11_areAges 2 (some .boolean) 1 [.int a, .int b] α E L sz (fun r => r = bI (inR a 0 20 ∧ inR b a 21)) := by
  refine gM _ (by decide) rfl (Nat.le_of_ble_eq_true rfl) ?_
  intro p e s m below meth c ls C hr hlk hnm hsz B hl
  have hx := C.1
  have hb := C.2.1
  have hl : lv_has ls 2 [(0, .int a), (1, .int b)] := hl
  refine lv_iload_n hx hb dX11_areAges_0 rfl (lv_at hl 0 rfl) ?_
  refine lv_iconst (v := 0) hx hb dX11_areAges_1 (by decide) ?_
  refine lv_bipush (v := 20) hx hb dX11_areAges_2 (by decide) ?_
  refine gc_b (gr_S C B (As := [.int a, .int 0, .int 20]) (rest := []) (c_X11_in l D G τ α _ _ _ a 0 20) wl_862 wl_863 wl_40 wl_864 (na := 3) (by decide +kernel) rfl ⟨Nat.le_of_ble_eq_true rfl, Nat.le_of_ble_eq_true rfl⟩ ⟨Nat.le_of_ble_eq_true rfl, Nat.le_of_ble_eq_true rfl⟩ hl.1 rfl (Nat.le_of_ble_eq_true rfl) dX11_areAges_4) (fun c1 => ?_) (fun c1 => ?_)
  · refine lv_if_eq (tgt := 24) hx hb dX11_areAges_7 (by decide) (fun hc => absurd hc (by decide)) (fun _ => ?_)
    refine lv_iload_n hx hb dX11_areAges_10 rfl (lv_at hl 1 rfl) ?_
    refine lv_iload_n hx hb dX11_areAges_11 rfl (lv_at hl 0 rfl) ?_
    refine lv_bipush (v := 21) hx hb dX11_areAges_12 (by decide) ?_
    refine gc_b (gr_S C B (As := [.int b, .int a, .int 21]) (rest := []) (c_X11_in l D G τ α _ _ _ b a 21) wl_862 wl_863 wl_40 wl_864 (na := 3) (by decide +kernel) rfl ⟨Nat.le_of_ble_eq_true rfl, Nat.le_of_ble_eq_true rfl⟩ ⟨Nat.le_of_ble_eq_true rfl, Nat.le_of_ble_eq_true rfl⟩ hl.1 rfl (Nat.le_of_ble_eq_true rfl) dX11_areAges_14) (fun c2 => ?_) (fun c2 => ?_)
    · refine lv_if_eq (tgt := 24) hx hb dX11_areAges_17 (by decide) (fun hc => absurd hc (by decide)) (fun _ => ?_)
      refine lv_iconst (v := 1) hx hb dX11_areAges_20 (by decide) ?_
      refine lv_goto (tgt := 25) hx hb dX11_areAges_21 (by decide) ?_
      exact ge_i C hr rfl hlk (bI_t (by simp only [i3l, i3e, i3q, inR, isC, isD, zi_0, zi_1, zi_2, zi_3, zi_4, zi_5, zi_6, zi_7, zi_8, zi_9, zi_10, zi_12, zi_20, zi_21, zi_30, zi_60, zi_90, zi_99, zi_100, zi_180, zi_240, zi_400, zi_500, zi_1000, zi_1199, zi_10000, zi_100000, zi_1000000, i3m1] at c1 c2 ⊢; omega)) dX11_areAges_25
    · refine lv_if_eq (tgt := 24) hx hb dX11_areAges_17 (by decide) (fun _ => ?_) (fun hc => absurd (by decide) hc)
      refine lv_iconst (v := 0) hx hb dX11_areAges_24 (by decide) ?_
      exact ge_i C hr rfl hlk (bI_f (by simp only [i3l, i3e, i3q, inR, isC, isD, zi_0, zi_1, zi_2, zi_3, zi_4, zi_5, zi_6, zi_7, zi_8, zi_9, zi_10, zi_12, zi_20, zi_21, zi_30, zi_60, zi_90, zi_99, zi_100, zi_180, zi_240, zi_400, zi_500, zi_1000, zi_1199, zi_10000, zi_100000, zi_1000000, i3m1] at c1 c2 ⊢; omega)) dX11_areAges_25
  · refine lv_if_eq (tgt := 24) hx hb dX11_areAges_7 (by decide) (fun _ => ?_) (fun hc => absurd (by decide) hc)
    refine lv_iconst (v := 0) hx hb dX11_areAges_24 (by decide) ?_
    exact ge_i C hr rfl hlk (bI_f (by simp only [i3l, i3e, i3q, inR, isC, isD, zi_0, zi_1, zi_2, zi_3, zi_4, zi_5, zi_6, zi_7, zi_8, zi_9, zi_10, zi_12, zi_20, zi_21, zi_30, zi_60, zi_90, zi_99, zi_100, zi_180, zi_240, zi_400, zi_500, zi_1000, zi_1199, zi_10000, zi_100000, zi_1000000, i3m1] at c1 ⊢; omega)) dX11_areAges_25
set_option maxHeartbeats 4000000 in
set_option maxRecDepth 100000 in
theorem c_X6_isSpan (l : Launch) (D : va_G) (G : Nat → ClassId) (τ α : Nat → Nat) (E : Nat → va_E) (L : List Nat) (sz : Nat) (a b : Int32) : Ri l D G τ yX6_isSpan cX6_isSpan 2 (some .boolean) 2 [.int a, .int b] α E L sz (fun r => r = bI (inR a 0 20 ∧ inR b a 21)) := by
  refine gM _ (by decide) rfl (Nat.le_of_ble_eq_true rfl) ?_
  intro p e s m below meth c ls C hr hlk hnm hsz B hl
  have hx := C.1
  have hb := C.2.1
  have hl : lv_has ls 2 [(0, .int a), (1, .int b)] := hl
  refine lv_iload_n hx hb dX6_isSpan_0 rfl (lv_at hl 0 rfl) ?_
  refine gc_b (gr_S C B (As := [.int a]) (rest := []) (c_X6_isAge l D G τ α _ _ _ a) wl_659 wl_648 wl_38 wl_649 (na := 1) (by decide +kernel) rfl ⟨Nat.le_of_ble_eq_true rfl, Nat.le_of_ble_eq_true rfl⟩ ⟨Nat.le_of_ble_eq_true rfl, Nat.le_of_ble_eq_true rfl⟩ hl.1 rfl (Nat.le_of_ble_eq_true rfl) dX6_isSpan_1) (fun c1 => ?_) (fun c1 => ?_)
  · refine lv_if_eq (tgt := 21) hx hb dX6_isSpan_4 (by decide) (fun hc => absurd hc (by decide)) (fun _ => ?_)
    refine lv_iload_n hx hb dX6_isSpan_7 rfl (lv_at hl 1 rfl) ?_
    refine lv_iload_n hx hb dX6_isSpan_8 rfl (lv_at hl 0 rfl) ?_
    refine lv_bipush (v := 21) hx hb dX6_isSpan_9 (by decide) ?_
    refine gc_b (gr_SN C B (As := [.int b, .int a, .int 21]) (rest := []) (c_X10_isWithin l D G τ α _ _ _ b a 21) (by decide +kernel : Cond.methodLinkNest RX6 19 yX10_isWithin RX10 ∈ gNs) wl_265 wl_29 wl_266 (na := 3) (by decide +kernel) rfl ⟨Nat.le_of_ble_eq_true rfl, Nat.le_of_ble_eq_true rfl⟩ ⟨Nat.le_of_ble_eq_true rfl, Nat.le_of_ble_eq_true rfl⟩ hl.1 rfl (Nat.le_of_ble_eq_true rfl) dX6_isSpan_11) (fun c2 => ?_) (fun c2 => ?_)
    · refine lv_if_eq (tgt := 21) hx hb dX6_isSpan_14 (by decide) (fun hc => absurd hc (by decide)) (fun _ => ?_)
      refine lv_iconst (v := 1) hx hb dX6_isSpan_17 (by decide) ?_
      refine lv_goto (tgt := 22) hx hb dX6_isSpan_18 (by decide) ?_
      exact ge_i C hr rfl hlk (bI_t (by simp only [i3l, i3e, i3q, inR, isC, isD, zi_0, zi_1, zi_2, zi_3, zi_4, zi_5, zi_6, zi_7, zi_8, zi_9, zi_10, zi_12, zi_20, zi_21, zi_30, zi_60, zi_90, zi_99, zi_100, zi_180, zi_240, zi_400, zi_500, zi_1000, zi_1199, zi_10000, zi_100000, zi_1000000, i3m1] at c1 c2 ⊢; omega)) dX6_isSpan_22
    · refine lv_if_eq (tgt := 21) hx hb dX6_isSpan_14 (by decide) (fun _ => ?_) (fun hc => absurd (by decide) hc)
      refine lv_iconst (v := 0) hx hb dX6_isSpan_21 (by decide) ?_
      exact ge_i C hr rfl hlk (bI_f (by simp only [i3l, i3e, i3q, inR, isC, isD, zi_0, zi_1, zi_2, zi_3, zi_4, zi_5, zi_6, zi_7, zi_8, zi_9, zi_10, zi_12, zi_20, zi_21, zi_30, zi_60, zi_90, zi_99, zi_100, zi_180, zi_240, zi_400, zi_500, zi_1000, zi_1199, zi_10000, zi_100000, zi_1000000, i3m1] at c1 c2 ⊢; omega)) dX6_isSpan_22
  · refine lv_if_eq (tgt := 21) hx hb dX6_isSpan_4 (by decide) (fun _ => ?_) (fun hc => absurd (by decide) hc)
    refine lv_iconst (v := 0) hx hb dX6_isSpan_21 (by decide) ?_
    exact ge_i C hr rfl hlk (bI_f (by simp only [i3l, i3e, i3q, inR, isC, isD, zi_0, zi_1, zi_2, zi_3, zi_4, zi_5, zi_6, zi_7, zi_8, zi_9, zi_10, zi_12, zi_20, zi_21, zi_30, zi_60, zi_90, zi_99, zi_100, zi_180, zi_240, zi_400, zi_500, zi_1000, zi_1199, zi_10000, zi_100000, zi_1000000, i3m1] at c1 ⊢; omega)) dX6_isSpan_22
abbrev isVal (kind v : Int32) : Prop := inR v (if kind = 5 then 12 else 0) (if kind = 0 then 60 else if kind = 5 then 240 else 1000)
set_option maxHeartbeats 4000000 in
set_option maxRecDepth 100000 in
theorem c_X11_isValue (l : Launch) (D : va_G) (G : Nat → ClassId) (τ α : Nat → Nat) (E : Nat → va_E) (L : List Nat) (sz : Nat) (kind v : Int32) : Ri l D G τ yX11_isValue cX11_isValue 2 (some .boolean) 1 [.int kind, .int v] α E L sz (fun r => r = bI (isVal kind v)) := by
  refine gM _ (by decide) rfl (Nat.le_of_ble_eq_true rfl) ?_
  intro p e s m below meth c ls C hr hlk hnm hsz B hl
  have hx := C.1
  have hb := C.2.1
  have hl : lv_has ls 2 [(0, .int kind), (1, .int v)] := hl
  refine lv_iload_n hx hb dX11_isValue_0 rfl (lv_at hl 1 rfl) ?_
  refine lv_iload_n hx hb dX11_isValue_1 rfl (lv_at hl 0 rfl) ?_
  refine lv_iconst (v := 5) hx hb dX11_isValue_2 (by decide) ?_
  refine lv_icmp_ne (tgt := 11) hx hb dX11_isValue_3 (by decide) (fun c1 => ?_) (fun c1 => ?_)
  · refine lv_iconst (v := 0) hx hb dX11_isValue_11 (by decide) ?_
    refine lv_iload_n hx hb dX11_isValue_12 rfl (lv_at hl 0 rfl) ?_
    refine lv_if_ne (tgt := 21) hx hb dX11_isValue_13 (by decide) (fun c2 => ?_) (fun c2 => ?_)
    · refine lv_iload_n hx hb dX11_isValue_21 rfl (lv_at hl 0 rfl) ?_
      refine lv_iconst (v := 5) hx hb dX11_isValue_22 (by decide) ?_
      refine lv_icmp_ne (tgt := 32) hx hb dX11_isValue_23 (by decide) (fun c3 => ?_) (fun c3 => ?_)
      · refine lv_sipush (v := 1000) hx hb dX11_isValue_32 (by decide) ?_
        refine gc_b (gr_S C B (As := [.int v, .int 0, .int 1000]) (rest := []) (c_X11_in l D G τ α _ _ _ v 0 1000) wl_862 wl_863 wl_40 wl_864 (na := 3) (by decide +kernel) rfl ⟨Nat.le_of_ble_eq_true rfl, Nat.le_of_ble_eq_true rfl⟩ ⟨Nat.le_of_ble_eq_true rfl, Nat.le_of_ble_eq_true rfl⟩ hl.1 rfl (Nat.le_of_ble_eq_true rfl) dX11_isValue_35) (fun c4 => ?_) (fun c4 => ?_)
        · exact ge_i C hr rfl hlk (bI_t (by simp only [isVal]; (repeat' split) <;> first | exact c4 | contradiction | (subst_vars; contradiction) | (exfalso; simp_all; done))) dX11_isValue_38
        · exact ge_i C hr rfl hlk (bI_f (by simp only [isVal]; (repeat' split) <;> first | exact c4 | contradiction | (subst_vars; contradiction) | (exfalso; simp_all; done))) dX11_isValue_38
      · refine lv_sipush (v := 240) hx hb dX11_isValue_26 (by decide) ?_
        refine lv_goto (tgt := 35) hx hb dX11_isValue_29 (by decide) ?_
        refine gc_b (gr_S C B (As := [.int v, .int 0, .int 240]) (rest := []) (c_X11_in l D G τ α _ _ _ v 0 240) wl_862 wl_863 wl_40 wl_864 (na := 3) (by decide +kernel) rfl ⟨Nat.le_of_ble_eq_true rfl, Nat.le_of_ble_eq_true rfl⟩ ⟨Nat.le_of_ble_eq_true rfl, Nat.le_of_ble_eq_true rfl⟩ hl.1 rfl (Nat.le_of_ble_eq_true rfl) dX11_isValue_35) (fun c5 => ?_) (fun c5 => ?_)
        · exact ge_i C hr rfl hlk (bI_t (by simp only [isVal]; (repeat' split) <;> first | exact c5 | contradiction | (subst_vars; contradiction) | (exfalso; simp_all; done))) dX11_isValue_38
        · exact ge_i C hr rfl hlk (bI_f (by simp only [isVal]; (repeat' split) <;> first | exact c5 | contradiction | (subst_vars; contradiction) | (exfalso; simp_all; done))) dX11_isValue_38
    · refine lv_bipush (v := 60) hx hb dX11_isValue_16 (by decide) ?_
      refine lv_goto (tgt := 35) hx hb dX11_isValue_18 (by decide) ?_
      refine gc_b (gr_S C B (As := [.int v, .int 0, .int 60]) (rest := []) (c_X11_in l D G τ α _ _ _ v 0 60) wl_862 wl_863 wl_40 wl_864 (na := 3) (by decide +kernel) rfl ⟨Nat.le_of_ble_eq_true rfl, Nat.le_of_ble_eq_true rfl⟩ ⟨Nat.le_of_ble_eq_true rfl, Nat.le_of_ble_eq_true rfl⟩ hl.1 rfl (Nat.le_of_ble_eq_true rfl) dX11_isValue_35) (fun c6 => ?_) (fun c6 => ?_)
      · exact ge_i C hr rfl hlk (bI_t (by simp only [isVal]; (repeat' split) <;> first | exact c6 | contradiction | (subst_vars; contradiction) | (exfalso; simp_all; done))) dX11_isValue_38
      · exact ge_i C hr rfl hlk (bI_f (by simp only [isVal]; (repeat' split) <;> first | exact c6 | contradiction | (subst_vars; contradiction) | (exfalso; simp_all; done))) dX11_isValue_38
  · refine lv_bipush (v := 12) hx hb dX11_isValue_6 (by decide) ?_
    refine lv_goto (tgt := 12) hx hb dX11_isValue_8 (by decide) ?_
    refine lv_iload_n hx hb dX11_isValue_12 rfl (lv_at hl 0 rfl) ?_
    refine lv_if_ne (tgt := 21) hx hb dX11_isValue_13 (by decide) (fun c7 => ?_) (fun c7 => ?_)
    · refine lv_iload_n hx hb dX11_isValue_21 rfl (lv_at hl 0 rfl) ?_
      refine lv_iconst (v := 5) hx hb dX11_isValue_22 (by decide) ?_
      refine lv_icmp_ne (tgt := 32) hx hb dX11_isValue_23 (by decide) (fun c8 => ?_) (fun c8 => ?_)
      · refine lv_sipush (v := 1000) hx hb dX11_isValue_32 (by decide) ?_
        refine gc_b (gr_S C B (As := [.int v, .int 12, .int 1000]) (rest := []) (c_X11_in l D G τ α _ _ _ v 12 1000) wl_862 wl_863 wl_40 wl_864 (na := 3) (by decide +kernel) rfl ⟨Nat.le_of_ble_eq_true rfl, Nat.le_of_ble_eq_true rfl⟩ ⟨Nat.le_of_ble_eq_true rfl, Nat.le_of_ble_eq_true rfl⟩ hl.1 rfl (Nat.le_of_ble_eq_true rfl) dX11_isValue_35) (fun c9 => ?_) (fun c9 => ?_)
        · exact ge_i C hr rfl hlk (bI_t (by simp only [isVal]; (repeat' split) <;> first | exact c9 | contradiction | (subst_vars; contradiction) | (exfalso; simp_all; done))) dX11_isValue_38
        · exact ge_i C hr rfl hlk (bI_f (by simp only [isVal]; (repeat' split) <;> first | exact c9 | contradiction | (subst_vars; contradiction) | (exfalso; simp_all; done))) dX11_isValue_38
      · refine lv_sipush (v := 240) hx hb dX11_isValue_26 (by decide) ?_
        refine lv_goto (tgt := 35) hx hb dX11_isValue_29 (by decide) ?_
        refine gc_b (gr_S C B (As := [.int v, .int 12, .int 240]) (rest := []) (c_X11_in l D G τ α _ _ _ v 12 240) wl_862 wl_863 wl_40 wl_864 (na := 3) (by decide +kernel) rfl ⟨Nat.le_of_ble_eq_true rfl, Nat.le_of_ble_eq_true rfl⟩ ⟨Nat.le_of_ble_eq_true rfl, Nat.le_of_ble_eq_true rfl⟩ hl.1 rfl (Nat.le_of_ble_eq_true rfl) dX11_isValue_35) (fun c10 => ?_) (fun c10 => ?_)
        · exact ge_i C hr rfl hlk (bI_t (by simp only [isVal]; (repeat' split) <;> first | exact c10 | contradiction | (subst_vars; contradiction) | (exfalso; simp_all; done))) dX11_isValue_38
        · exact ge_i C hr rfl hlk (bI_f (by simp only [isVal]; (repeat' split) <;> first | exact c10 | contradiction | (subst_vars; contradiction) | (exfalso; simp_all; done))) dX11_isValue_38
    · refine lv_bipush (v := 60) hx hb dX11_isValue_16 (by decide) ?_
      refine lv_goto (tgt := 35) hx hb dX11_isValue_18 (by decide) ?_
      refine gc_b (gr_S C B (As := [.int v, .int 12, .int 60]) (rest := []) (c_X11_in l D G τ α _ _ _ v 12 60) wl_862 wl_863 wl_40 wl_864 (na := 3) (by decide +kernel) rfl ⟨Nat.le_of_ble_eq_true rfl, Nat.le_of_ble_eq_true rfl⟩ ⟨Nat.le_of_ble_eq_true rfl, Nat.le_of_ble_eq_true rfl⟩ hl.1 rfl (Nat.le_of_ble_eq_true rfl) dX11_isValue_35) (fun c11 => ?_) (fun c11 => ?_)
      · exact ge_i C hr rfl hlk (bI_t (by simp only [isVal]; (repeat' split) <;> first | exact c11 | contradiction | (subst_vars; contradiction) | (exfalso; simp_all; done))) dX11_isValue_38
      · exact ge_i C hr rfl hlk (bI_f (by simp only [isVal]; (repeat' split) <;> first | exact c11 | contradiction | (subst_vars; contradiction) | (exfalso; simp_all; done))) dX11_isValue_38
end
section
set_option maxHeartbeats 4000000 in
set_option maxRecDepth 100000 in
theorem c_X11_isChild (l : Launch) (D : va_G) (G : Nat → ClassId) (τ α : Nat → Nat) (S : St) (sz : Nat) (v : Int32) (hN : okN S) : Ri l D G τ yX11_isChild cX11_isChild 2 (some .boolean) 1 [.ref (α 0), .int v] α (mE G α S) Lm sz (fun r => r = bI (isC S v)) := by
  refine gM _ (by decide) rfl (Nat.le_of_ble_eq_true rfl) ?_
  intro p e s m below meth c ls C hr hlk hnm hsz B hl
  have hx := C.1
  have hb := C.2.1
  have hl : lv_has ls 2 [(0, .ref (α 0)), (1, .int v)] := hl
  refine lv_iload_n hx hb dX11_isChild_0 rfl (lv_at hl 1 rfl) ?_
  refine lv_iconst (v := 0) hx hb dX11_isChild_1 (by decide) ?_
  refine lv_aload_n hx hb dX11_isChild_2 rfl (lv_at hl 0 rfl) ?_
  refine g_get C B (0) (by decide) mE_0 rfl gf_11 8 (by decide) wl_735 (v := .int (S.1 8)) mF_8 dX11_isChild_3 ?_
  refine lv_iconst (v := 1) hx hb dX11_isChild_6 (by decide) ?_
  refine lv_isub hx hb dX11_isChild_7 ?_
  refine gc_b (gr_S C B (As := [.int v, .int 0, .int (S.1 8 - 1)]) (rest := []) (c_X11_in l D G τ α _ _ _ v 0 (S.1 8 - 1)) wl_862 wl_863 wl_40 wl_864 (na := 3) (by decide +kernel) rfl ⟨Nat.le_of_ble_eq_true rfl, Nat.le_of_ble_eq_true rfl⟩ ⟨Nat.le_of_ble_eq_true rfl, Nat.le_of_ble_eq_true rfl⟩ hl.1 rfl (Nat.le_of_ble_eq_true rfl) dX11_isChild_8) (fun c1 => ?_) (fun c1 => ?_)
  · exact ge_i C hr rfl hlk (bI_t (by have h8 := hN.2.2.1; have h9 := c1; have h7 := sub1 h8.1; simp only [i3l, i3e, i3q, inR, isC, isD, zi_0, zi_1, zi_2, zi_3, zi_4, zi_5, zi_6, zi_7, zi_8, zi_9, zi_10, zi_12, zi_20, zi_21, zi_30, zi_60, zi_90, zi_99, zi_100, zi_180, zi_240, zi_400, zi_500, zi_1000, zi_1199, zi_10000, zi_100000, zi_1000000, i3m1] at h8 h9 ⊢; omega)) dX11_isChild_11
  · exact ge_i C hr rfl hlk (bI_f (by have h8 := hN.2.2.1; have h9 := c1; have h7 := sub1 h8.1; simp only [i3l, i3e, i3q, inR, isC, isD, zi_0, zi_1, zi_2, zi_3, zi_4, zi_5, zi_6, zi_7, zi_8, zi_9, zi_10, zi_12, zi_20, zi_21, zi_30, zi_60, zi_90, zi_99, zi_100, zi_180, zi_240, zi_400, zi_500, zi_1000, zi_1199, zi_10000, zi_100000, zi_1000000, i3m1] at h8 h9 ⊢; omega)) dX11_isChild_11
set_option maxHeartbeats 4000000 in
set_option maxRecDepth 100000 in
theorem c_X11_isDeposit (l : Launch) (D : va_G) (G : Nat → ClassId) (τ α : Nat → Nat) (S : St) (sz : Nat) (v : Int32) (hN : okN S) : Ri l D G τ yX11_isDeposit cX11_isDeposit 2 (some .boolean) 1 [.ref (α 0), .int v] α (mE G α S) Lm sz (fun r => r = bI (isD S v)) := by
  refine gM _ (by decide) rfl (Nat.le_of_ble_eq_true rfl) ?_
  intro p e s m below meth c ls C hr hlk hnm hsz B hl
  have hx := C.1
  have hb := C.2.1
  have hl : lv_has ls 2 [(0, .ref (α 0)), (1, .int v)] := hl
  refine lv_iload_n hx hb dX11_isDeposit_0 rfl (lv_at hl 1 rfl) ?_
  refine lv_iconst (v := 0) hx hb dX11_isDeposit_1 (by decide) ?_
  refine lv_aload_n hx hb dX11_isDeposit_2 rfl (lv_at hl 0 rfl) ?_
  refine g_get C B (0) (by decide) mE_0 rfl gf_11 15 (by decide) wl_742 (v := .int (S.1 15)) mF_15 dX11_isDeposit_3 ?_
  refine lv_iconst (v := 1) hx hb dX11_isDeposit_6 (by decide) ?_
  refine lv_isub hx hb dX11_isDeposit_7 ?_
  refine gc_b (gr_S C B (As := [.int v, .int 0, .int (S.1 15 - 1)]) (rest := []) (c_X11_in l D G τ α _ _ _ v 0 (S.1 15 - 1)) wl_862 wl_863 wl_40 wl_864 (na := 3) (by decide +kernel) rfl ⟨Nat.le_of_ble_eq_true rfl, Nat.le_of_ble_eq_true rfl⟩ ⟨Nat.le_of_ble_eq_true rfl, Nat.le_of_ble_eq_true rfl⟩ hl.1 rfl (Nat.le_of_ble_eq_true rfl) dX11_isDeposit_8) (fun c1 => ?_) (fun c1 => ?_)
  · exact ge_i C hr rfl hlk (bI_t (by have h8 := hN.2.2.2.2.1; have h9 := c1; have h7 := sub1 h8.1; simp only [i3l, i3e, i3q, inR, isC, isD, zi_0, zi_1, zi_2, zi_3, zi_4, zi_5, zi_6, zi_7, zi_8, zi_9, zi_10, zi_12, zi_20, zi_21, zi_30, zi_60, zi_90, zi_99, zi_100, zi_180, zi_240, zi_400, zi_500, zi_1000, zi_1199, zi_10000, zi_100000, zi_1000000, i3m1] at h8 h9 ⊢; omega)) dX11_isDeposit_11
  · exact ge_i C hr rfl hlk (bI_f (by have h8 := hN.2.2.2.2.1; have h9 := c1; have h7 := sub1 h8.1; simp only [i3l, i3e, i3q, inR, isC, isD, zi_0, zi_1, zi_2, zi_3, zi_4, zi_5, zi_6, zi_7, zi_8, zi_9, zi_10, zi_12, zi_20, zi_21, zi_30, zi_60, zi_90, zi_99, zi_100, zi_180, zi_240, zi_400, zi_500, zi_1000, zi_1199, zi_10000, zi_100000, zi_1000000, i3m1] at h8 h9 ⊢; omega)) dX11_isDeposit_11
set_option maxHeartbeats 4000000 in
set_option maxRecDepth 100000 in
theorem c_X11_no (l : Launch) (D : va_G) (G : Nat → ClassId) (τ α : Nat → Nat) (S : St) (sz : Nat) (k : Int32) (hk : vp_in k 6) : Wl l D G τ yX11_no cX11_no 2 (some .long) 0 0 0 [.ref (α 0), .int k] α (mE G α S) Lm sz (fun r u => r = (sNo S k).1 ∧ u = (α, mE G α (sNo S k).2, Lm)) := by
  refine gM _ (by decide) rfl (Nat.le_of_ble_eq_true rfl) ?_
  intro p e s m below meth c ls C hr hlk hnm hsz B hl
  have hx := C.1
  have hb := C.2.1
  have hl : lv_has ls 2 [(0, .ref (α 0)), (1, .int k)] := hl
  refine lv_aload_n hx hb dX11_no_0 rfl (lv_at hl 0 rfl) ?_
  refine g_get C B (0) (by decide) mE_0 rfl gf_11 1 (by decide) wl_728 (v := .ref (α 1)) mF_1 dX11_no_1 ?_
  refine lv_iload_n hx hb dX11_no_4 rfl (lv_at hl 1 rfl) ?_
  refine lv_dup2_11 hx hb dX11_no_5 rfl rfl ?_
  refine g_iald C B (1) (by decide) (f := S.2.2.1 1) mE_1 (by assumption) (j := k.toNatClampNeg) rfl dX11_no_6 ?_
  refine lv_iconst (v := 1) hx hb dX11_no_7 (by decide) ?_
  refine lv_iadd hx hb dX11_no_8 ?_
  refine g_iast C B (1) (by decide) (f := S.2.2.1 1) mE_1 (by assumption) (j := k.toNatClampNeg) rfl dX11_no_9 mU_1 (fun H locs B => ?_)
  refine g_ldc2 C wl_869 dX11_no_10 ?_
  refine lv_iload_n hx hb dX11_no_13 rfl (lv_at hl 1 rfl) ?_
  refine lv_i2l (v := k.toInt64) hx hb dX11_no_14 rfl ?_
  refine lv_lsub hx hb dX11_no_15 ?_
  exact ge_wl C B hr hlk (⟨rfl, rfl⟩) dX11_no_16
set_option maxHeartbeats 4000000 in
set_option maxRecDepth 100000 in
theorem c_X11_inForce (l : Launch) (D : va_G) (G : Nat → ClassId) (τ α : Nat → Nat) (S : St) (sz : Nat) (kind month known : Int32) (hN : okN S) (hD : okD S) : Ri l D G τ yX11_inForce cX11_inForce 7 (some .int) 0 [.ref (α 0), .int kind, .int month, .int known] α (mE G α S) Lm sz (fun r => r = sInf S kind month known) := by
  refine gM _ (by decide) rfl (Nat.le_of_ble_eq_true rfl) ?_
  intro p e s m below meth c ls C hr hlk hnm hsz B hl
  have hx := C.1
  have hb := C.2.1
  have hl : lv_has ls 7 [(0, .ref (α 0)), (1, .int kind), (2, .int month), (3, .int known)] := hl
  have hNe := nOf_eq hN.2.1.1
  have hNl : nOf S 2 ≤ 60 := nOf_le hN.2.1.1 hN.2.1.2 (by decide)
  have loop : ∀ (nn kk : Nat) (best : Option Nat) (ls : Array Slot), nn + kk = nOf S 2 → (match best with | none => infL S kind month known kk = (dflt kind, 0) | some b => b < kk ∧ infL S kind month known kk = (S.2.2.1 5 b, S.2.2.1 4 b)) → lv_has ls 7 [(5, .int (nI kk)), (4, .int (oI best)), (0, .ref (α 0)), (1, .int kind), (2, .int month), (3, .int known)] → W p l e (rmd 0 0 0) s m [.ref (α 0), .int kind, .int month, .int known].toArray below meth c s.heap [] 0 0 (MQ below (vp_Si (fun r => r = sInf S kind month known)) [.ref (α 0), .int kind, .int month, .int known].toArray s 0 0 (fun _ => False)) (F0 m 6 ls []) := by
    intro nn
    induction nn with
    | zero =>
      intro kk best ls hk hI hl
      cases best with
      | none =>
        have hl : lv_has ls 7 [(5, .int (nI kk)), (4, .int (-1)), (0, .ref (α 0)), (1, .int kind), (2, .int month), (3, .int known)] := hl
        refine lv_iload hx hb dX11_inForce_6 (lv_at hl 0 rfl) ?_
        refine lv_aload_n hx hb dX11_inForce_8 rfl (lv_at hl 2 rfl) ?_
        refine g_get C B (0) (by decide) mE_0 rfl gf_11 2 (by decide) wl_729 (v := .int (S.1 2)) mF_2 dX11_inForce_9 ?_
        refine lv_icmp_ge (tgt := 97) hx hb dX11_inForce_12 (by decide) (fun _ => ?_) (fun hc => absurd (by rw [hNe]; exact nI_le (by omega) (by omega)) hc)
        refine lv_iload hx hb dX11_inForce_97 (lv_at hl 1 rfl) ?_
        refine lv_if_lt (tgt := 110) hx hb dX11_inForce_99 (by decide) (fun _ => ?_) (fun hc => absurd (by decide) hc)
        refine lv_iload_n hx hb dX11_inForce_110 rfl (lv_at hl 3 rfl) ?_
        refine lv_iconst (v := 1) hx hb dX11_inForce_111 (by decide) ?_
        refine lv_icmp_ne (tgt := 121) hx hb dX11_inForce_112 (by decide) (fun c1 => ?_) (fun c1 => ?_)
        · refine lv_iload_n hx hb dX11_inForce_121 rfl (lv_at hl 3 rfl) ?_
          refine lv_iconst (v := 2) hx hb dX11_inForce_122 (by decide) ?_
          refine lv_icmp_ne (tgt := 132) hx hb dX11_inForce_123 (by decide) (fun c2 => ?_) (fun c2 => ?_)
          · refine lv_iload_n hx hb dX11_inForce_132 rfl (lv_at hl 3 rfl) ?_
            refine lv_iconst (v := 5) hx hb dX11_inForce_133 (by decide) ?_
            refine lv_icmp_ne (tgt := 143) hx hb dX11_inForce_134 (by decide) (fun c3 => ?_) (fun c3 => ?_)
            · refine lv_iconst (v := 0) hx hb dX11_inForce_143 (by decide) ?_
              exact ge_i C hr rfl hlk (by rw [sInf, show nOf S 2 = kk by omega, hI]; simp [dflt, c1, c2, c3]) dX11_inForce_144
            · refine lv_sipush (v := 180) hx hb dX11_inForce_137 (by decide) ?_
              refine lv_goto (tgt := 144) hx hb dX11_inForce_140 (by decide) ?_
              exact ge_i C hr rfl hlk (by rw [sInf, show nOf S 2 = kk by omega, hI]; simp [dflt, c1, c2, c3]) dX11_inForce_144
          · refine lv_sipush (v := 400) hx hb dX11_inForce_126 (by decide) ?_
            refine lv_goto (tgt := 144) hx hb dX11_inForce_129 (by decide) ?_
            exact ge_i C hr rfl hlk (by rw [sInf, show nOf S 2 = kk by omega, hI]; simp [dflt, c1, c2]) dX11_inForce_144
        · refine lv_sipush (v := 500) hx hb dX11_inForce_115 (by decide) ?_
          refine lv_goto (tgt := 144) hx hb dX11_inForce_118 (by decide) ?_
          exact ge_i C hr rfl hlk (by rw [sInf, show nOf S 2 = kk by omega, hI]; simp [dflt, c1]) dX11_inForce_144
      | some b =>
        have hl : lv_has ls 7 [(5, .int (nI kk)), (4, .int (nI b)), (0, .ref (α 0)), (1, .int kind), (2, .int month), (3, .int known)] := hl
        have hb9 := hI.1
        refine lv_iload hx hb dX11_inForce_6 (lv_at hl 0 rfl) ?_
        refine lv_aload_n hx hb dX11_inForce_8 rfl (lv_at hl 2 rfl) ?_
        refine g_get C B (0) (by decide) mE_0 rfl gf_11 2 (by decide) wl_729 (v := .int (S.1 2)) mF_2 dX11_inForce_9 ?_
        refine lv_icmp_ge (tgt := 97) hx hb dX11_inForce_12 (by decide) (fun _ => ?_) (fun hc => absurd (by rw [hNe]; exact nI_le (by omega) (by omega)) hc)
        refine lv_iload hx hb dX11_inForce_97 (lv_at hl 1 rfl) ?_
        refine lv_if_lt (tgt := 110) hx hb dX11_inForce_99 (by decide) (fun hc => absurd hc (nI_pos (by omega))) (fun _ => ?_)
        refine lv_aload_n hx hb dX11_inForce_102 rfl (lv_at hl 2 rfl) ?_
        refine g_get C B (0) (by decide) mE_0 rfl gf_11 5 (by decide) wl_732 (v := .ref (α 5)) mF_5 dX11_inForce_103 ?_
        refine lv_iload hx hb dX11_inForce_106 (lv_at hl 1 rfl) ?_
        refine g_iald C B (5) (by decide) (f := S.2.2.1 5) mE_5 (vp_in_nI (by omega) (by omega)) (j := b) (nI_clamp (by omega)) dX11_inForce_108 ?_
        exact ge_i C hr rfl hlk (by rw [sInf, show nOf S 2 = kk by omega, hI.2]) dX11_inForce_109
    | succ nn ih =>
      intro kk best ls hk hI hl
      cases best with
      | none =>
        have hl : lv_has ls 7 [(5, .int (nI kk)), (4, .int (-1)), (0, .ref (α 0)), (1, .int kind), (2, .int month), (3, .int known)] := hl
        refine lv_iload hx hb dX11_inForce_6 (lv_at hl 0 rfl) ?_
        refine lv_aload_n hx hb dX11_inForce_8 rfl (lv_at hl 2 rfl) ?_
        refine g_get C B (0) (by decide) mE_0 rfl gf_11 2 (by decide) wl_729 (v := .int (S.1 2)) mF_2 dX11_inForce_9 ?_
        refine lv_icmp_ge (tgt := 97) hx hb dX11_inForce_12 (by decide) (fun hc => absurd hc (by rw [hNe]; exact nI_ge (by omega) (by omega))) (fun _ => ?_)
        refine lv_aload_n hx hb dX11_inForce_15 rfl (lv_at hl 2 rfl) ?_
        refine g_get C B (0) (by decide) mE_0 rfl gf_11 3 (by decide) wl_730 (v := .ref (α 3)) mF_3 dX11_inForce_16 ?_
        refine lv_iload hx hb dX11_inForce_19 (lv_at hl 0 rfl) ?_
        refine g_iald C B (3) (by decide) (f := S.2.2.1 3) mE_3 (vp_in_nI (by omega) (by omega)) (j := kk) (nI_clamp (by omega)) dX11_inForce_21 ?_
        refine lv_iload_n hx hb dX11_inForce_22 rfl (lv_at hl 3 rfl) ?_
        refine lv_icmp_ne (tgt := 52) hx hb dX11_inForce_23 (by decide) (fun c4 => ?_) (fun c4 => ?_)
        · refine lv_iconst (v := 0) hx hb dX11_inForce_52 (by decide) ?_
          refine lv_istore (lv' := [(6, .int 0), (5, .int (nI kk)), (4, .int (-1)), (0, .ref (α 0)), (1, .int kind), (2, .int month), (3, .int known)]) hx hb dX11_inForce_53 hl (by decide) rfl (fun ls hl => ?_)
          refine lv_iload hx hb dX11_inForce_55 (lv_at hl 0 rfl) ?_
          refine lv_if_eq (tgt := 87) hx hb dX11_inForce_57 (by decide) (fun _ => ?_) (fun hc => absurd (by decide) hc)
          refine lv_iload hx hb dX11_inForce_87 (lv_at hl 2 rfl) ?_
          refine lv_istore (lv' := [(4, .int (-1)), (6, .int 0), (5, .int (nI kk)), (0, .ref (α 0)), (1, .int kind), (2, .int month), (3, .int known)]) hx hb dX11_inForce_89 hl (by decide) rfl (fun ls hl => ?_)
          refine lv_iinc (v := ((nI kk) + 1)) (lv' := [(5, .int ((nI kk) + 1)), (4, .int (-1)), (6, .int 0), (0, .ref (α 0)), (1, .int kind), (2, .int month), (3, .int known)]) hx hb dX11_inForce_91 hl (k := 2) rfl rfl (by decide) rfl (fun ls hl => ?_)
          refine lv_goto (tgt := 6) hx hb dX11_inForce_94 (by decide) ?_
          exact ih (kk + 1) none ls (by omega) (by rw [infL, hI, if_neg (by simp only [i3l, i3e, i3q, inR, isC, isD, zi_0, zi_1, zi_2, zi_3, zi_4, zi_5, zi_6, zi_7, zi_8, zi_9, zi_10, zi_12, zi_20, zi_21, zi_30, zi_60, zi_90, zi_99, zi_100, zi_180, zi_240, zi_400, zi_500, zi_1000, zi_1199, zi_10000, zi_100000, zi_1000000, i3m1] at c4 ⊢; omega)]) (by have h9 := lv_sub (l' := [(5, .int ((nI kk) + 1)), (4, .int (-1)), (0, .ref (α 0)), (1, .int kind), (2, .int month), (3, .int known)]) hl [0, 1, 3, 4, 5, 6] rfl; rw [nI_1] at h9; exact h9)
        · refine lv_aload_n hx hb dX11_inForce_26 rfl (lv_at hl 2 rfl) ?_
          refine g_get C B (0) (by decide) mE_0 rfl gf_11 6 (by decide) wl_733 (v := .ref (α 6)) mF_6 dX11_inForce_27 ?_
          refine lv_iload hx hb dX11_inForce_30 (lv_at hl 0 rfl) ?_
          refine g_iald C B (6) (by decide) (f := S.2.2.1 6) mE_6 (vp_in_nI (by omega) (by omega)) (j := kk) (nI_clamp (by omega)) dX11_inForce_32 ?_
          refine lv_iload_n hx hb dX11_inForce_33 rfl (lv_at hl 5 rfl) ?_
          refine lv_icmp_gt (tgt := 52) hx hb dX11_inForce_34 (by decide) (fun c5 => ?_) (fun c5 => ?_)
          · refine lv_iconst (v := 0) hx hb dX11_inForce_52 (by decide) ?_
            refine lv_istore (lv' := [(6, .int 0), (5, .int (nI kk)), (4, .int (-1)), (0, .ref (α 0)), (1, .int kind), (2, .int month), (3, .int known)]) hx hb dX11_inForce_53 hl (by decide) rfl (fun ls hl => ?_)
            refine lv_iload hx hb dX11_inForce_55 (lv_at hl 0 rfl) ?_
            refine lv_if_eq (tgt := 87) hx hb dX11_inForce_57 (by decide) (fun _ => ?_) (fun hc => absurd (by decide) hc)
            refine lv_iload hx hb dX11_inForce_87 (lv_at hl 2 rfl) ?_
            refine lv_istore (lv' := [(4, .int (-1)), (6, .int 0), (5, .int (nI kk)), (0, .ref (α 0)), (1, .int kind), (2, .int month), (3, .int known)]) hx hb dX11_inForce_89 hl (by decide) rfl (fun ls hl => ?_)
            refine lv_iinc (v := ((nI kk) + 1)) (lv' := [(5, .int ((nI kk) + 1)), (4, .int (-1)), (6, .int 0), (0, .ref (α 0)), (1, .int kind), (2, .int month), (3, .int known)]) hx hb dX11_inForce_91 hl (k := 2) rfl rfl (by decide) rfl (fun ls hl => ?_)
            refine lv_goto (tgt := 6) hx hb dX11_inForce_94 (by decide) ?_
            exact ih (kk + 1) none ls (by omega) (by rw [infL, hI, if_neg (by simp only [i3l, i3e, i3q, inR, isC, isD, zi_0, zi_1, zi_2, zi_3, zi_4, zi_5, zi_6, zi_7, zi_8, zi_9, zi_10, zi_12, zi_20, zi_21, zi_30, zi_60, zi_90, zi_99, zi_100, zi_180, zi_240, zi_400, zi_500, zi_1000, zi_1199, zi_10000, zi_100000, zi_1000000, i3m1] at c4 c5 ⊢; omega)]) (by have h9 := lv_sub (l' := [(5, .int ((nI kk) + 1)), (4, .int (-1)), (0, .ref (α 0)), (1, .int kind), (2, .int month), (3, .int known)]) hl [0, 1, 3, 4, 5, 6] rfl; rw [nI_1] at h9; exact h9)
          · refine lv_aload_n hx hb dX11_inForce_37 rfl (lv_at hl 2 rfl) ?_
            refine g_get C B (0) (by decide) mE_0 rfl gf_11 4 (by decide) wl_731 (v := .ref (α 4)) mF_4 dX11_inForce_38 ?_
            refine lv_iload hx hb dX11_inForce_41 (lv_at hl 0 rfl) ?_
            refine g_iald C B (4) (by decide) (f := S.2.2.1 4) mE_4 (vp_in_nI (by omega) (by omega)) (j := kk) (nI_clamp (by omega)) dX11_inForce_43 ?_
            refine lv_iload_n hx hb dX11_inForce_44 rfl (lv_at hl 4 rfl) ?_
            refine lv_icmp_gt (tgt := 52) hx hb dX11_inForce_45 (by decide) (fun c6 => ?_) (fun c6 => ?_)
            · refine lv_iconst (v := 0) hx hb dX11_inForce_52 (by decide) ?_
              refine lv_istore (lv' := [(6, .int 0), (5, .int (nI kk)), (4, .int (-1)), (0, .ref (α 0)), (1, .int kind), (2, .int month), (3, .int known)]) hx hb dX11_inForce_53 hl (by decide) rfl (fun ls hl => ?_)
              refine lv_iload hx hb dX11_inForce_55 (lv_at hl 0 rfl) ?_
              refine lv_if_eq (tgt := 87) hx hb dX11_inForce_57 (by decide) (fun _ => ?_) (fun hc => absurd (by decide) hc)
              refine lv_iload hx hb dX11_inForce_87 (lv_at hl 2 rfl) ?_
              refine lv_istore (lv' := [(4, .int (-1)), (6, .int 0), (5, .int (nI kk)), (0, .ref (α 0)), (1, .int kind), (2, .int month), (3, .int known)]) hx hb dX11_inForce_89 hl (by decide) rfl (fun ls hl => ?_)
              refine lv_iinc (v := ((nI kk) + 1)) (lv' := [(5, .int ((nI kk) + 1)), (4, .int (-1)), (6, .int 0), (0, .ref (α 0)), (1, .int kind), (2, .int month), (3, .int known)]) hx hb dX11_inForce_91 hl (k := 2) rfl rfl (by decide) rfl (fun ls hl => ?_)
              refine lv_goto (tgt := 6) hx hb dX11_inForce_94 (by decide) ?_
              exact ih (kk + 1) none ls (by omega) (by rw [infL, hI, if_neg (by simp only [i3l, i3e, i3q, inR, isC, isD, zi_0, zi_1, zi_2, zi_3, zi_4, zi_5, zi_6, zi_7, zi_8, zi_9, zi_10, zi_12, zi_20, zi_21, zi_30, zi_60, zi_90, zi_99, zi_100, zi_180, zi_240, zi_400, zi_500, zi_1000, zi_1199, zi_10000, zi_100000, zi_1000000, i3m1] at c4 c5 c6 ⊢; omega)]) (by have h9 := lv_sub (l' := [(5, .int ((nI kk) + 1)), (4, .int (-1)), (0, .ref (α 0)), (1, .int kind), (2, .int month), (3, .int known)]) hl [0, 1, 3, 4, 5, 6] rfl; rw [nI_1] at h9; exact h9)
            · refine lv_iconst (v := 1) hx hb dX11_inForce_48 (by decide) ?_
              refine lv_goto (tgt := 53) hx hb dX11_inForce_49 (by decide) ?_
              refine lv_istore (lv' := [(6, .int 1), (5, .int (nI kk)), (4, .int (-1)), (0, .ref (α 0)), (1, .int kind), (2, .int month), (3, .int known)]) hx hb dX11_inForce_53 hl (by decide) rfl (fun ls hl => ?_)
              refine lv_iload hx hb dX11_inForce_55 (lv_at hl 0 rfl) ?_
              refine lv_if_eq (tgt := 87) hx hb dX11_inForce_57 (by decide) (fun hc => absurd hc (by decide)) (fun _ => ?_)
              refine lv_iload hx hb dX11_inForce_60 (lv_at hl 2 rfl) ?_
              refine lv_if_lt (tgt := 82) hx hb dX11_inForce_62 (by decide) (fun _ => ?_) (fun hc => absurd (by decide) hc)
              refine lv_iload hx hb dX11_inForce_82 (lv_at hl 1 rfl) ?_
              refine lv_goto (tgt := 89) hx hb dX11_inForce_84 (by decide) ?_
              refine lv_istore (lv' := [(4, .int (nI kk)), (6, .int 1), (5, .int (nI kk)), (0, .ref (α 0)), (1, .int kind), (2, .int month), (3, .int known)]) hx hb dX11_inForce_89 hl (by decide) rfl (fun ls hl => ?_)
              refine lv_iinc (v := ((nI kk) + 1)) (lv' := [(5, .int ((nI kk) + 1)), (4, .int (nI kk)), (6, .int 1), (0, .ref (α 0)), (1, .int kind), (2, .int month), (3, .int known)]) hx hb dX11_inForce_91 hl (k := 2) rfl rfl (by decide) rfl (fun ls hl => ?_)
              refine lv_goto (tgt := 6) hx hb dX11_inForce_94 (by decide) ?_
              exact ih (kk + 1) (some kk) ls (by omega) (by refine ⟨by omega, ?_⟩; rw [infL, hI, if_pos (by have h9 := (hD kk (by omega)).2.1.1; simp only [i3l, i3e, i3q, inR, isC, isD, zi_0, zi_1, zi_2, zi_3, zi_4, zi_5, zi_6, zi_7, zi_8, zi_9, zi_10, zi_12, zi_20, zi_21, zi_30, zi_60, zi_90, zi_99, zi_100, zi_180, zi_240, zi_400, zi_500, zi_1000, zi_1199, zi_10000, zi_100000, zi_1000000, i3m1] at c4 c5 c6 h9 ⊢; omega)]) (by have h9 := lv_sub (l' := [(5, .int ((nI kk) + 1)), (4, .int (nI kk)), (0, .ref (α 0)), (1, .int kind), (2, .int month), (3, .int known)]) hl [0, 1, 3, 4, 5, 6] rfl; rw [nI_1] at h9; exact h9)
      | some b =>
        have hl : lv_has ls 7 [(5, .int (nI kk)), (4, .int (nI b)), (0, .ref (α 0)), (1, .int kind), (2, .int month), (3, .int known)] := hl
        have hb9 := hI.1
        refine lv_iload hx hb dX11_inForce_6 (lv_at hl 0 rfl) ?_
        refine lv_aload_n hx hb dX11_inForce_8 rfl (lv_at hl 2 rfl) ?_
        refine g_get C B (0) (by decide) mE_0 rfl gf_11 2 (by decide) wl_729 (v := .int (S.1 2)) mF_2 dX11_inForce_9 ?_
        refine lv_icmp_ge (tgt := 97) hx hb dX11_inForce_12 (by decide) (fun hc => absurd hc (by rw [hNe]; exact nI_ge (by omega) (by omega))) (fun _ => ?_)
        refine lv_aload_n hx hb dX11_inForce_15 rfl (lv_at hl 2 rfl) ?_
        refine g_get C B (0) (by decide) mE_0 rfl gf_11 3 (by decide) wl_730 (v := .ref (α 3)) mF_3 dX11_inForce_16 ?_
        refine lv_iload hx hb dX11_inForce_19 (lv_at hl 0 rfl) ?_
        refine g_iald C B (3) (by decide) (f := S.2.2.1 3) mE_3 (vp_in_nI (by omega) (by omega)) (j := kk) (nI_clamp (by omega)) dX11_inForce_21 ?_
        refine lv_iload_n hx hb dX11_inForce_22 rfl (lv_at hl 3 rfl) ?_
        refine lv_icmp_ne (tgt := 52) hx hb dX11_inForce_23 (by decide) (fun c7 => ?_) (fun c7 => ?_)
        · refine lv_iconst (v := 0) hx hb dX11_inForce_52 (by decide) ?_
          refine lv_istore (lv' := [(6, .int 0), (5, .int (nI kk)), (4, .int (nI b)), (0, .ref (α 0)), (1, .int kind), (2, .int month), (3, .int known)]) hx hb dX11_inForce_53 hl (by decide) rfl (fun ls hl => ?_)
          refine lv_iload hx hb dX11_inForce_55 (lv_at hl 0 rfl) ?_
          refine lv_if_eq (tgt := 87) hx hb dX11_inForce_57 (by decide) (fun _ => ?_) (fun hc => absurd (by decide) hc)
          refine lv_iload hx hb dX11_inForce_87 (lv_at hl 2 rfl) ?_
          refine lv_istore (lv' := [(4, .int (nI b)), (6, .int 0), (5, .int (nI kk)), (0, .ref (α 0)), (1, .int kind), (2, .int month), (3, .int known)]) hx hb dX11_inForce_89 hl (by decide) rfl (fun ls hl => ?_)
          refine lv_iinc (v := ((nI kk) + 1)) (lv' := [(5, .int ((nI kk) + 1)), (4, .int (nI b)), (6, .int 0), (0, .ref (α 0)), (1, .int kind), (2, .int month), (3, .int known)]) hx hb dX11_inForce_91 hl (k := 2) rfl rfl (by decide) rfl (fun ls hl => ?_)
          refine lv_goto (tgt := 6) hx hb dX11_inForce_94 (by decide) ?_
          exact ih (kk + 1) (some b) ls (by omega) (by refine ⟨by have := hI.1; omega, ?_⟩; rw [infL, hI.2, if_neg (by simp only [i3l, i3e, i3q, inR, isC, isD, zi_0, zi_1, zi_2, zi_3, zi_4, zi_5, zi_6, zi_7, zi_8, zi_9, zi_10, zi_12, zi_20, zi_21, zi_30, zi_60, zi_90, zi_99, zi_100, zi_180, zi_240, zi_400, zi_500, zi_1000, zi_1199, zi_10000, zi_100000, zi_1000000, i3m1] at c7 ⊢; omega)]) (by have h9 := lv_sub (l' := [(5, .int ((nI kk) + 1)), (4, .int (nI b)), (0, .ref (α 0)), (1, .int kind), (2, .int month), (3, .int known)]) hl [0, 1, 3, 4, 5, 6] rfl; rw [nI_1] at h9; exact h9)
        · refine lv_aload_n hx hb dX11_inForce_26 rfl (lv_at hl 2 rfl) ?_
          refine g_get C B (0) (by decide) mE_0 rfl gf_11 6 (by decide) wl_733 (v := .ref (α 6)) mF_6 dX11_inForce_27 ?_
          refine lv_iload hx hb dX11_inForce_30 (lv_at hl 0 rfl) ?_
          refine g_iald C B (6) (by decide) (f := S.2.2.1 6) mE_6 (vp_in_nI (by omega) (by omega)) (j := kk) (nI_clamp (by omega)) dX11_inForce_32 ?_
          refine lv_iload_n hx hb dX11_inForce_33 rfl (lv_at hl 5 rfl) ?_
          refine lv_icmp_gt (tgt := 52) hx hb dX11_inForce_34 (by decide) (fun c8 => ?_) (fun c8 => ?_)
          · refine lv_iconst (v := 0) hx hb dX11_inForce_52 (by decide) ?_
            refine lv_istore (lv' := [(6, .int 0), (5, .int (nI kk)), (4, .int (nI b)), (0, .ref (α 0)), (1, .int kind), (2, .int month), (3, .int known)]) hx hb dX11_inForce_53 hl (by decide) rfl (fun ls hl => ?_)
            refine lv_iload hx hb dX11_inForce_55 (lv_at hl 0 rfl) ?_
            refine lv_if_eq (tgt := 87) hx hb dX11_inForce_57 (by decide) (fun _ => ?_) (fun hc => absurd (by decide) hc)
            refine lv_iload hx hb dX11_inForce_87 (lv_at hl 2 rfl) ?_
            refine lv_istore (lv' := [(4, .int (nI b)), (6, .int 0), (5, .int (nI kk)), (0, .ref (α 0)), (1, .int kind), (2, .int month), (3, .int known)]) hx hb dX11_inForce_89 hl (by decide) rfl (fun ls hl => ?_)
            refine lv_iinc (v := ((nI kk) + 1)) (lv' := [(5, .int ((nI kk) + 1)), (4, .int (nI b)), (6, .int 0), (0, .ref (α 0)), (1, .int kind), (2, .int month), (3, .int known)]) hx hb dX11_inForce_91 hl (k := 2) rfl rfl (by decide) rfl (fun ls hl => ?_)
            refine lv_goto (tgt := 6) hx hb dX11_inForce_94 (by decide) ?_
            exact ih (kk + 1) (some b) ls (by omega) (by refine ⟨by have := hI.1; omega, ?_⟩; rw [infL, hI.2, if_neg (by simp only [i3l, i3e, i3q, inR, isC, isD, zi_0, zi_1, zi_2, zi_3, zi_4, zi_5, zi_6, zi_7, zi_8, zi_9, zi_10, zi_12, zi_20, zi_21, zi_30, zi_60, zi_90, zi_99, zi_100, zi_180, zi_240, zi_400, zi_500, zi_1000, zi_1199, zi_10000, zi_100000, zi_1000000, i3m1] at c7 c8 ⊢; omega)]) (by have h9 := lv_sub (l' := [(5, .int ((nI kk) + 1)), (4, .int (nI b)), (0, .ref (α 0)), (1, .int kind), (2, .int month), (3, .int known)]) hl [0, 1, 3, 4, 5, 6] rfl; rw [nI_1] at h9; exact h9)
          · refine lv_aload_n hx hb dX11_inForce_37 rfl (lv_at hl 2 rfl) ?_
            refine g_get C B (0) (by decide) mE_0 rfl gf_11 4 (by decide) wl_731 (v := .ref (α 4)) mF_4 dX11_inForce_38 ?_
            refine lv_iload hx hb dX11_inForce_41 (lv_at hl 0 rfl) ?_
            refine g_iald C B (4) (by decide) (f := S.2.2.1 4) mE_4 (vp_in_nI (by omega) (by omega)) (j := kk) (nI_clamp (by omega)) dX11_inForce_43 ?_
            refine lv_iload_n hx hb dX11_inForce_44 rfl (lv_at hl 4 rfl) ?_
            refine lv_icmp_gt (tgt := 52) hx hb dX11_inForce_45 (by decide) (fun c9 => ?_) (fun c9 => ?_)
            · refine lv_iconst (v := 0) hx hb dX11_inForce_52 (by decide) ?_
              refine lv_istore (lv' := [(6, .int 0), (5, .int (nI kk)), (4, .int (nI b)), (0, .ref (α 0)), (1, .int kind), (2, .int month), (3, .int known)]) hx hb dX11_inForce_53 hl (by decide) rfl (fun ls hl => ?_)
              refine lv_iload hx hb dX11_inForce_55 (lv_at hl 0 rfl) ?_
              refine lv_if_eq (tgt := 87) hx hb dX11_inForce_57 (by decide) (fun _ => ?_) (fun hc => absurd (by decide) hc)
              refine lv_iload hx hb dX11_inForce_87 (lv_at hl 2 rfl) ?_
              refine lv_istore (lv' := [(4, .int (nI b)), (6, .int 0), (5, .int (nI kk)), (0, .ref (α 0)), (1, .int kind), (2, .int month), (3, .int known)]) hx hb dX11_inForce_89 hl (by decide) rfl (fun ls hl => ?_)
              refine lv_iinc (v := ((nI kk) + 1)) (lv' := [(5, .int ((nI kk) + 1)), (4, .int (nI b)), (6, .int 0), (0, .ref (α 0)), (1, .int kind), (2, .int month), (3, .int known)]) hx hb dX11_inForce_91 hl (k := 2) rfl rfl (by decide) rfl (fun ls hl => ?_)
              refine lv_goto (tgt := 6) hx hb dX11_inForce_94 (by decide) ?_
              exact ih (kk + 1) (some b) ls (by omega) (by refine ⟨by have := hI.1; omega, ?_⟩; rw [infL, hI.2, if_neg (by simp only [i3l, i3e, i3q, inR, isC, isD, zi_0, zi_1, zi_2, zi_3, zi_4, zi_5, zi_6, zi_7, zi_8, zi_9, zi_10, zi_12, zi_20, zi_21, zi_30, zi_60, zi_90, zi_99, zi_100, zi_180, zi_240, zi_400, zi_500, zi_1000, zi_1199, zi_10000, zi_100000, zi_1000000, i3m1] at c7 c8 c9 ⊢; omega)]) (by have h9 := lv_sub (l' := [(5, .int ((nI kk) + 1)), (4, .int (nI b)), (0, .ref (α 0)), (1, .int kind), (2, .int month), (3, .int known)]) hl [0, 1, 3, 4, 5, 6] rfl; rw [nI_1] at h9; exact h9)
            · refine lv_iconst (v := 1) hx hb dX11_inForce_48 (by decide) ?_
              refine lv_goto (tgt := 53) hx hb dX11_inForce_49 (by decide) ?_
              refine lv_istore (lv' := [(6, .int 1), (5, .int (nI kk)), (4, .int (nI b)), (0, .ref (α 0)), (1, .int kind), (2, .int month), (3, .int known)]) hx hb dX11_inForce_53 hl (by decide) rfl (fun ls hl => ?_)
              refine lv_iload hx hb dX11_inForce_55 (lv_at hl 0 rfl) ?_
              refine lv_if_eq (tgt := 87) hx hb dX11_inForce_57 (by decide) (fun hc => absurd hc (by decide)) (fun _ => ?_)
              refine lv_iload hx hb dX11_inForce_60 (lv_at hl 2 rfl) ?_
              refine lv_if_lt (tgt := 82) hx hb dX11_inForce_62 (by decide) (fun hc => absurd hc (nI_pos (by omega))) (fun _ => ?_)
              refine lv_aload_n hx hb dX11_inForce_65 rfl (lv_at hl 3 rfl) ?_
              refine g_get C B (0) (by decide) mE_0 rfl gf_11 4 (by decide) wl_731 (v := .ref (α 4)) mF_4 dX11_inForce_66 ?_
              refine lv_iload hx hb dX11_inForce_69 (lv_at hl 1 rfl) ?_
              refine g_iald C B (4) (by decide) (f := S.2.2.1 4) mE_4 (vp_in_nI (by omega) (by omega)) (j := kk) (nI_clamp (by omega)) dX11_inForce_71 ?_
              refine lv_aload_n hx hb dX11_inForce_72 rfl (lv_at hl 3 rfl) ?_
              refine g_get C B (0) (by decide) mE_0 rfl gf_11 4 (by decide) wl_731 (v := .ref (α 4)) mF_4 dX11_inForce_73 ?_
              refine lv_iload hx hb dX11_inForce_76 (lv_at hl 2 rfl) ?_
              refine g_iald C B (4) (by decide) (f := S.2.2.1 4) mE_4 (vp_in_nI (by omega) (by omega)) (j := b) (nI_clamp (by omega)) dX11_inForce_78 ?_
              refine lv_icmp_lt (tgt := 87) hx hb dX11_inForce_79 (by decide) (fun c10 => ?_) (fun c10 => ?_)
              · refine lv_iload hx hb dX11_inForce_87 (lv_at hl 2 rfl) ?_
                refine lv_istore (lv' := [(4, .int (nI b)), (6, .int 1), (5, .int (nI kk)), (0, .ref (α 0)), (1, .int kind), (2, .int month), (3, .int known)]) hx hb dX11_inForce_89 hl (by decide) rfl (fun ls hl => ?_)
                refine lv_iinc (v := ((nI kk) + 1)) (lv' := [(5, .int ((nI kk) + 1)), (4, .int (nI b)), (6, .int 1), (0, .ref (α 0)), (1, .int kind), (2, .int month), (3, .int known)]) hx hb dX11_inForce_91 hl (k := 2) rfl rfl (by decide) rfl (fun ls hl => ?_)
                refine lv_goto (tgt := 6) hx hb dX11_inForce_94 (by decide) ?_
                exact ih (kk + 1) (some b) ls (by omega) (by refine ⟨by have := hI.1; omega, ?_⟩; rw [infL, hI.2, if_neg (by simp only [i3l, i3e, i3q, inR, isC, isD, zi_0, zi_1, zi_2, zi_3, zi_4, zi_5, zi_6, zi_7, zi_8, zi_9, zi_10, zi_12, zi_20, zi_21, zi_30, zi_60, zi_90, zi_99, zi_100, zi_180, zi_240, zi_400, zi_500, zi_1000, zi_1199, zi_10000, zi_100000, zi_1000000, i3m1] at c7 c8 c9 c10 ⊢; omega)]) (by have h9 := lv_sub (l' := [(5, .int ((nI kk) + 1)), (4, .int (nI b)), (0, .ref (α 0)), (1, .int kind), (2, .int month), (3, .int known)]) hl [0, 1, 3, 4, 5, 6] rfl; rw [nI_1] at h9; exact h9)
              · refine lv_iload hx hb dX11_inForce_82 (lv_at hl 1 rfl) ?_
                refine lv_goto (tgt := 89) hx hb dX11_inForce_84 (by decide) ?_
                refine lv_istore (lv' := [(4, .int (nI kk)), (6, .int 1), (5, .int (nI kk)), (0, .ref (α 0)), (1, .int kind), (2, .int month), (3, .int known)]) hx hb dX11_inForce_89 hl (by decide) rfl (fun ls hl => ?_)
                refine lv_iinc (v := ((nI kk) + 1)) (lv' := [(5, .int ((nI kk) + 1)), (4, .int (nI kk)), (6, .int 1), (0, .ref (α 0)), (1, .int kind), (2, .int month), (3, .int known)]) hx hb dX11_inForce_91 hl (k := 2) rfl rfl (by decide) rfl (fun ls hl => ?_)
                refine lv_goto (tgt := 6) hx hb dX11_inForce_94 (by decide) ?_
                exact ih (kk + 1) (some kk) ls (by omega) (by refine ⟨by omega, ?_⟩; rw [infL, hI.2, if_pos (by have h9 := (hD kk (by omega)).2.1.1; simp only [i3l, i3e, i3q, inR, isC, isD, zi_0, zi_1, zi_2, zi_3, zi_4, zi_5, zi_6, zi_7, zi_8, zi_9, zi_10, zi_12, zi_20, zi_21, zi_30, zi_60, zi_90, zi_99, zi_100, zi_180, zi_240, zi_400, zi_500, zi_1000, zi_1199, zi_10000, zi_100000, zi_1000000, i3m1] at c7 c8 c9 c10 h9 ⊢; omega)]) (by have h9 := lv_sub (l' := [(5, .int ((nI kk) + 1)), (4, .int (nI kk)), (0, .ref (α 0)), (1, .int kind), (2, .int month), (3, .int known)]) hl [0, 1, 3, 4, 5, 6] rfl; rw [nI_1] at h9; exact h9)
  refine lv_iconst (v := (-1)) hx hb dX11_inForce_0 (by decide) ?_
  refine lv_istore (lv' := [(4, .int (-1)), (0, .ref (α 0)), (1, .int kind), (2, .int month), (3, .int known)]) hx hb dX11_inForce_1 hl (by decide) rfl (fun ls hl => ?_)
  refine lv_iconst (v := 0) hx hb dX11_inForce_3 (by decide) ?_
  refine lv_istore (lv' := [(5, .int 0), (4, .int (-1)), (0, .ref (α 0)), (1, .int kind), (2, .int month), (3, .int known)]) hx hb dX11_inForce_4 hl (by decide) rfl (fun ls hl => ?_)
  exact loop (nOf S 2) 0 none ls (by omega) rfl (lv_sub hl [0, 1, 2, 3, 4, 5] rfl)
set_option maxHeartbeats 4000000 in
set_option maxRecDepth 100000 in
theorem c_X11_fateAt (l : Launch) (D : va_G) (G : Nat → ClassId) (τ α : Nat → Nat) (S : St) (sz : Nat) (child known : Int32) (hN : okN S) : Ri l D G τ yX11_fateAt cX11_fateAt 5 (some .int) 0 [.ref (α 0), .int child, .int known] α (mE G α S) Lm sz (fun r => r = oI (sFate S child known)) := by
  refine gM _ (by decide) rfl (Nat.le_of_ble_eq_true rfl) ?_
  intro p e s m below meth c ls C hr hlk hnm hsz B hl
  have hx := C.1
  have hb := C.2.1
  have hl : lv_has ls 5 [(0, .ref (α 0)), (1, .int child), (2, .int known)] := hl
  have hNe := nOf_eq hN.2.2.2.1.1
  have hNl : nOf S 10 ≤ 90 := nOf_le hN.2.2.2.1.1 hN.2.2.2.1.2 (by decide)
  have loop : ∀ (nn kk : Nat) (best : Option Nat) (ls : Array Slot), nn + kk = nOf S 10 → (lastF S child known kk = best ∧ ∀ b, best = some b → b < kk) → lv_has ls 5 [(4, .int (nI kk)), (3, .int (oI best)), (0, .ref (α 0)), (1, .int child), (2, .int known)] → W p l e (rmd 0 0 0) s m [.ref (α 0), .int child, .int known].toArray below meth c s.heap [] 0 0 (MQ below (vp_Si (fun r => r = oI (sFate S child known))) [.ref (α 0), .int child, .int known].toArray s 0 0 (fun _ => False)) (F0 m 5 ls []) := by
    intro nn
    induction nn with
    | zero =>
      intro kk best ls hk hI hl
      cases best with
      | none =>
        have hl : lv_has ls 5 [(4, .int (nI kk)), (3, .int (-1)), (0, .ref (α 0)), (1, .int child), (2, .int known)] := hl
        refine lv_iload hx hb dX11_fateAt_5 (lv_at hl 0 rfl) ?_
        refine lv_aload_n hx hb dX11_fateAt_7 rfl (lv_at hl 2 rfl) ?_
        refine g_get C B (0) (by decide) mE_0 rfl gf_11 10 (by decide) wl_737 (v := .int (S.1 10)) mF_10 dX11_fateAt_8 ?_
        refine lv_icmp_ge (tgt := 49) hx hb dX11_fateAt_11 (by decide) (fun _ => ?_) (fun hc => absurd (by rw [hNe]; exact nI_le (by omega) (by omega)) hc)
        refine lv_iload_n hx hb dX11_fateAt_49 rfl (lv_at hl 1 rfl) ?_
        refine lv_if_lt (tgt := 67) hx hb dX11_fateAt_50 (by decide) (fun _ => ?_) (fun hc => absurd (by decide) hc)
        refine lv_iconst (v := (-1)) hx hb dX11_fateAt_67 (by decide) ?_
        exact ge_i C hr rfl hlk (by rw [sFate, show nOf S 10 = kk by omega, hI.1]; rfl) dX11_fateAt_68
      | some b =>
        have hl : lv_has ls 5 [(4, .int (nI kk)), (3, .int (nI b)), (0, .ref (α 0)), (1, .int child), (2, .int known)] := hl
        have hb9 := hI.2 b rfl
        refine lv_iload hx hb dX11_fateAt_5 (lv_at hl 0 rfl) ?_
        refine lv_aload_n hx hb dX11_fateAt_7 rfl (lv_at hl 2 rfl) ?_
        refine g_get C B (0) (by decide) mE_0 rfl gf_11 10 (by decide) wl_737 (v := .int (S.1 10)) mF_10 dX11_fateAt_8 ?_
        refine lv_icmp_ge (tgt := 49) hx hb dX11_fateAt_11 (by decide) (fun _ => ?_) (fun hc => absurd (by rw [hNe]; exact nI_le (by omega) (by omega)) hc)
        refine lv_iload_n hx hb dX11_fateAt_49 rfl (lv_at hl 1 rfl) ?_
        refine lv_if_lt (tgt := 67) hx hb dX11_fateAt_50 (by decide) (fun hc => absurd hc (nI_pos (by omega))) (fun _ => ?_)
        refine lv_aload_n hx hb dX11_fateAt_53 rfl (lv_at hl 2 rfl) ?_
        refine g_get C B (0) (by decide) mE_0 rfl gf_11 12 (by decide) wl_739 (v := .ref (α 12)) mF_12 dX11_fateAt_54 ?_
        refine lv_iload_n hx hb dX11_fateAt_57 rfl (lv_at hl 1 rfl) ?_
        refine g_iald C B (12) (by decide) (f := S.2.2.1 12) mE_12 (vp_in_nI (by omega) (by omega)) (j := b) (nI_clamp (by omega)) dX11_fateAt_58 ?_
        refine lv_iconst (v := 3) hx hb dX11_fateAt_59 (by decide) ?_
        refine lv_icmp_ge (tgt := 67) hx hb dX11_fateAt_60 (by decide) (fun c1 => ?_) (fun c1 => ?_)
        · refine lv_iconst (v := (-1)) hx hb dX11_fateAt_67 (by decide) ?_
          exact ge_i C hr rfl hlk (by rw [sFate, show nOf S 10 = kk by omega, hI.1]; dsimp only; rw [if_neg (by simp only [i3l, i3e, i3q, inR, isC, isD, zi_0, zi_1, zi_2, zi_3, zi_4, zi_5, zi_6, zi_7, zi_8, zi_9, zi_10, zi_12, zi_20, zi_21, zi_30, zi_60, zi_90, zi_99, zi_100, zi_180, zi_240, zi_400, zi_500, zi_1000, zi_1199, zi_10000, zi_100000, zi_1000000, i3m1] at c1 ⊢; omega)]; rfl) dX11_fateAt_68
        · refine lv_iload_n hx hb dX11_fateAt_63 rfl (lv_at hl 1 rfl) ?_
          refine lv_goto (tgt := 68) hx hb dX11_fateAt_64 (by decide) ?_
          exact ge_i C hr rfl hlk (by rw [sFate, show nOf S 10 = kk by omega, hI.1]; dsimp only; rw [if_pos (by simp only [i3l, i3e, i3q, inR, isC, isD, zi_0, zi_1, zi_2, zi_3, zi_4, zi_5, zi_6, zi_7, zi_8, zi_9, zi_10, zi_12, zi_20, zi_21, zi_30, zi_60, zi_90, zi_99, zi_100, zi_180, zi_240, zi_400, zi_500, zi_1000, zi_1199, zi_10000, zi_100000, zi_1000000, i3m1] at c1 ⊢; omega)]; rfl) dX11_fateAt_68
    | succ nn ih =>
      intro kk best ls hk hI hl
      cases best with
      | none =>
        have hl : lv_has ls 5 [(4, .int (nI kk)), (3, .int (-1)), (0, .ref (α 0)), (1, .int child), (2, .int known)] := hl
        refine lv_iload hx hb dX11_fateAt_5 (lv_at hl 0 rfl) ?_
        refine lv_aload_n hx hb dX11_fateAt_7 rfl (lv_at hl 2 rfl) ?_
        refine g_get C B (0) (by decide) mE_0 rfl gf_11 10 (by decide) wl_737 (v := .int (S.1 10)) mF_10 dX11_fateAt_8 ?_
        refine lv_icmp_ge (tgt := 49) hx hb dX11_fateAt_11 (by decide) (fun hc => absurd hc (by rw [hNe]; exact nI_ge (by omega) (by omega))) (fun _ => ?_)
        refine lv_aload_n hx hb dX11_fateAt_14 rfl (lv_at hl 2 rfl) ?_
        refine g_get C B (0) (by decide) mE_0 rfl gf_11 11 (by decide) wl_738 (v := .ref (α 11)) mF_11 dX11_fateAt_15 ?_
        refine lv_iload hx hb dX11_fateAt_18 (lv_at hl 0 rfl) ?_
        refine g_iald C B (11) (by decide) (f := S.2.2.1 11) mE_11 (vp_in_nI (by omega) (by omega)) (j := kk) (nI_clamp (by omega)) dX11_fateAt_20 ?_
        refine lv_iload_n hx hb dX11_fateAt_21 rfl (lv_at hl 3 rfl) ?_
        refine lv_icmp_ne (tgt := 41) hx hb dX11_fateAt_22 (by decide) (fun c2 => ?_) (fun c2 => ?_)
        · refine lv_iload_n hx hb dX11_fateAt_41 rfl (lv_at hl 1 rfl) ?_
          refine lv_istore_n (lv' := [(3, .int (-1)), (4, .int (nI kk)), (0, .ref (α 0)), (1, .int child), (2, .int known)]) hx hb dX11_fateAt_42 rfl hl (by decide) rfl (fun ls hl => ?_)
          refine lv_iinc (v := ((nI kk) + 1)) (lv' := [(4, .int ((nI kk) + 1)), (3, .int (-1)), (0, .ref (α 0)), (1, .int child), (2, .int known)]) hx hb dX11_fateAt_43 hl (k := 1) rfl rfl (by decide) rfl (fun ls hl => ?_)
          refine lv_goto (tgt := 5) hx hb dX11_fateAt_46 (by decide) ?_
          exact ih (kk + 1) none ls (by omega) (by refine ⟨?_, fun b hb => by have := hI.2 b hb; omega⟩; rw [lastF, if_neg (by simp only [i3l, i3e, i3q, inR, isC, isD, zi_0, zi_1, zi_2, zi_3, zi_4, zi_5, zi_6, zi_7, zi_8, zi_9, zi_10, zi_12, zi_20, zi_21, zi_30, zi_60, zi_90, zi_99, zi_100, zi_180, zi_240, zi_400, zi_500, zi_1000, zi_1199, zi_10000, zi_100000, zi_1000000, i3m1] at c2 ⊢; omega), hI.1]) (by have h9 := lv_sub (l' := [(4, .int ((nI kk) + 1)), (3, .int (-1)), (0, .ref (α 0)), (1, .int child), (2, .int known)]) hl [0, 1, 2, 3, 4] rfl; rw [nI_1] at h9; exact h9)
        · refine lv_aload_n hx hb dX11_fateAt_25 rfl (lv_at hl 2 rfl) ?_
          refine g_get C B (0) (by decide) mE_0 rfl gf_11 14 (by decide) wl_741 (v := .ref (α 14)) mF_14 dX11_fateAt_26 ?_
          refine lv_iload hx hb dX11_fateAt_29 (lv_at hl 0 rfl) ?_
          refine g_iald C B (14) (by decide) (f := S.2.2.1 14) mE_14 (vp_in_nI (by omega) (by omega)) (j := kk) (nI_clamp (by omega)) dX11_fateAt_31 ?_
          refine lv_iload_n hx hb dX11_fateAt_32 rfl (lv_at hl 4 rfl) ?_
          refine lv_icmp_gt (tgt := 41) hx hb dX11_fateAt_33 (by decide) (fun c3 => ?_) (fun c3 => ?_)
          · refine lv_iload_n hx hb dX11_fateAt_41 rfl (lv_at hl 1 rfl) ?_
            refine lv_istore_n (lv' := [(3, .int (-1)), (4, .int (nI kk)), (0, .ref (α 0)), (1, .int child), (2, .int known)]) hx hb dX11_fateAt_42 rfl hl (by decide) rfl (fun ls hl => ?_)
            refine lv_iinc (v := ((nI kk) + 1)) (lv' := [(4, .int ((nI kk) + 1)), (3, .int (-1)), (0, .ref (α 0)), (1, .int child), (2, .int known)]) hx hb dX11_fateAt_43 hl (k := 1) rfl rfl (by decide) rfl (fun ls hl => ?_)
            refine lv_goto (tgt := 5) hx hb dX11_fateAt_46 (by decide) ?_
            exact ih (kk + 1) none ls (by omega) (by refine ⟨?_, fun b hb => by have := hI.2 b hb; omega⟩; rw [lastF, if_neg (by simp only [i3l, i3e, i3q, inR, isC, isD, zi_0, zi_1, zi_2, zi_3, zi_4, zi_5, zi_6, zi_7, zi_8, zi_9, zi_10, zi_12, zi_20, zi_21, zi_30, zi_60, zi_90, zi_99, zi_100, zi_180, zi_240, zi_400, zi_500, zi_1000, zi_1199, zi_10000, zi_100000, zi_1000000, i3m1] at c2 c3 ⊢; omega), hI.1]) (by have h9 := lv_sub (l' := [(4, .int ((nI kk) + 1)), (3, .int (-1)), (0, .ref (α 0)), (1, .int child), (2, .int known)]) hl [0, 1, 2, 3, 4] rfl; rw [nI_1] at h9; exact h9)
          · refine lv_iload hx hb dX11_fateAt_36 (lv_at hl 0 rfl) ?_
            refine lv_goto (tgt := 42) hx hb dX11_fateAt_38 (by decide) ?_
            refine lv_istore_n (lv' := [(3, .int (nI kk)), (4, .int (nI kk)), (0, .ref (α 0)), (1, .int child), (2, .int known)]) hx hb dX11_fateAt_42 rfl hl (by decide) rfl (fun ls hl => ?_)
            refine lv_iinc (v := ((nI kk) + 1)) (lv' := [(4, .int ((nI kk) + 1)), (3, .int (nI kk)), (0, .ref (α 0)), (1, .int child), (2, .int known)]) hx hb dX11_fateAt_43 hl (k := 1) rfl rfl (by decide) rfl (fun ls hl => ?_)
            refine lv_goto (tgt := 5) hx hb dX11_fateAt_46 (by decide) ?_
            exact ih (kk + 1) (some kk) ls (by omega) (by refine ⟨?_, fun b hb => by cases hb; omega⟩; rw [lastF, if_pos (by simp only [i3l, i3e, i3q, inR, isC, isD, zi_0, zi_1, zi_2, zi_3, zi_4, zi_5, zi_6, zi_7, zi_8, zi_9, zi_10, zi_12, zi_20, zi_21, zi_30, zi_60, zi_90, zi_99, zi_100, zi_180, zi_240, zi_400, zi_500, zi_1000, zi_1199, zi_10000, zi_100000, zi_1000000, i3m1] at c2 c3 ⊢; omega)]) (by have h9 := lv_sub (l' := [(4, .int ((nI kk) + 1)), (3, .int (nI kk)), (0, .ref (α 0)), (1, .int child), (2, .int known)]) hl [0, 1, 2, 3, 4] rfl; rw [nI_1] at h9; exact h9)
      | some b =>
        have hl : lv_has ls 5 [(4, .int (nI kk)), (3, .int (nI b)), (0, .ref (α 0)), (1, .int child), (2, .int known)] := hl
        have hb9 := hI.2 b rfl
        refine lv_iload hx hb dX11_fateAt_5 (lv_at hl 0 rfl) ?_
        refine lv_aload_n hx hb dX11_fateAt_7 rfl (lv_at hl 2 rfl) ?_
        refine g_get C B (0) (by decide) mE_0 rfl gf_11 10 (by decide) wl_737 (v := .int (S.1 10)) mF_10 dX11_fateAt_8 ?_
        refine lv_icmp_ge (tgt := 49) hx hb dX11_fateAt_11 (by decide) (fun hc => absurd hc (by rw [hNe]; exact nI_ge (by omega) (by omega))) (fun _ => ?_)
        refine lv_aload_n hx hb dX11_fateAt_14 rfl (lv_at hl 2 rfl) ?_
        refine g_get C B (0) (by decide) mE_0 rfl gf_11 11 (by decide) wl_738 (v := .ref (α 11)) mF_11 dX11_fateAt_15 ?_
        refine lv_iload hx hb dX11_fateAt_18 (lv_at hl 0 rfl) ?_
        refine g_iald C B (11) (by decide) (f := S.2.2.1 11) mE_11 (vp_in_nI (by omega) (by omega)) (j := kk) (nI_clamp (by omega)) dX11_fateAt_20 ?_
        refine lv_iload_n hx hb dX11_fateAt_21 rfl (lv_at hl 3 rfl) ?_
        refine lv_icmp_ne (tgt := 41) hx hb dX11_fateAt_22 (by decide) (fun c4 => ?_) (fun c4 => ?_)
        · refine lv_iload_n hx hb dX11_fateAt_41 rfl (lv_at hl 1 rfl) ?_
          refine lv_istore_n (lv' := [(3, .int (nI b)), (4, .int (nI kk)), (0, .ref (α 0)), (1, .int child), (2, .int known)]) hx hb dX11_fateAt_42 rfl hl (by decide) rfl (fun ls hl => ?_)
          refine lv_iinc (v := ((nI kk) + 1)) (lv' := [(4, .int ((nI kk) + 1)), (3, .int (nI b)), (0, .ref (α 0)), (1, .int child), (2, .int known)]) hx hb dX11_fateAt_43 hl (k := 1) rfl rfl (by decide) rfl (fun ls hl => ?_)
          refine lv_goto (tgt := 5) hx hb dX11_fateAt_46 (by decide) ?_
          exact ih (kk + 1) (some b) ls (by omega) (by refine ⟨?_, fun b hb => by have := hI.2 b hb; omega⟩; rw [lastF, if_neg (by simp only [i3l, i3e, i3q, inR, isC, isD, zi_0, zi_1, zi_2, zi_3, zi_4, zi_5, zi_6, zi_7, zi_8, zi_9, zi_10, zi_12, zi_20, zi_21, zi_30, zi_60, zi_90, zi_99, zi_100, zi_180, zi_240, zi_400, zi_500, zi_1000, zi_1199, zi_10000, zi_100000, zi_1000000, i3m1] at c4 ⊢; omega), hI.1]) (by have h9 := lv_sub (l' := [(4, .int ((nI kk) + 1)), (3, .int (nI b)), (0, .ref (α 0)), (1, .int child), (2, .int known)]) hl [0, 1, 2, 3, 4] rfl; rw [nI_1] at h9; exact h9)
        · refine lv_aload_n hx hb dX11_fateAt_25 rfl (lv_at hl 2 rfl) ?_
          refine g_get C B (0) (by decide) mE_0 rfl gf_11 14 (by decide) wl_741 (v := .ref (α 14)) mF_14 dX11_fateAt_26 ?_
          refine lv_iload hx hb dX11_fateAt_29 (lv_at hl 0 rfl) ?_
          refine g_iald C B (14) (by decide) (f := S.2.2.1 14) mE_14 (vp_in_nI (by omega) (by omega)) (j := kk) (nI_clamp (by omega)) dX11_fateAt_31 ?_
          refine lv_iload_n hx hb dX11_fateAt_32 rfl (lv_at hl 4 rfl) ?_
          refine lv_icmp_gt (tgt := 41) hx hb dX11_fateAt_33 (by decide) (fun c5 => ?_) (fun c5 => ?_)
          · refine lv_iload_n hx hb dX11_fateAt_41 rfl (lv_at hl 1 rfl) ?_
            refine lv_istore_n (lv' := [(3, .int (nI b)), (4, .int (nI kk)), (0, .ref (α 0)), (1, .int child), (2, .int known)]) hx hb dX11_fateAt_42 rfl hl (by decide) rfl (fun ls hl => ?_)
            refine lv_iinc (v := ((nI kk) + 1)) (lv' := [(4, .int ((nI kk) + 1)), (3, .int (nI b)), (0, .ref (α 0)), (1, .int child), (2, .int known)]) hx hb dX11_fateAt_43 hl (k := 1) rfl rfl (by decide) rfl (fun ls hl => ?_)
            refine lv_goto (tgt := 5) hx hb dX11_fateAt_46 (by decide) ?_
            exact ih (kk + 1) (some b) ls (by omega) (by refine ⟨?_, fun b hb => by have := hI.2 b hb; omega⟩; rw [lastF, if_neg (by simp only [i3l, i3e, i3q, inR, isC, isD, zi_0, zi_1, zi_2, zi_3, zi_4, zi_5, zi_6, zi_7, zi_8, zi_9, zi_10, zi_12, zi_20, zi_21, zi_30, zi_60, zi_90, zi_99, zi_100, zi_180, zi_240, zi_400, zi_500, zi_1000, zi_1199, zi_10000, zi_100000, zi_1000000, i3m1] at c4 c5 ⊢; omega), hI.1]) (by have h9 := lv_sub (l' := [(4, .int ((nI kk) + 1)), (3, .int (nI b)), (0, .ref (α 0)), (1, .int child), (2, .int known)]) hl [0, 1, 2, 3, 4] rfl; rw [nI_1] at h9; exact h9)
          · refine lv_iload hx hb dX11_fateAt_36 (lv_at hl 0 rfl) ?_
            refine lv_goto (tgt := 42) hx hb dX11_fateAt_38 (by decide) ?_
            refine lv_istore_n (lv' := [(3, .int (nI kk)), (4, .int (nI kk)), (0, .ref (α 0)), (1, .int child), (2, .int known)]) hx hb dX11_fateAt_42 rfl hl (by decide) rfl (fun ls hl => ?_)
            refine lv_iinc (v := ((nI kk) + 1)) (lv' := [(4, .int ((nI kk) + 1)), (3, .int (nI kk)), (0, .ref (α 0)), (1, .int child), (2, .int known)]) hx hb dX11_fateAt_43 hl (k := 1) rfl rfl (by decide) rfl (fun ls hl => ?_)
            refine lv_goto (tgt := 5) hx hb dX11_fateAt_46 (by decide) ?_
            exact ih (kk + 1) (some kk) ls (by omega) (by refine ⟨?_, fun b hb => by cases hb; omega⟩; rw [lastF, if_pos (by simp only [i3l, i3e, i3q, inR, isC, isD, zi_0, zi_1, zi_2, zi_3, zi_4, zi_5, zi_6, zi_7, zi_8, zi_9, zi_10, zi_12, zi_20, zi_21, zi_30, zi_60, zi_90, zi_99, zi_100, zi_180, zi_240, zi_400, zi_500, zi_1000, zi_1199, zi_10000, zi_100000, zi_1000000, i3m1] at c4 c5 ⊢; omega)]) (by have h9 := lv_sub (l' := [(4, .int ((nI kk) + 1)), (3, .int (nI kk)), (0, .ref (α 0)), (1, .int child), (2, .int known)]) hl [0, 1, 2, 3, 4] rfl; rw [nI_1] at h9; exact h9)
  refine lv_iconst (v := (-1)) hx hb dX11_fateAt_0 (by decide) ?_
  refine lv_istore_n (lv' := [(3, .int (-1)), (0, .ref (α 0)), (1, .int child), (2, .int known)]) hx hb dX11_fateAt_1 rfl hl (by decide) rfl (fun ls hl => ?_)
  refine lv_iconst (v := 0) hx hb dX11_fateAt_2 (by decide) ?_
  refine lv_istore (lv' := [(4, .int 0), (3, .int (-1)), (0, .ref (α 0)), (1, .int child), (2, .int known)]) hx hb dX11_fateAt_3 hl (by decide) rfl (fun ls hl => ?_)
  exact loop (nOf S 10) 0 none ls (by omega) ⟨rfl, fun b hb => by cases hb⟩ (lv_sub hl [0, 1, 2, 3, 4] rfl)
set_option maxHeartbeats 4000000 in
set_option maxRecDepth 100000 in
theorem c_X11_holderIn (l : Launch) (D : va_G) (G : Nat → ClassId) (τ α : Nat → Nat) (S : St) (sz : Nat) (d : Nat) (month : Int32) (hd : d < 30) (hs : 0 ≤ S.2.2.1 25 d ∧ S.2.2.1 25 d ≤ 7) : Ri l D G τ yX11_holderIn cX11_holderIn 5 (some .int) 0 [.ref (α 0), .int (nI d), .int month] α (mE G α S) Lm sz (fun r => r = sHold S d month) := by
  refine gM _ (by decide) rfl (Nat.le_of_ble_eq_true rfl) ?_
  intro p e s m below meth c ls C hr hlk hnm hsz B hl
  have hx := C.1
  have hb := C.2.1
  have hl : lv_has ls 5 [(0, .ref (α 0)), (1, .int (nI d)), (2, .int month)] := hl
  have hNe := cl_eq hs.1
  have hNl : (S.2.2.1 25 d).toNatClampNeg ≤ 7 := by have h9 := cl_int hs.1; have h8 := hs.2; simp only [i3e, zi_7] at h8; omega
  have loop : ∀ (nn kk : Nat) (h : Int32) (ls : Array Slot), nn + kk = (S.2.2.1 25 d).toNatClampNeg → (holdL S d month kk = h) → lv_has ls 5 [(4, .int (nI kk)), (3, .int h), (0, .ref (α 0)), (1, .int (nI d)), (2, .int month)] → W p l e (rmd 0 0 0) s m [.ref (α 0), .int (nI d), .int month].toArray below meth c s.heap [] 0 0 (MQ below (vp_Si (fun r => r = sHold S d month)) [.ref (α 0), .int (nI d), .int month].toArray s 0 0 (fun _ => False)) (F0 m 5 ls []) := by
    intro nn
    induction nn with
    | zero =>
      intro kk h ls hk hI hl
      refine lv_iload hx hb dX11_holderIn_5 (lv_at hl 0 rfl) ?_
      refine lv_aload_n hx hb dX11_holderIn_7 rfl (lv_at hl 2 rfl) ?_
      refine g_get C B (0) (by decide) mE_0 rfl gf_11 25 (by decide) wl_752 (v := .ref (α 25)) mF_25 dX11_holderIn_8 ?_
      refine lv_iload_n hx hb dX11_holderIn_11 rfl (lv_at hl 3 rfl) ?_
      refine g_iald C B (25) (by decide) (f := S.2.2.1 25) mE_25 (vp_in_nI (by omega) (by omega)) (j := d) (nI_clamp (by omega)) dX11_holderIn_12 ?_
      refine lv_icmp_ge (tgt := 55) hx hb dX11_holderIn_13 (by decide) (fun _ => ?_) (fun hc => absurd (by rw [hNe]; exact nI_le (by omega) (by omega)) hc)
      refine lv_iload_n hx hb dX11_holderIn_55 rfl (lv_at hl 1 rfl) ?_
      exact ge_i C hr rfl hlk (by rw [sHold, show (S.2.2.1 25 d).toNatClampNeg = kk by omega, hI]) dX11_holderIn_56
    | succ nn ih =>
      intro kk h ls hk hI hl
      refine lv_iload hx hb dX11_holderIn_5 (lv_at hl 0 rfl) ?_
      refine lv_aload_n hx hb dX11_holderIn_7 rfl (lv_at hl 2 rfl) ?_
      refine g_get C B (0) (by decide) mE_0 rfl gf_11 25 (by decide) wl_752 (v := .ref (α 25)) mF_25 dX11_holderIn_8 ?_
      refine lv_iload_n hx hb dX11_holderIn_11 rfl (lv_at hl 3 rfl) ?_
      refine g_iald C B (25) (by decide) (f := S.2.2.1 25) mE_25 (vp_in_nI (by omega) (by omega)) (j := d) (nI_clamp (by omega)) dX11_holderIn_12 ?_
      refine lv_icmp_ge (tgt := 55) hx hb dX11_holderIn_13 (by decide) (fun hc => absurd hc (by rw [hNe]; exact nI_ge (by omega) (by omega))) (fun _ => ?_)
      refine lv_aload_n hx hb dX11_holderIn_16 rfl (lv_at hl 2 rfl) ?_
      refine g_get C B (0) (by decide) mE_0 rfl gf_11 26 (by decide) wl_753 (v := .ref (α 26)) mF_26 dX11_holderIn_17 ?_
      refine lv_bipush (v := 7) hx hb dX11_holderIn_20 (by decide) ?_
      refine lv_iload_n hx hb dX11_holderIn_22 rfl (lv_at hl 3 rfl) ?_
      refine lv_imul hx hb dX11_holderIn_23 ?_
      refine lv_iload hx hb dX11_holderIn_24 (lv_at hl 0 rfl) ?_
      refine lv_iadd hx hb dX11_holderIn_26 ?_
      rw [n7]
      refine g_iald C B (26) (by decide) (f := S.2.2.1 26) mE_26 (vp_in_nI (by omega) (by omega)) (j := (7 * d + kk)) (nI_clamp (by omega)) dX11_holderIn_27 ?_
      refine lv_iload_n hx hb dX11_holderIn_28 rfl (lv_at hl 4 rfl) ?_
      refine lv_icmp_gt (tgt := 47) hx hb dX11_holderIn_29 (by decide) (fun c1 => ?_) (fun c1 => ?_)
      · refine lv_iload_n hx hb dX11_holderIn_47 rfl (lv_at hl 1 rfl) ?_
        refine lv_istore_n (lv' := [(3, .int h), (4, .int (nI kk)), (0, .ref (α 0)), (1, .int (nI d)), (2, .int month)]) hx hb dX11_holderIn_48 rfl hl (by decide) rfl (fun ls hl => ?_)
        refine lv_iinc (v := ((nI kk) + 1)) (lv' := [(4, .int ((nI kk) + 1)), (3, .int h), (0, .ref (α 0)), (1, .int (nI d)), (2, .int month)]) hx hb dX11_holderIn_49 hl (k := 1) rfl rfl (by decide) rfl (fun ls hl => ?_)
        refine lv_goto (tgt := 5) hx hb dX11_holderIn_52 (by decide) ?_
        exact ih (kk + 1) h ls (by omega) (by rw [holdL, if_neg (by simp only [i3l, i3e, i3q, inR, isC, isD, zi_0, zi_1, zi_2, zi_3, zi_4, zi_5, zi_6, zi_7, zi_8, zi_9, zi_10, zi_12, zi_20, zi_21, zi_30, zi_60, zi_90, zi_99, zi_100, zi_180, zi_240, zi_400, zi_500, zi_1000, zi_1199, zi_10000, zi_100000, zi_1000000, i3m1] at c1 ⊢; omega), hI]) (by have h9 := lv_sub (l' := [(4, .int ((nI kk) + 1)), (3, .int h), (0, .ref (α 0)), (1, .int (nI d)), (2, .int month)]) hl [0, 1, 2, 3, 4] rfl; rw [nI_1] at h9; exact h9)
      · refine lv_aload_n hx hb dX11_holderIn_32 rfl (lv_at hl 2 rfl) ?_
        refine g_get C B (0) (by decide) mE_0 rfl gf_11 27 (by decide) wl_754 (v := .ref (α 27)) mF_27 dX11_holderIn_33 ?_
        refine lv_bipush (v := 7) hx hb dX11_holderIn_36 (by decide) ?_
        refine lv_iload_n hx hb dX11_holderIn_38 rfl (lv_at hl 3 rfl) ?_
        refine lv_imul hx hb dX11_holderIn_39 ?_
        refine lv_iload hx hb dX11_holderIn_40 (lv_at hl 0 rfl) ?_
        refine lv_iadd hx hb dX11_holderIn_42 ?_
        rw [n7]
        refine g_iald C B (27) (by decide) (f := S.2.2.1 27) mE_27 (vp_in_nI (by omega) (by omega)) (j := (7 * d + kk)) (nI_clamp (by omega)) dX11_holderIn_43 ?_
        refine lv_goto (tgt := 48) hx hb dX11_holderIn_44 (by decide) ?_
        refine lv_istore_n (lv' := [(3, .int (S.2.2.1 27 (7 * d + kk))), (4, .int (nI kk)), (0, .ref (α 0)), (1, .int (nI d)), (2, .int month)]) hx hb dX11_holderIn_48 rfl hl (by decide) rfl (fun ls hl => ?_)
        refine lv_iinc (v := ((nI kk) + 1)) (lv' := [(4, .int ((nI kk) + 1)), (3, .int (S.2.2.1 27 (7 * d + kk))), (0, .ref (α 0)), (1, .int (nI d)), (2, .int month)]) hx hb dX11_holderIn_49 hl (k := 1) rfl rfl (by decide) rfl (fun ls hl => ?_)
        refine lv_goto (tgt := 5) hx hb dX11_holderIn_52 (by decide) ?_
        exact ih (kk + 1) (S.2.2.1 27 (7 * d + kk)) ls (by omega) (by rw [holdL, if_pos (by simp only [i3l, i3e, i3q, inR, isC, isD, zi_0, zi_1, zi_2, zi_3, zi_4, zi_5, zi_6, zi_7, zi_8, zi_9, zi_10, zi_12, zi_20, zi_21, zi_30, zi_60, zi_90, zi_99, zi_100, zi_180, zi_240, zi_400, zi_500, zi_1000, zi_1199, zi_10000, zi_100000, zi_1000000, i3m1] at c1 ⊢; omega)]) (by have h9 := lv_sub (l' := [(4, .int ((nI kk) + 1)), (3, .int (S.2.2.1 27 (7 * d + kk))), (0, .ref (α 0)), (1, .int (nI d)), (2, .int month)]) hl [0, 1, 2, 3, 4] rfl; rw [nI_1] at h9; exact h9)
  refine lv_iconst (v := (-1)) hx hb dX11_holderIn_0 (by decide) ?_
  refine lv_istore_n (lv' := [(3, .int (-1)), (0, .ref (α 0)), (1, .int (nI d)), (2, .int month)]) hx hb dX11_holderIn_1 rfl hl (by decide) rfl (fun ls hl => ?_)
  refine lv_iconst (v := 0) hx hb dX11_holderIn_2 (by decide) ?_
  refine lv_istore (lv' := [(4, .int 0), (3, .int (-1)), (0, .ref (α 0)), (1, .int (nI d)), (2, .int month)]) hx hb dX11_holderIn_3 hl (by decide) rfl (fun ls hl => ?_)
  exact loop (S.2.2.1 25 d).toNatClampNeg 0 (-1) ls (by omega) rfl (lv_sub hl [0, 1, 2, 3, 4] rfl)
theorem cntA {S : St} {m c known : Int32} {o : Option Nat} (h : 0 ≤ c) (e : (if c < 0 then none else sCnt S m c known) = o) : sCnt S m c known = o := by
  rwa [if_neg (by simp only [i3l, i3e] at h ⊢; omega)] at e
theorem cntB {S : St} {m k c known : Int32} {o : Option Nat} (h : k = 1 → 0 ≤ c) (h2 : ¬ k = 1 → c = -1) (e : (if c < 0 then none else sCnt S m c known) = o) : (if k = 1 then sCnt S m c known else none) = o := by
  by_cases hk : k = 1
  · rw [if_pos hk]; exact cntA (h hk) e
  · rw [if_neg hk, ← e, if_pos (by rw [h2 hk]; decide)]
theorem cntC {S : St} {m c known : Int32} {f : Nat} (e : (if c < 0 then none else sCnt S m c known) = some f) : f < nOf S 10 ∧ S.2.2.1 12 f < 3 := by
  split at e
  · cases e
  · exact sCnt_lt e
def outL (S : St) : Nat → Int32
  | 0 => 0
  | k + 1 => outL S k + (if S.2.2.1 24 k = 0 then 0 else 1)
def liveL (S : St) (a : Nat) : Nat → Int64 × Int64
  | 0 => (1000000, 0)
  | k + 1 => ((liveL S a k).1 - (th (liveL S a k).1 (S.2.2.1 35 (a + k)) + th (liveL S a k).1 (S.2.2.1 34 (a + k)) + th (liveL S a k).1 (S.2.2.1 36 (a + k))), (liveL S a k).2 + th (liveL S a k).1 (S.2.2.1 35 (a + k)))
theorem uJ_live (S : St) (x y x2 y2 : Int64) : uJ (uJ (uJ (uJ S 41 x) 42 y) 42 y2) 41 x2 = uJ (uJ S 41 x2) 42 y2 := by
  simp only [uJ]
  congr 2
  funext k
  simp only [va_up]
  by_cases h1 : k = 41
  · subst h1; simp
  · by_cases h2 : k = 42
    · subst h2; simp
    · simp [h1, h2]
set_option maxHeartbeats 4000000 in
set_option maxRecDepth 100000 in
theorem c_X11_counted (l : Launch) (D : va_G) (G : Nat → ClassId) (τ α : Nat → Nat) (S : St) (sz : Nat) (d : Nat) (child known : Int32) (hd : d < 30) (hN : okN S) : Ri l D G τ yX11_counted cX11_counted 5 (some .int) 1 [.ref (α 0), .int (nI d), .int child, .int known] α (mE G α S) Lm sz (fun r => r = oI (if child < 0 then none else sCnt S (S.2.2.1 22 d) child known)) := by
  refine gM _ (by decide) rfl (Nat.le_of_ble_eq_true rfl) ?_
  intro p e s m below meth c ls C hr hlk hnm hsz B hl
  have hx := C.1
  have hb := C.2.1
  have hl : lv_has ls 5 [(0, .ref (α 0)), (1, .int (nI d)), (2, .int child), (3, .int known)] := hl
  refine lv_iload_n hx hb dX11_counted_0 rfl (lv_at hl 2 rfl) ?_
  refine lv_if_ge (tgt := 8) hx hb dX11_counted_1 (by decide) (fun c1 => ?_) (fun c1 => ?_)
  · refine lv_aload_n hx hb dX11_counted_8 rfl (lv_at hl 0 rfl) ?_
    refine lv_iload_n hx hb dX11_counted_9 rfl (lv_at hl 2 rfl) ?_
    refine lv_iload_n hx hb dX11_counted_10 rfl (lv_at hl 3 rfl) ?_
    refine gc_o (oI := oI) (gr_V C B (k := 0) (As := [.int child, .int known]) (rest := []) (c_X11_fateAt l D G τ α S _ child known hN) (by decide) mE_0 rfl wl_882 wl_884 wl_18 wl_40 wl_885 (na := 2) (by decide +kernel) rfl ⟨Nat.le_of_ble_eq_true rfl, Nat.le_of_ble_eq_true rfl⟩ ⟨Nat.le_of_ble_eq_true rfl, Nat.le_of_ble_eq_true rfl⟩ hl.1 rfl (Nat.le_of_ble_eq_true rfl) dX11_counted_11) (fun c2 => ?_) (fun f3 c2 => ?_)
    · refine lv_istore (lv' := [(4, .int (-1)), (0, .ref (α 0)), (1, .int (nI d)), (2, .int child), (3, .int known)]) hx hb dX11_counted_14 hl (by decide) rfl (fun ls hl => ?_)
      refine lv_iload hx hb dX11_counted_16 (lv_at hl 0 rfl) ?_
      refine lv_if_lt (tgt := 42) hx hb dX11_counted_18 (by decide) (fun _ => ?_) (fun hc => absurd (by decide) hc)
      refine lv_iconst (v := (-1)) hx hb dX11_counted_42 (by decide) ?_
      exact ge_i C hr rfl hlk (by rw [if_neg (by simp only [i3l, i3e, i3q, inR, isC, isD, zi_0, zi_1, zi_2, zi_3, zi_4, zi_5, zi_6, zi_7, zi_8, zi_9, zi_10, zi_12, zi_20, zi_21, zi_30, zi_60, zi_90, zi_99, zi_100, zi_180, zi_240, zi_400, zi_500, zi_1000, zi_1199, zi_10000, zi_100000, zi_1000000, i3m1] at c1 ⊢; omega), sCnt, c2]; rfl) dX11_counted_43
    · have f3_b : f3 < 90 := Nat.lt_of_lt_of_le (sFate_lt c2).1 (nOf_le hN.2.2.2.1.1 hN.2.2.2.1.2 (by decide))
      refine lv_istore (lv' := [(4, .int (nI f3)), (0, .ref (α 0)), (1, .int (nI d)), (2, .int child), (3, .int known)]) hx hb dX11_counted_14 hl (by decide) rfl (fun ls hl => ?_)
      refine lv_iload hx hb dX11_counted_16 (lv_at hl 0 rfl) ?_
      refine lv_if_lt (tgt := 42) hx hb dX11_counted_18 (by decide) (fun hc => absurd hc (nI_pos (by omega))) (fun _ => ?_)
      refine lv_aload_n hx hb dX11_counted_21 rfl (lv_at hl 1 rfl) ?_
      refine g_get C B (0) (by decide) mE_0 rfl gf_11 13 (by decide) wl_740 (v := .ref (α 13)) mF_13 dX11_counted_22 ?_
      refine lv_iload hx hb dX11_counted_25 (lv_at hl 0 rfl) ?_
      refine g_iald C B (13) (by decide) (f := S.2.2.1 13) mE_13 (vp_in_nI (by omega) (by omega)) (j := f3) (nI_clamp (by omega)) dX11_counted_27 ?_
      refine lv_aload_n hx hb dX11_counted_28 rfl (lv_at hl 1 rfl) ?_
      refine g_get C B (0) (by decide) mE_0 rfl gf_11 22 (by decide) wl_749 (v := .ref (α 22)) mF_22 dX11_counted_29 ?_
      refine lv_iload_n hx hb dX11_counted_32 rfl (lv_at hl 2 rfl) ?_
      refine g_iald C B (22) (by decide) (f := S.2.2.1 22) mE_22 (vp_in_nI (by omega) (by omega)) (j := d) (nI_clamp (by omega)) dX11_counted_33 ?_
      refine lv_icmp_lt (tgt := 42) hx hb dX11_counted_34 (by decide) (fun c4 => ?_) (fun c4 => ?_)
      · refine lv_iconst (v := (-1)) hx hb dX11_counted_42 (by decide) ?_
        exact ge_i C hr rfl hlk (by rw [if_neg (by simp only [i3l, i3e, i3q, inR, isC, isD, zi_0, zi_1, zi_2, zi_3, zi_4, zi_5, zi_6, zi_7, zi_8, zi_9, zi_10, zi_12, zi_20, zi_21, zi_30, zi_60, zi_90, zi_99, zi_100, zi_180, zi_240, zi_400, zi_500, zi_1000, zi_1199, zi_10000, zi_100000, zi_1000000, i3m1] at c1 ⊢; omega), sCnt, c2]; dsimp only; rw [if_neg (by simp only [i3l, i3e, i3q, inR, isC, isD, zi_0, zi_1, zi_2, zi_3, zi_4, zi_5, zi_6, zi_7, zi_8, zi_9, zi_10, zi_12, zi_20, zi_21, zi_30, zi_60, zi_90, zi_99, zi_100, zi_180, zi_240, zi_400, zi_500, zi_1000, zi_1199, zi_10000, zi_100000, zi_1000000, i3m1] at c4 ⊢; omega)]; rfl) dX11_counted_43
      · refine lv_iload hx hb dX11_counted_37 (lv_at hl 0 rfl) ?_
        refine lv_goto (tgt := 43) hx hb dX11_counted_39 (by decide) ?_
        exact ge_i C hr rfl hlk (by rw [if_neg (by simp only [i3l, i3e, i3q, inR, isC, isD, zi_0, zi_1, zi_2, zi_3, zi_4, zi_5, zi_6, zi_7, zi_8, zi_9, zi_10, zi_12, zi_20, zi_21, zi_30, zi_60, zi_90, zi_99, zi_100, zi_180, zi_240, zi_400, zi_500, zi_1000, zi_1199, zi_10000, zi_100000, zi_1000000, i3m1] at c1 ⊢; omega), sCnt, c2]; dsimp only; rw [if_pos (by simp only [i3l, i3e, i3q, inR, isC, isD, zi_0, zi_1, zi_2, zi_3, zi_4, zi_5, zi_6, zi_7, zi_8, zi_9, zi_10, zi_12, zi_20, zi_21, zi_30, zi_60, zi_90, zi_99, zi_100, zi_180, zi_240, zi_400, zi_500, zi_1000, zi_1199, zi_10000, zi_100000, zi_1000000, i3m1] at c4 ⊢; omega)]; rfl) dX11_counted_43
  · refine lv_iconst (v := (-1)) hx hb dX11_counted_4 (by decide) ?_
    refine lv_goto (tgt := 14) hx hb dX11_counted_5 (by decide) ?_
    refine lv_istore (lv' := [(4, .int (-1)), (0, .ref (α 0)), (1, .int (nI d)), (2, .int child), (3, .int known)]) hx hb dX11_counted_14 hl (by decide) rfl (fun ls hl => ?_)
    refine lv_iload hx hb dX11_counted_16 (lv_at hl 0 rfl) ?_
    refine lv_if_lt (tgt := 42) hx hb dX11_counted_18 (by decide) (fun _ => ?_) (fun hc => absurd (by decide) hc)
    refine lv_iconst (v := (-1)) hx hb dX11_counted_42 (by decide) ?_
    exact ge_i C hr rfl hlk (by rw [if_pos (by simp only [i3l, i3e, i3q, inR, isC, isD, zi_0, zi_1, zi_2, zi_3, zi_4, zi_5, zi_6, zi_7, zi_8, zi_9, zi_10, zi_12, zi_20, zi_21, zi_30, zi_60, zi_90, zi_99, zi_100, zi_180, zi_240, zi_400, zi_500, zi_1000, zi_1199, zi_10000, zi_100000, zi_1000000, i3m1] at c1 ⊢; omega)]; rfl) dX11_counted_43
set_option maxHeartbeats 4000000 in
set_option maxRecDepth 100000 in
theorem c_X11_fallOf (l : Launch) (D : va_G) (G : Nat → ClassId) (τ α : Nat → Nat) (S : St) (sz : Nat) (d : Nat) (known : Int32) (hd : d < nOf S 15) (hN : okN S) (hP : okP S) : Ri l D G τ yX11_fallOf cX11_fallOf 7 (some .int) 2 [.ref (α 0), .int (nI d), .int known] α (mE G α S) Lm sz (fun r => r = oI (sFall S d known)) := by
  refine gM _ (by decide) rfl (Nat.le_of_ble_eq_true rfl) ?_
  intro p e s m below meth c ls C hr hlk hnm hsz B hl
  have hx := C.1
  have hb := C.2.1
  have hl : lv_has ls 7 [(0, .ref (α 0)), (1, .int (nI d)), (2, .int known)] := hl
  have hd9 : d < 30 := Nat.lt_of_lt_of_le hd (nOf_le hN.2.2.2.2.1.1 hN.2.2.2.2.1.2 (by decide))
  refine lv_aload_n hx hb dX11_fallOf_0 rfl (lv_at hl 0 rfl) ?_
  refine g_get C B (0) (by decide) mE_0 rfl gf_11 22 (by decide) wl_749 (v := .ref (α 22)) mF_22 dX11_fallOf_1 ?_
  refine lv_iload_n hx hb dX11_fallOf_4 rfl (lv_at hl 1 rfl) ?_
  refine g_iald C B (22) (by decide) (f := S.2.2.1 22) mE_22 (vp_in_nI (by omega) (by omega)) (j := d) (nI_clamp (by omega)) dX11_fallOf_5 ?_
  refine lv_iload_n hx hb dX11_fallOf_6 rfl (lv_at hl 2 rfl) ?_
  refine lv_icmp_le (tgt := 12) hx hb dX11_fallOf_7 (by decide) (fun c1 => ?_) (fun c1 => ?_)
  · refine lv_aload_n hx hb dX11_fallOf_12 rfl (lv_at hl 0 rfl) ?_
    refine lv_iload_n hx hb dX11_fallOf_13 rfl (lv_at hl 1 rfl) ?_
    refine lv_aload_n hx hb dX11_fallOf_14 rfl (lv_at hl 0 rfl) ?_
    refine g_get C B (0) (by decide) mE_0 rfl gf_11 17 (by decide) wl_744 (v := .ref (α 17)) mF_17 dX11_fallOf_15 ?_
    refine lv_iload_n hx hb dX11_fallOf_18 rfl (lv_at hl 1 rfl) ?_
    refine g_iald C B (17) (by decide) (f := S.2.2.1 17) mE_17 (vp_in_nI (by omega) (by omega)) (j := d) (nI_clamp (by omega)) dX11_fallOf_19 ?_
    refine lv_iload_n hx hb dX11_fallOf_20 rfl (lv_at hl 2 rfl) ?_
    refine gc_o (oI := oI) (gr_V C B (k := 0) (As := [.int (nI d), .int (S.2.2.1 17 d), .int known]) (rest := []) (c_X11_counted l D G τ α S _ d (S.2.2.1 17 d) known (by omega) hN) (by decide) mE_0 rfl wl_878 wl_880 wl_17 wl_40 wl_881 (na := 3) (by decide +kernel) rfl ⟨Nat.le_of_ble_eq_true rfl, Nat.le_of_ble_eq_true rfl⟩ ⟨Nat.le_of_ble_eq_true rfl, Nat.le_of_ble_eq_true rfl⟩ hl.1 rfl (Nat.le_of_ble_eq_true rfl) dX11_fallOf_21) (fun c2 => ?_) (fun f3 c2 => ?_)
    · refine lv_istore_n (lv' := [(3, .int (-1)), (0, .ref (α 0)), (1, .int (nI d)), (2, .int known)]) hx hb dX11_fallOf_24 rfl hl (by decide) rfl (fun ls hl => ?_)
      refine lv_aload_n hx hb dX11_fallOf_25 rfl (lv_at hl 1 rfl) ?_
      refine lv_iload_n hx hb dX11_fallOf_26 rfl (lv_at hl 2 rfl) ?_
      refine lv_aload_n hx hb dX11_fallOf_27 rfl (lv_at hl 1 rfl) ?_
      refine g_get C B (0) (by decide) mE_0 rfl gf_11 18 (by decide) wl_745 (v := .ref (α 18)) mF_18 dX11_fallOf_28 ?_
      refine lv_iload_n hx hb dX11_fallOf_31 rfl (lv_at hl 2 rfl) ?_
      refine g_iald C B (18) (by decide) (f := S.2.2.1 18) mE_18 (vp_in_nI (by omega) (by omega)) (j := d) (nI_clamp (by omega)) dX11_fallOf_32 ?_
      refine lv_iload_n hx hb dX11_fallOf_33 rfl (lv_at hl 3 rfl) ?_
      refine gc_o (oI := oI) (gr_V C B (k := 0) (As := [.int (nI d), .int (S.2.2.1 18 d), .int known]) (rest := []) (c_X11_counted l D G τ α S _ d (S.2.2.1 18 d) known (by omega) hN) (by decide) mE_0 rfl wl_878 wl_880 wl_17 wl_40 wl_881 (na := 3) (by decide +kernel) rfl ⟨Nat.le_of_ble_eq_true rfl, Nat.le_of_ble_eq_true rfl⟩ ⟨Nat.le_of_ble_eq_true rfl, Nat.le_of_ble_eq_true rfl⟩ hl.1 rfl (Nat.le_of_ble_eq_true rfl) dX11_fallOf_34) (fun c4 => ?_) (fun f5 c4 => ?_)
      · refine lv_istore (lv' := [(4, .int (-1)), (3, .int (-1)), (0, .ref (α 0)), (1, .int (nI d)), (2, .int known)]) hx hb dX11_fallOf_37 hl (by decide) rfl (fun ls hl => ?_)
        refine lv_iload_n hx hb dX11_fallOf_39 rfl (lv_at hl 1 rfl) ?_
        refine lv_if_lt (tgt := 48) hx hb dX11_fallOf_40 (by decide) (fun _ => ?_) (fun hc => absurd (by decide) hc)
        refine lv_iload_n hx hb dX11_fallOf_48 rfl (lv_at hl 1 rfl) ?_
        refine lv_if_ge (tgt := 57) hx hb dX11_fallOf_49 (by decide) (fun hc => absurd hc (by decide)) (fun _ => ?_)
        refine lv_iload hx hb dX11_fallOf_52 (lv_at hl 0 rfl) ?_
        refine lv_goto (tgt := 58) hx hb dX11_fallOf_54 (by decide) ?_
        exact ge_i C hr rfl hlk (by rw [sFall, if_neg (by simp only [i3l, i3e, i3q, inR, isC, isD, zi_0, zi_1, zi_2, zi_3, zi_4, zi_5, zi_6, zi_7, zi_8, zi_9, zi_10, zi_12, zi_20, zi_21, zi_30, zi_60, zi_90, zi_99, zi_100, zi_180, zi_240, zi_400, zi_500, zi_1000, zi_1199, zi_10000, zi_100000, zi_1000000, i3m1] at c1 ⊢; omega), cntA (hP d hd).2.1 c2, cntB (hP d hd).2.2.1 (hP d hd).2.2.2.1 c4]; rfl) dX11_fallOf_58
      · have f5_b : f5 < 90 := Nat.lt_of_lt_of_le (cntC c4).1 (nOf_le hN.2.2.2.1.1 hN.2.2.2.1.2 (by decide))
        refine lv_istore (lv' := [(4, .int (nI f5)), (3, .int (-1)), (0, .ref (α 0)), (1, .int (nI d)), (2, .int known)]) hx hb dX11_fallOf_37 hl (by decide) rfl (fun ls hl => ?_)
        refine lv_iload_n hx hb dX11_fallOf_39 rfl (lv_at hl 1 rfl) ?_
        refine lv_if_lt (tgt := 48) hx hb dX11_fallOf_40 (by decide) (fun _ => ?_) (fun hc => absurd (by decide) hc)
        refine lv_iload_n hx hb dX11_fallOf_48 rfl (lv_at hl 1 rfl) ?_
        refine lv_if_ge (tgt := 57) hx hb dX11_fallOf_49 (by decide) (fun hc => absurd hc (by decide)) (fun _ => ?_)
        refine lv_iload hx hb dX11_fallOf_52 (lv_at hl 0 rfl) ?_
        refine lv_goto (tgt := 58) hx hb dX11_fallOf_54 (by decide) ?_
        exact ge_i C hr rfl hlk (by rw [sFall, if_neg (by simp only [i3l, i3e, i3q, inR, isC, isD, zi_0, zi_1, zi_2, zi_3, zi_4, zi_5, zi_6, zi_7, zi_8, zi_9, zi_10, zi_12, zi_20, zi_21, zi_30, zi_60, zi_90, zi_99, zi_100, zi_180, zi_240, zi_400, zi_500, zi_1000, zi_1199, zi_10000, zi_100000, zi_1000000, i3m1] at c1 ⊢; omega), cntA (hP d hd).2.1 c2, cntB (hP d hd).2.2.1 (hP d hd).2.2.2.1 c4]; rfl) dX11_fallOf_58
    · have f3_b : f3 < 90 := Nat.lt_of_lt_of_le (cntC c2).1 (nOf_le hN.2.2.2.1.1 hN.2.2.2.1.2 (by decide))
      refine lv_istore_n (lv' := [(3, .int (nI f3)), (0, .ref (α 0)), (1, .int (nI d)), (2, .int known)]) hx hb dX11_fallOf_24 rfl hl (by decide) rfl (fun ls hl => ?_)
      refine lv_aload_n hx hb dX11_fallOf_25 rfl (lv_at hl 1 rfl) ?_
      refine lv_iload_n hx hb dX11_fallOf_26 rfl (lv_at hl 2 rfl) ?_
      refine lv_aload_n hx hb dX11_fallOf_27 rfl (lv_at hl 1 rfl) ?_
      refine g_get C B (0) (by decide) mE_0 rfl gf_11 18 (by decide) wl_745 (v := .ref (α 18)) mF_18 dX11_fallOf_28 ?_
      refine lv_iload_n hx hb dX11_fallOf_31 rfl (lv_at hl 2 rfl) ?_
      refine g_iald C B (18) (by decide) (f := S.2.2.1 18) mE_18 (vp_in_nI (by omega) (by omega)) (j := d) (nI_clamp (by omega)) dX11_fallOf_32 ?_
      refine lv_iload_n hx hb dX11_fallOf_33 rfl (lv_at hl 3 rfl) ?_
      refine gc_o (oI := oI) (gr_V C B (k := 0) (As := [.int (nI d), .int (S.2.2.1 18 d), .int known]) (rest := []) (c_X11_counted l D G τ α S _ d (S.2.2.1 18 d) known (by omega) hN) (by decide) mE_0 rfl wl_878 wl_880 wl_17 wl_40 wl_881 (na := 3) (by decide +kernel) rfl ⟨Nat.le_of_ble_eq_true rfl, Nat.le_of_ble_eq_true rfl⟩ ⟨Nat.le_of_ble_eq_true rfl, Nat.le_of_ble_eq_true rfl⟩ hl.1 rfl (Nat.le_of_ble_eq_true rfl) dX11_fallOf_34) (fun c6 => ?_) (fun f7 c6 => ?_)
      · refine lv_istore (lv' := [(4, .int (-1)), (3, .int (nI f3)), (0, .ref (α 0)), (1, .int (nI d)), (2, .int known)]) hx hb dX11_fallOf_37 hl (by decide) rfl (fun ls hl => ?_)
        refine lv_iload_n hx hb dX11_fallOf_39 rfl (lv_at hl 1 rfl) ?_
        refine lv_if_lt (tgt := 48) hx hb dX11_fallOf_40 (by decide) (fun hc => absurd hc (nI_pos (by omega))) (fun _ => ?_)
        refine lv_iload hx hb dX11_fallOf_43 (lv_at hl 0 rfl) ?_
        refine lv_if_ge (tgt := 59) hx hb dX11_fallOf_45 (by decide) (fun hc => absurd hc (by decide)) (fun _ => ?_)
        refine lv_iload_n hx hb dX11_fallOf_48 rfl (lv_at hl 1 rfl) ?_
        refine lv_if_ge (tgt := 57) hx hb dX11_fallOf_49 (by decide) (fun _ => ?_) (fun hc => absurd (nI_pos' (by omega)) hc)
        refine lv_iload_n hx hb dX11_fallOf_57 rfl (lv_at hl 1 rfl) ?_
        exact ge_i C hr rfl hlk (by rw [sFall, if_neg (by simp only [i3l, i3e, i3q, inR, isC, isD, zi_0, zi_1, zi_2, zi_3, zi_4, zi_5, zi_6, zi_7, zi_8, zi_9, zi_10, zi_12, zi_20, zi_21, zi_30, zi_60, zi_90, zi_99, zi_100, zi_180, zi_240, zi_400, zi_500, zi_1000, zi_1199, zi_10000, zi_100000, zi_1000000, i3m1] at c1 ⊢; omega), cntA (hP d hd).2.1 c2, cntB (hP d hd).2.2.1 (hP d hd).2.2.2.1 c6]; rfl) dX11_fallOf_58
      · have f7_b : f7 < 90 := Nat.lt_of_lt_of_le (cntC c6).1 (nOf_le hN.2.2.2.1.1 hN.2.2.2.1.2 (by decide))
        refine lv_istore (lv' := [(4, .int (nI f7)), (3, .int (nI f3)), (0, .ref (α 0)), (1, .int (nI d)), (2, .int known)]) hx hb dX11_fallOf_37 hl (by decide) rfl (fun ls hl => ?_)
        refine lv_iload_n hx hb dX11_fallOf_39 rfl (lv_at hl 1 rfl) ?_
        refine lv_if_lt (tgt := 48) hx hb dX11_fallOf_40 (by decide) (fun hc => absurd hc (nI_pos (by omega))) (fun _ => ?_)
        refine lv_iload hx hb dX11_fallOf_43 (lv_at hl 0 rfl) ?_
        refine lv_if_ge (tgt := 59) hx hb dX11_fallOf_45 (by decide) (fun _ => ?_) (fun hc => absurd (nI_pos' (by omega)) hc)
        refine lv_aload_n hx hb dX11_fallOf_59 rfl (lv_at hl 2 rfl) ?_
        refine g_get C B (0) (by decide) mE_0 rfl gf_11 12 (by decide) wl_739 (v := .ref (α 12)) mF_12 dX11_fallOf_60 ?_
        refine lv_iload_n hx hb dX11_fallOf_63 rfl (lv_at hl 1 rfl) ?_
        refine g_iald C B (12) (by decide) (f := S.2.2.1 12) mE_12 (vp_in_nI (by omega) (by omega)) (j := f3) (nI_clamp (by omega)) dX11_fallOf_64 ?_
        refine lv_if_ne (tgt := 72) hx hb dX11_fallOf_65 (by decide) (fun c8 => ?_) (fun c8 => ?_)
        · refine lv_iconst (v := 0) hx hb dX11_fallOf_72 (by decide) ?_
          refine lv_istore (lv' := [(5, .int 0), (4, .int (nI f7)), (3, .int (nI f3)), (0, .ref (α 0)), (1, .int (nI d)), (2, .int known)]) hx hb dX11_fallOf_73 hl (by decide) rfl (fun ls hl => ?_)
          refine lv_aload_n hx hb dX11_fallOf_75 rfl (lv_at hl 3 rfl) ?_
          refine g_get C B (0) (by decide) mE_0 rfl gf_11 12 (by decide) wl_739 (v := .ref (α 12)) mF_12 dX11_fallOf_76 ?_
          refine lv_iload hx hb dX11_fallOf_79 (lv_at hl 1 rfl) ?_
          refine g_iald C B (12) (by decide) (f := S.2.2.1 12) mE_12 (vp_in_nI (by omega) (by omega)) (j := f7) (nI_clamp (by omega)) dX11_fallOf_81 ?_
          refine lv_if_ne (tgt := 89) hx hb dX11_fallOf_82 (by decide) (fun c9 => ?_) (fun c9 => ?_)
          · refine lv_iconst (v := 0) hx hb dX11_fallOf_89 (by decide) ?_
            refine lv_istore (lv' := [(6, .int 0), (5, .int 0), (4, .int (nI f7)), (3, .int (nI f3)), (0, .ref (α 0)), (1, .int (nI d)), (2, .int known)]) hx hb dX11_fallOf_90 hl (by decide) rfl (fun ls hl => ?_)
            refine lv_iload hx hb dX11_fallOf_92 (lv_at hl 1 rfl) ?_
            refine lv_iload hx hb dX11_fallOf_94 (lv_at hl 0 rfl) ?_
            refine lv_icmp_eq (tgt := 111) hx hb dX11_fallOf_96 (by decide) (fun _ => ?_) (fun hc => absurd (by decide) hc)
            refine lv_aload_n hx hb dX11_fallOf_111 rfl (lv_at hl 4 rfl) ?_
            refine g_get C B (0) (by decide) mE_0 rfl gf_11 13 (by decide) wl_740 (v := .ref (α 13)) mF_13 dX11_fallOf_112 ?_
            refine lv_iload hx hb dX11_fallOf_115 (lv_at hl 2 rfl) ?_
            refine g_iald C B (13) (by decide) (f := S.2.2.1 13) mE_13 (vp_in_nI (by omega) (by omega)) (j := f7) (nI_clamp (by omega)) dX11_fallOf_117 ?_
            refine lv_aload_n hx hb dX11_fallOf_118 rfl (lv_at hl 4 rfl) ?_
            refine g_get C B (0) (by decide) mE_0 rfl gf_11 13 (by decide) wl_740 (v := .ref (α 13)) mF_13 dX11_fallOf_119 ?_
            refine lv_iload_n hx hb dX11_fallOf_122 rfl (lv_at hl 3 rfl) ?_
            refine g_iald C B (13) (by decide) (f := S.2.2.1 13) mE_13 (vp_in_nI (by omega) (by omega)) (j := f3) (nI_clamp (by omega)) dX11_fallOf_123 ?_
            refine lv_icmp_ge (tgt := 132) hx hb dX11_fallOf_124 (by decide) (fun c10 => ?_) (fun c10 => ?_)
            · refine lv_iload_n hx hb dX11_fallOf_132 rfl (lv_at hl 3 rfl) ?_
              exact ge_i C hr rfl hlk (by rw [sFall, if_neg (by simp only [i3l, i3e, i3q, inR, isC, isD, zi_0, zi_1, zi_2, zi_3, zi_4, zi_5, zi_6, zi_7, zi_8, zi_9, zi_10, zi_12, zi_20, zi_21, zi_30, zi_60, zi_90, zi_99, zi_100, zi_180, zi_240, zi_400, zi_500, zi_1000, zi_1199, zi_10000, zi_100000, zi_1000000, i3m1] at c1 ⊢; omega), cntA (hP d hd).2.1 c2, cntB (hP d hd).2.2.1 (hP d hd).2.2.2.1 c6]; simp only [sAhead]; simp [c8, c9]; rw [if_neg (by simp only [i3l, i3e, i3q, inR, isC, isD, zi_0, zi_1, zi_2, zi_3, zi_4, zi_5, zi_6, zi_7, zi_8, zi_9, zi_10, zi_12, zi_20, zi_21, zi_30, zi_60, zi_90, zi_99, zi_100, zi_180, zi_240, zi_400, zi_500, zi_1000, zi_1199, zi_10000, zi_100000, zi_1000000, i3m1] at c10 ⊢; omega)]; rfl) dX11_fallOf_133
            · refine lv_iload hx hb dX11_fallOf_127 (lv_at hl 2 rfl) ?_
              refine lv_goto (tgt := 133) hx hb dX11_fallOf_129 (by decide) ?_
              exact ge_i C hr rfl hlk (by rw [sFall, if_neg (by simp only [i3l, i3e, i3q, inR, isC, isD, zi_0, zi_1, zi_2, zi_3, zi_4, zi_5, zi_6, zi_7, zi_8, zi_9, zi_10, zi_12, zi_20, zi_21, zi_30, zi_60, zi_90, zi_99, zi_100, zi_180, zi_240, zi_400, zi_500, zi_1000, zi_1199, zi_10000, zi_100000, zi_1000000, i3m1] at c1 ⊢; omega), cntA (hP d hd).2.1 c2, cntB (hP d hd).2.2.1 (hP d hd).2.2.2.1 c6]; simp only [sAhead]; simp [c8, c9]; rw [if_pos (by simp only [i3l, i3e, i3q, inR, isC, isD, zi_0, zi_1, zi_2, zi_3, zi_4, zi_5, zi_6, zi_7, zi_8, zi_9, zi_10, zi_12, zi_20, zi_21, zi_30, zi_60, zi_90, zi_99, zi_100, zi_180, zi_240, zi_400, zi_500, zi_1000, zi_1199, zi_10000, zi_100000, zi_1000000, i3m1] at c10 ⊢; omega)]; rfl) dX11_fallOf_133
          · refine lv_iconst (v := 1) hx hb dX11_fallOf_85 (by decide) ?_
            refine lv_goto (tgt := 90) hx hb dX11_fallOf_86 (by decide) ?_
            refine lv_istore (lv' := [(6, .int 1), (5, .int 0), (4, .int (nI f7)), (3, .int (nI f3)), (0, .ref (α 0)), (1, .int (nI d)), (2, .int known)]) hx hb dX11_fallOf_90 hl (by decide) rfl (fun ls hl => ?_)
            refine lv_iload hx hb dX11_fallOf_92 (lv_at hl 1 rfl) ?_
            refine lv_iload hx hb dX11_fallOf_94 (lv_at hl 0 rfl) ?_
            refine lv_icmp_eq (tgt := 111) hx hb dX11_fallOf_96 (by decide) (fun hc => absurd hc (by decide)) (fun _ => ?_)
            refine lv_iload hx hb dX11_fallOf_99 (lv_at hl 1 rfl) ?_
            refine lv_if_eq (tgt := 108) hx hb dX11_fallOf_101 (by decide) (fun _ => ?_) (fun hc => absurd (by decide) hc)
            refine lv_iload hx hb dX11_fallOf_108 (lv_at hl 2 rfl) ?_
            exact ge_i C hr rfl hlk (by rw [sFall, if_neg (by simp only [i3l, i3e, i3q, inR, isC, isD, zi_0, zi_1, zi_2, zi_3, zi_4, zi_5, zi_6, zi_7, zi_8, zi_9, zi_10, zi_12, zi_20, zi_21, zi_30, zi_60, zi_90, zi_99, zi_100, zi_180, zi_240, zi_400, zi_500, zi_1000, zi_1199, zi_10000, zi_100000, zi_1000000, i3m1] at c1 ⊢; omega), cntA (hP d hd).2.1 c2, cntB (hP d hd).2.2.1 (hP d hd).2.2.2.1 c6]; simp only [sAhead]; simp [oI, c8, c9]) dX11_fallOf_110
        · refine lv_iconst (v := 1) hx hb dX11_fallOf_68 (by decide) ?_
          refine lv_goto (tgt := 73) hx hb dX11_fallOf_69 (by decide) ?_
          refine lv_istore (lv' := [(5, .int 1), (4, .int (nI f7)), (3, .int (nI f3)), (0, .ref (α 0)), (1, .int (nI d)), (2, .int known)]) hx hb dX11_fallOf_73 hl (by decide) rfl (fun ls hl => ?_)
          refine lv_aload_n hx hb dX11_fallOf_75 rfl (lv_at hl 3 rfl) ?_
          refine g_get C B (0) (by decide) mE_0 rfl gf_11 12 (by decide) wl_739 (v := .ref (α 12)) mF_12 dX11_fallOf_76 ?_
          refine lv_iload hx hb dX11_fallOf_79 (lv_at hl 1 rfl) ?_
          refine g_iald C B (12) (by decide) (f := S.2.2.1 12) mE_12 (vp_in_nI (by omega) (by omega)) (j := f7) (nI_clamp (by omega)) dX11_fallOf_81 ?_
          refine lv_if_ne (tgt := 89) hx hb dX11_fallOf_82 (by decide) (fun c11 => ?_) (fun c11 => ?_)
          · refine lv_iconst (v := 0) hx hb dX11_fallOf_89 (by decide) ?_
            refine lv_istore (lv' := [(6, .int 0), (5, .int 1), (4, .int (nI f7)), (3, .int (nI f3)), (0, .ref (α 0)), (1, .int (nI d)), (2, .int known)]) hx hb dX11_fallOf_90 hl (by decide) rfl (fun ls hl => ?_)
            refine lv_iload hx hb dX11_fallOf_92 (lv_at hl 1 rfl) ?_
            refine lv_iload hx hb dX11_fallOf_94 (lv_at hl 0 rfl) ?_
            refine lv_icmp_eq (tgt := 111) hx hb dX11_fallOf_96 (by decide) (fun hc => absurd hc (by decide)) (fun _ => ?_)
            refine lv_iload hx hb dX11_fallOf_99 (lv_at hl 1 rfl) ?_
            refine lv_if_eq (tgt := 108) hx hb dX11_fallOf_101 (by decide) (fun hc => absurd hc (by decide)) (fun _ => ?_)
            refine lv_iload_n hx hb dX11_fallOf_104 rfl (lv_at hl 3 rfl) ?_
            refine lv_goto (tgt := 110) hx hb dX11_fallOf_105 (by decide) ?_
            exact ge_i C hr rfl hlk (by rw [sFall, if_neg (by simp only [i3l, i3e, i3q, inR, isC, isD, zi_0, zi_1, zi_2, zi_3, zi_4, zi_5, zi_6, zi_7, zi_8, zi_9, zi_10, zi_12, zi_20, zi_21, zi_30, zi_60, zi_90, zi_99, zi_100, zi_180, zi_240, zi_400, zi_500, zi_1000, zi_1199, zi_10000, zi_100000, zi_1000000, i3m1] at c1 ⊢; omega), cntA (hP d hd).2.1 c2, cntB (hP d hd).2.2.1 (hP d hd).2.2.2.1 c6]; simp only [sAhead]; simp [oI, c8, c11]) dX11_fallOf_110
          · refine lv_iconst (v := 1) hx hb dX11_fallOf_85 (by decide) ?_
            refine lv_goto (tgt := 90) hx hb dX11_fallOf_86 (by decide) ?_
            refine lv_istore (lv' := [(6, .int 1), (5, .int 1), (4, .int (nI f7)), (3, .int (nI f3)), (0, .ref (α 0)), (1, .int (nI d)), (2, .int known)]) hx hb dX11_fallOf_90 hl (by decide) rfl (fun ls hl => ?_)
            refine lv_iload hx hb dX11_fallOf_92 (lv_at hl 1 rfl) ?_
            refine lv_iload hx hb dX11_fallOf_94 (lv_at hl 0 rfl) ?_
            refine lv_icmp_eq (tgt := 111) hx hb dX11_fallOf_96 (by decide) (fun _ => ?_) (fun hc => absurd (by decide) hc)
            refine lv_aload_n hx hb dX11_fallOf_111 rfl (lv_at hl 4 rfl) ?_
            refine g_get C B (0) (by decide) mE_0 rfl gf_11 13 (by decide) wl_740 (v := .ref (α 13)) mF_13 dX11_fallOf_112 ?_
            refine lv_iload hx hb dX11_fallOf_115 (lv_at hl 2 rfl) ?_
            refine g_iald C B (13) (by decide) (f := S.2.2.1 13) mE_13 (vp_in_nI (by omega) (by omega)) (j := f7) (nI_clamp (by omega)) dX11_fallOf_117 ?_
            refine lv_aload_n hx hb dX11_fallOf_118 rfl (lv_at hl 4 rfl) ?_
            refine g_get C B (0) (by decide) mE_0 rfl gf_11 13 (by decide) wl_740 (v := .ref (α 13)) mF_13 dX11_fallOf_119 ?_
            refine lv_iload_n hx hb dX11_fallOf_122 rfl (lv_at hl 3 rfl) ?_
            refine g_iald C B (13) (by decide) (f := S.2.2.1 13) mE_13 (vp_in_nI (by omega) (by omega)) (j := f3) (nI_clamp (by omega)) dX11_fallOf_123 ?_
            refine lv_icmp_ge (tgt := 132) hx hb dX11_fallOf_124 (by decide) (fun c12 => ?_) (fun c12 => ?_)
            · refine lv_iload_n hx hb dX11_fallOf_132 rfl (lv_at hl 3 rfl) ?_
              exact ge_i C hr rfl hlk (by rw [sFall, if_neg (by simp only [i3l, i3e, i3q, inR, isC, isD, zi_0, zi_1, zi_2, zi_3, zi_4, zi_5, zi_6, zi_7, zi_8, zi_9, zi_10, zi_12, zi_20, zi_21, zi_30, zi_60, zi_90, zi_99, zi_100, zi_180, zi_240, zi_400, zi_500, zi_1000, zi_1199, zi_10000, zi_100000, zi_1000000, i3m1] at c1 ⊢; omega), cntA (hP d hd).2.1 c2, cntB (hP d hd).2.2.1 (hP d hd).2.2.2.1 c6]; simp only [sAhead]; simp [c8, c11]; rw [if_neg (by simp only [i3l, i3e, i3q, inR, isC, isD, zi_0, zi_1, zi_2, zi_3, zi_4, zi_5, zi_6, zi_7, zi_8, zi_9, zi_10, zi_12, zi_20, zi_21, zi_30, zi_60, zi_90, zi_99, zi_100, zi_180, zi_240, zi_400, zi_500, zi_1000, zi_1199, zi_10000, zi_100000, zi_1000000, i3m1] at c12 ⊢; omega)]; rfl) dX11_fallOf_133
            · refine lv_iload hx hb dX11_fallOf_127 (lv_at hl 2 rfl) ?_
              refine lv_goto (tgt := 133) hx hb dX11_fallOf_129 (by decide) ?_
              exact ge_i C hr rfl hlk (by rw [sFall, if_neg (by simp only [i3l, i3e, i3q, inR, isC, isD, zi_0, zi_1, zi_2, zi_3, zi_4, zi_5, zi_6, zi_7, zi_8, zi_9, zi_10, zi_12, zi_20, zi_21, zi_30, zi_60, zi_90, zi_99, zi_100, zi_180, zi_240, zi_400, zi_500, zi_1000, zi_1199, zi_10000, zi_100000, zi_1000000, i3m1] at c1 ⊢; omega), cntA (hP d hd).2.1 c2, cntB (hP d hd).2.2.1 (hP d hd).2.2.2.1 c6]; simp only [sAhead]; simp [c8, c11]; rw [if_pos (by simp only [i3l, i3e, i3q, inR, isC, isD, zi_0, zi_1, zi_2, zi_3, zi_4, zi_5, zi_6, zi_7, zi_8, zi_9, zi_10, zi_12, zi_20, zi_21, zi_30, zi_60, zi_90, zi_99, zi_100, zi_180, zi_240, zi_400, zi_500, zi_1000, zi_1199, zi_10000, zi_100000, zi_1000000, i3m1] at c12 ⊢; omega)]; rfl) dX11_fallOf_133
  · refine lv_iconst (v := (-1)) hx hb dX11_fallOf_10 (by decide) ?_
    exact ge_i C hr rfl hlk (by rw [sFall, if_pos (by simp only [i3l, i3e, i3q, inR, isC, isD, zi_0, zi_1, zi_2, zi_3, zi_4, zi_5, zi_6, zi_7, zi_8, zi_9, zi_10, zi_12, zi_20, zi_21, zi_30, zi_60, zi_90, zi_99, zi_100, zi_180, zi_240, zi_400, zi_500, zi_1000, zi_1199, zi_10000, zi_100000, zi_1000000, i3m1] at c1 ⊢; omega)]; rfl) dX11_fallOf_11
set_option maxHeartbeats 4000000 in
set_option maxRecDepth 100000 in
theorem c_X11_dueMonth (l : Launch) (D : va_G) (G : Nat → ClassId) (τ α : Nat → Nat) (S : St) (sz : Nat) (f : Nat) (known : Int32) (hf : f < 90) (hN : okN S) (hD : okD S) : Ri l D G τ yX11_dueMonth cX11_dueMonth 3 (some .int) 1 [.ref (α 0), .int (nI f), .int known] α (mE G α S) Lm sz (fun r => r = sDueM S f known) := by
  refine gM _ (by decide) rfl (Nat.le_of_ble_eq_true rfl) ?_
  intro p e s m below meth c ls C hr hlk hnm hsz B hl
  have hx := C.1
  have hb := C.2.1
  have hl : lv_has ls 3 [(0, .ref (α 0)), (1, .int (nI f)), (2, .int known)] := hl
  refine lv_aload_n hx hb dX11_dueMonth_0 rfl (lv_at hl 0 rfl) ?_
  refine g_get C B (0) (by decide) mE_0 rfl gf_11 13 (by decide) wl_740 (v := .ref (α 13)) mF_13 dX11_dueMonth_1 ?_
  refine lv_iload_n hx hb dX11_dueMonth_4 rfl (lv_at hl 1 rfl) ?_
  refine g_iald C B (13) (by decide) (f := S.2.2.1 13) mE_13 (vp_in_nI (by omega) (by omega)) (j := f) (nI_clamp (by omega)) dX11_dueMonth_5 ?_
  refine lv_aload_n hx hb dX11_dueMonth_6 rfl (lv_at hl 0 rfl) ?_
  refine lv_iconst (v := 0) hx hb dX11_dueMonth_7 (by decide) ?_
  refine lv_aload_n hx hb dX11_dueMonth_8 rfl (lv_at hl 0 rfl) ?_
  refine g_get C B (0) (by decide) mE_0 rfl gf_11 13 (by decide) wl_740 (v := .ref (α 13)) mF_13 dX11_dueMonth_9 ?_
  refine lv_iload_n hx hb dX11_dueMonth_12 rfl (lv_at hl 1 rfl) ?_
  refine g_iald C B (13) (by decide) (f := S.2.2.1 13) mE_13 (vp_in_nI (by omega) (by omega)) (j := f) (nI_clamp (by omega)) dX11_dueMonth_13 ?_
  refine lv_iload_n hx hb dX11_dueMonth_14 rfl (lv_at hl 2 rfl) ?_
  refine gc_i (gr_V C B (k := 0) (As := [.int 0, .int (S.2.2.1 13 f), .int known]) (rest := [.int (S.2.2.1 13 f)]) (c_X11_inForce l D G τ α S _ 0 (S.2.2.1 13 f) known hN hD) (by decide) mE_0 rfl wl_890 wl_892 wl_20 wl_40 wl_893 (na := 3) (by decide +kernel) rfl ⟨Nat.le_of_ble_eq_true rfl, Nat.le_of_ble_eq_true rfl⟩ ⟨Nat.le_of_ble_eq_true rfl, Nat.le_of_ble_eq_true rfl⟩ hl.1 rfl (Nat.le_of_ble_eq_true rfl) dX11_dueMonth_15) (fun r h => ?_)
  subst h
  refine lv_iadd hx hb dX11_dueMonth_18 ?_
  exact ge_i C hr rfl hlk (rfl) dX11_dueMonth_19
set_option maxHeartbeats 4000000 in
set_option maxRecDepth 100000 in
theorem c_X11_dueOf (l : Launch) (D : va_G) (G : Nat → ClassId) (τ α : Nat → Nat) (S : St) (sz : Nat) (d f : Nat) (known : Int32) (hd : d < 30) (hf : f < 90) (hN : okN S) (hD : okD S) : Rl l D G τ yX11_dueOf cX11_dueOf 7 (some .long) 2 [.ref (α 0), .int (nI d), .int (nI f), .int known] α (mE G α S) Lm sz (fun r => r = sDue S d f known) := by
  refine gM _ (by decide) rfl (Nat.le_of_ble_eq_true rfl) ?_
  intro p e s m below meth c ls C hr hlk hnm hsz B hl
  have hx := C.1
  have hb := C.2.1
  have hl : lv_has ls 7 [(0, .ref (α 0)), (1, .int (nI d)), (2, .int (nI f)), (3, .int known)] := hl
  refine lv_aload_n hx hb dX11_dueOf_0 rfl (lv_at hl 0 rfl) ?_
  refine g_get C B (0) (by decide) mE_0 rfl gf_11 13 (by decide) wl_740 (v := .ref (α 13)) mF_13 dX11_dueOf_1 ?_
  refine lv_iload_n hx hb dX11_dueOf_4 rfl (lv_at hl 2 rfl) ?_
  refine g_iald C B (13) (by decide) (f := S.2.2.1 13) mE_13 (vp_in_nI (by omega) (by omega)) (j := f) (nI_clamp (by omega)) dX11_dueOf_5 ?_
  refine lv_istore (lv' := [(4, .int (S.2.2.1 13 f)), (0, .ref (α 0)), (1, .int (nI d)), (2, .int (nI f)), (3, .int known)]) hx hb dX11_dueOf_6 hl (by decide) rfl (fun ls hl => ?_)
  refine lv_lconst (v := 0) hx hb dX11_dueOf_8 (by decide) ?_
  refine lv_lstore (lv' := [(5, .long 0), (4, .int (S.2.2.1 13 f)), (0, .ref (α 0)), (1, .int (nI d)), (2, .int (nI f)), (3, .int known)]) hx hb dX11_dueOf_9 hl (by decide) rfl (fun ls hl => ?_)
  refine lv_aload_n hx hb dX11_dueOf_11 rfl (lv_at hl 2 rfl) ?_
  refine g_get C B (0) (by decide) mE_0 rfl gf_11 12 (by decide) wl_739 (v := .ref (α 12)) mF_12 dX11_dueOf_12 ?_
  refine lv_iload_n hx hb dX11_dueOf_15 rfl (lv_at hl 4 rfl) ?_
  refine g_iald C B (12) (by decide) (f := S.2.2.1 12) mE_12 (vp_in_nI (by omega) (by omega)) (j := f) (nI_clamp (by omega)) dX11_dueOf_16 ?_
  refine lv_iconst (v := 2) hx hb dX11_dueOf_17 (by decide) ?_
  refine lv_icmp_ne (tgt := 47) hx hb dX11_dueOf_18 (by decide) (fun c1 => ?_) (fun c1 => ?_)
  · refine lv_aload_n hx hb dX11_dueOf_47 rfl (lv_at hl 2 rfl) ?_
    refine g_get C B (0) (by decide) mE_0 rfl gf_11 12 (by decide) wl_739 (v := .ref (α 12)) mF_12 dX11_dueOf_48 ?_
    refine lv_iload_n hx hb dX11_dueOf_51 rfl (lv_at hl 4 rfl) ?_
    refine g_iald C B (12) (by decide) (f := S.2.2.1 12) mE_12 (vp_in_nI (by omega) (by omega)) (j := f) (nI_clamp (by omega)) dX11_dueOf_52 ?_
    refine lv_iconst (v := 1) hx hb dX11_dueOf_53 (by decide) ?_
    refine lv_icmp_ne (tgt := 92) hx hb dX11_dueOf_54 (by decide) (fun c2 => ?_) (fun c2 => ?_)
    · refine lv_iload hx hb dX11_dueOf_92 (lv_at hl 1 rfl) ?_
      refine lv_aload_n hx hb dX11_dueOf_94 rfl (lv_at hl 2 rfl) ?_
      refine g_get C B (0) (by decide) mE_0 rfl gf_11 21 (by decide) wl_748 (v := .ref (α 21)) mF_21 dX11_dueOf_95 ?_
      refine lv_iload_n hx hb dX11_dueOf_98 rfl (lv_at hl 3 rfl) ?_
      refine g_iald C B (21) (by decide) (f := S.2.2.1 21) mE_21 (vp_in_nI (by omega) (by omega)) (j := d) (nI_clamp (by omega)) dX11_dueOf_99 ?_
      refine lv_icmp_lt (tgt := 114) hx hb dX11_dueOf_100 (by decide) (fun c3 => ?_) (fun c3 => ?_)
      · refine lv_aload_n hx hb dX11_dueOf_114 rfl (lv_at hl 2 rfl) ?_
        refine g_get C B (0) (by decide) mE_0 rfl gf_11 20 (by decide) wl_747 (v := .ref (α 20)) mF_20 dX11_dueOf_115 ?_
        refine lv_iload_n hx hb dX11_dueOf_118 rfl (lv_at hl 3 rfl) ?_
        refine g_lald C B (20) (by decide) (f := S.2.2.2 20) mE_20 (vp_in_nI (by omega) (by omega)) (j := d) (nI_clamp (by omega)) dX11_dueOf_119 ?_
        refine lv_aload_n hx hb dX11_dueOf_120 rfl (lv_at hl 2 rfl) ?_
        refine lv_iconst (v := 3) hx hb dX11_dueOf_121 (by decide) ?_
        refine lv_iload hx hb dX11_dueOf_122 (lv_at hl 1 rfl) ?_
        refine lv_iload_n hx hb dX11_dueOf_124 rfl (lv_at hl 5 rfl) ?_
        refine gc_i (gr_V C B (k := 0) (As := [.int 3, .int (S.2.2.1 13 f), .int known]) (rest := [.long (S.2.2.2 20 d)]) (c_X11_inForce l D G τ α S _ 3 (S.2.2.1 13 f) known hN hD) (by decide) mE_0 rfl wl_890 wl_892 wl_20 wl_40 wl_893 (na := 3) (by decide +kernel) rfl ⟨Nat.le_of_ble_eq_true rfl, Nat.le_of_ble_eq_true rfl⟩ ⟨Nat.le_of_ble_eq_true rfl, Nat.le_of_ble_eq_true rfl⟩ hl.1 rfl (Nat.le_of_ble_eq_true rfl) dX11_dueOf_125) (fun r h => ?_)
        subst h
        refine lv_i2l (v := (sInf S 3 (S.2.2.1 13 f) known).toInt64) hx hb dX11_dueOf_128 rfl ?_
        refine lv_lmul hx hb dX11_dueOf_129 ?_
        refine g_ldc2 C wl_898 dX11_dueOf_130 ?_
        refine lv_ldiv hx hb dX11_dueOf_133 (by decide) ?_
        refine lv_lstore (lv' := [(5, .long (((S.2.2.2 20 d) * (sInf S 3 (S.2.2.1 13 f) known).toInt64) / 1000)), (4, .int (S.2.2.1 13 f)), (0, .ref (α 0)), (1, .int (nI d)), (2, .int (nI f)), (3, .int known)]) hx hb dX11_dueOf_134 hl (by decide) rfl (fun ls hl => ?_)
        refine lv_lload hx hb dX11_dueOf_136 (lv_at hl 0 rfl) ?_
        refine lv_lload hx hb dX11_dueOf_138 (lv_at hl 0 rfl) ?_
        refine lv_aload_n hx hb dX11_dueOf_140 rfl (lv_at hl 2 rfl) ?_
        refine lv_iconst (v := 4) hx hb dX11_dueOf_141 (by decide) ?_
        refine lv_aload_n hx hb dX11_dueOf_142 rfl (lv_at hl 2 rfl) ?_
        refine lv_iload_n hx hb dX11_dueOf_143 rfl (lv_at hl 4 rfl) ?_
        refine lv_iload_n hx hb dX11_dueOf_144 rfl (lv_at hl 5 rfl) ?_
        refine gc_i (gr_V C B (k := 0) (As := [.int (nI f), .int known]) (rest := [.int 4, .ref (α 0), .long (((S.2.2.2 20 d) * (sInf S 3 (S.2.2.1 13 f) known).toInt64) / 1000), .long (((S.2.2.2 20 d) * (sInf S 3 (S.2.2.1 13 f) known).toInt64) / 1000)]) (c_X11_dueMonth l D G τ α S _ f known (by omega) hN hD) (by decide) mE_0 rfl wl_886 wl_888 wl_19 wl_40 wl_889 (na := 2) (by decide +kernel) rfl ⟨Nat.le_of_ble_eq_true rfl, Nat.le_of_ble_eq_true rfl⟩ ⟨Nat.le_of_ble_eq_true rfl, Nat.le_of_ble_eq_true rfl⟩ hl.1 rfl (Nat.le_of_ble_eq_true rfl) dX11_dueOf_145) (fun r h => ?_)
        subst h
        refine lv_iload_n hx hb dX11_dueOf_148 rfl (lv_at hl 5 rfl) ?_
        refine gc_i (gr_V C B (k := 0) (As := [.int 4, .int (sDueM S f known), .int known]) (rest := [.long (((S.2.2.2 20 d) * (sInf S 3 (S.2.2.1 13 f) known).toInt64) / 1000), .long (((S.2.2.2 20 d) * (sInf S 3 (S.2.2.1 13 f) known).toInt64) / 1000)]) (c_X11_inForce l D G τ α S _ 4 (sDueM S f known) known hN hD) (by decide) mE_0 rfl wl_890 wl_892 wl_20 wl_40 wl_893 (na := 3) (by decide +kernel) rfl ⟨Nat.le_of_ble_eq_true rfl, Nat.le_of_ble_eq_true rfl⟩ ⟨Nat.le_of_ble_eq_true rfl, Nat.le_of_ble_eq_true rfl⟩ hl.1 rfl (Nat.le_of_ble_eq_true rfl) dX11_dueOf_149) (fun r h => ?_)
        subst h
        refine lv_i2l (v := (sInf S 4 (sDueM S f known) known).toInt64) hx hb dX11_dueOf_152 rfl ?_
        refine lv_lmul hx hb dX11_dueOf_153 ?_
        refine g_ldc2 C wl_898 dX11_dueOf_154 ?_
        refine lv_ldiv hx hb dX11_dueOf_157 (by decide) ?_
        refine lv_lsub hx hb dX11_dueOf_158 ?_
        exact ge_l C hr hlk (by rw [sDue, show sPre S d f known = (((S.2.2.2 20 d) * (sInf S 3 (S.2.2.1 13 f) known).toInt64) / 1000) from by rw [sPre]; simp [th, c1, c2, c3] <;> (intro h9; exfalso; simp only [i3l, i3e, i3q, inR, isC, isD, zi_0, zi_1, zi_2, zi_3, zi_4, zi_5, zi_6, zi_7, zi_8, zi_9, zi_10, zi_12, zi_20, zi_21, zi_30, zi_60, zi_90, zi_99, zi_100, zi_180, zi_240, zi_400, zi_500, zi_1000, zi_1199, zi_10000, zi_100000, zi_1000000, i3m1] at c3 h9 ⊢; omega)]; rfl) dX11_dueOf_159
      · refine lv_aload_n hx hb dX11_dueOf_103 rfl (lv_at hl 2 rfl) ?_
        refine g_get C B (0) (by decide) mE_0 rfl gf_11 20 (by decide) wl_747 (v := .ref (α 20)) mF_20 dX11_dueOf_104 ?_
        refine lv_iload_n hx hb dX11_dueOf_107 rfl (lv_at hl 3 rfl) ?_
        refine g_lald C B (20) (by decide) (f := S.2.2.2 20) mE_20 (vp_in_nI (by omega) (by omega)) (j := d) (nI_clamp (by omega)) dX11_dueOf_108 ?_
        refine lv_lstore (lv' := [(5, .long (S.2.2.2 20 d)), (4, .int (S.2.2.1 13 f)), (0, .ref (α 0)), (1, .int (nI d)), (2, .int (nI f)), (3, .int known)]) hx hb dX11_dueOf_109 hl (by decide) rfl (fun ls hl => ?_)
        refine lv_goto (tgt := 136) hx hb dX11_dueOf_111 (by decide) ?_
        refine lv_lload hx hb dX11_dueOf_136 (lv_at hl 0 rfl) ?_
        refine lv_lload hx hb dX11_dueOf_138 (lv_at hl 0 rfl) ?_
        refine lv_aload_n hx hb dX11_dueOf_140 rfl (lv_at hl 2 rfl) ?_
        refine lv_iconst (v := 4) hx hb dX11_dueOf_141 (by decide) ?_
        refine lv_aload_n hx hb dX11_dueOf_142 rfl (lv_at hl 2 rfl) ?_
        refine lv_iload_n hx hb dX11_dueOf_143 rfl (lv_at hl 4 rfl) ?_
        refine lv_iload_n hx hb dX11_dueOf_144 rfl (lv_at hl 5 rfl) ?_
        refine gc_i (gr_V C B (k := 0) (As := [.int (nI f), .int known]) (rest := [.int 4, .ref (α 0), .long (S.2.2.2 20 d), .long (S.2.2.2 20 d)]) (c_X11_dueMonth l D G τ α S _ f known (by omega) hN hD) (by decide) mE_0 rfl wl_886 wl_888 wl_19 wl_40 wl_889 (na := 2) (by decide +kernel) rfl ⟨Nat.le_of_ble_eq_true rfl, Nat.le_of_ble_eq_true rfl⟩ ⟨Nat.le_of_ble_eq_true rfl, Nat.le_of_ble_eq_true rfl⟩ hl.1 rfl (Nat.le_of_ble_eq_true rfl) dX11_dueOf_145) (fun r h => ?_)
        subst h
        refine lv_iload_n hx hb dX11_dueOf_148 rfl (lv_at hl 5 rfl) ?_
        refine gc_i (gr_V C B (k := 0) (As := [.int 4, .int (sDueM S f known), .int known]) (rest := [.long (S.2.2.2 20 d), .long (S.2.2.2 20 d)]) (c_X11_inForce l D G τ α S _ 4 (sDueM S f known) known hN hD) (by decide) mE_0 rfl wl_890 wl_892 wl_20 wl_40 wl_893 (na := 3) (by decide +kernel) rfl ⟨Nat.le_of_ble_eq_true rfl, Nat.le_of_ble_eq_true rfl⟩ ⟨Nat.le_of_ble_eq_true rfl, Nat.le_of_ble_eq_true rfl⟩ hl.1 rfl (Nat.le_of_ble_eq_true rfl) dX11_dueOf_149) (fun r h => ?_)
        subst h
        refine lv_i2l (v := (sInf S 4 (sDueM S f known) known).toInt64) hx hb dX11_dueOf_152 rfl ?_
        refine lv_lmul hx hb dX11_dueOf_153 ?_
        refine g_ldc2 C wl_898 dX11_dueOf_154 ?_
        refine lv_ldiv hx hb dX11_dueOf_157 (by decide) ?_
        refine lv_lsub hx hb dX11_dueOf_158 ?_
        exact ge_l C hr hlk (by rw [sDue, show sPre S d f known = (S.2.2.2 20 d) from by rw [sPre]; simp [th, c1, c2, c3] <;> (intro h9; exfalso; simp only [i3l, i3e, i3q, inR, isC, isD, zi_0, zi_1, zi_2, zi_3, zi_4, zi_5, zi_6, zi_7, zi_8, zi_9, zi_10, zi_12, zi_20, zi_21, zi_30, zi_60, zi_90, zi_99, zi_100, zi_180, zi_240, zi_400, zi_500, zi_1000, zi_1199, zi_10000, zi_100000, zi_1000000, i3m1] at c3 h9 ⊢; omega)]; rfl) dX11_dueOf_159
    · refine lv_aload_n hx hb dX11_dueOf_57 rfl (lv_at hl 2 rfl) ?_
      refine g_get C B (0) (by decide) mE_0 rfl gf_11 16 (by decide) wl_743 (v := .ref (α 16)) mF_16 dX11_dueOf_58 ?_
      refine lv_iload_n hx hb dX11_dueOf_61 rfl (lv_at hl 3 rfl) ?_
      refine g_iald C B (16) (by decide) (f := S.2.2.1 16) mE_16 (vp_in_nI (by omega) (by omega)) (j := d) (nI_clamp (by omega)) dX11_dueOf_62 ?_
      refine lv_iconst (v := 2) hx hb dX11_dueOf_63 (by decide) ?_
      refine lv_icmp_eq (tgt := 92) hx hb dX11_dueOf_64 (by decide) (fun c4 => ?_) (fun c4 => ?_)
      · refine lv_iload hx hb dX11_dueOf_92 (lv_at hl 1 rfl) ?_
        refine lv_aload_n hx hb dX11_dueOf_94 rfl (lv_at hl 2 rfl) ?_
        refine g_get C B (0) (by decide) mE_0 rfl gf_11 21 (by decide) wl_748 (v := .ref (α 21)) mF_21 dX11_dueOf_95 ?_
        refine lv_iload_n hx hb dX11_dueOf_98 rfl (lv_at hl 3 rfl) ?_
        refine g_iald C B (21) (by decide) (f := S.2.2.1 21) mE_21 (vp_in_nI (by omega) (by omega)) (j := d) (nI_clamp (by omega)) dX11_dueOf_99 ?_
        refine lv_icmp_lt (tgt := 114) hx hb dX11_dueOf_100 (by decide) (fun c5 => ?_) (fun c5 => ?_)
        · refine lv_aload_n hx hb dX11_dueOf_114 rfl (lv_at hl 2 rfl) ?_
          refine g_get C B (0) (by decide) mE_0 rfl gf_11 20 (by decide) wl_747 (v := .ref (α 20)) mF_20 dX11_dueOf_115 ?_
          refine lv_iload_n hx hb dX11_dueOf_118 rfl (lv_at hl 3 rfl) ?_
          refine g_lald C B (20) (by decide) (f := S.2.2.2 20) mE_20 (vp_in_nI (by omega) (by omega)) (j := d) (nI_clamp (by omega)) dX11_dueOf_119 ?_
          refine lv_aload_n hx hb dX11_dueOf_120 rfl (lv_at hl 2 rfl) ?_
          refine lv_iconst (v := 3) hx hb dX11_dueOf_121 (by decide) ?_
          refine lv_iload hx hb dX11_dueOf_122 (lv_at hl 1 rfl) ?_
          refine lv_iload_n hx hb dX11_dueOf_124 rfl (lv_at hl 5 rfl) ?_
          refine gc_i (gr_V C B (k := 0) (As := [.int 3, .int (S.2.2.1 13 f), .int known]) (rest := [.long (S.2.2.2 20 d)]) (c_X11_inForce l D G τ α S _ 3 (S.2.2.1 13 f) known hN hD) (by decide) mE_0 rfl wl_890 wl_892 wl_20 wl_40 wl_893 (na := 3) (by decide +kernel) rfl ⟨Nat.le_of_ble_eq_true rfl, Nat.le_of_ble_eq_true rfl⟩ ⟨Nat.le_of_ble_eq_true rfl, Nat.le_of_ble_eq_true rfl⟩ hl.1 rfl (Nat.le_of_ble_eq_true rfl) dX11_dueOf_125) (fun r h => ?_)
          subst h
          refine lv_i2l (v := (sInf S 3 (S.2.2.1 13 f) known).toInt64) hx hb dX11_dueOf_128 rfl ?_
          refine lv_lmul hx hb dX11_dueOf_129 ?_
          refine g_ldc2 C wl_898 dX11_dueOf_130 ?_
          refine lv_ldiv hx hb dX11_dueOf_133 (by decide) ?_
          refine lv_lstore (lv' := [(5, .long (((S.2.2.2 20 d) * (sInf S 3 (S.2.2.1 13 f) known).toInt64) / 1000)), (4, .int (S.2.2.1 13 f)), (0, .ref (α 0)), (1, .int (nI d)), (2, .int (nI f)), (3, .int known)]) hx hb dX11_dueOf_134 hl (by decide) rfl (fun ls hl => ?_)
          refine lv_lload hx hb dX11_dueOf_136 (lv_at hl 0 rfl) ?_
          refine lv_lload hx hb dX11_dueOf_138 (lv_at hl 0 rfl) ?_
          refine lv_aload_n hx hb dX11_dueOf_140 rfl (lv_at hl 2 rfl) ?_
          refine lv_iconst (v := 4) hx hb dX11_dueOf_141 (by decide) ?_
          refine lv_aload_n hx hb dX11_dueOf_142 rfl (lv_at hl 2 rfl) ?_
          refine lv_iload_n hx hb dX11_dueOf_143 rfl (lv_at hl 4 rfl) ?_
          refine lv_iload_n hx hb dX11_dueOf_144 rfl (lv_at hl 5 rfl) ?_
          refine gc_i (gr_V C B (k := 0) (As := [.int (nI f), .int known]) (rest := [.int 4, .ref (α 0), .long (((S.2.2.2 20 d) * (sInf S 3 (S.2.2.1 13 f) known).toInt64) / 1000), .long (((S.2.2.2 20 d) * (sInf S 3 (S.2.2.1 13 f) known).toInt64) / 1000)]) (c_X11_dueMonth l D G τ α S _ f known (by omega) hN hD) (by decide) mE_0 rfl wl_886 wl_888 wl_19 wl_40 wl_889 (na := 2) (by decide +kernel) rfl ⟨Nat.le_of_ble_eq_true rfl, Nat.le_of_ble_eq_true rfl⟩ ⟨Nat.le_of_ble_eq_true rfl, Nat.le_of_ble_eq_true rfl⟩ hl.1 rfl (Nat.le_of_ble_eq_true rfl) dX11_dueOf_145) (fun r h => ?_)
          subst h
          refine lv_iload_n hx hb dX11_dueOf_148 rfl (lv_at hl 5 rfl) ?_
          refine gc_i (gr_V C B (k := 0) (As := [.int 4, .int (sDueM S f known), .int known]) (rest := [.long (((S.2.2.2 20 d) * (sInf S 3 (S.2.2.1 13 f) known).toInt64) / 1000), .long (((S.2.2.2 20 d) * (sInf S 3 (S.2.2.1 13 f) known).toInt64) / 1000)]) (c_X11_inForce l D G τ α S _ 4 (sDueM S f known) known hN hD) (by decide) mE_0 rfl wl_890 wl_892 wl_20 wl_40 wl_893 (na := 3) (by decide +kernel) rfl ⟨Nat.le_of_ble_eq_true rfl, Nat.le_of_ble_eq_true rfl⟩ ⟨Nat.le_of_ble_eq_true rfl, Nat.le_of_ble_eq_true rfl⟩ hl.1 rfl (Nat.le_of_ble_eq_true rfl) dX11_dueOf_149) (fun r h => ?_)
          subst h
          refine lv_i2l (v := (sInf S 4 (sDueM S f known) known).toInt64) hx hb dX11_dueOf_152 rfl ?_
          refine lv_lmul hx hb dX11_dueOf_153 ?_
          refine g_ldc2 C wl_898 dX11_dueOf_154 ?_
          refine lv_ldiv hx hb dX11_dueOf_157 (by decide) ?_
          refine lv_lsub hx hb dX11_dueOf_158 ?_
          exact ge_l C hr hlk (by rw [sDue, show sPre S d f known = (((S.2.2.2 20 d) * (sInf S 3 (S.2.2.1 13 f) known).toInt64) / 1000) from by rw [sPre]; simp [th, c1, c2, c4, c5] <;> (intro h9; exfalso; simp only [i3l, i3e, i3q, inR, isC, isD, zi_0, zi_1, zi_2, zi_3, zi_4, zi_5, zi_6, zi_7, zi_8, zi_9, zi_10, zi_12, zi_20, zi_21, zi_30, zi_60, zi_90, zi_99, zi_100, zi_180, zi_240, zi_400, zi_500, zi_1000, zi_1199, zi_10000, zi_100000, zi_1000000, i3m1] at c5 h9 ⊢; omega)]; rfl) dX11_dueOf_159
        · refine lv_aload_n hx hb dX11_dueOf_103 rfl (lv_at hl 2 rfl) ?_
          refine g_get C B (0) (by decide) mE_0 rfl gf_11 20 (by decide) wl_747 (v := .ref (α 20)) mF_20 dX11_dueOf_104 ?_
          refine lv_iload_n hx hb dX11_dueOf_107 rfl (lv_at hl 3 rfl) ?_
          refine g_lald C B (20) (by decide) (f := S.2.2.2 20) mE_20 (vp_in_nI (by omega) (by omega)) (j := d) (nI_clamp (by omega)) dX11_dueOf_108 ?_
          refine lv_lstore (lv' := [(5, .long (S.2.2.2 20 d)), (4, .int (S.2.2.1 13 f)), (0, .ref (α 0)), (1, .int (nI d)), (2, .int (nI f)), (3, .int known)]) hx hb dX11_dueOf_109 hl (by decide) rfl (fun ls hl => ?_)
          refine lv_goto (tgt := 136) hx hb dX11_dueOf_111 (by decide) ?_
          refine lv_lload hx hb dX11_dueOf_136 (lv_at hl 0 rfl) ?_
          refine lv_lload hx hb dX11_dueOf_138 (lv_at hl 0 rfl) ?_
          refine lv_aload_n hx hb dX11_dueOf_140 rfl (lv_at hl 2 rfl) ?_
          refine lv_iconst (v := 4) hx hb dX11_dueOf_141 (by decide) ?_
          refine lv_aload_n hx hb dX11_dueOf_142 rfl (lv_at hl 2 rfl) ?_
          refine lv_iload_n hx hb dX11_dueOf_143 rfl (lv_at hl 4 rfl) ?_
          refine lv_iload_n hx hb dX11_dueOf_144 rfl (lv_at hl 5 rfl) ?_
          refine gc_i (gr_V C B (k := 0) (As := [.int (nI f), .int known]) (rest := [.int 4, .ref (α 0), .long (S.2.2.2 20 d), .long (S.2.2.2 20 d)]) (c_X11_dueMonth l D G τ α S _ f known (by omega) hN hD) (by decide) mE_0 rfl wl_886 wl_888 wl_19 wl_40 wl_889 (na := 2) (by decide +kernel) rfl ⟨Nat.le_of_ble_eq_true rfl, Nat.le_of_ble_eq_true rfl⟩ ⟨Nat.le_of_ble_eq_true rfl, Nat.le_of_ble_eq_true rfl⟩ hl.1 rfl (Nat.le_of_ble_eq_true rfl) dX11_dueOf_145) (fun r h => ?_)
          subst h
          refine lv_iload_n hx hb dX11_dueOf_148 rfl (lv_at hl 5 rfl) ?_
          refine gc_i (gr_V C B (k := 0) (As := [.int 4, .int (sDueM S f known), .int known]) (rest := [.long (S.2.2.2 20 d), .long (S.2.2.2 20 d)]) (c_X11_inForce l D G τ α S _ 4 (sDueM S f known) known hN hD) (by decide) mE_0 rfl wl_890 wl_892 wl_20 wl_40 wl_893 (na := 3) (by decide +kernel) rfl ⟨Nat.le_of_ble_eq_true rfl, Nat.le_of_ble_eq_true rfl⟩ ⟨Nat.le_of_ble_eq_true rfl, Nat.le_of_ble_eq_true rfl⟩ hl.1 rfl (Nat.le_of_ble_eq_true rfl) dX11_dueOf_149) (fun r h => ?_)
          subst h
          refine lv_i2l (v := (sInf S 4 (sDueM S f known) known).toInt64) hx hb dX11_dueOf_152 rfl ?_
          refine lv_lmul hx hb dX11_dueOf_153 ?_
          refine g_ldc2 C wl_898 dX11_dueOf_154 ?_
          refine lv_ldiv hx hb dX11_dueOf_157 (by decide) ?_
          refine lv_lsub hx hb dX11_dueOf_158 ?_
          exact ge_l C hr hlk (by rw [sDue, show sPre S d f known = (S.2.2.2 20 d) from by rw [sPre]; simp [th, c1, c2, c4, c5] <;> (intro h9; exfalso; simp only [i3l, i3e, i3q, inR, isC, isD, zi_0, zi_1, zi_2, zi_3, zi_4, zi_5, zi_6, zi_7, zi_8, zi_9, zi_10, zi_12, zi_20, zi_21, zi_30, zi_60, zi_90, zi_99, zi_100, zi_180, zi_240, zi_400, zi_500, zi_1000, zi_1199, zi_10000, zi_100000, zi_1000000, i3m1] at c5 h9 ⊢; omega)]; rfl) dX11_dueOf_159
      · refine lv_aload_n hx hb dX11_dueOf_67 rfl (lv_at hl 2 rfl) ?_
        refine g_get C B (0) (by decide) mE_0 rfl gf_11 20 (by decide) wl_747 (v := .ref (α 20)) mF_20 dX11_dueOf_68 ?_
        refine lv_iload_n hx hb dX11_dueOf_71 rfl (lv_at hl 3 rfl) ?_
        refine g_lald C B (20) (by decide) (f := S.2.2.2 20) mE_20 (vp_in_nI (by omega) (by omega)) (j := d) (nI_clamp (by omega)) dX11_dueOf_72 ?_
        refine lv_aload_n hx hb dX11_dueOf_73 rfl (lv_at hl 2 rfl) ?_
        refine lv_iconst (v := 2) hx hb dX11_dueOf_74 (by decide) ?_
        refine lv_iload hx hb dX11_dueOf_75 (lv_at hl 1 rfl) ?_
        refine lv_iload_n hx hb dX11_dueOf_77 rfl (lv_at hl 5 rfl) ?_
        refine gc_i (gr_V C B (k := 0) (As := [.int 2, .int (S.2.2.1 13 f), .int known]) (rest := [.long (S.2.2.2 20 d)]) (c_X11_inForce l D G τ α S _ 2 (S.2.2.1 13 f) known hN hD) (by decide) mE_0 rfl wl_890 wl_892 wl_20 wl_40 wl_893 (na := 3) (by decide +kernel) rfl ⟨Nat.le_of_ble_eq_true rfl, Nat.le_of_ble_eq_true rfl⟩ ⟨Nat.le_of_ble_eq_true rfl, Nat.le_of_ble_eq_true rfl⟩ hl.1 rfl (Nat.le_of_ble_eq_true rfl) dX11_dueOf_78) (fun r h => ?_)
        subst h
        refine lv_i2l (v := (sInf S 2 (S.2.2.1 13 f) known).toInt64) hx hb dX11_dueOf_81 rfl ?_
        refine lv_lmul hx hb dX11_dueOf_82 ?_
        refine g_ldc2 C wl_898 dX11_dueOf_83 ?_
        refine lv_ldiv hx hb dX11_dueOf_86 (by decide) ?_
        refine lv_lstore (lv' := [(5, .long (((S.2.2.2 20 d) * (sInf S 2 (S.2.2.1 13 f) known).toInt64) / 1000)), (4, .int (S.2.2.1 13 f)), (0, .ref (α 0)), (1, .int (nI d)), (2, .int (nI f)), (3, .int known)]) hx hb dX11_dueOf_87 hl (by decide) rfl (fun ls hl => ?_)
        refine lv_goto (tgt := 136) hx hb dX11_dueOf_89 (by decide) ?_
        refine lv_lload hx hb dX11_dueOf_136 (lv_at hl 0 rfl) ?_
        refine lv_lload hx hb dX11_dueOf_138 (lv_at hl 0 rfl) ?_
        refine lv_aload_n hx hb dX11_dueOf_140 rfl (lv_at hl 2 rfl) ?_
        refine lv_iconst (v := 4) hx hb dX11_dueOf_141 (by decide) ?_
        refine lv_aload_n hx hb dX11_dueOf_142 rfl (lv_at hl 2 rfl) ?_
        refine lv_iload_n hx hb dX11_dueOf_143 rfl (lv_at hl 4 rfl) ?_
        refine lv_iload_n hx hb dX11_dueOf_144 rfl (lv_at hl 5 rfl) ?_
        refine gc_i (gr_V C B (k := 0) (As := [.int (nI f), .int known]) (rest := [.int 4, .ref (α 0), .long (((S.2.2.2 20 d) * (sInf S 2 (S.2.2.1 13 f) known).toInt64) / 1000), .long (((S.2.2.2 20 d) * (sInf S 2 (S.2.2.1 13 f) known).toInt64) / 1000)]) (c_X11_dueMonth l D G τ α S _ f known (by omega) hN hD) (by decide) mE_0 rfl wl_886 wl_888 wl_19 wl_40 wl_889 (na := 2) (by decide +kernel) rfl ⟨Nat.le_of_ble_eq_true rfl, Nat.le_of_ble_eq_true rfl⟩ ⟨Nat.le_of_ble_eq_true rfl, Nat.le_of_ble_eq_true rfl⟩ hl.1 rfl (Nat.le_of_ble_eq_true rfl) dX11_dueOf_145) (fun r h => ?_)
        subst h
        refine lv_iload_n hx hb dX11_dueOf_148 rfl (lv_at hl 5 rfl) ?_
        refine gc_i (gr_V C B (k := 0) (As := [.int 4, .int (sDueM S f known), .int known]) (rest := [.long (((S.2.2.2 20 d) * (sInf S 2 (S.2.2.1 13 f) known).toInt64) / 1000), .long (((S.2.2.2 20 d) * (sInf S 2 (S.2.2.1 13 f) known).toInt64) / 1000)]) (c_X11_inForce l D G τ α S _ 4 (sDueM S f known) known hN hD) (by decide) mE_0 rfl wl_890 wl_892 wl_20 wl_40 wl_893 (na := 3) (by decide +kernel) rfl ⟨Nat.le_of_ble_eq_true rfl, Nat.le_of_ble_eq_true rfl⟩ ⟨Nat.le_of_ble_eq_true rfl, Nat.le_of_ble_eq_true rfl⟩ hl.1 rfl (Nat.le_of_ble_eq_true rfl) dX11_dueOf_149) (fun r h => ?_)
        subst h
        refine lv_i2l (v := (sInf S 4 (sDueM S f known) known).toInt64) hx hb dX11_dueOf_152 rfl ?_
        refine lv_lmul hx hb dX11_dueOf_153 ?_
        refine g_ldc2 C wl_898 dX11_dueOf_154 ?_
        refine lv_ldiv hx hb dX11_dueOf_157 (by decide) ?_
        refine lv_lsub hx hb dX11_dueOf_158 ?_
        exact ge_l C hr hlk (by rw [sDue, show sPre S d f known = (((S.2.2.2 20 d) * (sInf S 2 (S.2.2.1 13 f) known).toInt64) / 1000) from by rw [sPre]; simp [th, c1, c2, c4] <;> (intro h9; exfalso; simp only [i3l, i3e, i3q, inR, isC, isD, zi_0, zi_1, zi_2, zi_3, zi_4, zi_5, zi_6, zi_7, zi_8, zi_9, zi_10, zi_12, zi_20, zi_21, zi_30, zi_60, zi_90, zi_99, zi_100, zi_180, zi_240, zi_400, zi_500, zi_1000, zi_1199, zi_10000, zi_100000, zi_1000000, i3m1] at c4 h9 ⊢; omega)]; rfl) dX11_dueOf_159
  · refine lv_aload_n hx hb dX11_dueOf_21 rfl (lv_at hl 2 rfl) ?_
    refine g_get C B (0) (by decide) mE_0 rfl gf_11 19 (by decide) wl_746 (v := .ref (α 19)) mF_19 dX11_dueOf_22 ?_
    refine lv_iload_n hx hb dX11_dueOf_25 rfl (lv_at hl 3 rfl) ?_
    refine g_iald C B (19) (by decide) (f := S.2.2.1 19) mE_19 (vp_in_nI (by omega) (by omega)) (j := d) (nI_clamp (by omega)) dX11_dueOf_26 ?_
    refine lv_i2l (v := (S.2.2.1 19 d).toInt64) hx hb dX11_dueOf_27 rfl ?_
    refine lv_aload_n hx hb dX11_dueOf_28 rfl (lv_at hl 2 rfl) ?_
    refine lv_iconst (v := 1) hx hb dX11_dueOf_29 (by decide) ?_
    refine lv_iload hx hb dX11_dueOf_30 (lv_at hl 1 rfl) ?_
    refine lv_iload_n hx hb dX11_dueOf_32 rfl (lv_at hl 5 rfl) ?_
    refine gc_i (gr_V C B (k := 0) (As := [.int 1, .int (S.2.2.1 13 f), .int known]) (rest := [.long ((S.2.2.1 19 d).toInt64)]) (c_X11_inForce l D G τ α S _ 1 (S.2.2.1 13 f) known hN hD) (by decide) mE_0 rfl wl_890 wl_892 wl_20 wl_40 wl_893 (na := 3) (by decide +kernel) rfl ⟨Nat.le_of_ble_eq_true rfl, Nat.le_of_ble_eq_true rfl⟩ ⟨Nat.le_of_ble_eq_true rfl, Nat.le_of_ble_eq_true rfl⟩ hl.1 rfl (Nat.le_of_ble_eq_true rfl) dX11_dueOf_33) (fun r h => ?_)
    subst h
    refine lv_i2l (v := (sInf S 1 (S.2.2.1 13 f) known).toInt64) hx hb dX11_dueOf_36 rfl ?_
    refine lv_lmul hx hb dX11_dueOf_37 ?_
    refine g_ldc2 C wl_898 dX11_dueOf_38 ?_
    refine lv_ldiv hx hb dX11_dueOf_41 (by decide) ?_
    refine lv_lstore (lv' := [(5, .long (((S.2.2.1 19 d).toInt64 * (sInf S 1 (S.2.2.1 13 f) known).toInt64) / 1000)), (4, .int (S.2.2.1 13 f)), (0, .ref (α 0)), (1, .int (nI d)), (2, .int (nI f)), (3, .int known)]) hx hb dX11_dueOf_42 hl (by decide) rfl (fun ls hl => ?_)
    refine lv_goto (tgt := 136) hx hb dX11_dueOf_44 (by decide) ?_
    refine lv_lload hx hb dX11_dueOf_136 (lv_at hl 0 rfl) ?_
    refine lv_lload hx hb dX11_dueOf_138 (lv_at hl 0 rfl) ?_
    refine lv_aload_n hx hb dX11_dueOf_140 rfl (lv_at hl 2 rfl) ?_
    refine lv_iconst (v := 4) hx hb dX11_dueOf_141 (by decide) ?_
    refine lv_aload_n hx hb dX11_dueOf_142 rfl (lv_at hl 2 rfl) ?_
    refine lv_iload_n hx hb dX11_dueOf_143 rfl (lv_at hl 4 rfl) ?_
    refine lv_iload_n hx hb dX11_dueOf_144 rfl (lv_at hl 5 rfl) ?_
    refine gc_i (gr_V C B (k := 0) (As := [.int (nI f), .int known]) (rest := [.int 4, .ref (α 0), .long (((S.2.2.1 19 d).toInt64 * (sInf S 1 (S.2.2.1 13 f) known).toInt64) / 1000), .long (((S.2.2.1 19 d).toInt64 * (sInf S 1 (S.2.2.1 13 f) known).toInt64) / 1000)]) (c_X11_dueMonth l D G τ α S _ f known (by omega) hN hD) (by decide) mE_0 rfl wl_886 wl_888 wl_19 wl_40 wl_889 (na := 2) (by decide +kernel) rfl ⟨Nat.le_of_ble_eq_true rfl, Nat.le_of_ble_eq_true rfl⟩ ⟨Nat.le_of_ble_eq_true rfl, Nat.le_of_ble_eq_true rfl⟩ hl.1 rfl (Nat.le_of_ble_eq_true rfl) dX11_dueOf_145) (fun r h => ?_)
    subst h
    refine lv_iload_n hx hb dX11_dueOf_148 rfl (lv_at hl 5 rfl) ?_
    refine gc_i (gr_V C B (k := 0) (As := [.int 4, .int (sDueM S f known), .int known]) (rest := [.long (((S.2.2.1 19 d).toInt64 * (sInf S 1 (S.2.2.1 13 f) known).toInt64) / 1000), .long (((S.2.2.1 19 d).toInt64 * (sInf S 1 (S.2.2.1 13 f) known).toInt64) / 1000)]) (c_X11_inForce l D G τ α S _ 4 (sDueM S f known) known hN hD) (by decide) mE_0 rfl wl_890 wl_892 wl_20 wl_40 wl_893 (na := 3) (by decide +kernel) rfl ⟨Nat.le_of_ble_eq_true rfl, Nat.le_of_ble_eq_true rfl⟩ ⟨Nat.le_of_ble_eq_true rfl, Nat.le_of_ble_eq_true rfl⟩ hl.1 rfl (Nat.le_of_ble_eq_true rfl) dX11_dueOf_149) (fun r h => ?_)
    subst h
    refine lv_i2l (v := (sInf S 4 (sDueM S f known) known).toInt64) hx hb dX11_dueOf_152 rfl ?_
    refine lv_lmul hx hb dX11_dueOf_153 ?_
    refine g_ldc2 C wl_898 dX11_dueOf_154 ?_
    refine lv_ldiv hx hb dX11_dueOf_157 (by decide) ?_
    refine lv_lsub hx hb dX11_dueOf_158 ?_
    exact ge_l C hr hlk (by rw [sDue, show sPre S d f known = (((S.2.2.1 19 d).toInt64 * (sInf S 1 (S.2.2.1 13 f) known).toInt64) / 1000) from by rw [sPre]; simp [th, c1] <;> (intro h9; exfalso; simp only [i3l, i3e, i3q, inR, isC, isD, zi_0, zi_1, zi_2, zi_3, zi_4, zi_5, zi_6, zi_7, zi_8, zi_9, zi_10, zi_12, zi_20, zi_21, zi_30, zi_60, zi_90, zi_99, zi_100, zi_180, zi_240, zi_400, zi_500, zi_1000, zi_1199, zi_10000, zi_100000, zi_1000000, i3m1] at c1 h9 ⊢; omega)]; rfl) dX11_dueOf_159
set_option maxHeartbeats 4000000 in
set_option maxRecDepth 100000 in
theorem c_X11_outMany (l : Launch) (D : va_G) (G : Nat → ClassId) (τ α : Nat → Nat) (S : St) (sz : Nat) (hN : okN S) : Ri l D G τ yX11_outMany cX11_outMany 3 (some .int) 0 [.ref (α 0)] α (mE G α S) Lm sz (fun r => r = outL S (nOf S 15)) := by
  refine gM _ (by decide) rfl (Nat.le_of_ble_eq_true rfl) ?_
  intro p e s m below meth c ls C hr hlk hnm hsz B hl
  have hx := C.1
  have hb := C.2.1
  have hl : lv_has ls 3 [(0, .ref (α 0))] := hl
  have hNe := nOf_eq hN.2.2.2.2.1.1
  have hNl : nOf S 15 ≤ 30 := nOf_le hN.2.2.2.2.1.1 hN.2.2.2.2.1.2 (by decide)
  have loop : ∀ (nn kk : Nat) (h : Int32) (ls : Array Slot), nn + kk = nOf S 15 → (outL S kk = h) → lv_has ls 3 [(2, .int (nI kk)), (1, .int h), (0, .ref (α 0))] → W p l e (rmd 0 0 0) s m [.ref (α 0)].toArray below meth c s.heap [] 0 0 (MQ below (vp_Si (fun r => r = outL S (nOf S 15))) [.ref (α 0)].toArray s 0 0 (fun _ => False)) (F0 m 4 ls []) := by
    intro nn
    induction nn with
    | zero =>
      intro kk h ls hk hI hl
      refine lv_iload_n hx hb dX11_outMany_4 rfl (lv_at hl 0 rfl) ?_
      refine lv_aload_n hx hb dX11_outMany_5 rfl (lv_at hl 2 rfl) ?_
      refine g_get C B (0) (by decide) mE_0 rfl gf_11 15 (by decide) wl_742 (v := .int (S.1 15)) mF_15 dX11_outMany_6 ?_
      refine lv_icmp_ge (tgt := 35) hx hb dX11_outMany_9 (by decide) (fun _ => ?_) (fun hc => absurd (by rw [hNe]; exact nI_le (by omega) (by omega)) hc)
      refine lv_iload_n hx hb dX11_outMany_35 rfl (lv_at hl 1 rfl) ?_
      exact ge_i C hr rfl hlk (by rw [show nOf S 15 = kk by omega, hI]) dX11_outMany_36
    | succ nn ih =>
      intro kk h ls hk hI hl
      refine lv_iload_n hx hb dX11_outMany_4 rfl (lv_at hl 0 rfl) ?_
      refine lv_aload_n hx hb dX11_outMany_5 rfl (lv_at hl 2 rfl) ?_
      refine g_get C B (0) (by decide) mE_0 rfl gf_11 15 (by decide) wl_742 (v := .int (S.1 15)) mF_15 dX11_outMany_6 ?_
      refine lv_icmp_ge (tgt := 35) hx hb dX11_outMany_9 (by decide) (fun hc => absurd hc (by rw [hNe]; exact nI_ge (by omega) (by omega))) (fun _ => ?_)
      refine lv_iload_n hx hb dX11_outMany_12 rfl (lv_at hl 1 rfl) ?_
      refine lv_aload_n hx hb dX11_outMany_13 rfl (lv_at hl 2 rfl) ?_
      refine g_get C B (0) (by decide) mE_0 rfl gf_11 24 (by decide) wl_751 (v := .ref (α 24)) mF_24 dX11_outMany_14 ?_
      refine lv_iload_n hx hb dX11_outMany_17 rfl (lv_at hl 0 rfl) ?_
      refine g_zald C B (24) (by decide) (f := S.2.2.1 24) mE_24 (vp_in_nI (by omega) (by omega)) (j := kk) (nI_clamp (by omega)) dX11_outMany_18 ?_
      refine lv_if_eq (tgt := 26) hx hb dX11_outMany_19 (by decide) (fun c1 => ?_) (fun c1 => ?_)
      · refine lv_iconst (v := 0) hx hb dX11_outMany_26 (by decide) ?_
        refine lv_iadd hx hb dX11_outMany_27 ?_
        refine lv_istore_n (lv' := [(1, .int (h + 0)), (2, .int (nI kk)), (0, .ref (α 0))]) hx hb dX11_outMany_28 rfl hl (by decide) rfl (fun ls hl => ?_)
        refine lv_iinc (v := ((nI kk) + 1)) (lv' := [(2, .int ((nI kk) + 1)), (1, .int (h + 0)), (0, .ref (α 0))]) hx hb dX11_outMany_29 hl (k := 1) rfl rfl (by decide) rfl (fun ls hl => ?_)
        refine lv_goto (tgt := 4) hx hb dX11_outMany_32 (by decide) ?_
        exact ih (kk + 1) (h + 0) ls (by omega) (by rw [outL, hI]; simp [c1]) (by have h9 := lv_sub (l' := [(2, .int ((nI kk) + 1)), (1, .int (h + 0)), (0, .ref (α 0))]) hl [0, 1, 2] rfl; rw [nI_1] at h9; exact h9)
      · refine lv_iconst (v := 1) hx hb dX11_outMany_22 (by decide) ?_
        refine lv_goto (tgt := 27) hx hb dX11_outMany_23 (by decide) ?_
        refine lv_iadd hx hb dX11_outMany_27 ?_
        refine lv_istore_n (lv' := [(1, .int (h + 1)), (2, .int (nI kk)), (0, .ref (α 0))]) hx hb dX11_outMany_28 rfl hl (by decide) rfl (fun ls hl => ?_)
        refine lv_iinc (v := ((nI kk) + 1)) (lv' := [(2, .int ((nI kk) + 1)), (1, .int (h + 1)), (0, .ref (α 0))]) hx hb dX11_outMany_29 hl (k := 1) rfl rfl (by decide) rfl (fun ls hl => ?_)
        refine lv_goto (tgt := 4) hx hb dX11_outMany_32 (by decide) ?_
        exact ih (kk + 1) (h + 1) ls (by omega) (by rw [outL, hI]; simp [c1]) (by have h9 := lv_sub (l' := [(2, .int ((nI kk) + 1)), (1, .int (h + 1)), (0, .ref (α 0))]) hl [0, 1, 2] rfl; rw [nI_1] at h9; exact h9)
  refine lv_iconst (v := 0) hx hb dX11_outMany_0 (by decide) ?_
  refine lv_istore_n (lv' := [(1, .int 0), (0, .ref (α 0))]) hx hb dX11_outMany_1 rfl hl (by decide) rfl (fun ls hl => ?_)
  refine lv_iconst (v := 0) hx hb dX11_outMany_2 (by decide) ?_
  refine lv_istore_n (lv' := [(2, .int 0), (1, .int 0), (0, .ref (α 0))]) hx hb dX11_outMany_3 rfl hl (by decide) rfl (fun ls hl => ?_)
  exact loop (nOf S 15) 0 0 ls (by omega) rfl (lv_sub hl [0, 1, 2] rfl)
set_option maxHeartbeats 4000000 in
set_option maxRecDepth 100000 in
theorem c_X11_live (l : Launch) (D : va_G) (G : Nat → ClassId) (τ α : Nat → Nat) (S : St) (sz : Nat) (a b : Nat) (hab : a ≤ b) (hb21 : b ≤ 21) : Wv l D G τ yX11_live cX11_live 6 none 0 0 0 [.ref (α 0), .int (nI a), .int (nI b)] α (mE G α S) Lm sz (fun u => u = (α, mE G α (uJ (uJ S 41 (liveL S a (b - a)).1) 42 (liveL S a (b - a)).2), Lm)) := by
  refine gM _ (by decide) rfl (Nat.le_of_ble_eq_true rfl) ?_
  intro p e s m below meth c ls C hr hlk hnm hsz B hl
  have hx := C.1
  have hb := C.2.1
  have hl : lv_has ls 6 [(0, .ref (α 0)), (1, .int (nI a)), (2, .int (nI b))] := hl
  have loop : ∀ (nn kk : Nat) (x : Int64) (y : Int64) (H : Heap) (locs : List Loc) (ls : Array Slot), nn + kk = b - a → (liveL S a kk = (x, y)) → gB D G τ (gA α Lm sz) s H locs α (mE G α (uJ (uJ S 41 x) 42 y)) Lm → lv_has ls 6 [(3, .int (nI (a + kk))), (0, .ref (α 0)), (1, .int (nI a)), (2, .int (nI b))] → W p l e (rmd 0 0 0) s m [.ref (α 0), .int (nI a), .int (nI b)].toArray below meth c H locs 0 0 (MQ below (va_Qv (fun u => u = (α, mE G α (uJ (uJ S 41 (liveL S a (b - a)).1) 42 (liveL S a (b - a)).2), Lm)) (gAt D (gA α Lm sz)) (gA α Lm sz)) [.ref (α 0), .int (nI a), .int (nI b)].toArray s 0 0 (gA α Lm sz)) (F0 m 14 ls []) := by
    intro nn
    induction nn with
    | zero =>
      intro kk x y H locs ls hk hI B hl
      refine lv_iload_n hx hb dX11_live_14 rfl (lv_at hl 0 rfl) ?_
      refine lv_iload_n hx hb dX11_live_15 rfl (lv_at hl 3 rfl) ?_
      refine lv_icmp_ge (tgt := 99) hx hb dX11_live_16 (by decide) (fun _ => ?_) (fun hc => absurd (nI_le (by omega) (by omega)) hc)
      exact ge_wv C B hr hlk (by rw [show b - a = kk by omega, hI]) dX11_live_99
    | succ nn ih =>
      intro kk x y H locs ls hk hI B hl
      refine lv_iload_n hx hb dX11_live_14 rfl (lv_at hl 0 rfl) ?_
      refine lv_iload_n hx hb dX11_live_15 rfl (lv_at hl 3 rfl) ?_
      refine lv_icmp_ge (tgt := 99) hx hb dX11_live_16 (by decide) (fun hc => absurd hc (nI_ge (by omega) (by omega))) (fun _ => ?_)
      refine lv_aload_n hx hb dX11_live_19 rfl (lv_at hl 1 rfl) ?_
      refine g_get C B (0) (by decide) mE_0 rfl gf_11 41 (by decide) wl_768 (v := .long x) mF_41 dX11_live_20 ?_
      refine lv_aload_n hx hb dX11_live_23 rfl (lv_at hl 1 rfl) ?_
      refine g_get C B (0) (by decide) mE_0 rfl gf_11 35 (by decide) wl_762 (v := .ref (α 35)) mF_35 dX11_live_24 ?_
      refine lv_iload_n hx hb dX11_live_27 rfl (lv_at hl 0 rfl) ?_
      refine g_iald C B (35) (by decide) (f := S.2.2.1 35) mE_35 (vp_in_nI (by omega) (by omega)) (j := (a + kk)) (nI_clamp (by omega)) dX11_live_28 ?_
      refine lv_i2l (v := (S.2.2.1 35 (a + kk)).toInt64) hx hb dX11_live_29 rfl ?_
      refine lv_lmul hx hb dX11_live_30 ?_
      refine g_ldc2 C wl_898 dX11_live_31 ?_
      refine lv_ldiv hx hb dX11_live_34 (by decide) ?_
      refine lv_lstore (lv' := [(4, .long ((x * (S.2.2.1 35 (a + kk)).toInt64) / 1000)), (3, .int (nI (a + kk))), (0, .ref (α 0)), (1, .int (nI a)), (2, .int (nI b))]) hx hb dX11_live_35 hl (by decide) rfl (fun ls hl => ?_)
      refine lv_aload_n hx hb dX11_live_37 rfl (lv_at hl 2 rfl) ?_
      refine lv_dup hx hb dX11_live_38 rfl ?_
      refine g_get C B (0) (by decide) mE_0 rfl gf_11 42 (by decide) wl_769 (v := .long y) mF_42 dX11_live_39 ?_
      refine lv_lload hx hb dX11_live_42 (lv_at hl 0 rfl) ?_
      refine lv_ladd hx hb dX11_live_44 ?_
      refine g_put C B (0) (by decide) mE_0 rfl gf_11 tyX11 tyX11_ok nmX11 42 (by decide) wl_769 rfl (ty := .long) (v := .long (y + ((x * (S.2.2.1 35 (a + kk)).toInt64) / 1000))) (by decide +kernel) rfl rfl (Nat.le_of_ble_eq_true rfl) dX11_live_45 mO_42 (fun H locs B => ?_)
      refine lv_aload_n hx hb dX11_live_48 rfl (lv_at hl 2 rfl) ?_
      refine lv_dup hx hb dX11_live_49 rfl ?_
      refine g_get C B (0) (by decide) mE_0 rfl gf_11 41 (by decide) wl_768 (v := .long x) mF_41 dX11_live_50 ?_
      refine lv_lload hx hb dX11_live_53 (lv_at hl 0 rfl) ?_
      refine lv_aload_n hx hb dX11_live_55 rfl (lv_at hl 2 rfl) ?_
      refine g_get C B (0) (by decide) mE_0 rfl gf_11 41 (by decide) wl_768 (v := .long x) mF_41 dX11_live_56 ?_
      refine lv_aload_n hx hb dX11_live_59 rfl (lv_at hl 2 rfl) ?_
      refine g_get C B (0) (by decide) mE_0 rfl gf_11 34 (by decide) wl_761 (v := .ref (α 34)) mF_34 dX11_live_60 ?_
      refine lv_iload_n hx hb dX11_live_63 rfl (lv_at hl 1 rfl) ?_
      refine g_iald C B (34) (by decide) (f := S.2.2.1 34) mE_34 (vp_in_nI (by omega) (by omega)) (j := (a + kk)) (nI_clamp (by omega)) dX11_live_64 ?_
      refine lv_i2l (v := (S.2.2.1 34 (a + kk)).toInt64) hx hb dX11_live_65 rfl ?_
      refine lv_lmul hx hb dX11_live_66 ?_
      refine g_ldc2 C wl_898 dX11_live_67 ?_
      refine lv_ldiv hx hb dX11_live_70 (by decide) ?_
      refine lv_ladd hx hb dX11_live_71 ?_
      refine lv_aload_n hx hb dX11_live_72 rfl (lv_at hl 2 rfl) ?_
      refine g_get C B (0) (by decide) mE_0 rfl gf_11 41 (by decide) wl_768 (v := .long x) mF_41 dX11_live_73 ?_
      refine lv_aload_n hx hb dX11_live_76 rfl (lv_at hl 2 rfl) ?_
      refine g_get C B (0) (by decide) mE_0 rfl gf_11 36 (by decide) wl_763 (v := .ref (α 36)) mF_36 dX11_live_77 ?_
      refine lv_iload_n hx hb dX11_live_80 rfl (lv_at hl 1 rfl) ?_
      refine g_iald C B (36) (by decide) (f := S.2.2.1 36) mE_36 (vp_in_nI (by omega) (by omega)) (j := (a + kk)) (nI_clamp (by omega)) dX11_live_81 ?_
      refine lv_i2l (v := (S.2.2.1 36 (a + kk)).toInt64) hx hb dX11_live_82 rfl ?_
      refine lv_lmul hx hb dX11_live_83 ?_
      refine g_ldc2 C wl_898 dX11_live_84 ?_
      refine lv_ldiv hx hb dX11_live_87 (by decide) ?_
      refine lv_ladd hx hb dX11_live_88 ?_
      refine lv_lsub hx hb dX11_live_89 ?_
      refine g_put C B (0) (by decide) mE_0 rfl gf_11 tyX11 tyX11_ok nmX11 41 (by decide) wl_768 rfl (ty := .long) (v := .long (x - ((((x * (S.2.2.1 35 (a + kk)).toInt64) / 1000) + ((x * (S.2.2.1 34 (a + kk)).toInt64) / 1000)) + ((x * (S.2.2.1 36 (a + kk)).toInt64) / 1000)))) (by decide +kernel) rfl rfl (Nat.le_of_ble_eq_true rfl) dX11_live_90 mO_41 (fun H locs B => ?_)
      refine lv_iinc (v := ((nI (a + kk)) + 1)) (lv' := [(3, .int ((nI (a + kk)) + 1)), (4, .long ((x * (S.2.2.1 35 (a + kk)).toInt64) / 1000)), (0, .ref (α 0)), (1, .int (nI a)), (2, .int (nI b))]) hx hb dX11_live_93 hl (k := 1) rfl rfl (by decide) rfl (fun ls hl => ?_)
      refine lv_goto (tgt := 14) hx hb dX11_live_96 (by decide) ?_
      rw [uJ_live] at B
      exact ih (kk + 1) (x - ((((x * (S.2.2.1 35 (a + kk)).toInt64) / 1000) + ((x * (S.2.2.1 34 (a + kk)).toInt64) / 1000)) + ((x * (S.2.2.1 36 (a + kk)).toInt64) / 1000))) (y + ((x * (S.2.2.1 35 (a + kk)).toInt64) / 1000)) H locs ls (by omega) (by rw [liveL, hI]; rfl) B (by have h9 := lv_sub (l' := [(3, .int ((nI (a + kk)) + 1)), (0, .ref (α 0)), (1, .int (nI a)), (2, .int (nI b))]) hl [0, 2, 3, 4] rfl; rw [nI_1, Nat.add_assoc] at h9; exact h9)
  refine lv_aload_n hx hb dX11_live_0 rfl (lv_at hl 0 rfl) ?_
  refine g_ldc2 C wl_1011 dX11_live_1 ?_
  refine g_put C B (0) (by decide) mE_0 rfl gf_11 tyX11 tyX11_ok nmX11 41 (by decide) wl_768 rfl (ty := .long) (v := .long 1000000) (by decide +kernel) rfl rfl (Nat.le_of_ble_eq_true rfl) dX11_live_4 mO_41 (fun H locs B => ?_)
  refine lv_aload_n hx hb dX11_live_7 rfl (lv_at hl 0 rfl) ?_
  refine lv_lconst (v := 0) hx hb dX11_live_8 (by decide) ?_
  refine g_put C B (0) (by decide) mE_0 rfl gf_11 tyX11 tyX11_ok nmX11 42 (by decide) wl_769 rfl (ty := .long) (v := .long 0) (by decide +kernel) rfl rfl (Nat.le_of_ble_eq_true rfl) dX11_live_9 mO_42 (fun H locs B => ?_)
  refine lv_iload_n hx hb dX11_live_12 rfl (lv_at hl 1 rfl) ?_
  refine lv_istore_n (lv' := [(3, .int (nI a)), (0, .ref (α 0)), (1, .int (nI a)), (2, .int (nI b))]) hx hb dX11_live_13 rfl hl (by decide) rfl (fun ls hl => ?_)
  exact loop (b - a) 0 1000000 0 _ _ ls (by omega) rfl B (lv_sub hl [0, 1, 2, 3] rfl)
end
