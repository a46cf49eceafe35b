section
-- ===== PART A: goes FIRST, ahead of the names: the tables' words, and 'selects' of the private methods out of them =====
/-- a private method of a class that the tables say can be made, by its rows of tables_1 -/
def lw_okq (q : MethodName × Nat) : Prop := (q.1.cls ≠ "java/lang/invoke/MethodHandle" ∧ q.1.cls ≠ "java/lang/invoke/VarHandle") ∧ Cond.instantiable q.1.cls q.2 ∈ tables_1 ∧ Cond.privateMethod q.1 ∈ tables_1 ∧ Cond.instanceMethod q.1 ∈ tables_1
theorem lw_p0 : lw_okq (⟨"TenancyDeposits", "closedSum", "(I)I"⟩, 6) := ⟨⟨by decide +kernel, by decide +kernel⟩, List.mem_of_getElem? (i := 10) (by decide +kernel), List.mem_of_getElem? (i := 303) (by decide +kernel), List.mem_of_getElem? (i := 304) (by decide +kernel)⟩
theorem lw_p1 : lw_okq (⟨"TenancyDeposits", "conditionFact", "(LTenancyDeposits$Item;I)I"⟩, 6) := ⟨⟨by decide +kernel, by decide +kernel⟩, List.mem_of_getElem? (i := 10) (by decide +kernel), List.mem_of_getElem? (i := 408) (by decide +kernel), List.mem_of_getElem? (i := 409) (by decide +kernel)⟩
def lw_privs_1 : List (MethodName × Nat) := [(⟨"TenancyDeposits", "closedSum", "(I)I"⟩, 6), (⟨"TenancyDeposits", "conditionFact", "(LTenancyDeposits$Item;I)I"⟩, 6)]
theorem lw_r1 : ∀ q ∈ lw_privs_1, lw_okq q := List.forall_mem_cons.mpr ⟨lw_p0, List.forall_mem_cons.mpr ⟨lw_p1, fun _ h => absurd h List.not_mem_nil⟩⟩
def lw_privs : List (MethodName × Nat) := lw_privs_1
def lw_tbl : List Cond := k2_sels lw_privs ++ tables_1
theorem lw_privs_ok : ∀ q ∈ lw_privs, lw_okq q := lw_r1
/-- the streams that the claim lets the run draw from -/
abbrev lw_cs : List Choice := [Jvm.Choice.named "NaN.bits"]
theorem lw_bits : nanBits ∈ lw_cs := by first | decide | exact List.mem_cons_self | simp [lw_cs, nanBits]
def RX0 : String := "TenancyDeposits$AnswerText"
def TX0 : u_T := fun k => match k with
  | 0 => ("TenancyDeposits$AnswerText", "signs", "[C", true)
  | 1 => ("TenancyDeposits$AnswerText", "length", "I", false)
  | 2 => ("TenancyDeposits$AnswerText", "place", "I", false)
  | 3 => ("TenancyDeposits$AnswerText", "size", "I", false)
  | 4 => ("TenancyDeposits$AnswerText", "itemNumbers", "[I", true)
  | 5 => ("TenancyDeposits$AnswerText", "replies", "[I", true)
  | _ => ("TenancyDeposits$AnswerText", "tenantPoints", "[I", true)
def tyX0 : Nat → FieldType := fun k => match k with
  | 0 => .array .char
  | 1 => .int
  | 2 => .int
  | 3 => .int
  | 4 => .array .int
  | 5 => .array .int
  | _ => .array .int
theorem nmX0 : ∀ a, a < 7 → ∀ b, b < 7 → a ≠ b → (TX0 a).2.1 ≠ (TX0 b).2.1 := by decide +kernel
theorem tyX0_ok : ∀ k, k < 7 → parseFieldDescriptor (TX0 k).2.2.1 = some (tyX0 k) := by decide +kernel
abbrev cX0_init : ByteArray := prog_2_method_1_code
def yX0_init : MethodName := ⟨RX0, "<init>", "()V"⟩
def RX1 : String := "TenancyDeposits$Book"
def TX1 : u_T := fun k => match k with
  | 0 => ("TenancyDeposits$Book", "day", "I", false)
  | 1 => ("TenancyDeposits$Book", "fee", "I", false)
  | 2 => ("TenancyDeposits$Book", "rate", "F", false)
  | 3 => ("TenancyDeposits$Book", "tenancyCount", "I", false)
  | 4 => ("TenancyDeposits$Book", "itemCount", "I", false)
  | 5 => ("TenancyDeposits$Book", "tenancies", "[LTenancyDeposits$Tenancy;", true)
  | _ => ("TenancyDeposits$Book", "items", "[LTenancyDeposits$Item;", true)
def tyX1 : Nat → FieldType := fun k => match k with
  | 0 => .int
  | 1 => .int
  | 2 => .float
  | 3 => .int
  | 4 => .int
  | 5 => .array (.object "TenancyDeposits$Tenancy")
  | _ => .array (.object "TenancyDeposits$Item")
theorem nmX1 : ∀ a, a < 7 → ∀ b, b < 7 → a ≠ b → (TX1 a).2.1 ≠ (TX1 b).2.1 := by decide +kernel
theorem tyX1_ok : ∀ k, k < 7 → parseFieldDescriptor (TX1 k).2.2.1 = some (tyX1 k) := by decide +kernel
abbrev cX1_init : ByteArray := prog_3_method_1_code
def yX1_init : MethodName := ⟨RX1, "<init>", "()V"⟩
abbrev cX1_copyFrom : ByteArray := prog_3_method_2_code
def yX1_copyFrom : MethodName := ⟨RX1, "copyFrom", "(LTenancyDeposits$Book;)V"⟩
abbrev cX1_tenancyAt : ByteArray := prog_3_method_3_code
def yX1_tenancyAt : MethodName := ⟨RX1, "tenancyAt", "(I)LTenancyDeposits$Tenancy;"⟩
abbrev cX1_itemAt : ByteArray := prog_3_method_4_code
def yX1_itemAt : MethodName := ⟨RX1, "itemAt", "(I)LTenancyDeposits$Item;"⟩
abbrev cX1_addTenancy : ByteArray := prog_3_method_5_code
def yX1_addTenancy : MethodName := ⟨RX1, "addTenancy", "(I)I"⟩
abbrev cX1_newItem : ByteArray := prog_3_method_6_code
def yX1_newItem : MethodName := ⟨RX1, "newItem", "(IIIII)I"⟩
abbrev cX1_expectFairConditions : ByteArray := prog_3_method_7_code
def yX1_expectFairConditions : MethodName := ⟨RX1, "expectFairConditions", "(I)V"⟩
abbrev cX1_daysOf : ByteArray := prog_3_method_8_code
def yX1_daysOf : MethodName := ⟨RX1, "daysOf", "(LTenancyDeposits$Tenancy;)I"⟩
abbrev cX1_daysOfItem : ByteArray := prog_3_method_9_code
def yX1_daysOfItem : MethodName := ⟨RX1, "daysOfItem", "(LTenancyDeposits$Item;)I"⟩
abbrev cX1_stateOf : ByteArray := prog_3_method_10_code
def yX1_stateOf : MethodName := ⟨RX1, "stateOf", "(LTenancyDeposits$Item;)I"⟩
abbrev cX1_canBeAnswered : ByteArray := prog_3_method_11_code
def yX1_canBeAnswered : MethodName := ⟨RX1, "canBeAnswered", "(LTenancyDeposits$Item;)Z"⟩
abbrev cX1_interestOf : ByteArray := prog_3_method_12_code
def yX1_interestOf : MethodName := ⟨RX1, "interestOf", "(LTenancyDeposits$Tenancy;)I"⟩
abbrev cX1_total : ByteArray := prog_3_method_13_code
def yX1_total : MethodName := ⟨RX1, "total", "(II)I"⟩
abbrev cX1_shareOf : ByteArray := prog_3_method_14_code
def yX1_shareOf : MethodName := ⟨RX1, "shareOf", "(LTenancyDeposits$Item;I)I"⟩
abbrev cX1_tenanciesIn : ByteArray := prog_3_method_16_code
def yX1_tenanciesIn : MethodName := ⟨RX1, "tenanciesIn", "(I)I"⟩
abbrev cX1_settle : ByteArray := prog_3_method_17_code
def yX1_settle : MethodName := ⟨RX1, "settle", "(ILTenancyDeposits$Tenancy;LTenancyDeposits$Settlement;)V"⟩
def RX2 : String := "TenancyDeposits$History"
def TX2 : u_T := fun k => match k with
  | 0 => ("TenancyDeposits$History", "states", "[LTenancyDeposits$Book;", true)
  | 1 => ("TenancyDeposits$History", "oldest", "I", false)
  | _ => ("TenancyDeposits$History", "size", "I", false)
def tyX2 : Nat → FieldType := fun k => match k with
  | 0 => .array (.object "TenancyDeposits$Book")
  | 1 => .int
  | _ => .int
theorem nmX2 : ∀ a, a < 3 → ∀ b, b < 3 → a ≠ b → (TX2 a).2.1 ≠ (TX2 b).2.1 := by decide +kernel
theorem tyX2_ok : ∀ k, k < 3 → parseFieldDescriptor (TX2 k).2.2.1 = some (tyX2 k) := by decide +kernel
abbrev cX2_init : ByteArray := prog_4_method_1_code
def yX2_init : MethodName := ⟨RX2, "<init>", "()V"⟩
abbrev cX2_push : ByteArray := prog_4_method_2_code
def yX2_push : MethodName := ⟨RX2, "push", "(LTenancyDeposits$Book;)V"⟩
abbrev cX2_latest : ByteArray := prog_4_method_3_code
def yX2_latest : MethodName := ⟨RX2, "latest", "()LTenancyDeposits$Book;"⟩
abbrev cX2_stateAt : ByteArray := prog_4_method_4_code
def yX2_stateAt : MethodName := ⟨RX2, "stateAt", "(I)LTenancyDeposits$Book;"⟩
def RX3 : String := "TenancyDeposits$Item"
def TX3 : u_T := fun k => match k with
  | 0 => ("TenancyDeposits$Item", "home", "I", false)
  | 1 => ("TenancyDeposits$Item", "value", "I", false)
  | 2 => ("TenancyDeposits$Item", "life", "I", false)
  | 3 => ("TenancyDeposits$Item", "age", "I", false)
  | 4 => ("TenancyDeposits$Item", "condition", "I", false)
  | 5 => ("TenancyDeposits$Item", "endCondition", "I", false)
  | 6 => ("TenancyDeposits$Item", "due", "I", false)
  | 7 => ("TenancyDeposits$Item", "claimed", "I", false)
  | 8 => ("TenancyDeposits$Item", "reply", "I", false)
  | 9 => ("TenancyDeposits$Item", "landlordPoints", "I", false)
  | _ => ("TenancyDeposits$Item", "tenantPoints", "I", false)
def tyX3 : Nat → FieldType := fun k => match k with
  | 0 => .int
  | 1 => .int
  | 2 => .int
  | 3 => .int
  | 4 => .int
  | 5 => .int
  | 6 => .int
  | 7 => .int
  | 8 => .int
  | 9 => .int
  | _ => .int
theorem nmX3 : ∀ a, a < 11 → ∀ b, b < 11 → a ≠ b → (TX3 a).2.1 ≠ (TX3 b).2.1 := by decide +kernel
theorem tyX3_ok : ∀ k, k < 11 → parseFieldDescriptor (TX3 k).2.2.1 = some (tyX3 k) := by decide +kernel
abbrev cX3_init : ByteArray := prog_5_method_1_code
def yX3_init : MethodName := ⟨RX3, "<init>", "()V"⟩
abbrev cX3_start : ByteArray := prog_5_method_2_code
def yX3_start : MethodName := ⟨RX3, "start", "(IIIII)V"⟩
abbrev cX3_copyFrom : ByteArray := prog_5_method_3_code
def yX3_copyFrom : MethodName := ⟨RX3, "copyFrom", "(LTenancyDeposits$Item;)V"⟩
abbrev cX3_ageAfter : ByteArray := prog_5_method_4_code
def yX3_ageAfter : MethodName := ⟨RX3, "ageAfter", "(I)I"⟩
abbrev cX3_fairAfter : ByteArray := prog_5_method_5_code
def yX3_fairAfter : MethodName := ⟨RX3, "fairAfter", "(I)I"⟩
abbrev cX3_restAfter : ByteArray := prog_5_method_6_code
def yX3_restAfter : MethodName := ⟨RX3, "restAfter", "(I)F"⟩
abbrev cX3_damageAfter : ByteArray := prog_5_method_7_code
def yX3_damageAfter : MethodName := ⟨RX3, "damageAfter", "(II)I"⟩
abbrev cX3_dueAfter : ByteArray := prog_5_method_8_code
def yX3_dueAfter : MethodName := ⟨RX3, "dueAfter", "(II)I"⟩
abbrev cX3_tellEnd : ByteArray := prog_5_method_9_code
def yX3_tellEnd : MethodName := ⟨RX3, "tellEnd", "(II)V"⟩
abbrev cX3_award : ByteArray := prog_5_method_10_code
def yX3_award : MethodName := ⟨RX3, "award", "()I"⟩
abbrev cX3_landlordWeight : ByteArray := prog_5_method_11_code
def yX3_landlordWeight : MethodName := ⟨RX3, "landlordWeight", "()F"⟩
def RX4 : String := "TenancyDeposits$Settlement"
def TX4 : u_T := fun k => match k with
  | 0 => ("TenancyDeposits$Settlement", "pot", "I", false)
  | 1 => ("TenancyDeposits$Settlement", "left", "I", false)
  | 2 => ("TenancyDeposits$Settlement", "landlordGets", "I", false)
  | 3 => ("TenancyDeposits$Settlement", "tenantFee", "I", false)
  | 4 => ("TenancyDeposits$Settlement", "landlordFee", "I", false)
  | _ => ("TenancyDeposits$Settlement", "debt", "I", false)
def tyX4 : Nat → FieldType := fun k => match k with
  | 0 => .int
  | 1 => .int
  | 2 => .int
  | 3 => .int
  | 4 => .int
  | _ => .int
theorem nmX4 : ∀ a, a < 6 → ∀ b, b < 6 → a ≠ b → (TX4 a).2.1 ≠ (TX4 b).2.1 := by decide +kernel
theorem tyX4_ok : ∀ k, k < 6 → parseFieldDescriptor (TX4 k).2.2.1 = some (tyX4 k) := by decide +kernel
abbrev cX4_init : ByteArray := prog_6_method_1_code
def yX4_init : MethodName := ⟨RX4, "<init>", "()V"⟩
abbrev cX4_start : ByteArray := prog_6_method_2_code
def yX4_start : MethodName := ⟨RX4, "start", "(I)V"⟩
abbrev cX4_copyFrom : ByteArray := prog_6_method_3_code
def yX4_copyFrom : MethodName := ⟨RX4, "copyFrom", "(LTenancyDeposits$Settlement;)V"⟩
abbrev cX4_takeFee : ByteArray := prog_6_method_4_code
def yX4_takeFee : MethodName := ⟨RX4, "takeFee", "(II)V"⟩
abbrev cX4_payLandlord : ByteArray := prog_6_method_5_code
def yX4_payLandlord : MethodName := ⟨RX4, "payLandlord", "(I)V"⟩
abbrev cX4_take : ByteArray := prog_6_method_6_code
def yX4_take : MethodName := ⟨RX4, "take", "(I)I"⟩
abbrev cX4_fact : ByteArray := prog_6_method_7_code
def yX4_fact : MethodName := ⟨RX4, "fact", "(I)I"⟩
abbrev cX4_part : ByteArray := prog_6_method_8_code
def yX4_part : MethodName := ⟨RX4, "part", "(I)I"⟩
def RX5 : String := "TenancyDeposits$Tenancy"
def TX5 : u_T := fun k => match k with
  | 0 => ("TenancyDeposits$Tenancy", "deposit", "I", false)
  | 1 => ("TenancyDeposits$Tenancy", "beginDay", "I", false)
  | 2 => ("TenancyDeposits$Tenancy", "state", "I", false)
  | 3 => ("TenancyDeposits$Tenancy", "endDay", "I", false)
  | 4 => ("TenancyDeposits$Tenancy", "rent", "I", false)
  | 5 => ("TenancyDeposits$Tenancy", "closedInterest", "I", false)
  | _ => ("TenancyDeposits$Tenancy", "settlement", "LTenancyDeposits$Settlement;", true)
def tyX5 : Nat → FieldType := fun k => match k with
  | 0 => .int
  | 1 => .int
  | 2 => .int
  | 3 => .int
  | 4 => .int
  | 5 => .int
  | _ => .object "TenancyDeposits$Settlement"
theorem nmX5 : ∀ a, a < 7 → ∀ b, b < 7 → a ≠ b → (TX5 a).2.1 ≠ (TX5 b).2.1 := by decide +kernel
theorem tyX5_ok : ∀ k, k < 7 → parseFieldDescriptor (TX5 k).2.2.1 = some (tyX5 k) := by decide +kernel
abbrev cX5_init : ByteArray := prog_7_method_1_code
def yX5_init : MethodName := ⟨RX5, "<init>", "()V"⟩
abbrev cX5_start : ByteArray := prog_7_method_2_code
def yX5_start : MethodName := ⟨RX5, "start", "(II)V"⟩
abbrev cX5_copyFrom : ByteArray := prog_7_method_3_code
def yX5_copyFrom : MethodName := ⟨RX5, "copyFrom", "(LTenancyDeposits$Tenancy;)V"⟩
def RX6 : String := "TenancyDeposits"
def TX6 : u_T := fun k => match k with
  | 0 => ("TenancyDeposits", "book", "LTenancyDeposits$Book;", true)
  | 1 => ("TenancyDeposits", "snapshot", "LTenancyDeposits$Book;", true)
  | 2 => ("TenancyDeposits", "history", "LTenancyDeposits$History;", true)
  | 3 => ("TenancyDeposits", "text", "LTenancyDeposits$AnswerText;", true)
  | 4 => ("TenancyDeposits", "forecast", "LTenancyDeposits$Settlement;", true)
  | _ => ("TenancyDeposits", "kept", "Z", false)
def tyX6 : Nat → FieldType := fun k => match k with
  | 0 => .object "TenancyDeposits$Book"
  | 1 => .object "TenancyDeposits$Book"
  | 2 => .object "TenancyDeposits$History"
  | 3 => .object "TenancyDeposits$AnswerText"
  | 4 => .object "TenancyDeposits$Settlement"
  | _ => .boolean
theorem nmX6 : ∀ a, a < 6 → ∀ b, b < 6 → a ≠ b → (TX6 a).2.1 ≠ (TX6 b).2.1 := by decide +kernel
theorem tyX6_ok : ∀ k, k < 6 → parseFieldDescriptor (TX6 k).2.2.1 = some (tyX6 k) := by decide +kernel
abbrev cX6_init : ByteArray := prog_1_method_1_code
def yX6_init : MethodName := ⟨RX6, "<init>", "()V"⟩
abbrev cX6_setRate : ByteArray := prog_1_method_2_code
def yX6_setRate : MethodName := ⟨RX6, "setRate", "(I)I"⟩
abbrev cX6_setFee : ByteArray := prog_1_method_3_code
def yX6_setFee : MethodName := ⟨RX6, "setFee", "(I)I"⟩
abbrev cX6_pass : ByteArray := prog_1_method_4_code
def yX6_pass : MethodName := ⟨RX6, "pass", "(I)I"⟩
abbrev cX6_begin : ByteArray := prog_1_method_5_code
def yX6_begin : MethodName := ⟨RX6, "begin", "(I)I"⟩
abbrev cX6_addItem : ByteArray := prog_1_method_6_code
def yX6_addItem : MethodName := ⟨RX6, "addItem", "(IIIII)I"⟩
abbrev cX6_end : ByteArray := prog_1_method_7_code
def yX6_end : MethodName := ⟨RX6, "end", "(I)I"⟩
abbrev cX6_inspect : ByteArray := prog_1_method_8_code
def yX6_inspect : MethodName := ⟨RX6, "inspect", "(II)I"⟩
abbrev cX6_claim : ByteArray := prog_1_method_9_code
def yX6_claim : MethodName := ⟨RX6, "claim", "(II)I"⟩
abbrev cX6_claimRent : ByteArray := prog_1_method_10_code
def yX6_claimRent : MethodName := ⟨RX6, "claimRent", "(II)I"⟩
abbrev cX6_put : ByteArray := prog_1_method_11_code
def yX6_put : MethodName := ⟨RX6, "put", "(I)I"⟩
abbrev cX6_answer : ByteArray := prog_1_method_12_code
def yX6_answer : MethodName := ⟨RX6, "answer", "(IZ)I"⟩
abbrev cX6_setEvidence : ByteArray := prog_1_method_14_code
def yX6_setEvidence : MethodName := ⟨RX6, "setEvidence", "(III)I"⟩
abbrev cX6_close : ByteArray := prog_1_method_15_code
def yX6_close : MethodName := ⟨RX6, "close", "(I)I"⟩
abbrev cX6_undo : ByteArray := prog_1_method_18_code
def yX6_undo : MethodName := ⟨RX6, "undo", "()I"⟩
abbrev cX6_keep : ByteArray := prog_1_method_19_code
def yX6_keep : MethodName := ⟨RX6, "keep", "()I"⟩
abbrev cX6_restore : ByteArray := prog_1_method_20_code
def yX6_restore : MethodName := ⟨RX6, "restore", "()I"⟩
abbrev cX6_rate : ByteArray := prog_1_method_21_code
def yX6_rate : MethodName := ⟨RX6, "rate", "()F"⟩
abbrev cX6_tenancy : ByteArray := prog_1_method_22_code
def yX6_tenancy : MethodName := ⟨RX6, "tenancy", "(II)I"⟩
abbrev cX6_item : ByteArray := prog_1_method_23_code
def yX6_item : MethodName := ⟨RX6, "item", "(II)I"⟩
abbrev cX6_rest : ByteArray := prog_1_method_24_code
def yX6_rest : MethodName := ⟨RX6, "rest", "(I)F"⟩
abbrev cX6_weight : ByteArray := prog_1_method_25_code
def yX6_weight : MethodName := ⟨RX6, "weight", "(I)F"⟩
abbrev cX6_reason : ByteArray := prog_1_method_26_code
def yX6_reason : MethodName := ⟨RX6, "reason", "(I)I"⟩
abbrev cX6_outcome : ByteArray := prog_1_method_27_code
def yX6_outcome : MethodName := ⟨RX6, "outcome", "(II)I"⟩
abbrev cX6_count : ByteArray := prog_1_method_29_code
def yX6_count : MethodName := ⟨RX6, "count", "(I)I"⟩
abbrev cX6_outside : ByteArray := prog_1_method_30_code
def yX6_outside : MethodName := ⟨RX6, "outside", "(III)Z"⟩
abbrev cX6_floatOf : ByteArray := prog_1_method_31_code
def yX6_floatOf : MethodName := ⟨RX6, "floatOf", "(I)F"⟩
abbrev cX6_conditionFact : ByteArray := prog_1_method_34_code
def yX6_conditionFact : MethodName := ⟨RX6, "conditionFact", "(LTenancyDeposits$Item;I)I"⟩
abbrev cX6_closedSum : ByteArray := prog_1_method_35_code
def yX6_closedSum : MethodName := ⟨RX6, "closedSum", "(I)I"⟩
def RX7 : String := "TenancyDepositsModel"
def TX7 : u_T := fun k => match k with
  | _ => ("", "", "", false)
def tyX7 : Nat → FieldType := fun k => match k with
  | _ => .int
theorem nmX7 : ∀ a, a < 0 → ∀ b, b < 0 → a ≠ b → (TX7 a).2.1 ≠ (TX7 b).2.1 := by decide +kernel
theorem tyX7_ok : ∀ k, k < 0 → parseFieldDescriptor (TX7 k).2.2.1 = some (tyX7 k) := by decide +kernel
def RL : String := "TenancyDepositsLaw"
abbrev cL_cell : ByteArray := method_2_code
def yL_cell : MethodName := ⟨RL, "cell", "([II)I"⟩
abbrev cL_low : ByteArray := method_3_code
def yL_low : MethodName := ⟨RL, "low", "(II)I"⟩
abbrev cL_digest : ByteArray := method_4_code
def yL_digest : MethodName := ⟨RL, "digest", "(LTenancyDeposits;)J"⟩
abbrev cL_act : ByteArray := method_5_code
def yL_act : MethodName := ⟨RL, "act", "(LTenancyDeposits;II)I"⟩
abbrev cL_holds : ByteArray := method_6_code
def yL_holds : MethodName := ⟨RL, "holds", "(LTenancyDeposits;)Z"⟩
abbrev cL_law : ByteArray := code
def yL_law : MethodName := ⟨RL, "law", "([I)Z"⟩
abbrev vwCl : List vw_C := [(RX0, TX0, 7), (RX1, TX1, 7), (RX2, TX2, 3), (RX3, TX3, 11), (RX4, TX4, 6), (RX5, TX5, 7), (RX6, TX6, 6)]
/-! words: one list for all methods; each word by its place -/
def zall : List Cond := lw_tbl.filter goodWord
theorem zall_tbl {w : Cond} (h : w ∈ zall) : w ∈ lw_tbl := (List.mem_filter.mp h).1
theorem zall_good {w : Cond} (h : w ∈ zall) : goodWord w = true := (List.mem_filter.mp h).2
theorem z_in0 {w : Cond} {i : Nat} (h : (k2_sels lw_privs)[i]? = some w) (g : goodWord w = true) : w ∈ zall := List.mem_filter.mpr ⟨List.mem_append_left _ (List.mem_of_getElem? h), g⟩
theorem z_in1 {w : Cond} {i : Nat} (h : tables_1_1[i]? = some w) (g : goodWord w = true) : w ∈ zall := List.mem_filter.mpr ⟨List.mem_append_right _ (List.mem_append_left _ (List.mem_of_getElem? h)), g⟩
theorem z_in2 {w : Cond} {i : Nat} (h : tables_1_2[i]? = some w) (g : goodWord w = true) : w ∈ zall := List.mem_filter.mpr ⟨List.mem_append_right _ (List.mem_append_right _ (List.mem_append_left _ (List.mem_of_getElem? h))), g⟩
theorem z_in3 {w : Cond} {i : Nat} (h : tables_1_3[i]? = some w) (g : goodWord w = true) : w ∈ zall := List.mem_filter.mpr ⟨List.mem_append_right _ (List.mem_append_right _ (List.mem_append_right _ (List.mem_of_getElem? h))), g⟩
theorem z_t1 {w : Cond} {i : Nat} (h : tables_1_1[i]? = some w) : w ∈ lw_tbl := List.mem_append_right _ (List.mem_append_left _ (List.mem_of_getElem? h))
theorem z_t2 {w : Cond} {i : Nat} (h : tables_1_2[i]? = some w) : w ∈ lw_tbl := List.mem_append_right _ (List.mem_append_right _ (List.mem_append_left _ (List.mem_of_getElem? h)))
theorem z_t3 {w : Cond} {i : Nat} (h : tables_1_3[i]? = some w) : w ∈ lw_tbl := List.mem_append_right _ (List.mem_append_right _ (List.mem_append_right _ (List.mem_of_getElem? h)))
abbrev ws_ (y : MethodName) (cc : ByteArray) (n : Nat) (r : Option FieldType) : List Cond := Cond.code y cc n r :: zall
theorem z_G {own C : String} {idx : Nat} {y : MethodName} {cc : ByteArray} {n : Nat} {r : Option FieldType} (q1 : Cond.methodLink own idx y ∈ zall) (q2 : Cond.instanceMethod y ∈ zall) (q3 : Cond.selects C y y ∈ zall) (q4 : Cond.initialized C ∈ zall) (q5 : Cond.code y cc n r ∈ zall) : GoodIn zall (wsV own idx C y (ws_ y cc n r)) := by
  intro w h
  have hm : w ∈ zall := by
    simp only [wsV, ws_, List.mem_append, List.mem_cons, List.not_mem_nil, or_false] at h
    rcases h with (rfl | rfl | rfl | rfl) | rfl | h <;> assumption
  exact ⟨hm, good_of_word (zall_good hm)⟩
theorem z_GS {own : String} {idx : Nat} {y : MethodName} {cc : ByteArray} {n : Nat} {r : Option FieldType} (q1 : Cond.methodLink own idx y ∈ zall) (q2 : Cond.static y ∈ zall) (q4 : Cond.initialized own ∈ zall) (q5 : Cond.code y cc n r ∈ zall) : GoodIn zall (wsS own idx y (ws_ y cc n r)) := by
  intro w h
  have hm : w ∈ zall := by
    simp only [wsS, ws_, List.mem_append, List.mem_cons, List.not_mem_nil, or_false] at h
    rcases h with (rfl | rfl | rfl) | rfl | h <;> assumption
  exact ⟨hm, good_of_word (zall_good hm)⟩
theorem z_GI {y : MethodName} {cc : ByteArray} {n : Nat} {r : Option FieldType} (q5 : Cond.code y cc n r ∈ zall) : GoodIn zall (ws_ y cc n r) := by
  intro w h
  have hm : w ∈ zall := by
    simp only [ws_, List.mem_cons] at h
    rcases h with rfl | h <;> assumption
  exact ⟨hm, good_of_word (zall_good hm)⟩
theorem qs0 : Cond.selects RX6 yX6_closedSum yX6_closedSum ∈ zall := z_in0 (i := 0) rfl rfl
theorem qs1 : Cond.selects RX6 yX6_conditionFact yX6_conditionFact ∈ zall := z_in0 (i := 1) rfl rfl
theorem q0 : Cond.initialized RL ∈ zall := z_in1 (i := 0) rfl rfl
theorem q1 : Cond.initialized RX6 ∈ zall := z_in1 (i := 1) rfl rfl
theorem q2 : Cond.initialized RX1 ∈ zall := z_in1 (i := 2) rfl rfl
theorem q3 : Cond.initialized RX5 ∈ zall := z_in1 (i := 3) rfl rfl
theorem q4 : Cond.initialized RX4 ∈ zall := z_in1 (i := 4) rfl rfl
theorem q5 : Cond.initialized RX3 ∈ zall := z_in1 (i := 5) rfl rfl
theorem q6 : Cond.initialized RX2 ∈ zall := z_in1 (i := 6) rfl rfl
theorem q7 : Cond.initialized RX0 ∈ zall := z_in1 (i := 7) rfl rfl
theorem q8 : Cond.initialized "java/lang/Math" ∈ zall := z_in1 (i := 8) rfl rfl
theorem q9 : Cond.classLink RL 11 RX6 ∈ zall := z_in1 (i := 9) rfl rfl
theorem q10 : Cond.instantiable RX6 6 ∈ zall := z_in1 (i := 10) rfl rfl
theorem q11 : Cond.methodLink RL 99 yX6_init ∈ zall := z_in1 (i := 11) rfl rfl
theorem q12 : Cond.instanceMethod yX6_init ∈ zall := z_in1 (i := 12) rfl rfl
theorem q13 : Cond.code yX6_init cX6_init 1 none ∈ zall := z_in1 (i := 13) rfl rfl
theorem q14 : Cond.methodLink RX6 1 objectInit ∈ zall := z_in1 (i := 14) rfl rfl
theorem q15 : Cond.instanceMethod objectInit ∈ zall := z_in1 (i := 15) rfl rfl
theorem q16 : Cond.code objectInit object_method_1_code 1 none ∈ zall := z_in1 (i := 16) rfl rfl
theorem q17 : Cond.classLink RX6 7 RX1 ∈ zall := z_in1 (i := 17) rfl rfl
theorem q18 : Cond.instantiable RX1 7 ∈ zall := z_in1 (i := 18) rfl rfl
theorem q19 : Cond.methodLink RX6 9 yX1_init ∈ zall := z_in1 (i := 19) rfl rfl
theorem q20 : Cond.instanceMethod yX1_init ∈ zall := z_in1 (i := 20) rfl rfl
theorem q21 : Cond.code yX1_init cX1_init 2 none ∈ zall := z_in1 (i := 21) rfl rfl
theorem q22 : Cond.methodLink RX1 3 objectInit ∈ zall := z_in1 (i := 22) rfl rfl
theorem q23 : Cond.constantFloat RX1 18 1017370378 ∈ zall := z_in1 (i := 23) rfl rfl
theorem q24 : Cond.classLink RX1 29 RX5 ∈ zall := z_in1 (i := 24) rfl rfl
theorem q25 : Cond.arrayOver (.object "TenancyDeposits$Tenancy") ∈ lw_tbl := z_t1 (i := 25) rfl
theorem q26 : Cond.classLink RX1 35 RX3 ∈ zall := z_in1 (i := 26) rfl rfl
theorem q27 : Cond.arrayOver (.object "TenancyDeposits$Item") ∈ lw_tbl := z_t1 (i := 27) rfl
theorem q28 : Cond.instantiable RX5 7 ∈ zall := z_in1 (i := 28) rfl rfl
theorem q29 : Cond.methodLinkNest RX1 41 yX5_init "TenancyDeposits" ∈ lw_tbl := z_t1 (i := 29) rfl
theorem q30 : Cond.instanceMethod yX5_init ∈ zall := z_in1 (i := 30) rfl rfl
theorem q31 : Cond.code yX5_init cX5_init 1 none ∈ zall := z_in1 (i := 31) rfl rfl
theorem q32 : Cond.methodLink RX5 3 objectInit ∈ zall := z_in1 (i := 32) rfl rfl
theorem q33 : Cond.classLink RX5 30 RX4 ∈ zall := z_in1 (i := 33) rfl rfl
theorem q34 : Cond.instantiable RX4 6 ∈ zall := z_in1 (i := 34) rfl rfl
theorem q35 : Cond.methodLinkNest RX5 32 yX4_init "TenancyDeposits" ∈ lw_tbl := z_t1 (i := 35) rfl
theorem q36 : Cond.instanceMethod yX4_init ∈ zall := z_in1 (i := 36) rfl rfl
theorem q37 : Cond.code yX4_init cX4_init 1 none ∈ zall := z_in1 (i := 37) rfl rfl
theorem q38 : Cond.methodLink RX4 1 objectInit ∈ zall := z_in1 (i := 38) rfl rfl
theorem q39 : Cond.fieldLink RX4 7 "TenancyDeposits$Settlement" "pot" "I" ∈ zall := z_in1 (i := 39) rfl rfl
theorem q40 : Cond.fieldLink RX4 13 "TenancyDeposits$Settlement" "left" "I" ∈ zall := z_in1 (i := 40) rfl rfl
theorem q41 : Cond.fieldLink RX6 194 "TenancyDeposits$Settlement" "left" "I" ∈ zall := z_in1 (i := 41) rfl rfl
theorem q42 : Cond.fieldLink RX4 16 "TenancyDeposits$Settlement" "landlordGets" "I" ∈ zall := z_in1 (i := 42) rfl rfl
theorem q43 : Cond.fieldLink RX4 19 "TenancyDeposits$Settlement" "tenantFee" "I" ∈ zall := z_in1 (i := 43) rfl rfl
theorem q44 : Cond.fieldLink RX4 22 "TenancyDeposits$Settlement" "landlordFee" "I" ∈ zall := z_in1 (i := 44) rfl rfl
theorem q45 : Cond.fieldLink RX4 25 "TenancyDeposits$Settlement" "debt" "I" ∈ zall := z_in1 (i := 45) rfl rfl
theorem q46 : Cond.lays "TenancyDeposits$Settlement" "TenancyDeposits$Settlement" "pot" "I" ∈ zall := z_in1 (i := 46) rfl rfl
theorem q48 : Cond.lays "TenancyDeposits$Settlement" "TenancyDeposits$Settlement" "left" "I" ∈ zall := z_in1 (i := 48) rfl rfl
theorem q50 : Cond.lays "TenancyDeposits$Settlement" "TenancyDeposits$Settlement" "landlordGets" "I" ∈ zall := z_in1 (i := 50) rfl rfl
theorem q52 : Cond.lays "TenancyDeposits$Settlement" "TenancyDeposits$Settlement" "tenantFee" "I" ∈ zall := z_in1 (i := 52) rfl rfl
theorem q54 : Cond.lays "TenancyDeposits$Settlement" "TenancyDeposits$Settlement" "landlordFee" "I" ∈ zall := z_in1 (i := 54) rfl rfl
theorem q56 : Cond.lays "TenancyDeposits$Settlement" "TenancyDeposits$Settlement" "debt" "I" ∈ zall := z_in1 (i := 56) rfl rfl
theorem q59 : Cond.fieldLink RX5 9 "TenancyDeposits$Tenancy" "deposit" "I" ∈ zall := z_in1 (i := 59) rfl rfl
theorem q60 : Cond.fieldLink RX1 101 "TenancyDeposits$Tenancy" "deposit" "I" ∈ zall := z_in1 (i := 60) rfl rfl
theorem q61 : Cond.fieldLink RX6 212 "TenancyDeposits$Tenancy" "deposit" "I" ∈ zall := z_in1 (i := 61) rfl rfl
theorem q62 : Cond.fieldLink RX5 15 "TenancyDeposits$Tenancy" "beginDay" "I" ∈ zall := z_in1 (i := 62) rfl rfl
theorem q63 : Cond.fieldLink RX6 88 "TenancyDeposits$Tenancy" "beginDay" "I" ∈ zall := z_in1 (i := 63) rfl rfl
theorem q64 : Cond.fieldLink RX1 85 "TenancyDeposits$Tenancy" "beginDay" "I" ∈ zall := z_in1 (i := 64) rfl rfl
theorem q65 : Cond.fieldLink RX5 18 "TenancyDeposits$Tenancy" "state" "I" ∈ zall := z_in1 (i := 65) rfl rfl
theorem q66 : Cond.fieldLink RX6 83 "TenancyDeposits$Tenancy" "state" "I" ∈ zall := z_in1 (i := 66) rfl rfl
theorem q67 : Cond.fieldLink RX1 79 "TenancyDeposits$Tenancy" "state" "I" ∈ zall := z_in1 (i := 67) rfl rfl
theorem q68 : Cond.fieldLink RX5 21 "TenancyDeposits$Tenancy" "endDay" "I" ∈ zall := z_in1 (i := 68) rfl rfl
theorem q69 : Cond.fieldLink RX6 98 "TenancyDeposits$Tenancy" "endDay" "I" ∈ zall := z_in1 (i := 69) rfl rfl
theorem q70 : Cond.fieldLink RX1 82 "TenancyDeposits$Tenancy" "endDay" "I" ∈ zall := z_in1 (i := 70) rfl rfl
theorem q71 : Cond.fieldLink RX5 24 "TenancyDeposits$Tenancy" "rent" "I" ∈ zall := z_in1 (i := 71) rfl rfl
theorem q72 : Cond.fieldLink RX6 138 "TenancyDeposits$Tenancy" "rent" "I" ∈ zall := z_in1 (i := 72) rfl rfl
theorem q73 : Cond.fieldLink RX1 137 "TenancyDeposits$Tenancy" "rent" "I" ∈ zall := z_in1 (i := 73) rfl rfl
theorem q74 : Cond.fieldLink RX5 27 "TenancyDeposits$Tenancy" "closedInterest" "I" ∈ zall := z_in1 (i := 74) rfl rfl
theorem q75 : Cond.fieldLink RX1 98 "TenancyDeposits$Tenancy" "closedInterest" "I" ∈ zall := z_in1 (i := 75) rfl rfl
theorem q76 : Cond.fieldLink RX6 191 "TenancyDeposits$Tenancy" "closedInterest" "I" ∈ zall := z_in1 (i := 76) rfl rfl
theorem q77 : Cond.fieldLink RX5 33 "TenancyDeposits$Tenancy" "settlement" "LTenancyDeposits$Settlement;" ∈ zall := z_in1 (i := 77) rfl rfl
theorem q78 : Cond.fieldLink RX6 181 "TenancyDeposits$Tenancy" "settlement" "LTenancyDeposits$Settlement;" ∈ zall := z_in1 (i := 78) rfl rfl
theorem q79 : Cond.lays "TenancyDeposits$Tenancy" "TenancyDeposits$Tenancy" "deposit" "I" ∈ zall := z_in1 (i := 79) rfl rfl
theorem q81 : Cond.lays "TenancyDeposits$Tenancy" "TenancyDeposits$Tenancy" "beginDay" "I" ∈ zall := z_in1 (i := 81) rfl rfl
theorem q83 : Cond.lays "TenancyDeposits$Tenancy" "TenancyDeposits$Tenancy" "state" "I" ∈ zall := z_in1 (i := 83) rfl rfl
theorem q85 : Cond.lays "TenancyDeposits$Tenancy" "TenancyDeposits$Tenancy" "endDay" "I" ∈ zall := z_in1 (i := 85) rfl rfl
theorem q87 : Cond.lays "TenancyDeposits$Tenancy" "TenancyDeposits$Tenancy" "rent" "I" ∈ zall := z_in1 (i := 87) rfl rfl
theorem q89 : Cond.lays "TenancyDeposits$Tenancy" "TenancyDeposits$Tenancy" "closedInterest" "I" ∈ zall := z_in1 (i := 89) rfl rfl
theorem q91 : Cond.laysFinal "TenancyDeposits$Tenancy" "TenancyDeposits$Tenancy" "settlement" "LTenancyDeposits$Settlement;" ∈ zall := z_in1 (i := 91) rfl rfl
theorem q94 : Cond.instantiable RX3 11 ∈ zall := z_in1 (i := 94) rfl rfl
theorem q95 : Cond.methodLinkNest RX1 42 yX3_init "TenancyDeposits" ∈ lw_tbl := z_t1 (i := 95) rfl
theorem q96 : Cond.instanceMethod yX3_init ∈ zall := z_in1 (i := 96) rfl rfl
theorem q97 : Cond.code yX3_init cX3_init 1 none ∈ zall := z_in1 (i := 97) rfl rfl
theorem q98 : Cond.methodLink RX3 3 objectInit ∈ zall := z_in1 (i := 98) rfl rfl
theorem q99 : Cond.fieldLink RX3 9 "TenancyDeposits$Item" "home" "I" ∈ zall := z_in1 (i := 99) rfl rfl
theorem q100 : Cond.fieldLink RX1 65 "TenancyDeposits$Item" "home" "I" ∈ zall := z_in1 (i := 100) rfl rfl
theorem q101 : Cond.fieldLink RX6 215 "TenancyDeposits$Item" "home" "I" ∈ zall := z_in1 (i := 101) rfl rfl
theorem q102 : Cond.fieldLink RX3 15 "TenancyDeposits$Item" "value" "I" ∈ zall := z_in1 (i := 102) rfl rfl
theorem q103 : Cond.fieldLink RX6 132 "TenancyDeposits$Item" "value" "I" ∈ zall := z_in1 (i := 103) rfl rfl
theorem q104 : Cond.fieldLink RX3 18 "TenancyDeposits$Item" "life" "I" ∈ zall := z_in1 (i := 104) rfl rfl
theorem q105 : Cond.fieldLink RX3 21 "TenancyDeposits$Item" "age" "I" ∈ zall := z_in1 (i := 105) rfl rfl
theorem q106 : Cond.fieldLink RX3 24 "TenancyDeposits$Item" "condition" "I" ∈ zall := z_in1 (i := 106) rfl rfl
theorem q107 : Cond.fieldLink RX6 218 "TenancyDeposits$Item" "condition" "I" ∈ zall := z_in1 (i := 107) rfl rfl
theorem q108 : Cond.fieldLink RX3 27 "TenancyDeposits$Item" "endCondition" "I" ∈ zall := z_in1 (i := 108) rfl rfl
theorem q109 : Cond.fieldLink RX6 117 "TenancyDeposits$Item" "endCondition" "I" ∈ zall := z_in1 (i := 109) rfl rfl
theorem q110 : Cond.fieldLink RX3 30 "TenancyDeposits$Item" "due" "I" ∈ zall := z_in1 (i := 110) rfl rfl
theorem q111 : Cond.fieldLink RX6 129 "TenancyDeposits$Item" "due" "I" ∈ zall := z_in1 (i := 111) rfl rfl
theorem q112 : Cond.fieldLink RX1 112 "TenancyDeposits$Item" "due" "I" ∈ zall := z_in1 (i := 112) rfl rfl
theorem q113 : Cond.fieldLink RX3 33 "TenancyDeposits$Item" "claimed" "I" ∈ zall := z_in1 (i := 113) rfl rfl
theorem q114 : Cond.fieldLink RX6 135 "TenancyDeposits$Item" "claimed" "I" ∈ zall := z_in1 (i := 114) rfl rfl
theorem q115 : Cond.fieldLink RX1 95 "TenancyDeposits$Item" "claimed" "I" ∈ zall := z_in1 (i := 115) rfl rfl
theorem q116 : Cond.fieldLink RX3 36 "TenancyDeposits$Item" "reply" "I" ∈ zall := z_in1 (i := 116) rfl rfl
theorem q117 : Cond.fieldLink RX6 149 "TenancyDeposits$Item" "reply" "I" ∈ zall := z_in1 (i := 117) rfl rfl
theorem q118 : Cond.fieldLink RX1 109 "TenancyDeposits$Item" "reply" "I" ∈ zall := z_in1 (i := 118) rfl rfl
theorem q119 : Cond.fieldLink RX3 39 "TenancyDeposits$Item" "landlordPoints" "I" ∈ zall := z_in1 (i := 119) rfl rfl
theorem q120 : Cond.fieldLink RX6 172 "TenancyDeposits$Item" "landlordPoints" "I" ∈ zall := z_in1 (i := 120) rfl rfl
theorem q121 : Cond.fieldLink RX3 42 "TenancyDeposits$Item" "tenantPoints" "I" ∈ zall := z_in1 (i := 121) rfl rfl
theorem q122 : Cond.fieldLink RX6 175 "TenancyDeposits$Item" "tenantPoints" "I" ∈ zall := z_in1 (i := 122) rfl rfl
theorem q123 : Cond.lays "TenancyDeposits$Item" "TenancyDeposits$Item" "home" "I" ∈ zall := z_in1 (i := 123) rfl rfl
theorem q125 : Cond.lays "TenancyDeposits$Item" "TenancyDeposits$Item" "value" "I" ∈ zall := z_in1 (i := 125) rfl rfl
theorem q127 : Cond.lays "TenancyDeposits$Item" "TenancyDeposits$Item" "life" "I" ∈ zall := z_in1 (i := 127) rfl rfl
theorem q129 : Cond.lays "TenancyDeposits$Item" "TenancyDeposits$Item" "age" "I" ∈ zall := z_in1 (i := 129) rfl rfl
theorem q131 : Cond.lays "TenancyDeposits$Item" "TenancyDeposits$Item" "condition" "I" ∈ zall := z_in1 (i := 131) rfl rfl
theorem q133 : Cond.lays "TenancyDeposits$Item" "TenancyDeposits$Item" "endCondition" "I" ∈ zall := z_in1 (i := 133) rfl rfl
theorem q135 : Cond.lays "TenancyDeposits$Item" "TenancyDeposits$Item" "due" "I" ∈ zall := z_in1 (i := 135) rfl rfl
theorem q137 : Cond.lays "TenancyDeposits$Item" "TenancyDeposits$Item" "claimed" "I" ∈ zall := z_in1 (i := 137) rfl rfl
theorem q139 : Cond.lays "TenancyDeposits$Item" "TenancyDeposits$Item" "reply" "I" ∈ zall := z_in1 (i := 139) rfl rfl
theorem q141 : Cond.lays "TenancyDeposits$Item" "TenancyDeposits$Item" "landlordPoints" "I" ∈ zall := z_in1 (i := 141) rfl rfl
theorem q143 : Cond.lays "TenancyDeposits$Item" "TenancyDeposits$Item" "tenantPoints" "I" ∈ zall := z_in1 (i := 143) rfl rfl
theorem q146 : Cond.fieldLink RX1 9 "TenancyDeposits$Book" "day" "I" ∈ zall := z_in1 (i := 146) rfl rfl
theorem q147 : Cond.fieldLink RX6 66 "TenancyDeposits$Book" "day" "I" ∈ zall := z_in1 (i := 147) rfl rfl
theorem q148 : Cond.fieldLink RX1 15 "TenancyDeposits$Book" "fee" "I" ∈ zall := z_in1 (i := 148) rfl rfl
theorem q149 : Cond.fieldLink RX6 62 "TenancyDeposits$Book" "fee" "I" ∈ zall := z_in1 (i := 149) rfl rfl
theorem q150 : Cond.fieldLink RX1 19 "TenancyDeposits$Book" "rate" "F" ∈ zall := z_in1 (i := 150) rfl rfl
theorem q151 : Cond.fieldLink RX6 53 "TenancyDeposits$Book" "rate" "F" ∈ zall := z_in1 (i := 151) rfl rfl
theorem q152 : Cond.fieldLink RX1 23 "TenancyDeposits$Book" "tenancyCount" "I" ∈ zall := z_in1 (i := 152) rfl rfl
theorem q153 : Cond.fieldLink RX6 71 "TenancyDeposits$Book" "tenancyCount" "I" ∈ zall := z_in1 (i := 153) rfl rfl
theorem q154 : Cond.fieldLink RX1 26 "TenancyDeposits$Book" "itemCount" "I" ∈ zall := z_in1 (i := 154) rfl rfl
theorem q155 : Cond.fieldLink RX6 91 "TenancyDeposits$Book" "itemCount" "I" ∈ zall := z_in1 (i := 155) rfl rfl
theorem q156 : Cond.fieldLink RX1 31 "TenancyDeposits$Book" "tenancies" "[LTenancyDeposits$Tenancy;" ∈ zall := z_in1 (i := 156) rfl rfl
theorem q157 : Cond.fieldLink RX1 37 "TenancyDeposits$Book" "items" "[LTenancyDeposits$Item;" ∈ zall := z_in1 (i := 157) rfl rfl
theorem q158 : Cond.lays "TenancyDeposits$Book" "TenancyDeposits$Book" "day" "I" ∈ zall := z_in1 (i := 158) rfl rfl
theorem q160 : Cond.lays "TenancyDeposits$Book" "TenancyDeposits$Book" "fee" "I" ∈ zall := z_in1 (i := 160) rfl rfl
theorem q162 : Cond.lays "TenancyDeposits$Book" "TenancyDeposits$Book" "rate" "F" ∈ zall := z_in1 (i := 162) rfl rfl
theorem q164 : Cond.lays "TenancyDeposits$Book" "TenancyDeposits$Book" "tenancyCount" "I" ∈ zall := z_in1 (i := 164) rfl rfl
theorem q166 : Cond.lays "TenancyDeposits$Book" "TenancyDeposits$Book" "itemCount" "I" ∈ zall := z_in1 (i := 166) rfl rfl
theorem q168 : Cond.laysFinal "TenancyDeposits$Book" "TenancyDeposits$Book" "tenancies" "[LTenancyDeposits$Tenancy;" ∈ zall := z_in1 (i := 168) rfl rfl
theorem q170 : Cond.laysFinal "TenancyDeposits$Book" "TenancyDeposits$Book" "items" "[LTenancyDeposits$Item;" ∈ zall := z_in1 (i := 170) rfl rfl
theorem q173 : Cond.classLink RX6 19 RX2 ∈ zall := z_in1 (i := 173) rfl rfl
theorem q174 : Cond.instantiable RX2 3 ∈ zall := z_in1 (i := 174) rfl rfl
theorem q175 : Cond.methodLink RX6 21 yX2_init ∈ zall := z_in1 (i := 175) rfl rfl
theorem q176 : Cond.instanceMethod yX2_init ∈ zall := z_in1 (i := 176) rfl rfl
theorem q177 : Cond.code yX2_init cX2_init 2 none ∈ zall := z_in1 (i := 177) rfl rfl
theorem q178 : Cond.methodLink RX2 3 objectInit ∈ zall := z_in1 (i := 178) rfl rfl
theorem q179 : Cond.classLink RX2 9 RX1 ∈ zall := z_in1 (i := 179) rfl rfl
theorem q180 : Cond.arrayOver (.object "TenancyDeposits$Book") ∈ lw_tbl := z_t1 (i := 180) rfl
theorem q181 : Cond.methodLink RX2 24 yX1_init ∈ zall := z_in1 (i := 181) rfl rfl
theorem q182 : Cond.fieldLink RX2 11 "TenancyDeposits$History" "states" "[LTenancyDeposits$Book;" ∈ zall := z_in1 (i := 182) rfl rfl
theorem q183 : Cond.fieldLink RX2 17 "TenancyDeposits$History" "oldest" "I" ∈ zall := z_in1 (i := 183) rfl rfl
theorem q184 : Cond.fieldLink RX2 21 "TenancyDeposits$History" "size" "I" ∈ zall := z_in1 (i := 184) rfl rfl
theorem q185 : Cond.fieldLink RX6 211 "TenancyDeposits$History" "size" "I" ∈ zall := z_in1 (i := 185) rfl rfl
theorem q186 : Cond.laysFinal "TenancyDeposits$History" "TenancyDeposits$History" "states" "[LTenancyDeposits$Book;" ∈ zall := z_in1 (i := 186) rfl rfl
theorem q188 : Cond.lays "TenancyDeposits$History" "TenancyDeposits$History" "oldest" "I" ∈ zall := z_in1 (i := 188) rfl rfl
theorem q190 : Cond.lays "TenancyDeposits$History" "TenancyDeposits$History" "size" "I" ∈ zall := z_in1 (i := 190) rfl rfl
theorem q193 : Cond.classLink RX6 26 RX0 ∈ zall := z_in1 (i := 193) rfl rfl
theorem q194 : Cond.instantiable RX0 7 ∈ zall := z_in1 (i := 194) rfl rfl
theorem q195 : Cond.methodLinkNest RX6 28 yX0_init "TenancyDeposits" ∈ lw_tbl := z_t1 (i := 195) rfl
theorem q196 : Cond.instanceMethod yX0_init ∈ zall := z_in1 (i := 196) rfl rfl
theorem q197 : Cond.code yX0_init cX0_init 1 none ∈ zall := z_in1 (i := 197) rfl rfl
theorem q198 : Cond.methodLink RX0 3 objectInit ∈ zall := z_in1 (i := 198) rfl rfl
theorem q199 : Cond.fieldLink RX0 9 "TenancyDeposits$AnswerText" "signs" "[C" ∈ zall := z_in1 (i := 199) rfl rfl
theorem q200 : Cond.fieldLink RX0 15 "TenancyDeposits$AnswerText" "length" "I" ∈ zall := z_in1 (i := 200) rfl rfl
theorem q201 : Cond.fieldLink RX6 201 "TenancyDeposits$AnswerText" "length" "I" ∈ zall := z_in1 (i := 201) rfl rfl
theorem q202 : Cond.fieldLink RX0 19 "TenancyDeposits$AnswerText" "place" "I" ∈ zall := z_in1 (i := 202) rfl rfl
theorem q203 : Cond.fieldLink RX0 22 "TenancyDeposits$AnswerText" "size" "I" ∈ zall := z_in1 (i := 203) rfl rfl
theorem q204 : Cond.fieldLink RX0 25 "TenancyDeposits$AnswerText" "itemNumbers" "[I" ∈ zall := z_in1 (i := 204) rfl rfl
theorem q205 : Cond.fieldLink RX0 29 "TenancyDeposits$AnswerText" "replies" "[I" ∈ zall := z_in1 (i := 205) rfl rfl
theorem q206 : Cond.fieldLink RX0 32 "TenancyDeposits$AnswerText" "tenantPoints" "[I" ∈ zall := z_in1 (i := 206) rfl rfl
theorem q207 : Cond.laysFinal "TenancyDeposits$AnswerText" "TenancyDeposits$AnswerText" "signs" "[C" ∈ zall := z_in1 (i := 207) rfl rfl
theorem q209 : Cond.lays "TenancyDeposits$AnswerText" "TenancyDeposits$AnswerText" "length" "I" ∈ zall := z_in1 (i := 209) rfl rfl
theorem q211 : Cond.lays "TenancyDeposits$AnswerText" "TenancyDeposits$AnswerText" "place" "I" ∈ zall := z_in1 (i := 211) rfl rfl
theorem q213 : Cond.lays "TenancyDeposits$AnswerText" "TenancyDeposits$AnswerText" "size" "I" ∈ zall := z_in1 (i := 213) rfl rfl
theorem q215 : Cond.laysFinal "TenancyDeposits$AnswerText" "TenancyDeposits$AnswerText" "itemNumbers" "[I" ∈ zall := z_in1 (i := 215) rfl rfl
theorem q217 : Cond.laysFinal "TenancyDeposits$AnswerText" "TenancyDeposits$AnswerText" "replies" "[I" ∈ zall := z_in1 (i := 217) rfl rfl
theorem q219 : Cond.laysFinal "TenancyDeposits$AnswerText" "TenancyDeposits$AnswerText" "tenantPoints" "[I" ∈ zall := z_in1 (i := 219) rfl rfl
theorem q222 : Cond.arrayClass .char ∈ zall := z_in1 (i := 222) rfl rfl
theorem q223 : Cond.arrayClass .int ∈ zall := z_in1 (i := 223) rfl rfl
theorem q224 : Cond.classLink RX6 33 RX4 ∈ zall := z_in1 (i := 224) rfl rfl
theorem q225 : Cond.methodLinkNest RX6 35 yX4_init "TenancyDeposits" ∈ lw_tbl := z_t1 (i := 225) rfl
theorem q226 : Cond.fieldLink RX6 10 "TenancyDeposits" "book" "LTenancyDeposits$Book;" ∈ zall := z_in1 (i := 226) rfl rfl
theorem q227 : Cond.fieldLink RX6 16 "TenancyDeposits" "snapshot" "LTenancyDeposits$Book;" ∈ zall := z_in1 (i := 227) rfl rfl
theorem q228 : Cond.fieldLink RX6 22 "TenancyDeposits" "history" "LTenancyDeposits$History;" ∈ zall := z_in1 (i := 228) rfl rfl
theorem q229 : Cond.fieldLink RX6 29 "TenancyDeposits" "text" "LTenancyDeposits$AnswerText;" ∈ zall := z_in1 (i := 229) rfl rfl
theorem q230 : Cond.fieldLink RX6 36 "TenancyDeposits" "forecast" "LTenancyDeposits$Settlement;" ∈ zall := z_in1 (i := 230) rfl rfl
theorem q231 : Cond.fieldLink RX6 40 "TenancyDeposits" "kept" "Z" ∈ zall := z_in1 (i := 231) rfl rfl
theorem q232 : Cond.laysFinal "TenancyDeposits" "TenancyDeposits" "book" "LTenancyDeposits$Book;" ∈ zall := z_in1 (i := 232) rfl rfl
theorem q234 : Cond.laysFinal "TenancyDeposits" "TenancyDeposits" "snapshot" "LTenancyDeposits$Book;" ∈ zall := z_in1 (i := 234) rfl rfl
theorem q236 : Cond.laysFinal "TenancyDeposits" "TenancyDeposits" "history" "LTenancyDeposits$History;" ∈ zall := z_in1 (i := 236) rfl rfl
theorem q238 : Cond.laysFinal "TenancyDeposits" "TenancyDeposits" "text" "LTenancyDeposits$AnswerText;" ∈ zall := z_in1 (i := 238) rfl rfl
theorem q240 : Cond.laysFinal "TenancyDeposits" "TenancyDeposits" "forecast" "LTenancyDeposits$Settlement;" ∈ zall := z_in2 (i := 0) rfl rfl
theorem q242 : Cond.lays "TenancyDeposits" "TenancyDeposits" "kept" "Z" ∈ zall := z_in2 (i := 2) rfl rfl
theorem q245 : Cond.methodLink RL 100 yX6_undo ∈ zall := z_in2 (i := 5) rfl rfl
theorem q246 : Cond.instanceMethod yX6_undo ∈ zall := z_in2 (i := 6) rfl rfl
theorem q247 : Cond.selects RX6 yX6_undo yX6_undo ∈ zall := z_in2 (i := 7) rfl rfl
theorem q248 : Cond.code yX6_undo cX6_undo 2 (some .int) ∈ zall := z_in2 (i := 8) rfl rfl
theorem q249 : Cond.methodLink RX6 204 yX2_latest ∈ zall := z_in2 (i := 9) rfl rfl
theorem q250 : Cond.instanceMethod yX2_latest ∈ zall := z_in2 (i := 10) rfl rfl
theorem q251 : Cond.selects RX2 yX2_latest yX2_latest ∈ zall := z_in2 (i := 11) rfl rfl
theorem q252 : Cond.code yX2_latest cX2_latest 1 (some (.object "TenancyDeposits$Book")) ∈ zall := z_in2 (i := 12) rfl rfl
theorem q253 : Cond.methodLink RX2 25 yX2_stateAt ∈ zall := z_in2 (i := 13) rfl rfl
theorem q254 : Cond.instanceMethod yX2_stateAt ∈ zall := z_in2 (i := 14) rfl rfl
theorem q255 : Cond.selects RX2 yX2_stateAt yX2_stateAt ∈ zall := z_in2 (i := 15) rfl rfl
theorem q256 : Cond.code yX2_stateAt cX2_stateAt 3 (some (.object "TenancyDeposits$Book")) ∈ zall := z_in2 (i := 16) rfl rfl
theorem q257 : Cond.methodLink RX6 208 yX1_copyFrom ∈ zall := z_in2 (i := 17) rfl rfl
theorem q258 : Cond.instanceMethod yX1_copyFrom ∈ zall := z_in2 (i := 18) rfl rfl
theorem q259 : Cond.selects RX1 yX1_copyFrom yX1_copyFrom ∈ zall := z_in2 (i := 19) rfl rfl
theorem q260 : Cond.code yX1_copyFrom cX1_copyFrom 5 none ∈ zall := z_in2 (i := 20) rfl rfl
theorem q261 : Cond.methodLink RX1 43 yX1_tenancyAt ∈ zall := z_in2 (i := 21) rfl rfl
theorem q262 : Cond.instanceMethod yX1_tenancyAt ∈ zall := z_in2 (i := 22) rfl rfl
theorem q263 : Cond.selects RX1 yX1_tenancyAt yX1_tenancyAt ∈ zall := z_in2 (i := 23) rfl rfl
theorem q264 : Cond.code yX1_tenancyAt cX1_tenancyAt 2 (some (.object "TenancyDeposits$Tenancy")) ∈ zall := z_in2 (i := 24) rfl rfl
theorem q265 : Cond.methodLink RX1 47 yX5_copyFrom ∈ zall := z_in2 (i := 25) rfl rfl
theorem q266 : Cond.instanceMethod yX5_copyFrom ∈ zall := z_in2 (i := 26) rfl rfl
theorem q267 : Cond.selects RX5 yX5_copyFrom yX5_copyFrom ∈ zall := z_in2 (i := 27) rfl rfl
theorem q268 : Cond.code yX5_copyFrom cX5_copyFrom 2 none ∈ zall := z_in2 (i := 28) rfl rfl
theorem q269 : Cond.methodLink RX5 41 yX4_copyFrom ∈ zall := z_in2 (i := 29) rfl rfl
theorem q270 : Cond.instanceMethod yX4_copyFrom ∈ zall := z_in2 (i := 30) rfl rfl
theorem q271 : Cond.selects RX4 yX4_copyFrom yX4_copyFrom ∈ zall := z_in2 (i := 31) rfl rfl
theorem q272 : Cond.code yX4_copyFrom cX4_copyFrom 2 none ∈ zall := z_in2 (i := 32) rfl rfl
theorem q273 : Cond.methodLink RX1 51 yX1_itemAt ∈ zall := z_in2 (i := 33) rfl rfl
theorem q274 : Cond.instanceMethod yX1_itemAt ∈ zall := z_in2 (i := 34) rfl rfl
theorem q275 : Cond.selects RX1 yX1_itemAt yX1_itemAt ∈ zall := z_in2 (i := 35) rfl rfl
theorem q276 : Cond.code yX1_itemAt cX1_itemAt 2 (some (.object "TenancyDeposits$Item")) ∈ zall := z_in2 (i := 36) rfl rfl
theorem q277 : Cond.methodLink RX1 55 yX3_copyFrom ∈ zall := z_in2 (i := 37) rfl rfl
theorem q278 : Cond.instanceMethod yX3_copyFrom ∈ zall := z_in2 (i := 38) rfl rfl
theorem q279 : Cond.selects RX3 yX3_copyFrom yX3_copyFrom ∈ zall := z_in2 (i := 39) rfl rfl
theorem q280 : Cond.code yX3_copyFrom cX3_copyFrom 2 none ∈ zall := z_in2 (i := 40) rfl rfl
theorem q281 : Cond.methodLink RL 103 yX6_keep ∈ zall := z_in2 (i := 41) rfl rfl
theorem q282 : Cond.instanceMethod yX6_keep ∈ zall := z_in2 (i := 42) rfl rfl
theorem q283 : Cond.selects RX6 yX6_keep yX6_keep ∈ zall := z_in2 (i := 43) rfl rfl
theorem q284 : Cond.code yX6_keep cX6_keep 1 (some .int) ∈ zall := z_in2 (i := 44) rfl rfl
theorem q285 : Cond.methodLink RL 89 yX6_restore ∈ zall := z_in2 (i := 45) rfl rfl
theorem q286 : Cond.instanceMethod yX6_restore ∈ zall := z_in2 (i := 46) rfl rfl
theorem q287 : Cond.selects RX6 yX6_restore yX6_restore ∈ zall := z_in2 (i := 47) rfl rfl
theorem q288 : Cond.code yX6_restore cX6_restore 1 (some .int) ∈ zall := z_in2 (i := 48) rfl rfl
theorem q289 : Cond.methodLink RX6 57 yX2_push ∈ zall := z_in2 (i := 49) rfl rfl
theorem q290 : Cond.instanceMethod yX2_push ∈ zall := z_in2 (i := 50) rfl rfl
theorem q291 : Cond.selects RX2 yX2_push yX2_push ∈ zall := z_in2 (i := 51) rfl rfl
theorem q292 : Cond.code yX2_push cX2_push 3 none ∈ zall := z_in2 (i := 52) rfl rfl
theorem q293 : Cond.methodLink RX2 29 yX1_copyFrom ∈ zall := z_in2 (i := 53) rfl rfl
theorem q294 : Cond.methodLink RL 19 yX6_count ∈ zall := z_in2 (i := 54) rfl rfl
theorem q295 : Cond.instanceMethod yX6_count ∈ zall := z_in2 (i := 55) rfl rfl
theorem q296 : Cond.selects RX6 yX6_count yX6_count ∈ zall := z_in2 (i := 56) rfl rfl
theorem q297 : Cond.code yX6_count cX6_count 2 (some .int) ∈ zall := z_in2 (i := 57) rfl rfl
theorem q298 : Cond.methodLink RX6 245 yX1_tenanciesIn ∈ zall := z_in2 (i := 58) rfl rfl
theorem q299 : Cond.instanceMethod yX1_tenanciesIn ∈ zall := z_in2 (i := 59) rfl rfl
theorem q300 : Cond.selects RX1 yX1_tenanciesIn yX1_tenanciesIn ∈ zall := z_in2 (i := 60) rfl rfl
theorem q301 : Cond.code yX1_tenanciesIn cX1_tenanciesIn 5 (some .int) ∈ zall := z_in2 (i := 61) rfl rfl
theorem q302 : Cond.methodLink RX6 248 yX6_closedSum ∈ zall := z_in2 (i := 62) rfl rfl
theorem q303 : Cond.privateMethod yX6_closedSum ∈ lw_tbl := z_t2 (i := 63) rfl
theorem q304 : Cond.instanceMethod yX6_closedSum ∈ zall := z_in2 (i := 64) rfl rfl
theorem q305 : Cond.code yX6_closedSum cX6_closedSum 5 (some .int) ∈ zall := z_in2 (i := 65) rfl rfl
theorem q306 : Cond.methodLink RX6 78 yX1_tenancyAt ∈ zall := z_in2 (i := 66) rfl rfl
theorem q307 : Cond.methodLink RX6 265 yX4_part ∈ zall := z_in2 (i := 67) rfl rfl
theorem q308 : Cond.instanceMethod yX4_part ∈ zall := z_in2 (i := 68) rfl rfl
theorem q309 : Cond.selects RX4 yX4_part yX4_part ∈ zall := z_in2 (i := 69) rfl rfl
theorem q310 : Cond.code yX4_part cX4_part 2 (some .int) ∈ zall := z_in2 (i := 70) rfl rfl
theorem q311 : Cond.methodLink RL 110 yL_cell ∈ zall := z_in2 (i := 71) rfl rfl
theorem q312 : Cond.static yL_cell ∈ zall := z_in2 (i := 72) rfl rfl
theorem q313 : Cond.code yL_cell cL_cell 2 (some .int) ∈ zall := z_in2 (i := 73) rfl rfl
theorem q314 : Cond.methodLink RL 106 yL_digest ∈ zall := z_in2 (i := 74) rfl rfl
theorem q315 : Cond.static yL_digest ∈ zall := z_in2 (i := 75) rfl rfl
theorem q316 : Cond.code yL_digest cL_digest 5 (some .long) ∈ zall := z_in2 (i := 76) rfl rfl
theorem q317 : Cond.constantLong RL 8 93 ∈ zall := z_in2 (i := 77) rfl rfl
theorem q318 : Cond.methodLink RL 10 yX6_rate ∈ zall := z_in2 (i := 78) rfl rfl
theorem q319 : Cond.instanceMethod yX6_rate ∈ zall := z_in2 (i := 79) rfl rfl
theorem q320 : Cond.selects RX6 yX6_rate yX6_rate ∈ zall := z_in2 (i := 80) rfl rfl
theorem q321 : Cond.code yX6_rate cX6_rate 1 (some .float) ∈ zall := z_in2 (i := 81) rfl rfl
theorem q322 : Cond.constantFloat RL 16 1315859240 ∈ zall := z_in2 (i := 82) rfl rfl
theorem q323 : Cond.constantLong RL 17 31 ∈ zall := z_in2 (i := 83) rfl rfl
theorem q324 : Cond.methodLink RL 23 yX6_tenancy ∈ zall := z_in2 (i := 84) rfl rfl
theorem q325 : Cond.instanceMethod yX6_tenancy ∈ zall := z_in2 (i := 85) rfl rfl
theorem q326 : Cond.selects RX6 yX6_tenancy yX6_tenancy ∈ zall := z_in2 (i := 86) rfl rfl
theorem q327 : Cond.code yX6_tenancy cX6_tenancy 4 (some .int) ∈ zall := z_in2 (i := 87) rfl rfl
theorem q328 : Cond.methodLink RX6 105 yX1_daysOf ∈ zall := z_in2 (i := 88) rfl rfl
theorem q329 : Cond.instanceMethod yX1_daysOf ∈ zall := z_in2 (i := 89) rfl rfl
theorem q330 : Cond.selects RX1 yX1_daysOf yX1_daysOf ∈ zall := z_in2 (i := 90) rfl rfl
theorem q331 : Cond.code yX1_daysOf cX1_daysOf 3 (some .int) ∈ zall := z_in2 (i := 91) rfl rfl
theorem q332 : Cond.methodLink RX6 188 yX1_interestOf ∈ zall := z_in2 (i := 92) rfl rfl
theorem q333 : Cond.instanceMethod yX1_interestOf ∈ zall := z_in2 (i := 93) rfl rfl
theorem q334 : Cond.selects RX1 yX1_interestOf yX1_interestOf ∈ zall := z_in2 (i := 94) rfl rfl
theorem q335 : Cond.code yX1_interestOf cX1_interestOf 3 (some .int) ∈ zall := z_in2 (i := 95) rfl rfl
theorem q336 : Cond.constantFloat RX1 104 1136033792 ∈ zall := z_in2 (i := 96) rfl rfl
theorem q337 : Cond.methodLink RX6 141 yX1_total ∈ zall := z_in2 (i := 97) rfl rfl
theorem q338 : Cond.instanceMethod yX1_total ∈ zall := z_in2 (i := 98) rfl rfl
theorem q339 : Cond.selects RX1 yX1_total yX1_total ∈ zall := z_in2 (i := 99) rfl rfl
theorem q340 : Cond.code yX1_total cX1_total 6 (some .int) ∈ zall := z_in2 (i := 100) rfl rfl
theorem q341 : Cond.methodLink RX1 105 yX1_shareOf ∈ zall := z_in2 (i := 101) rfl rfl
theorem q342 : Cond.instanceMethod yX1_shareOf ∈ zall := z_in2 (i := 102) rfl rfl
theorem q343 : Cond.selects RX1 yX1_shareOf yX1_shareOf ∈ zall := z_in2 (i := 103) rfl rfl
theorem q344 : Cond.code yX1_shareOf cX1_shareOf 4 (some .int) ∈ zall := z_in2 (i := 104) rfl rfl
theorem q345 : Cond.methodLink RX1 115 yX3_award ∈ zall := z_in2 (i := 105) rfl rfl
theorem q346 : Cond.instanceMethod yX3_award ∈ zall := z_in2 (i := 106) rfl rfl
theorem q347 : Cond.selects RX3 yX3_award yX3_award ∈ zall := z_in2 (i := 107) rfl rfl
theorem q348 : Cond.code yX3_award cX3_award 1 (some .int) ∈ zall := z_in2 (i := 108) rfl rfl
theorem q349 : Cond.methodLink RX3 69 yX3_landlordWeight ∈ zall := z_in2 (i := 109) rfl rfl
theorem q350 : Cond.instanceMethod yX3_landlordWeight ∈ zall := z_in2 (i := 110) rfl rfl
theorem q351 : Cond.selects RX3 yX3_landlordWeight yX3_landlordWeight ∈ zall := z_in2 (i := 111) rfl rfl
theorem q352 : Cond.code yX3_landlordWeight cX3_landlordWeight 2 (some .float) ∈ zall := z_in2 (i := 112) rfl rfl
theorem q353 : Cond.constantFloat RX3 73 1056964608 ∈ zall := z_in2 (i := 113) rfl rfl
theorem q354 : Cond.methodLink RL 27 yX6_outcome ∈ zall := z_in2 (i := 114) rfl rfl
theorem q355 : Cond.instanceMethod yX6_outcome ∈ zall := z_in2 (i := 115) rfl rfl
theorem q356 : Cond.selects RX6 yX6_outcome yX6_outcome ∈ zall := z_in2 (i := 116) rfl rfl
theorem q357 : Cond.code yX6_outcome cX6_outcome 4 (some .int) ∈ zall := z_in2 (i := 117) rfl rfl
theorem q358 : Cond.methodLink RX6 45 yX6_outside ∈ zall := z_in2 (i := 118) rfl rfl
theorem q359 : Cond.static yX6_outside ∈ zall := z_in2 (i := 119) rfl rfl
theorem q360 : Cond.code yX6_outside cX6_outside 3 (some .boolean) ∈ zall := z_in2 (i := 120) rfl rfl
theorem q361 : Cond.methodLink RX6 239 yX4_fact ∈ zall := z_in2 (i := 121) rfl rfl
theorem q362 : Cond.instanceMethod yX4_fact ∈ zall := z_in2 (i := 122) rfl rfl
theorem q363 : Cond.selects RX4 yX4_fact yX4_fact ∈ zall := z_in2 (i := 123) rfl rfl
theorem q364 : Cond.code yX4_fact cX4_fact 2 (some .int) ∈ zall := z_in2 (i := 124) rfl rfl
theorem q365 : Cond.methodLink RX6 184 yX1_settle ∈ zall := z_in2 (i := 125) rfl rfl
theorem q366 : Cond.instanceMethod yX1_settle ∈ zall := z_in2 (i := 126) rfl rfl
theorem q367 : Cond.selects RX1 yX1_settle yX1_settle ∈ zall := z_in2 (i := 127) rfl rfl
theorem q368 : Cond.code yX1_settle cX1_settle 7 none ∈ zall := z_in2 (i := 128) rfl rfl
theorem q369 : Cond.methodLink RX1 123 yX1_interestOf ∈ zall := z_in2 (i := 129) rfl rfl
theorem q370 : Cond.methodLink RX1 126 yX4_start ∈ zall := z_in2 (i := 130) rfl rfl
theorem q371 : Cond.instanceMethod yX4_start ∈ zall := z_in2 (i := 131) rfl rfl
theorem q372 : Cond.selects RX4 yX4_start yX4_start ∈ zall := z_in2 (i := 132) rfl rfl
theorem q373 : Cond.code yX4_start cX4_start 2 none ∈ zall := z_in2 (i := 133) rfl rfl
theorem q374 : Cond.methodLink RX1 119 yX1_total ∈ zall := z_in2 (i := 134) rfl rfl
theorem q375 : Cond.methodLink RX1 131 yX4_takeFee ∈ zall := z_in2 (i := 135) rfl rfl
theorem q376 : Cond.instanceMethod yX4_takeFee ∈ zall := z_in2 (i := 136) rfl rfl
theorem q377 : Cond.selects RX4 yX4_takeFee yX4_takeFee ∈ zall := z_in2 (i := 137) rfl rfl
theorem q378 : Cond.code yX4_takeFee cX4_takeFee 3 none ∈ zall := z_in2 (i := 138) rfl rfl
theorem q379 : Cond.methodLink RX4 28 yX4_take ∈ zall := z_in2 (i := 139) rfl rfl
theorem q380 : Cond.instanceMethod yX4_take ∈ zall := z_in2 (i := 140) rfl rfl
theorem q381 : Cond.selects RX4 yX4_take yX4_take ∈ zall := z_in2 (i := 141) rfl rfl
theorem q382 : Cond.code yX4_take cX4_take 3 (some .int) ∈ zall := z_in2 (i := 142) rfl rfl
theorem q383 : Cond.methodLink RX4 32 Lib.Math.min.name ∈ zall := z_in2 (i := 143) rfl rfl
theorem q384 : Cond.static Lib.Math.min.name ∈ zall := z_in2 (i := 144) rfl rfl
theorem q385 : Cond.code Lib.Math.min.name Lib.Math.min.code 2 (some .int) ∈ zall := z_in2 (i := 145) rfl rfl
theorem q386 : Cond.methodLink RX1 134 yX4_payLandlord ∈ zall := z_in2 (i := 146) rfl rfl
theorem q387 : Cond.instanceMethod yX4_payLandlord ∈ zall := z_in2 (i := 147) rfl rfl
theorem q388 : Cond.selects RX4 yX4_payLandlord yX4_payLandlord ∈ zall := z_in2 (i := 148) rfl rfl
theorem q389 : Cond.code yX4_payLandlord cX4_payLandlord 2 none ∈ zall := z_in2 (i := 149) rfl rfl
theorem q390 : Cond.methodLink RL 30 yX6_item ∈ zall := z_in2 (i := 150) rfl rfl
theorem q391 : Cond.instanceMethod yX6_item ∈ zall := z_in2 (i := 151) rfl rfl
theorem q392 : Cond.selects RX6 yX6_item yX6_item ∈ zall := z_in2 (i := 152) rfl rfl
theorem q393 : Cond.code yX6_item cX6_item 4 (some .int) ∈ zall := z_in2 (i := 153) rfl rfl
theorem q394 : Cond.methodLink RX6 109 yX1_itemAt ∈ zall := z_in2 (i := 154) rfl rfl
theorem q395 : Cond.methodLink RX6 122 yX1_daysOfItem ∈ zall := z_in2 (i := 155) rfl rfl
theorem q396 : Cond.instanceMethod yX1_daysOfItem ∈ zall := z_in2 (i := 156) rfl rfl
theorem q397 : Cond.selects RX1 yX1_daysOfItem yX1_daysOfItem ∈ zall := z_in2 (i := 157) rfl rfl
theorem q398 : Cond.code yX1_daysOfItem cX1_daysOfItem 3 (some .int) ∈ zall := z_in2 (i := 158) rfl rfl
theorem q399 : Cond.methodLink RX1 88 yX1_daysOf ∈ zall := z_in2 (i := 159) rfl rfl
theorem q400 : Cond.methodLink RX6 221 yX3_fairAfter ∈ zall := z_in2 (i := 160) rfl rfl
theorem q401 : Cond.instanceMethod yX3_fairAfter ∈ zall := z_in2 (i := 161) rfl rfl
theorem q402 : Cond.selects RX3 yX3_fairAfter yX3_fairAfter ∈ zall := z_in2 (i := 162) rfl rfl
theorem q403 : Cond.code yX3_fairAfter cX3_fairAfter 2 (some .int) ∈ zall := z_in2 (i := 163) rfl rfl
theorem q404 : Cond.methodLink RX3 45 Lib.Math.max.name ∈ zall := z_in2 (i := 164) rfl rfl
theorem q405 : Cond.static Lib.Math.max.name ∈ zall := z_in2 (i := 165) rfl rfl
theorem q406 : Cond.code Lib.Math.max.name Lib.Math.max.code 2 (some .int) ∈ zall := z_in2 (i := 166) rfl rfl
theorem q407 : Cond.methodLink RX6 224 yX6_conditionFact ∈ zall := z_in2 (i := 167) rfl rfl
theorem q408 : Cond.privateMethod yX6_conditionFact ∈ lw_tbl := z_t2 (i := 168) rfl
theorem q409 : Cond.instanceMethod yX6_conditionFact ∈ zall := z_in2 (i := 169) rfl rfl
theorem q410 : Cond.code yX6_conditionFact cX6_conditionFact 3 (some .int) ∈ zall := z_in2 (i := 170) rfl rfl
theorem q411 : Cond.methodLink RX6 113 yX1_stateOf ∈ zall := z_in2 (i := 171) rfl rfl
theorem q412 : Cond.instanceMethod yX1_stateOf ∈ zall := z_in2 (i := 172) rfl rfl
theorem q413 : Cond.selects RX1 yX1_stateOf yX1_stateOf ∈ zall := z_in2 (i := 173) rfl rfl
theorem q414 : Cond.code yX1_stateOf cX1_stateOf 3 (some .int) ∈ zall := z_in2 (i := 174) rfl rfl
theorem q415 : Cond.methodLink RX6 262 yX3_damageAfter ∈ zall := z_in2 (i := 175) rfl rfl
theorem q416 : Cond.instanceMethod yX3_damageAfter ∈ zall := z_in2 (i := 176) rfl rfl
theorem q417 : Cond.selects RX3 yX3_damageAfter yX3_damageAfter ∈ zall := z_in2 (i := 177) rfl rfl
theorem q418 : Cond.code yX3_damageAfter cX3_damageAfter 3 (some .int) ∈ zall := z_in2 (i := 178) rfl rfl
theorem q419 : Cond.methodLink RX3 55 yX3_fairAfter ∈ zall := z_in2 (i := 179) rfl rfl
theorem q420 : Cond.methodLink RX6 178 yX3_award ∈ zall := z_in2 (i := 180) rfl rfl
theorem q421 : Cond.methodLink RX6 228 yX3_ageAfter ∈ zall := z_in2 (i := 181) rfl rfl
theorem q422 : Cond.instanceMethod yX3_ageAfter ∈ zall := z_in2 (i := 182) rfl rfl
theorem q423 : Cond.selects RX3 yX3_ageAfter yX3_ageAfter ∈ zall := z_in2 (i := 183) rfl rfl
theorem q424 : Cond.code yX3_ageAfter cX3_ageAfter 2 (some .int) ∈ zall := z_in2 (i := 184) rfl rfl
theorem q425 : Cond.methodLink RL 33 yX6_weight ∈ zall := z_in2 (i := 185) rfl rfl
theorem q426 : Cond.instanceMethod yX6_weight ∈ zall := z_in2 (i := 186) rfl rfl
theorem q427 : Cond.selects RX6 yX6_weight yX6_weight ∈ zall := z_in2 (i := 187) rfl rfl
theorem q428 : Cond.code yX6_weight cX6_weight 3 (some .float) ∈ zall := z_in2 (i := 188) rfl rfl
theorem q429 : Cond.constantFloat RX6 231 2143289344 ∈ zall := z_in2 (i := 189) rfl rfl
theorem q430 : Cond.methodLink RX6 235 yX3_landlordWeight ∈ zall := z_in2 (i := 190) rfl rfl
theorem q431 : Cond.constantFloat RL 37 1232348160 ∈ zall := z_in2 (i := 191) rfl rfl
theorem q432 : Cond.methodLink RL 38 yX6_reason ∈ zall := z_in2 (i := 192) rfl rfl
theorem q433 : Cond.instanceMethod yX6_reason ∈ zall := z_in2 (i := 193) rfl rfl
theorem q434 : Cond.selects RX6 yX6_reason yX6_reason ∈ zall := z_in2 (i := 194) rfl rfl
theorem q435 : Cond.code yX6_reason cX6_reason 3 (some .int) ∈ zall := z_in2 (i := 195) rfl rfl
theorem q436 : Cond.methodLink RL 114 yL_act ∈ zall := z_in2 (i := 196) rfl rfl
theorem q437 : Cond.static yL_act ∈ zall := z_in2 (i := 197) rfl rfl
theorem q438 : Cond.code yL_act cL_act 5 (some .int) ∈ zall := z_in2 (i := 198) rfl rfl
theorem q439 : Cond.methodLink RL 41 yL_low ∈ zall := z_in2 (i := 199) rfl rfl
theorem q440 : Cond.static yL_low ∈ zall := z_in2 (i := 200) rfl rfl
theorem q441 : Cond.code yL_low cL_low 2 (some .int) ∈ zall := z_in2 (i := 201) rfl rfl
theorem q442 : Cond.constant RL 7 2147483647 ∈ zall := z_in2 (i := 202) rfl rfl
theorem q443 : Cond.constant RL 46 60000 ∈ zall := z_in2 (i := 203) rfl rfl
theorem q444 : Cond.methodLink RL 47 yX6_begin ∈ zall := z_in2 (i := 204) rfl rfl
theorem q445 : Cond.instanceMethod yX6_begin ∈ zall := z_in2 (i := 205) rfl rfl
theorem q446 : Cond.selects RX6 yX6_begin yX6_begin ∈ zall := z_in2 (i := 206) rfl rfl
theorem q447 : Cond.code yX6_begin cX6_begin 2 (some .int) ∈ zall := z_in2 (i := 207) rfl rfl
theorem q448 : Cond.constant RX6 70 1000000 ∈ zall := z_in2 (i := 208) rfl rfl
theorem q449 : Cond.methodLink RX6 74 yX1_addTenancy ∈ zall := z_in2 (i := 209) rfl rfl
theorem q450 : Cond.instanceMethod yX1_addTenancy ∈ zall := z_in2 (i := 210) rfl rfl
theorem q451 : Cond.selects RX1 yX1_addTenancy yX1_addTenancy ∈ zall := z_in2 (i := 211) rfl rfl
theorem q452 : Cond.code yX1_addTenancy cX1_addTenancy 4 (some .int) ∈ zall := z_in2 (i := 212) rfl rfl
theorem q453 : Cond.methodLink RX1 58 yX5_start ∈ zall := z_in2 (i := 213) rfl rfl
theorem q454 : Cond.instanceMethod yX5_start ∈ zall := z_in2 (i := 214) rfl rfl
theorem q455 : Cond.selects RX5 yX5_start yX5_start ∈ zall := z_in2 (i := 215) rfl rfl
theorem q456 : Cond.code yX5_start cX5_start 3 none ∈ zall := z_in2 (i := 216) rfl rfl
theorem q457 : Cond.methodLink RX5 37 yX4_start ∈ zall := z_in2 (i := 217) rfl rfl
theorem q458 : Cond.methodLink RL 50 yX6_addItem ∈ zall := z_in2 (i := 218) rfl rfl
theorem q459 : Cond.instanceMethod yX6_addItem ∈ zall := z_in2 (i := 219) rfl rfl
theorem q460 : Cond.selects RX6 yX6_addItem yX6_addItem ∈ zall := z_in2 (i := 220) rfl rfl
theorem q461 : Cond.code yX6_addItem cX6_addItem 7 (some .int) ∈ zall := z_in2 (i := 221) rfl rfl
theorem q462 : Cond.constant RX6 82 500000 ∈ zall := z_in2 (i := 222) rfl rfl
theorem q463 : Cond.methodLink RX6 94 yX1_newItem ∈ zall := z_in2 (i := 223) rfl rfl
theorem q464 : Cond.instanceMethod yX1_newItem ∈ zall := z_in2 (i := 224) rfl rfl
theorem q465 : Cond.selects RX1 yX1_newItem yX1_newItem ∈ zall := z_in2 (i := 225) rfl rfl
theorem q466 : Cond.code yX1_newItem cX1_newItem 8 (some .int) ∈ zall := z_in2 (i := 226) rfl rfl
theorem q467 : Cond.methodLink RX1 62 yX3_start ∈ zall := z_in2 (i := 227) rfl rfl
theorem q468 : Cond.instanceMethod yX3_start ∈ zall := z_in2 (i := 228) rfl rfl
theorem q469 : Cond.selects RX3 yX3_start yX3_start ∈ zall := z_in2 (i := 229) rfl rfl
theorem q470 : Cond.code yX3_start cX3_start 6 none ∈ zall := z_in2 (i := 230) rfl rfl
theorem q471 : Cond.methodLink RL 54 yX6_pass ∈ zall := z_in2 (i := 231) rfl rfl
theorem q472 : Cond.instanceMethod yX6_pass ∈ zall := z_in2 (i := 232) rfl rfl
theorem q473 : Cond.selects RX6 yX6_pass yX6_pass ∈ zall := z_in2 (i := 233) rfl rfl
theorem q474 : Cond.code yX6_pass cX6_pass 2 (some .int) ∈ zall := z_in2 (i := 234) rfl rfl
theorem q475 : Cond.constant RX6 69 99999 ∈ zall := z_in2 (i := 235) rfl rfl
theorem q476 : Cond.methodLink RL 57 yX6_end ∈ zall := z_in2 (i := 236) rfl rfl
theorem q477 : Cond.instanceMethod yX6_end ∈ zall := z_in2 (i := 237) rfl rfl
theorem q478 : Cond.selects RX6 yX6_end yX6_end ∈ zall := z_in2 (i := 238) rfl rfl
theorem q479 : Cond.code yX6_end cX6_end 3 (some .int) ∈ zall := z_in2 (i := 239) rfl rfl
theorem q480 : Cond.methodLink RX6 101 yX1_expectFairConditions ∈ zall := z_in3 (i := 0) rfl rfl
theorem q481 : Cond.instanceMethod yX1_expectFairConditions ∈ zall := z_in3 (i := 1) rfl rfl
theorem q482 : Cond.selects RX1 yX1_expectFairConditions yX1_expectFairConditions ∈ zall := z_in3 (i := 2) rfl rfl
theorem q483 : Cond.code yX1_expectFairConditions cX1_expectFairConditions 5 none ∈ zall := z_in3 (i := 3) rfl rfl
theorem q484 : Cond.methodLink RX1 68 yX1_daysOfItem ∈ zall := z_in3 (i := 4) rfl rfl
theorem q485 : Cond.methodLink RX1 72 yX3_fairAfter ∈ zall := z_in3 (i := 5) rfl rfl
theorem q486 : Cond.methodLink RX1 76 yX3_tellEnd ∈ zall := z_in3 (i := 6) rfl rfl
theorem q487 : Cond.instanceMethod yX3_tellEnd ∈ zall := z_in3 (i := 7) rfl rfl
theorem q488 : Cond.selects RX3 yX3_tellEnd yX3_tellEnd ∈ zall := z_in3 (i := 8) rfl rfl
theorem q489 : Cond.code yX3_tellEnd cX3_tellEnd 3 none ∈ zall := z_in3 (i := 9) rfl rfl
theorem q490 : Cond.methodLink RX3 66 yX3_dueAfter ∈ zall := z_in3 (i := 10) rfl rfl
theorem q491 : Cond.instanceMethod yX3_dueAfter ∈ zall := z_in3 (i := 11) rfl rfl
theorem q492 : Cond.selects RX3 yX3_dueAfter yX3_dueAfter ∈ zall := z_in3 (i := 12) rfl rfl
theorem q493 : Cond.code yX3_dueAfter cX3_dueAfter 4 (some .int) ∈ zall := z_in3 (i := 13) rfl rfl
theorem q494 : Cond.methodLink RX3 58 yX3_damageAfter ∈ zall := z_in3 (i := 14) rfl rfl
theorem q495 : Cond.constantFloat RX3 61 1120403456 ∈ zall := z_in3 (i := 15) rfl rfl
theorem q496 : Cond.methodLink RX3 62 yX3_restAfter ∈ zall := z_in3 (i := 16) rfl rfl
theorem q497 : Cond.instanceMethod yX3_restAfter ∈ zall := z_in3 (i := 17) rfl rfl
theorem q498 : Cond.selects RX3 yX3_restAfter yX3_restAfter ∈ zall := z_in3 (i := 18) rfl rfl
theorem q499 : Cond.code yX3_restAfter cX3_restAfter 3 (some .float) ∈ zall := z_in3 (i := 19) rfl rfl
theorem q500 : Cond.methodLink RX3 51 yX3_ageAfter ∈ zall := z_in3 (i := 20) rfl rfl
theorem q501 : Cond.methodLink RL 60 yX6_inspect ∈ zall := z_in3 (i := 21) rfl rfl
theorem q502 : Cond.instanceMethod yX6_inspect ∈ zall := z_in3 (i := 22) rfl rfl
theorem q503 : Cond.selects RX6 yX6_inspect yX6_inspect ∈ zall := z_in3 (i := 23) rfl rfl
theorem q504 : Cond.code yX6_inspect cX6_inspect 4 (some .int) ∈ zall := z_in3 (i := 24) rfl rfl
theorem q505 : Cond.methodLink RX6 125 yX3_tellEnd ∈ zall := z_in3 (i := 25) rfl rfl
theorem q506 : Cond.methodLink RL 63 yX6_claim ∈ zall := z_in3 (i := 26) rfl rfl
theorem q507 : Cond.instanceMethod yX6_claim ∈ zall := z_in3 (i := 27) rfl rfl
theorem q508 : Cond.selects RX6 yX6_claim yX6_claim ∈ zall := z_in3 (i := 28) rfl rfl
theorem q509 : Cond.code yX6_claim cX6_claim 5 (some .int) ∈ zall := z_in3 (i := 29) rfl rfl
theorem q510 : Cond.constant RL 66 90000 ∈ zall := z_in3 (i := 30) rfl rfl
theorem q511 : Cond.methodLink RL 67 yX6_claimRent ∈ zall := z_in3 (i := 31) rfl rfl
theorem q512 : Cond.instanceMethod yX6_claimRent ∈ zall := z_in3 (i := 32) rfl rfl
theorem q513 : Cond.selects RX6 yX6_claimRent yX6_claimRent ∈ zall := z_in3 (i := 33) rfl rfl
theorem q514 : Cond.code yX6_claimRent cX6_claimRent 5 (some .int) ∈ zall := z_in3 (i := 34) rfl rfl
theorem q515 : Cond.methodLink RL 70 yX6_put ∈ zall := z_in3 (i := 35) rfl rfl
theorem q516 : Cond.instanceMethod yX6_put ∈ zall := z_in3 (i := 36) rfl rfl
theorem q517 : Cond.selects RX6 yX6_put yX6_put ∈ zall := z_in3 (i := 37) rfl rfl
theorem q518 : Cond.code yX6_put cX6_put 3 (some .int) ∈ zall := z_in3 (i := 38) rfl rfl
theorem q519 : Cond.methodLink RL 73 yX6_answer ∈ zall := z_in3 (i := 39) rfl rfl
theorem q520 : Cond.instanceMethod yX6_answer ∈ zall := z_in3 (i := 40) rfl rfl
theorem q521 : Cond.selects RX6 yX6_answer yX6_answer ∈ zall := z_in3 (i := 41) rfl rfl
theorem q522 : Cond.code yX6_answer cX6_answer 6 (some .int) ∈ zall := z_in3 (i := 42) rfl rfl
theorem q523 : Cond.methodLink RX6 145 yX1_canBeAnswered ∈ zall := z_in3 (i := 43) rfl rfl
theorem q524 : Cond.instanceMethod yX1_canBeAnswered ∈ zall := z_in3 (i := 44) rfl rfl
theorem q525 : Cond.selects RX1 yX1_canBeAnswered yX1_canBeAnswered ∈ zall := z_in3 (i := 45) rfl rfl
theorem q526 : Cond.code yX1_canBeAnswered cX1_canBeAnswered 2 (some .boolean) ∈ zall := z_in3 (i := 46) rfl rfl
theorem q527 : Cond.methodLink RX1 92 yX1_stateOf ∈ zall := z_in3 (i := 47) rfl rfl
theorem q528 : Cond.methodLink RL 77 yX6_setEvidence ∈ zall := z_in3 (i := 48) rfl rfl
theorem q529 : Cond.instanceMethod yX6_setEvidence ∈ zall := z_in3 (i := 49) rfl rfl
theorem q530 : Cond.selects RX6 yX6_setEvidence yX6_setEvidence ∈ zall := z_in3 (i := 50) rfl rfl
theorem q531 : Cond.code yX6_setEvidence cX6_setEvidence 6 (some .int) ∈ zall := z_in3 (i := 51) rfl rfl
theorem q532 : Cond.constant RL 81 50002 ∈ zall := z_in3 (i := 52) rfl rfl
theorem q533 : Cond.methodLink RL 82 yX6_setFee ∈ zall := z_in3 (i := 53) rfl rfl
theorem q534 : Cond.instanceMethod yX6_setFee ∈ zall := z_in3 (i := 54) rfl rfl
theorem q535 : Cond.selects RX6 yX6_setFee yX6_setFee ∈ zall := z_in3 (i := 55) rfl rfl
theorem q536 : Cond.code yX6_setFee cX6_setFee 3 (some .int) ∈ zall := z_in3 (i := 56) rfl rfl
theorem q537 : Cond.constant RX6 61 50000 ∈ zall := z_in3 (i := 57) rfl rfl
theorem q538 : Cond.constant RL 85 1045220557 ∈ zall := z_in3 (i := 58) rfl rfl
theorem q539 : Cond.methodLink RL 86 yX6_setRate ∈ zall := z_in3 (i := 59) rfl rfl
theorem q540 : Cond.instanceMethod yX6_setRate ∈ zall := z_in3 (i := 60) rfl rfl
theorem q541 : Cond.selects RX6 yX6_setRate yX6_setRate ∈ zall := z_in3 (i := 61) rfl rfl
theorem q542 : Cond.code yX6_setRate cX6_setRate 3 (some .int) ∈ zall := z_in3 (i := 62) rfl rfl
theorem q543 : Cond.constant RX6 44 1045220557 ∈ zall := z_in3 (i := 63) rfl rfl
theorem q544 : Cond.methodLink RX6 49 yX6_floatOf ∈ zall := z_in3 (i := 64) rfl rfl
theorem q545 : Cond.static yX6_floatOf ∈ zall := z_in3 (i := 65) rfl rfl
theorem q546 : Cond.code yX6_floatOf cX6_floatOf 5 (some .float) ∈ zall := z_in3 (i := 66) rfl rfl
theorem q547 : Cond.constant RX6 251 8388607 ∈ zall := z_in3 (i := 67) rfl rfl
theorem q548 : Cond.constant RX6 252 8388608 ∈ zall := z_in3 (i := 68) rfl rfl
theorem q549 : Cond.methodLink RL 93 yX6_close ∈ zall := z_in3 (i := 69) rfl rfl
theorem q550 : Cond.instanceMethod yX6_close ∈ zall := z_in3 (i := 70) rfl rfl
theorem q551 : Cond.selects RX6 yX6_close yX6_close ∈ zall := z_in3 (i := 71) rfl rfl
theorem q552 : Cond.code yX6_close cX6_close 3 (some .int) ∈ zall := z_in3 (i := 72) rfl rfl
theorem q553 : Cond.methodLink RL 118 yL_holds ∈ zall := z_in3 (i := 73) rfl rfl
theorem q554 : Cond.static yL_holds ∈ zall := z_in3 (i := 74) rfl rfl
theorem q555 : Cond.code yL_holds cL_holds 12 (some .boolean) ∈ zall := z_in3 (i := 75) rfl rfl
theorem q556 : Cond.methodLink RL 96 yX6_rest ∈ zall := z_in3 (i := 76) rfl rfl
theorem q557 : Cond.instanceMethod yX6_rest ∈ zall := z_in3 (i := 77) rfl rfl
theorem q558 : Cond.selects RX6 yX6_rest yX6_rest ∈ zall := z_in3 (i := 78) rfl rfl
theorem q559 : Cond.code yX6_rest cX6_rest 3 (some .float) ∈ zall := z_in3 (i := 79) rfl rfl
theorem q560 : Cond.methodLink RX6 232 yX3_restAfter ∈ zall := z_in3 (i := 80) rfl rfl
theorem inX0 : ∀ w ∈ u_ws RX0 TX0 7, w ∈ zall := by
  show ∀ w ∈ [u_lay RX0 TX0 0, u_lay RX0 TX0 1, u_lay RX0 TX0 2, u_lay RX0 TX0 3, u_lay RX0 TX0 4, u_lay RX0 TX0 5, u_lay RX0 TX0 6], w ∈ zall
  exact List.forall_mem_cons.mpr ⟨q207, List.forall_mem_cons.mpr ⟨q209, List.forall_mem_cons.mpr ⟨q211, List.forall_mem_cons.mpr ⟨q213, List.forall_mem_cons.mpr ⟨q215, List.forall_mem_cons.mpr ⟨q217, List.forall_mem_cons.mpr ⟨q219, (fun _ h => absurd h List.not_mem_nil)⟩⟩⟩⟩⟩⟩⟩
theorem inX1 : ∀ w ∈ u_ws RX1 TX1 7, w ∈ zall := by
  show ∀ w ∈ [u_lay RX1 TX1 0, u_lay RX1 TX1 1, u_lay RX1 TX1 2, u_lay RX1 TX1 3, u_lay RX1 TX1 4, u_lay RX1 TX1 5, u_lay RX1 TX1 6], w ∈ zall
  exact List.forall_mem_cons.mpr ⟨q158, List.forall_mem_cons.mpr ⟨q160, List.forall_mem_cons.mpr ⟨q162, List.forall_mem_cons.mpr ⟨q164, List.forall_mem_cons.mpr ⟨q166, List.forall_mem_cons.mpr ⟨q168, List.forall_mem_cons.mpr ⟨q170, (fun _ h => absurd h List.not_mem_nil)⟩⟩⟩⟩⟩⟩⟩
theorem inX2 : ∀ w ∈ u_ws RX2 TX2 3, w ∈ zall := by
  show ∀ w ∈ [u_lay RX2 TX2 0, u_lay RX2 TX2 1, u_lay RX2 TX2 2], w ∈ zall
  exact List.forall_mem_cons.mpr ⟨q186, List.forall_mem_cons.mpr ⟨q188, List.forall_mem_cons.mpr ⟨q190, (fun _ h => absurd h List.not_mem_nil)⟩⟩⟩
theorem inX3 : ∀ w ∈ u_ws RX3 TX3 11, w ∈ zall := by
  show ∀ w ∈ [u_lay RX3 TX3 0, u_lay RX3 TX3 1, u_lay RX3 TX3 2, u_lay RX3 TX3 3, u_lay RX3 TX3 4, u_lay RX3 TX3 5, u_lay RX3 TX3 6, u_lay RX3 TX3 7, u_lay RX3 TX3 8, u_lay RX3 TX3 9, u_lay RX3 TX3 10], w ∈ zall
  exact List.forall_mem_cons.mpr ⟨q123, List.forall_mem_cons.mpr ⟨q125, List.forall_mem_cons.mpr ⟨q127, List.forall_mem_cons.mpr ⟨q129, List.forall_mem_cons.mpr ⟨q131, List.forall_mem_cons.mpr ⟨q133, List.forall_mem_cons.mpr ⟨q135, List.forall_mem_cons.mpr ⟨q137, List.forall_mem_cons.mpr ⟨q139, List.forall_mem_cons.mpr ⟨q141, List.forall_mem_cons.mpr ⟨q143, (fun _ h => absurd h List.not_mem_nil)⟩⟩⟩⟩⟩⟩⟩⟩⟩⟩⟩
theorem inX4 : ∀ w ∈ u_ws RX4 TX4 6, w ∈ zall := by
  show ∀ w ∈ [u_lay RX4 TX4 0, u_lay RX4 TX4 1, u_lay RX4 TX4 2, u_lay RX4 TX4 3, u_lay RX4 TX4 4, u_lay RX4 TX4 5], w ∈ zall
  exact List.forall_mem_cons.mpr ⟨q46, List.forall_mem_cons.mpr ⟨q48, List.forall_mem_cons.mpr ⟨q50, List.forall_mem_cons.mpr ⟨q52, List.forall_mem_cons.mpr ⟨q54, List.forall_mem_cons.mpr ⟨q56, (fun _ h => absurd h List.not_mem_nil)⟩⟩⟩⟩⟩⟩
theorem inX5 : ∀ w ∈ u_ws RX5 TX5 7, w ∈ zall := by
  show ∀ w ∈ [u_lay RX5 TX5 0, u_lay RX5 TX5 1, u_lay RX5 TX5 2, u_lay RX5 TX5 3, u_lay RX5 TX5 4, u_lay RX5 TX5 5, u_lay RX5 TX5 6], w ∈ zall
  exact List.forall_mem_cons.mpr ⟨q79, List.forall_mem_cons.mpr ⟨q81, List.forall_mem_cons.mpr ⟨q83, List.forall_mem_cons.mpr ⟨q85, List.forall_mem_cons.mpr ⟨q87, List.forall_mem_cons.mpr ⟨q89, List.forall_mem_cons.mpr ⟨q91, (fun _ h => absurd h List.not_mem_nil)⟩⟩⟩⟩⟩⟩⟩
theorem inX6 : ∀ w ∈ u_ws RX6 TX6 6, w ∈ zall := by
  show ∀ w ∈ [u_lay RX6 TX6 0, u_lay RX6 TX6 1, u_lay RX6 TX6 2, u_lay RX6 TX6 3, u_lay RX6 TX6 4, u_lay RX6 TX6 5], w ∈ zall
  exact List.forall_mem_cons.mpr ⟨q232, List.forall_mem_cons.mpr ⟨q234, List.forall_mem_cons.mpr ⟨q236, List.forall_mem_cons.mpr ⟨q238, List.forall_mem_cons.mpr ⟨q240, List.forall_mem_cons.mpr ⟨q242, (fun _ h => absurd h List.not_mem_nil)⟩⟩⟩⟩⟩⟩
theorem inX7 : ∀ w ∈ u_ws RX7 TX7 0, w ∈ zall := by
  show ∀ w ∈ [], w ∈ zall
  exact (fun _ h => absurd h List.not_mem_nil)
end
section
theorem dX0_init_0 : decode cX0_init 0 = .ok (.aload_n 0, 1) := by decide +kernel
theorem dX0_init_1 : decode cX0_init 1 = .ok (.invokespecial 3, 3) := by decide +kernel
theorem dX0_init_4 : decode cX0_init 4 = .ok (.aload_n 0, 1) := by decide +kernel
theorem dX0_init_5 : decode cX0_init 5 = .ok (.bipush 60, 2) := by decide +kernel
theorem dX0_init_7 : decode cX0_init 7 = .ok (.newarray .char, 2) := by decide +kernel
theorem dX0_init_9 : decode cX0_init 9 = .ok (.putfield 9, 3) := by decide +kernel
theorem dX0_init_12 : decode cX0_init 12 = .ok (.aload_n 0, 1) := by decide +kernel
theorem dX0_init_13 : decode cX0_init 13 = .ok (.iconst 0, 1) := by decide +kernel
theorem dX0_init_14 : decode cX0_init 14 = .ok (.putfield 15, 3) := by decide +kernel
theorem dX0_init_17 : decode cX0_init 17 = .ok (.aload_n 0, 1) := by decide +kernel
theorem dX0_init_18 : decode cX0_init 18 = .ok (.iconst 0, 1) := by decide +kernel
theorem dX0_init_19 : decode cX0_init 19 = .ok (.putfield 19, 3) := by decide +kernel
theorem dX0_init_22 : decode cX0_init 22 = .ok (.aload_n 0, 1) := by decide +kernel
theorem dX0_init_23 : decode cX0_init 23 = .ok (.iconst 0, 1) := by decide +kernel
theorem dX0_init_24 : decode cX0_init 24 = .ok (.putfield 22, 3) := by decide +kernel
theorem dX0_init_27 : decode cX0_init 27 = .ok (.aload_n 0, 1) := by decide +kernel
theorem dX0_init_28 : decode cX0_init 28 = .ok (.bipush 30, 2) := by decide +kernel
theorem dX0_init_30 : decode cX0_init 30 = .ok (.newarray .int, 2) := by decide +kernel
theorem dX0_init_32 : decode cX0_init 32 = .ok (.putfield 25, 3) := by decide +kernel
theorem dX0_init_35 : decode cX0_init 35 = .ok (.aload_n 0, 1) := by decide +kernel
theorem dX0_init_36 : decode cX0_init 36 = .ok (.bipush 30, 2) := by decide +kernel
theorem dX0_init_38 : decode cX0_init 38 = .ok (.newarray .int, 2) := by decide +kernel
theorem dX0_init_40 : decode cX0_init 40 = .ok (.putfield 29, 3) := by decide +kernel
theorem dX0_init_43 : decode cX0_init 43 = .ok (.aload_n 0, 1) := by decide +kernel
theorem dX0_init_44 : decode cX0_init 44 = .ok (.bipush 30, 2) := by decide +kernel
theorem dX0_init_46 : decode cX0_init 46 = .ok (.newarray .int, 2) := by decide +kernel
theorem dX0_init_48 : decode cX0_init 48 = .ok (.putfield 32, 3) := by decide +kernel
theorem dX0_init_51 : decode cX0_init 51 = .ok (.return_, 1) := by decide +kernel
theorem dX1_init_0 : decode cX1_init 0 = .ok (.aload_n 0, 1) := by decide +kernel
theorem dX1_init_1 : decode cX1_init 1 = .ok (.invokespecial 3, 3) := by decide +kernel
theorem dX1_init_4 : decode cX1_init 4 = .ok (.aload_n 0, 1) := by decide +kernel
theorem dX1_init_5 : decode cX1_init 5 = .ok (.iconst 0, 1) := by decide +kernel
theorem dX1_init_6 : decode cX1_init 6 = .ok (.putfield 9, 3) := by decide +kernel
theorem dX1_init_9 : decode cX1_init 9 = .ok (.aload_n 0, 1) := by decide +kernel
theorem dX1_init_10 : decode cX1_init 10 = .ok (.sipush 5000, 3) := by decide +kernel
theorem dX1_init_13 : decode cX1_init 13 = .ok (.putfield 15, 3) := by decide +kernel
theorem dX1_init_16 : decode cX1_init 16 = .ok (.aload_n 0, 1) := by decide +kernel
theorem dX1_init_17 : decode cX1_init 17 = .ok (.ldc 18, 2) := by decide +kernel
theorem dX1_init_19 : decode cX1_init 19 = .ok (.putfield 19, 3) := by decide +kernel
theorem dX1_init_22 : decode cX1_init 22 = .ok (.aload_n 0, 1) := by decide +kernel
theorem dX1_init_23 : decode cX1_init 23 = .ok (.iconst 0, 1) := by decide +kernel
theorem dX1_init_24 : decode cX1_init 24 = .ok (.putfield 23, 3) := by decide +kernel
theorem dX1_init_27 : decode cX1_init 27 = .ok (.aload_n 0, 1) := by decide +kernel
theorem dX1_init_28 : decode cX1_init 28 = .ok (.iconst 0, 1) := by decide +kernel
theorem dX1_init_29 : decode cX1_init 29 = .ok (.putfield 26, 3) := by decide +kernel
theorem dX1_init_32 : decode cX1_init 32 = .ok (.aload_n 0, 1) := by decide +kernel
theorem dX1_init_33 : decode cX1_init 33 = .ok (.bipush 6, 2) := by decide +kernel
theorem dX1_init_35 : decode cX1_init 35 = .ok (.anewarray 29, 3) := by decide +kernel
theorem dX1_init_38 : decode cX1_init 38 = .ok (.putfield 31, 3) := by decide +kernel
theorem dX1_init_41 : decode cX1_init 41 = .ok (.aload_n 0, 1) := by decide +kernel
theorem dX1_init_42 : decode cX1_init 42 = .ok (.bipush 24, 2) := by decide +kernel
theorem dX1_init_44 : decode cX1_init 44 = .ok (.anewarray 35, 3) := by decide +kernel
theorem dX1_init_47 : decode cX1_init 47 = .ok (.putfield 37, 3) := by decide +kernel
theorem dX1_init_50 : decode cX1_init 50 = .ok (.iconst 0, 1) := by decide +kernel
theorem dX1_init_51 : decode cX1_init 51 = .ok (.istore_n 1, 1) := by decide +kernel
theorem dX1_init_52 : decode cX1_init 52 = .ok (.iload_n 1, 1) := by decide +kernel
theorem dX1_init_53 : decode cX1_init 53 = .ok (.aload_n 0, 1) := by decide +kernel
theorem dX1_init_54 : decode cX1_init 54 = .ok (.getfield 31, 3) := by decide +kernel
theorem dX1_init_57 : decode cX1_init 57 = .ok (.arraylength, 1) := by decide +kernel
theorem dX1_init_58 : decode cX1_init 58 = .ok (.if_icmp .ge 22, 3) := by decide +kernel
theorem dX1_init_61 : decode cX1_init 61 = .ok (.aload_n 0, 1) := by decide +kernel
theorem dX1_init_62 : decode cX1_init 62 = .ok (.getfield 31, 3) := by decide +kernel
theorem dX1_init_65 : decode cX1_init 65 = .ok (.iload_n 1, 1) := by decide +kernel
theorem dX1_init_66 : decode cX1_init 66 = .ok (.new 29, 3) := by decide +kernel
theorem dX1_init_69 : decode cX1_init 69 = .ok (.dup, 1) := by decide +kernel
theorem dX1_init_70 : decode cX1_init 70 = .ok (.invokespecial 41, 3) := by decide +kernel
theorem dX1_init_73 : decode cX1_init 73 = .ok (.aastore, 1) := by decide +kernel
theorem dX1_init_74 : decode cX1_init 74 = .ok (.iinc 1 1, 3) := by decide +kernel
theorem dX1_init_77 : decode cX1_init 77 = .ok (.goto (-25), 3) := by decide +kernel
theorem dX1_init_80 : decode cX1_init 80 = .ok (.iconst 0, 1) := by decide +kernel
theorem dX1_init_81 : decode cX1_init 81 = .ok (.istore_n 1, 1) := by decide +kernel
theorem dX1_init_82 : decode cX1_init 82 = .ok (.iload_n 1, 1) := by decide +kernel
theorem dX1_init_83 : decode cX1_init 83 = .ok (.aload_n 0, 1) := by decide +kernel
theorem dX1_init_84 : decode cX1_init 84 = .ok (.getfield 37, 3) := by decide +kernel
theorem dX1_init_87 : decode cX1_init 87 = .ok (.arraylength, 1) := by decide +kernel
theorem dX1_init_88 : decode cX1_init 88 = .ok (.if_icmp .ge 22, 3) := by decide +kernel
theorem dX1_init_91 : decode cX1_init 91 = .ok (.aload_n 0, 1) := by decide +kernel
theorem dX1_init_92 : decode cX1_init 92 = .ok (.getfield 37, 3) := by decide +kernel
theorem dX1_init_95 : decode cX1_init 95 = .ok (.iload_n 1, 1) := by decide +kernel
theorem dX1_init_96 : decode cX1_init 96 = .ok (.new 35, 3) := by decide +kernel
theorem dX1_init_99 : decode cX1_init 99 = .ok (.dup, 1) := by decide +kernel
theorem dX1_init_100 : decode cX1_init 100 = .ok (.invokespecial 42, 3) := by decide +kernel
theorem dX1_init_103 : decode cX1_init 103 = .ok (.aastore, 1) := by decide +kernel
theorem dX1_init_104 : decode cX1_init 104 = .ok (.iinc 1 1, 3) := by decide +kernel
theorem dX1_init_107 : decode cX1_init 107 = .ok (.goto (-25), 3) := by decide +kernel
theorem dX1_init_110 : decode cX1_init 110 = .ok (.return_, 1) := by decide +kernel
theorem dX1_copyFrom_0 : decode cX1_copyFrom 0 = .ok (.aload_n 0, 1) := by decide +kernel
theorem dX1_copyFrom_1 : decode cX1_copyFrom 1 = .ok (.aload_n 1, 1) := by decide +kernel
theorem dX1_copyFrom_2 : decode cX1_copyFrom 2 = .ok (.getfield 9, 3) := by decide +kernel
theorem dX1_copyFrom_5 : decode cX1_copyFrom 5 = .ok (.putfield 9, 3) := by decide +kernel
theorem dX1_copyFrom_8 : decode cX1_copyFrom 8 = .ok (.aload_n 0, 1) := by decide +kernel
theorem dX1_copyFrom_9 : decode cX1_copyFrom 9 = .ok (.aload_n 1, 1) := by decide +kernel
theorem dX1_copyFrom_10 : decode cX1_copyFrom 10 = .ok (.getfield 15, 3) := by decide +kernel
theorem dX1_copyFrom_13 : decode cX1_copyFrom 13 = .ok (.putfield 15, 3) := by decide +kernel
theorem dX1_copyFrom_16 : decode cX1_copyFrom 16 = .ok (.aload_n 0, 1) := by decide +kernel
theorem dX1_copyFrom_17 : decode cX1_copyFrom 17 = .ok (.aload_n 1, 1) := by decide +kernel
theorem dX1_copyFrom_18 : decode cX1_copyFrom 18 = .ok (.getfield 19, 3) := by decide +kernel
theorem dX1_copyFrom_21 : decode cX1_copyFrom 21 = .ok (.putfield 19, 3) := by decide +kernel
theorem dX1_copyFrom_24 : decode cX1_copyFrom 24 = .ok (.aload_n 0, 1) := by decide +kernel
theorem dX1_copyFrom_25 : decode cX1_copyFrom 25 = .ok (.aload_n 1, 1) := by decide +kernel
theorem dX1_copyFrom_26 : decode cX1_copyFrom 26 = .ok (.getfield 23, 3) := by decide +kernel
theorem dX1_copyFrom_29 : decode cX1_copyFrom 29 = .ok (.putfield 23, 3) := by decide +kernel
theorem dX1_copyFrom_32 : decode cX1_copyFrom 32 = .ok (.aload_n 0, 1) := by decide +kernel
theorem dX1_copyFrom_33 : decode cX1_copyFrom 33 = .ok (.aload_n 1, 1) := by decide +kernel
theorem dX1_copyFrom_34 : decode cX1_copyFrom 34 = .ok (.getfield 26, 3) := by decide +kernel
theorem dX1_copyFrom_37 : decode cX1_copyFrom 37 = .ok (.putfield 26, 3) := by decide +kernel
theorem dX1_copyFrom_40 : decode cX1_copyFrom 40 = .ok (.iconst 0, 1) := by decide +kernel
theorem dX1_copyFrom_41 : decode cX1_copyFrom 41 = .ok (.istore_n 2, 1) := by decide +kernel
theorem dX1_copyFrom_42 : decode cX1_copyFrom 42 = .ok (.iload_n 2, 1) := by decide +kernel
theorem dX1_copyFrom_43 : decode cX1_copyFrom 43 = .ok (.aload_n 0, 1) := by decide +kernel
theorem dX1_copyFrom_44 : decode cX1_copyFrom 44 = .ok (.getfield 23, 3) := by decide +kernel
theorem dX1_copyFrom_47 : decode cX1_copyFrom 47 = .ok (.if_icmp .ge 37, 3) := by decide +kernel
theorem dX1_copyFrom_50 : decode cX1_copyFrom 50 = .ok (.aload_n 0, 1) := by decide +kernel
theorem dX1_copyFrom_51 : decode cX1_copyFrom 51 = .ok (.iload_n 2, 1) := by decide +kernel
theorem dX1_copyFrom_52 : decode cX1_copyFrom 52 = .ok (.invokevirtual 43, 3) := by decide +kernel
theorem dX1_copyFrom_55 : decode cX1_copyFrom 55 = .ok (.astore_n 3, 1) := by decide +kernel
theorem dX1_copyFrom_56 : decode cX1_copyFrom 56 = .ok (.aload_n 1, 1) := by decide +kernel
theorem dX1_copyFrom_57 : decode cX1_copyFrom 57 = .ok (.iload_n 2, 1) := by decide +kernel
theorem dX1_copyFrom_58 : decode cX1_copyFrom 58 = .ok (.invokevirtual 43, 3) := by decide +kernel
theorem dX1_copyFrom_61 : decode cX1_copyFrom 61 = .ok (.astore 4, 2) := by decide +kernel
theorem dX1_copyFrom_63 : decode cX1_copyFrom 63 = .ok (.aload_n 3, 1) := by decide +kernel
theorem dX1_copyFrom_64 : decode cX1_copyFrom 64 = .ok (.ifnull 14, 3) := by decide +kernel
theorem dX1_copyFrom_67 : decode cX1_copyFrom 67 = .ok (.aload 4, 2) := by decide +kernel
theorem dX1_copyFrom_69 : decode cX1_copyFrom 69 = .ok (.ifnull 9, 3) := by decide +kernel
theorem dX1_copyFrom_72 : decode cX1_copyFrom 72 = .ok (.aload_n 3, 1) := by decide +kernel
theorem dX1_copyFrom_73 : decode cX1_copyFrom 73 = .ok (.aload 4, 2) := by decide +kernel
theorem dX1_copyFrom_75 : decode cX1_copyFrom 75 = .ok (.invokevirtual 47, 3) := by decide +kernel
theorem dX1_copyFrom_78 : decode cX1_copyFrom 78 = .ok (.iinc 2 1, 3) := by decide +kernel
theorem dX1_copyFrom_81 : decode cX1_copyFrom 81 = .ok (.goto (-39), 3) := by decide +kernel
theorem dX1_copyFrom_84 : decode cX1_copyFrom 84 = .ok (.iconst 0, 1) := by decide +kernel
theorem dX1_copyFrom_85 : decode cX1_copyFrom 85 = .ok (.istore_n 2, 1) := by decide +kernel
theorem dX1_copyFrom_86 : decode cX1_copyFrom 86 = .ok (.iload_n 2, 1) := by decide +kernel
theorem dX1_copyFrom_87 : decode cX1_copyFrom 87 = .ok (.aload_n 0, 1) := by decide +kernel
theorem dX1_copyFrom_88 : decode cX1_copyFrom 88 = .ok (.getfield 26, 3) := by decide +kernel
theorem dX1_copyFrom_91 : decode cX1_copyFrom 91 = .ok (.if_icmp .ge 37, 3) := by decide +kernel
theorem dX1_copyFrom_94 : decode cX1_copyFrom 94 = .ok (.aload_n 0, 1) := by decide +kernel
theorem dX1_copyFrom_95 : decode cX1_copyFrom 95 = .ok (.iload_n 2, 1) := by decide +kernel
theorem dX1_copyFrom_96 : decode cX1_copyFrom 96 = .ok (.invokevirtual 51, 3) := by decide +kernel
theorem dX1_copyFrom_99 : decode cX1_copyFrom 99 = .ok (.astore_n 3, 1) := by decide +kernel
theorem dX1_copyFrom_100 : decode cX1_copyFrom 100 = .ok (.aload_n 1, 1) := by decide +kernel
theorem dX1_copyFrom_101 : decode cX1_copyFrom 101 = .ok (.iload_n 2, 1) := by decide +kernel
theorem dX1_copyFrom_102 : decode cX1_copyFrom 102 = .ok (.invokevirtual 51, 3) := by decide +kernel
theorem dX1_copyFrom_105 : decode cX1_copyFrom 105 = .ok (.astore 4, 2) := by decide +kernel
theorem dX1_copyFrom_107 : decode cX1_copyFrom 107 = .ok (.aload_n 3, 1) := by decide +kernel
theorem dX1_copyFrom_108 : decode cX1_copyFrom 108 = .ok (.ifnull 14, 3) := by decide +kernel
theorem dX1_copyFrom_111 : decode cX1_copyFrom 111 = .ok (.aload 4, 2) := by decide +kernel
theorem dX1_copyFrom_113 : decode cX1_copyFrom 113 = .ok (.ifnull 9, 3) := by decide +kernel
theorem dX1_copyFrom_116 : decode cX1_copyFrom 116 = .ok (.aload_n 3, 1) := by decide +kernel
theorem dX1_copyFrom_117 : decode cX1_copyFrom 117 = .ok (.aload 4, 2) := by decide +kernel
theorem dX1_copyFrom_119 : decode cX1_copyFrom 119 = .ok (.invokevirtual 55, 3) := by decide +kernel
theorem dX1_copyFrom_122 : decode cX1_copyFrom 122 = .ok (.iinc 2 1, 3) := by decide +kernel
theorem dX1_copyFrom_125 : decode cX1_copyFrom 125 = .ok (.goto (-39), 3) := by decide +kernel
theorem dX1_copyFrom_128 : decode cX1_copyFrom 128 = .ok (.return_, 1) := by decide +kernel
theorem dX1_tenancyAt_0 : decode cX1_tenancyAt 0 = .ok (.iload_n 1, 1) := by decide +kernel
theorem dX1_tenancyAt_1 : decode cX1_tenancyAt 1 = .ok (.ifCond .lt 20, 3) := by decide +kernel
theorem dX1_tenancyAt_4 : decode cX1_tenancyAt 4 = .ok (.iload_n 1, 1) := by decide +kernel
theorem dX1_tenancyAt_5 : decode cX1_tenancyAt 5 = .ok (.aload_n 0, 1) := by decide +kernel
theorem dX1_tenancyAt_6 : decode cX1_tenancyAt 6 = .ok (.getfield 23, 3) := by decide +kernel
theorem dX1_tenancyAt_9 : decode cX1_tenancyAt 9 = .ok (.if_icmp .ge 12, 3) := by decide +kernel
theorem dX1_tenancyAt_12 : decode cX1_tenancyAt 12 = .ok (.iload_n 1, 1) := by decide +kernel
theorem dX1_tenancyAt_13 : decode cX1_tenancyAt 13 = .ok (.aload_n 0, 1) := by decide +kernel
theorem dX1_tenancyAt_14 : decode cX1_tenancyAt 14 = .ok (.getfield 31, 3) := by decide +kernel
theorem dX1_tenancyAt_17 : decode cX1_tenancyAt 17 = .ok (.arraylength, 1) := by decide +kernel
theorem dX1_tenancyAt_18 : decode cX1_tenancyAt 18 = .ok (.if_icmp .lt 5, 3) := by decide +kernel
theorem dX1_tenancyAt_21 : decode cX1_tenancyAt 21 = .ok (.aconst_null, 1) := by decide +kernel
theorem dX1_tenancyAt_22 : decode cX1_tenancyAt 22 = .ok (.areturn, 1) := by decide +kernel
theorem dX1_tenancyAt_23 : decode cX1_tenancyAt 23 = .ok (.aload_n 0, 1) := by decide +kernel
theorem dX1_tenancyAt_24 : decode cX1_tenancyAt 24 = .ok (.getfield 31, 3) := by decide +kernel
theorem dX1_tenancyAt_27 : decode cX1_tenancyAt 27 = .ok (.iload_n 1, 1) := by decide +kernel
theorem dX1_tenancyAt_28 : decode cX1_tenancyAt 28 = .ok (.aaload, 1) := by decide +kernel
theorem dX1_tenancyAt_29 : decode cX1_tenancyAt 29 = .ok (.areturn, 1) := by decide +kernel
theorem dX1_itemAt_0 : decode cX1_itemAt 0 = .ok (.iload_n 1, 1) := by decide +kernel
theorem dX1_itemAt_1 : decode cX1_itemAt 1 = .ok (.ifCond .lt 20, 3) := by decide +kernel
theorem dX1_itemAt_4 : decode cX1_itemAt 4 = .ok (.iload_n 1, 1) := by decide +kernel
theorem dX1_itemAt_5 : decode cX1_itemAt 5 = .ok (.aload_n 0, 1) := by decide +kernel
theorem dX1_itemAt_6 : decode cX1_itemAt 6 = .ok (.getfield 26, 3) := by decide +kernel
theorem dX1_itemAt_9 : decode cX1_itemAt 9 = .ok (.if_icmp .ge 12, 3) := by decide +kernel
theorem dX1_itemAt_12 : decode cX1_itemAt 12 = .ok (.iload_n 1, 1) := by decide +kernel
theorem dX1_itemAt_13 : decode cX1_itemAt 13 = .ok (.aload_n 0, 1) := by decide +kernel
theorem dX1_itemAt_14 : decode cX1_itemAt 14 = .ok (.getfield 37, 3) := by decide +kernel
theorem dX1_itemAt_17 : decode cX1_itemAt 17 = .ok (.arraylength, 1) := by decide +kernel
theorem dX1_itemAt_18 : decode cX1_itemAt 18 = .ok (.if_icmp .lt 5, 3) := by decide +kernel
theorem dX1_itemAt_21 : decode cX1_itemAt 21 = .ok (.aconst_null, 1) := by decide +kernel
theorem dX1_itemAt_22 : decode cX1_itemAt 22 = .ok (.areturn, 1) := by decide +kernel
theorem dX1_itemAt_23 : decode cX1_itemAt 23 = .ok (.aload_n 0, 1) := by decide +kernel
theorem dX1_itemAt_24 : decode cX1_itemAt 24 = .ok (.getfield 37, 3) := by decide +kernel
theorem dX1_itemAt_27 : decode cX1_itemAt 27 = .ok (.iload_n 1, 1) := by decide +kernel
theorem dX1_itemAt_28 : decode cX1_itemAt 28 = .ok (.aaload, 1) := by decide +kernel
theorem dX1_itemAt_29 : decode cX1_itemAt 29 = .ok (.areturn, 1) := by decide +kernel
theorem dX1_addTenancy_0 : decode cX1_addTenancy 0 = .ok (.aload_n 0, 1) := by decide +kernel
theorem dX1_addTenancy_1 : decode cX1_addTenancy 1 = .ok (.getfield 23, 3) := by decide +kernel
theorem dX1_addTenancy_4 : decode cX1_addTenancy 4 = .ok (.istore_n 2, 1) := by decide +kernel
theorem dX1_addTenancy_5 : decode cX1_addTenancy 5 = .ok (.aload_n 0, 1) := by decide +kernel
theorem dX1_addTenancy_6 : decode cX1_addTenancy 6 = .ok (.dup, 1) := by decide +kernel
theorem dX1_addTenancy_7 : decode cX1_addTenancy 7 = .ok (.getfield 23, 3) := by decide +kernel
theorem dX1_addTenancy_10 : decode cX1_addTenancy 10 = .ok (.iconst 1, 1) := by decide +kernel
theorem dX1_addTenancy_11 : decode cX1_addTenancy 11 = .ok (.iadd, 1) := by decide +kernel
theorem dX1_addTenancy_12 : decode cX1_addTenancy 12 = .ok (.putfield 23, 3) := by decide +kernel
theorem dX1_addTenancy_15 : decode cX1_addTenancy 15 = .ok (.aload_n 0, 1) := by decide +kernel
theorem dX1_addTenancy_16 : decode cX1_addTenancy 16 = .ok (.iload_n 2, 1) := by decide +kernel
theorem dX1_addTenancy_17 : decode cX1_addTenancy 17 = .ok (.invokevirtual 43, 3) := by decide +kernel
theorem dX1_addTenancy_20 : decode cX1_addTenancy 20 = .ok (.astore_n 3, 1) := by decide +kernel
theorem dX1_addTenancy_21 : decode cX1_addTenancy 21 = .ok (.aload_n 3, 1) := by decide +kernel
theorem dX1_addTenancy_22 : decode cX1_addTenancy 22 = .ok (.ifnull 12, 3) := by decide +kernel
theorem dX1_addTenancy_25 : decode cX1_addTenancy 25 = .ok (.aload_n 3, 1) := by decide +kernel
theorem dX1_addTenancy_26 : decode cX1_addTenancy 26 = .ok (.iload_n 1, 1) := by decide +kernel
theorem dX1_addTenancy_27 : decode cX1_addTenancy 27 = .ok (.aload_n 0, 1) := by decide +kernel
theorem dX1_addTenancy_28 : decode cX1_addTenancy 28 = .ok (.getfield 9, 3) := by decide +kernel
theorem dX1_addTenancy_31 : decode cX1_addTenancy 31 = .ok (.invokevirtual 58, 3) := by decide +kernel
theorem dX1_addTenancy_34 : decode cX1_addTenancy 34 = .ok (.iload_n 2, 1) := by decide +kernel
theorem dX1_addTenancy_35 : decode cX1_addTenancy 35 = .ok (.ireturn, 1) := by decide +kernel
theorem dX1_newItem_0 : decode cX1_newItem 0 = .ok (.aload_n 0, 1) := by decide +kernel
theorem dX1_newItem_1 : decode cX1_newItem 1 = .ok (.getfield 26, 3) := by decide +kernel
theorem dX1_newItem_4 : decode cX1_newItem 4 = .ok (.istore 6, 2) := by decide +kernel
theorem dX1_newItem_6 : decode cX1_newItem 6 = .ok (.aload_n 0, 1) := by decide +kernel
theorem dX1_newItem_7 : decode cX1_newItem 7 = .ok (.dup, 1) := by decide +kernel
theorem dX1_newItem_8 : decode cX1_newItem 8 = .ok (.getfield 26, 3) := by decide +kernel
theorem dX1_newItem_11 : decode cX1_newItem 11 = .ok (.iconst 1, 1) := by decide +kernel
theorem dX1_newItem_12 : decode cX1_newItem 12 = .ok (.iadd, 1) := by decide +kernel
theorem dX1_newItem_13 : decode cX1_newItem 13 = .ok (.putfield 26, 3) := by decide +kernel
theorem dX1_newItem_16 : decode cX1_newItem 16 = .ok (.aload_n 0, 1) := by decide +kernel
theorem dX1_newItem_17 : decode cX1_newItem 17 = .ok (.iload 6, 2) := by decide +kernel
theorem dX1_newItem_19 : decode cX1_newItem 19 = .ok (.invokevirtual 51, 3) := by decide +kernel
theorem dX1_newItem_22 : decode cX1_newItem 22 = .ok (.astore 7, 2) := by decide +kernel
theorem dX1_newItem_24 : decode cX1_newItem 24 = .ok (.aload 7, 2) := by decide +kernel
theorem dX1_newItem_26 : decode cX1_newItem 26 = .ok (.ifnull 15, 3) := by decide +kernel
theorem dX1_newItem_29 : decode cX1_newItem 29 = .ok (.aload 7, 2) := by decide +kernel
theorem dX1_newItem_31 : decode cX1_newItem 31 = .ok (.iload_n 1, 1) := by decide +kernel
theorem dX1_newItem_32 : decode cX1_newItem 32 = .ok (.iload_n 2, 1) := by decide +kernel
theorem dX1_newItem_33 : decode cX1_newItem 33 = .ok (.iload_n 3, 1) := by decide +kernel
theorem dX1_newItem_34 : decode cX1_newItem 34 = .ok (.iload 4, 2) := by decide +kernel
theorem dX1_newItem_36 : decode cX1_newItem 36 = .ok (.iload 5, 2) := by decide +kernel
theorem dX1_newItem_38 : decode cX1_newItem 38 = .ok (.invokevirtual 62, 3) := by decide +kernel
theorem dX1_newItem_41 : decode cX1_newItem 41 = .ok (.iload 6, 2) := by decide +kernel
theorem dX1_newItem_43 : decode cX1_newItem 43 = .ok (.ireturn, 1) := by decide +kernel
theorem dX1_expectFairConditions_0 : decode cX1_expectFairConditions 0 = .ok (.iconst 0, 1) := by decide +kernel
theorem dX1_expectFairConditions_1 : decode cX1_expectFairConditions 1 = .ok (.istore_n 2, 1) := by decide +kernel
theorem dX1_expectFairConditions_2 : decode cX1_expectFairConditions 2 = .ok (.iload_n 2, 1) := by decide +kernel
theorem dX1_expectFairConditions_3 : decode cX1_expectFairConditions 3 = .ok (.aload_n 0, 1) := by decide +kernel
theorem dX1_expectFairConditions_4 : decode cX1_expectFairConditions 4 = .ok (.getfield 26, 3) := by decide +kernel
theorem dX1_expectFairConditions_7 : decode cX1_expectFairConditions 7 = .ok (.if_icmp .ge 46, 3) := by decide +kernel
theorem dX1_expectFairConditions_10 : decode cX1_expectFairConditions 10 = .ok (.aload_n 0, 1) := by decide +kernel
theorem dX1_expectFairConditions_11 : decode cX1_expectFairConditions 11 = .ok (.iload_n 2, 1) := by decide +kernel
theorem dX1_expectFairConditions_12 : decode cX1_expectFairConditions 12 = .ok (.invokevirtual 51, 3) := by decide +kernel
theorem dX1_expectFairConditions_15 : decode cX1_expectFairConditions 15 = .ok (.astore_n 3, 1) := by decide +kernel
theorem dX1_expectFairConditions_16 : decode cX1_expectFairConditions 16 = .ok (.aload_n 3, 1) := by decide +kernel
theorem dX1_expectFairConditions_17 : decode cX1_expectFairConditions 17 = .ok (.ifnull 30, 3) := by decide +kernel
theorem dX1_expectFairConditions_20 : decode cX1_expectFairConditions 20 = .ok (.aload_n 3, 1) := by decide +kernel
theorem dX1_expectFairConditions_21 : decode cX1_expectFairConditions 21 = .ok (.getfield 65, 3) := by decide +kernel
theorem dX1_expectFairConditions_24 : decode cX1_expectFairConditions 24 = .ok (.iload_n 1, 1) := by decide +kernel
theorem dX1_expectFairConditions_25 : decode cX1_expectFairConditions 25 = .ok (.if_icmp .ne 22, 3) := by decide +kernel
theorem dX1_expectFairConditions_28 : decode cX1_expectFairConditions 28 = .ok (.aload_n 0, 1) := by decide +kernel
theorem dX1_expectFairConditions_29 : decode cX1_expectFairConditions 29 = .ok (.aload_n 3, 1) := by decide +kernel
theorem dX1_expectFairConditions_30 : decode cX1_expectFairConditions 30 = .ok (.invokevirtual 68, 3) := by decide +kernel
theorem dX1_expectFairConditions_33 : decode cX1_expectFairConditions 33 = .ok (.istore 4, 2) := by decide +kernel
theorem dX1_expectFairConditions_35 : decode cX1_expectFairConditions 35 = .ok (.aload_n 3, 1) := by decide +kernel
theorem dX1_expectFairConditions_36 : decode cX1_expectFairConditions 36 = .ok (.iload 4, 2) := by decide +kernel
theorem dX1_expectFairConditions_38 : decode cX1_expectFairConditions 38 = .ok (.aload_n 3, 1) := by decide +kernel
theorem dX1_expectFairConditions_39 : decode cX1_expectFairConditions 39 = .ok (.iload 4, 2) := by decide +kernel
theorem dX1_expectFairConditions_41 : decode cX1_expectFairConditions 41 = .ok (.invokevirtual 72, 3) := by decide +kernel
theorem dX1_expectFairConditions_44 : decode cX1_expectFairConditions 44 = .ok (.invokevirtual 76, 3) := by decide +kernel
theorem dX1_expectFairConditions_47 : decode cX1_expectFairConditions 47 = .ok (.iinc 2 1, 3) := by decide +kernel
theorem dX1_expectFairConditions_50 : decode cX1_expectFairConditions 50 = .ok (.goto (-48), 3) := by decide +kernel
theorem dX1_expectFairConditions_53 : decode cX1_expectFairConditions 53 = .ok (.return_, 1) := by decide +kernel
theorem dX1_daysOf_0 : decode cX1_daysOf 0 = .ok (.aload_n 1, 1) := by decide +kernel
theorem dX1_daysOf_1 : decode cX1_daysOf 1 = .ok (.getfield 79, 3) := by decide +kernel
theorem dX1_daysOf_4 : decode cX1_daysOf 4 = .ok (.ifCond .ne 10, 3) := by decide +kernel
theorem dX1_daysOf_7 : decode cX1_daysOf 7 = .ok (.aload_n 0, 1) := by decide +kernel
theorem dX1_daysOf_8 : decode cX1_daysOf 8 = .ok (.getfield 9, 3) := by decide +kernel
theorem dX1_daysOf_11 : decode cX1_daysOf 11 = .ok (.goto 7, 3) := by decide +kernel
theorem dX1_daysOf_14 : decode cX1_daysOf 14 = .ok (.aload_n 1, 1) := by decide +kernel
theorem dX1_daysOf_15 : decode cX1_daysOf 15 = .ok (.getfield 82, 3) := by decide +kernel
theorem dX1_daysOf_18 : decode cX1_daysOf 18 = .ok (.istore_n 2, 1) := by decide +kernel
theorem dX1_daysOf_19 : decode cX1_daysOf 19 = .ok (.iload_n 2, 1) := by decide +kernel
theorem dX1_daysOf_20 : decode cX1_daysOf 20 = .ok (.aload_n 1, 1) := by decide +kernel
theorem dX1_daysOf_21 : decode cX1_daysOf 21 = .ok (.getfield 85, 3) := by decide +kernel
theorem dX1_daysOf_24 : decode cX1_daysOf 24 = .ok (.isub, 1) := by decide +kernel
theorem dX1_daysOf_25 : decode cX1_daysOf 25 = .ok (.ireturn, 1) := by decide +kernel
theorem dX1_daysOfItem_0 : decode cX1_daysOfItem 0 = .ok (.aload_n 0, 1) := by decide +kernel
theorem dX1_daysOfItem_1 : decode cX1_daysOfItem 1 = .ok (.aload_n 1, 1) := by decide +kernel
theorem dX1_daysOfItem_2 : decode cX1_daysOfItem 2 = .ok (.getfield 65, 3) := by decide +kernel
theorem dX1_daysOfItem_5 : decode cX1_daysOfItem 5 = .ok (.invokevirtual 43, 3) := by decide +kernel
theorem dX1_daysOfItem_8 : decode cX1_daysOfItem 8 = .ok (.astore_n 2, 1) := by decide +kernel
theorem dX1_daysOfItem_9 : decode cX1_daysOfItem 9 = .ok (.aload_n 2, 1) := by decide +kernel
theorem dX1_daysOfItem_10 : decode cX1_daysOfItem 10 = .ok (.ifnonnull 7, 3) := by decide +kernel
theorem dX1_daysOfItem_13 : decode cX1_daysOfItem 13 = .ok (.iconst 0, 1) := by decide +kernel
theorem dX1_daysOfItem_14 : decode cX1_daysOfItem 14 = .ok (.goto 8, 3) := by decide +kernel
theorem dX1_daysOfItem_17 : decode cX1_daysOfItem 17 = .ok (.aload_n 0, 1) := by decide +kernel
theorem dX1_daysOfItem_18 : decode cX1_daysOfItem 18 = .ok (.aload_n 2, 1) := by decide +kernel
theorem dX1_daysOfItem_19 : decode cX1_daysOfItem 19 = .ok (.invokevirtual 88, 3) := by decide +kernel
theorem dX1_daysOfItem_22 : decode cX1_daysOfItem 22 = .ok (.ireturn, 1) := by decide +kernel
theorem dX1_stateOf_0 : decode cX1_stateOf 0 = .ok (.aload_n 0, 1) := by decide +kernel
theorem dX1_stateOf_1 : decode cX1_stateOf 1 = .ok (.aload_n 1, 1) := by decide +kernel
theorem dX1_stateOf_2 : decode cX1_stateOf 2 = .ok (.getfield 65, 3) := by decide +kernel
theorem dX1_stateOf_5 : decode cX1_stateOf 5 = .ok (.invokevirtual 43, 3) := by decide +kernel
theorem dX1_stateOf_8 : decode cX1_stateOf 8 = .ok (.astore_n 2, 1) := by decide +kernel
theorem dX1_stateOf_9 : decode cX1_stateOf 9 = .ok (.aload_n 2, 1) := by decide +kernel
theorem dX1_stateOf_10 : decode cX1_stateOf 10 = .ok (.ifnonnull 7, 3) := by decide +kernel
theorem dX1_stateOf_13 : decode cX1_stateOf 13 = .ok (.iconst 0, 1) := by decide +kernel
theorem dX1_stateOf_14 : decode cX1_stateOf 14 = .ok (.goto 7, 3) := by decide +kernel
theorem dX1_stateOf_17 : decode cX1_stateOf 17 = .ok (.aload_n 2, 1) := by decide +kernel
theorem dX1_stateOf_18 : decode cX1_stateOf 18 = .ok (.getfield 79, 3) := by decide +kernel
theorem dX1_stateOf_21 : decode cX1_stateOf 21 = .ok (.ireturn, 1) := by decide +kernel
theorem dX1_canBeAnswered_0 : decode cX1_canBeAnswered 0 = .ok (.aload_n 0, 1) := by decide +kernel
theorem dX1_canBeAnswered_1 : decode cX1_canBeAnswered 1 = .ok (.aload_n 1, 1) := by decide +kernel
theorem dX1_canBeAnswered_2 : decode cX1_canBeAnswered 2 = .ok (.invokevirtual 92, 3) := by decide +kernel
theorem dX1_canBeAnswered_5 : decode cX1_canBeAnswered 5 = .ok (.iconst 2, 1) := by decide +kernel
theorem dX1_canBeAnswered_6 : decode cX1_canBeAnswered 6 = .ok (.if_icmp .ne 14, 3) := by decide +kernel
theorem dX1_canBeAnswered_9 : decode cX1_canBeAnswered 9 = .ok (.aload_n 1, 1) := by decide +kernel
theorem dX1_canBeAnswered_10 : decode cX1_canBeAnswered 10 = .ok (.getfield 95, 3) := by decide +kernel
theorem dX1_canBeAnswered_13 : decode cX1_canBeAnswered 13 = .ok (.ifCond .le 7, 3) := by decide +kernel
theorem dX1_canBeAnswered_16 : decode cX1_canBeAnswered 16 = .ok (.iconst 1, 1) := by decide +kernel
theorem dX1_canBeAnswered_17 : decode cX1_canBeAnswered 17 = .ok (.goto 4, 3) := by decide +kernel
theorem dX1_canBeAnswered_20 : decode cX1_canBeAnswered 20 = .ok (.iconst 0, 1) := by decide +kernel
theorem dX1_canBeAnswered_21 : decode cX1_canBeAnswered 21 = .ok (.ireturn, 1) := by decide +kernel
theorem dX1_interestOf_0 : decode cX1_interestOf 0 = .ok (.aload_n 1, 1) := by decide +kernel
theorem dX1_interestOf_1 : decode cX1_interestOf 1 = .ok (.getfield 79, 3) := by decide +kernel
theorem dX1_interestOf_4 : decode cX1_interestOf 4 = .ok (.iconst 3, 1) := by decide +kernel
theorem dX1_interestOf_5 : decode cX1_interestOf 5 = .ok (.if_icmp .ne 8, 3) := by decide +kernel
theorem dX1_interestOf_8 : decode cX1_interestOf 8 = .ok (.aload_n 1, 1) := by decide +kernel
theorem dX1_interestOf_9 : decode cX1_interestOf 9 = .ok (.getfield 98, 3) := by decide +kernel
theorem dX1_interestOf_12 : decode cX1_interestOf 12 = .ok (.ireturn, 1) := by decide +kernel
theorem dX1_interestOf_13 : decode cX1_interestOf 13 = .ok (.aload_n 0, 1) := by decide +kernel
theorem dX1_interestOf_14 : decode cX1_interestOf 14 = .ok (.getfield 9, 3) := by decide +kernel
theorem dX1_interestOf_17 : decode cX1_interestOf 17 = .ok (.aload_n 1, 1) := by decide +kernel
theorem dX1_interestOf_18 : decode cX1_interestOf 18 = .ok (.getfield 85, 3) := by decide +kernel
theorem dX1_interestOf_21 : decode cX1_interestOf 21 = .ok (.isub, 1) := by decide +kernel
theorem dX1_interestOf_22 : decode cX1_interestOf 22 = .ok (.istore_n 2, 1) := by decide +kernel
theorem dX1_interestOf_23 : decode cX1_interestOf 23 = .ok (.aload_n 1, 1) := by decide +kernel
theorem dX1_interestOf_24 : decode cX1_interestOf 24 = .ok (.getfield 101, 3) := by decide +kernel
theorem dX1_interestOf_27 : decode cX1_interestOf 27 = .ok (.i2f, 1) := by decide +kernel
theorem dX1_interestOf_28 : decode cX1_interestOf 28 = .ok (.aload_n 0, 1) := by decide +kernel
theorem dX1_interestOf_29 : decode cX1_interestOf 29 = .ok (.getfield 19, 3) := by decide +kernel
theorem dX1_interestOf_32 : decode cX1_interestOf 32 = .ok (.fmul, 1) := by decide +kernel
theorem dX1_interestOf_33 : decode cX1_interestOf 33 = .ok (.iload_n 2, 1) := by decide +kernel
theorem dX1_interestOf_34 : decode cX1_interestOf 34 = .ok (.i2f, 1) := by decide +kernel
theorem dX1_interestOf_35 : decode cX1_interestOf 35 = .ok (.fmul, 1) := by decide +kernel
theorem dX1_interestOf_36 : decode cX1_interestOf 36 = .ok (.ldc 104, 2) := by decide +kernel
theorem dX1_interestOf_38 : decode cX1_interestOf 38 = .ok (.fdiv, 1) := by decide +kernel
theorem dX1_interestOf_39 : decode cX1_interestOf 39 = .ok (.f2i, 1) := by decide +kernel
theorem dX1_interestOf_40 : decode cX1_interestOf 40 = .ok (.ireturn, 1) := by decide +kernel
theorem dX1_total_0 : decode cX1_total 0 = .ok (.iconst 0, 1) := by decide +kernel
theorem dX1_total_1 : decode cX1_total 1 = .ok (.istore_n 3, 1) := by decide +kernel
theorem dX1_total_2 : decode cX1_total 2 = .ok (.iconst 0, 1) := by decide +kernel
theorem dX1_total_3 : decode cX1_total 3 = .ok (.istore 4, 2) := by decide +kernel
theorem dX1_total_5 : decode cX1_total 5 = .ok (.iload 4, 2) := by decide +kernel
theorem dX1_total_7 : decode cX1_total 7 = .ok (.aload_n 0, 1) := by decide +kernel
theorem dX1_total_8 : decode cX1_total 8 = .ok (.getfield 26, 3) := by decide +kernel
theorem dX1_total_11 : decode cX1_total 11 = .ok (.if_icmp .ge 41, 3) := by decide +kernel
theorem dX1_total_14 : decode cX1_total 14 = .ok (.aload_n 0, 1) := by decide +kernel
theorem dX1_total_15 : decode cX1_total 15 = .ok (.iload 4, 2) := by decide +kernel
theorem dX1_total_17 : decode cX1_total 17 = .ok (.invokevirtual 51, 3) := by decide +kernel
theorem dX1_total_20 : decode cX1_total 20 = .ok (.astore 5, 2) := by decide +kernel
theorem dX1_total_22 : decode cX1_total 22 = .ok (.aload 5, 2) := by decide +kernel
theorem dX1_total_24 : decode cX1_total 24 = .ok (.ifnull 22, 3) := by decide +kernel
theorem dX1_total_27 : decode cX1_total 27 = .ok (.aload 5, 2) := by decide +kernel
theorem dX1_total_29 : decode cX1_total 29 = .ok (.getfield 65, 3) := by decide +kernel
theorem dX1_total_32 : decode cX1_total 32 = .ok (.iload_n 1, 1) := by decide +kernel
theorem dX1_total_33 : decode cX1_total 33 = .ok (.if_icmp .ne 13, 3) := by decide +kernel
theorem dX1_total_36 : decode cX1_total 36 = .ok (.iload_n 3, 1) := by decide +kernel
theorem dX1_total_37 : decode cX1_total 37 = .ok (.aload_n 0, 1) := by decide +kernel
theorem dX1_total_38 : decode cX1_total 38 = .ok (.aload 5, 2) := by decide +kernel
theorem dX1_total_40 : decode cX1_total 40 = .ok (.iload_n 2, 1) := by decide +kernel
theorem dX1_total_41 : decode cX1_total 41 = .ok (.invokevirtual 105, 3) := by decide +kernel
theorem dX1_total_44 : decode cX1_total 44 = .ok (.iadd, 1) := by decide +kernel
theorem dX1_total_45 : decode cX1_total 45 = .ok (.istore_n 3, 1) := by decide +kernel
theorem dX1_total_46 : decode cX1_total 46 = .ok (.iinc 4 1, 3) := by decide +kernel
theorem dX1_total_49 : decode cX1_total 49 = .ok (.goto (-44), 3) := by decide +kernel
theorem dX1_total_52 : decode cX1_total 52 = .ok (.iload_n 3, 1) := by decide +kernel
theorem dX1_total_53 : decode cX1_total 53 = .ok (.ireturn, 1) := by decide +kernel
theorem dX1_shareOf_0 : decode cX1_shareOf 0 = .ok (.aload_n 1, 1) := by decide +kernel
theorem dX1_shareOf_1 : decode cX1_shareOf 1 = .ok (.getfield 109, 3) := by decide +kernel
theorem dX1_shareOf_4 : decode cX1_shareOf 4 = .ok (.iconst 2, 1) := by decide +kernel
theorem dX1_shareOf_5 : decode cX1_shareOf 5 = .ok (.if_icmp .ne 7, 3) := by decide +kernel
theorem dX1_shareOf_8 : decode cX1_shareOf 8 = .ok (.iconst 1, 1) := by decide +kernel
theorem dX1_shareOf_9 : decode cX1_shareOf 9 = .ok (.goto 4, 3) := by decide +kernel
theorem dX1_shareOf_12 : decode cX1_shareOf 12 = .ok (.iconst 0, 1) := by decide +kernel
theorem dX1_shareOf_13 : decode cX1_shareOf 13 = .ok (.istore_n 3, 1) := by decide +kernel
theorem dX1_shareOf_14 : decode cX1_shareOf 14 = .ok (.iload_n 2, 1) := by decide +kernel
theorem dX1_shareOf_15 : decode cX1_shareOf 15 = .ok (.tableswitch 102 0 6 #[41, 43, 56, 61, 66, 76, 89], 41) := by decide +kernel
theorem dX1_shareOf_56 : decode cX1_shareOf 56 = .ok (.iconst 1, 1) := by decide +kernel
theorem dX1_shareOf_57 : decode cX1_shareOf 57 = .ok (.ireturn, 1) := by decide +kernel
theorem dX1_shareOf_58 : decode cX1_shareOf 58 = .ok (.aload_n 1, 1) := by decide +kernel
theorem dX1_shareOf_59 : decode cX1_shareOf 59 = .ok (.getfield 95, 3) := by decide +kernel
theorem dX1_shareOf_62 : decode cX1_shareOf 62 = .ok (.ifCond .le 7, 3) := by decide +kernel
theorem dX1_shareOf_65 : decode cX1_shareOf 65 = .ok (.iconst 1, 1) := by decide +kernel
theorem dX1_shareOf_66 : decode cX1_shareOf 66 = .ok (.goto 4, 3) := by decide +kernel
theorem dX1_shareOf_69 : decode cX1_shareOf 69 = .ok (.iconst 0, 1) := by decide +kernel
theorem dX1_shareOf_70 : decode cX1_shareOf 70 = .ok (.ireturn, 1) := by decide +kernel
theorem dX1_shareOf_71 : decode cX1_shareOf 71 = .ok (.aload_n 1, 1) := by decide +kernel
theorem dX1_shareOf_72 : decode cX1_shareOf 72 = .ok (.getfield 95, 3) := by decide +kernel
theorem dX1_shareOf_75 : decode cX1_shareOf 75 = .ok (.ireturn, 1) := by decide +kernel
theorem dX1_shareOf_76 : decode cX1_shareOf 76 = .ok (.aload_n 1, 1) := by decide +kernel
theorem dX1_shareOf_77 : decode cX1_shareOf 77 = .ok (.getfield 112, 3) := by decide +kernel
theorem dX1_shareOf_80 : decode cX1_shareOf 80 = .ok (.ireturn, 1) := by decide +kernel
theorem dX1_shareOf_81 : decode cX1_shareOf 81 = .ok (.iload_n 3, 1) := by decide +kernel
theorem dX1_shareOf_82 : decode cX1_shareOf 82 = .ok (.ifCond .eq 7, 3) := by decide +kernel
theorem dX1_shareOf_85 : decode cX1_shareOf 85 = .ok (.iconst 1, 1) := by decide +kernel
theorem dX1_shareOf_86 : decode cX1_shareOf 86 = .ok (.goto 4, 3) := by decide +kernel
theorem dX1_shareOf_89 : decode cX1_shareOf 89 = .ok (.iconst 0, 1) := by decide +kernel
theorem dX1_shareOf_90 : decode cX1_shareOf 90 = .ok (.ireturn, 1) := by decide +kernel
theorem dX1_shareOf_91 : decode cX1_shareOf 91 = .ok (.iload_n 3, 1) := by decide +kernel
theorem dX1_shareOf_92 : decode cX1_shareOf 92 = .ok (.ifCond .eq 10, 3) := by decide +kernel
theorem dX1_shareOf_95 : decode cX1_shareOf 95 = .ok (.aload_n 1, 1) := by decide +kernel
theorem dX1_shareOf_96 : decode cX1_shareOf 96 = .ok (.getfield 95, 3) := by decide +kernel
theorem dX1_shareOf_99 : decode cX1_shareOf 99 = .ok (.goto 4, 3) := by decide +kernel
theorem dX1_shareOf_102 : decode cX1_shareOf 102 = .ok (.iconst 0, 1) := by decide +kernel
theorem dX1_shareOf_103 : decode cX1_shareOf 103 = .ok (.ireturn, 1) := by decide +kernel
theorem dX1_shareOf_104 : decode cX1_shareOf 104 = .ok (.iload_n 3, 1) := by decide +kernel
theorem dX1_shareOf_105 : decode cX1_shareOf 105 = .ok (.ifCond .eq 10, 3) := by decide +kernel
theorem dX1_shareOf_108 : decode cX1_shareOf 108 = .ok (.aload_n 1, 1) := by decide +kernel
theorem dX1_shareOf_109 : decode cX1_shareOf 109 = .ok (.invokevirtual 115, 3) := by decide +kernel
theorem dX1_shareOf_112 : decode cX1_shareOf 112 = .ok (.goto 4, 3) := by decide +kernel
theorem dX1_shareOf_115 : decode cX1_shareOf 115 = .ok (.iconst 0, 1) := by decide +kernel
theorem dX1_shareOf_116 : decode cX1_shareOf 116 = .ok (.ireturn, 1) := by decide +kernel
theorem dX1_shareOf_117 : decode cX1_shareOf 117 = .ok (.iconst 0, 1) := by decide +kernel
theorem dX1_shareOf_118 : decode cX1_shareOf 118 = .ok (.ireturn, 1) := by decide +kernel
theorem dX1_tenanciesIn_0 : decode cX1_tenanciesIn 0 = .ok (.iconst 0, 1) := by decide +kernel
theorem dX1_tenanciesIn_1 : decode cX1_tenanciesIn 1 = .ok (.istore_n 2, 1) := by decide +kernel
theorem dX1_tenanciesIn_2 : decode cX1_tenanciesIn 2 = .ok (.iconst 0, 1) := by decide +kernel
theorem dX1_tenanciesIn_3 : decode cX1_tenanciesIn 3 = .ok (.istore_n 3, 1) := by decide +kernel
theorem dX1_tenanciesIn_4 : decode cX1_tenanciesIn 4 = .ok (.iload_n 3, 1) := by decide +kernel
theorem dX1_tenanciesIn_5 : decode cX1_tenanciesIn 5 = .ok (.aload_n 0, 1) := by decide +kernel
theorem dX1_tenanciesIn_6 : decode cX1_tenanciesIn 6 = .ok (.getfield 23, 3) := by decide +kernel
theorem dX1_tenanciesIn_9 : decode cX1_tenanciesIn 9 = .ok (.if_icmp .ge 33, 3) := by decide +kernel
theorem dX1_tenanciesIn_12 : decode cX1_tenanciesIn 12 = .ok (.aload_n 0, 1) := by decide +kernel
theorem dX1_tenanciesIn_13 : decode cX1_tenanciesIn 13 = .ok (.iload_n 3, 1) := by decide +kernel
theorem dX1_tenanciesIn_14 : decode cX1_tenanciesIn 14 = .ok (.invokevirtual 43, 3) := by decide +kernel
theorem dX1_tenanciesIn_17 : decode cX1_tenanciesIn 17 = .ok (.astore 4, 2) := by decide +kernel
theorem dX1_tenanciesIn_19 : decode cX1_tenanciesIn 19 = .ok (.aload 4, 2) := by decide +kernel
theorem dX1_tenanciesIn_21 : decode cX1_tenanciesIn 21 = .ok (.ifnull 15, 3) := by decide +kernel
theorem dX1_tenanciesIn_24 : decode cX1_tenanciesIn 24 = .ok (.aload 4, 2) := by decide +kernel
theorem dX1_tenanciesIn_26 : decode cX1_tenanciesIn 26 = .ok (.getfield 79, 3) := by decide +kernel
theorem dX1_tenanciesIn_29 : decode cX1_tenanciesIn 29 = .ok (.iload_n 1, 1) := by decide +kernel
theorem dX1_tenanciesIn_30 : decode cX1_tenanciesIn 30 = .ok (.if_icmp .ne 6, 3) := by decide +kernel
theorem dX1_tenanciesIn_33 : decode cX1_tenanciesIn 33 = .ok (.iinc 2 1, 3) := by decide +kernel
theorem dX1_tenanciesIn_36 : decode cX1_tenanciesIn 36 = .ok (.iinc 3 1, 3) := by decide +kernel
theorem dX1_tenanciesIn_39 : decode cX1_tenanciesIn 39 = .ok (.goto (-35), 3) := by decide +kernel
theorem dX1_tenanciesIn_42 : decode cX1_tenanciesIn 42 = .ok (.iload_n 2, 1) := by decide +kernel
theorem dX1_tenanciesIn_43 : decode cX1_tenanciesIn 43 = .ok (.ireturn, 1) := by decide +kernel
theorem dX1_settle_0 : decode cX1_settle 0 = .ok (.aload_n 3, 1) := by decide +kernel
theorem dX1_settle_1 : decode cX1_settle 1 = .ok (.aload_n 2, 1) := by decide +kernel
theorem dX1_settle_2 : decode cX1_settle 2 = .ok (.getfield 101, 3) := by decide +kernel
theorem dX1_settle_5 : decode cX1_settle 5 = .ok (.aload_n 0, 1) := by decide +kernel
theorem dX1_settle_6 : decode cX1_settle 6 = .ok (.aload_n 2, 1) := by decide +kernel
theorem dX1_settle_7 : decode cX1_settle 7 = .ok (.invokevirtual 123, 3) := by decide +kernel
theorem dX1_settle_10 : decode cX1_settle 10 = .ok (.iadd, 1) := by decide +kernel
theorem dX1_settle_11 : decode cX1_settle 11 = .ok (.invokevirtual 126, 3) := by decide +kernel
theorem dX1_settle_14 : decode cX1_settle 14 = .ok (.aload_n 0, 1) := by decide +kernel
theorem dX1_settle_15 : decode cX1_settle 15 = .ok (.iload_n 1, 1) := by decide +kernel
theorem dX1_settle_16 : decode cX1_settle 16 = .ok (.iconst 5, 1) := by decide +kernel
theorem dX1_settle_17 : decode cX1_settle 17 = .ok (.invokevirtual 119, 3) := by decide +kernel
theorem dX1_settle_20 : decode cX1_settle 20 = .ok (.istore 4, 2) := by decide +kernel
theorem dX1_settle_22 : decode cX1_settle 22 = .ok (.iload 4, 2) := by decide +kernel
theorem dX1_settle_24 : decode cX1_settle 24 = .ok (.ifCond .le 44, 3) := by decide +kernel
theorem dX1_settle_27 : decode cX1_settle 27 = .ok (.iload 4, 2) := by decide +kernel
theorem dX1_settle_29 : decode cX1_settle 29 = .ok (.aload_n 0, 1) := by decide +kernel
theorem dX1_settle_30 : decode cX1_settle 30 = .ok (.iload_n 1, 1) := by decide +kernel
theorem dX1_settle_31 : decode cX1_settle 31 = .ok (.bipush 6, 2) := by decide +kernel
theorem dX1_settle_33 : decode cX1_settle 33 = .ok (.invokevirtual 119, 3) := by decide +kernel
theorem dX1_settle_36 : decode cX1_settle 36 = .ok (.isub, 1) := by decide +kernel
theorem dX1_settle_37 : decode cX1_settle 37 = .ok (.istore 5, 2) := by decide +kernel
theorem dX1_settle_39 : decode cX1_settle 39 = .ok (.aload_n 0, 1) := by decide +kernel
theorem dX1_settle_40 : decode cX1_settle 40 = .ok (.getfield 15, 3) := by decide +kernel
theorem dX1_settle_43 : decode cX1_settle 43 = .ok (.i2f, 1) := by decide +kernel
theorem dX1_settle_44 : decode cX1_settle 44 = .ok (.iload 5, 2) := by decide +kernel
theorem dX1_settle_46 : decode cX1_settle 46 = .ok (.i2f, 1) := by decide +kernel
theorem dX1_settle_47 : decode cX1_settle 47 = .ok (.fmul, 1) := by decide +kernel
theorem dX1_settle_48 : decode cX1_settle 48 = .ok (.iload 4, 2) := by decide +kernel
theorem dX1_settle_50 : decode cX1_settle 50 = .ok (.i2f, 1) := by decide +kernel
theorem dX1_settle_51 : decode cX1_settle 51 = .ok (.fdiv, 1) := by decide +kernel
theorem dX1_settle_52 : decode cX1_settle 52 = .ok (.f2i, 1) := by decide +kernel
theorem dX1_settle_53 : decode cX1_settle 53 = .ok (.istore 6, 2) := by decide +kernel
theorem dX1_settle_55 : decode cX1_settle 55 = .ok (.aload_n 3, 1) := by decide +kernel
theorem dX1_settle_56 : decode cX1_settle 56 = .ok (.iload 6, 2) := by decide +kernel
theorem dX1_settle_58 : decode cX1_settle 58 = .ok (.aload_n 0, 1) := by decide +kernel
theorem dX1_settle_59 : decode cX1_settle 59 = .ok (.getfield 15, 3) := by decide +kernel
theorem dX1_settle_62 : decode cX1_settle 62 = .ok (.iload 6, 2) := by decide +kernel
theorem dX1_settle_64 : decode cX1_settle 64 = .ok (.isub, 1) := by decide +kernel
theorem dX1_settle_65 : decode cX1_settle 65 = .ok (.invokevirtual 131, 3) := by decide +kernel
theorem dX1_settle_68 : decode cX1_settle 68 = .ok (.iconst 0, 1) := by decide +kernel
theorem dX1_settle_69 : decode cX1_settle 69 = .ok (.istore 5, 2) := by decide +kernel
theorem dX1_settle_71 : decode cX1_settle 71 = .ok (.iload 5, 2) := by decide +kernel
theorem dX1_settle_73 : decode cX1_settle 73 = .ok (.aload_n 0, 1) := by decide +kernel
theorem dX1_settle_74 : decode cX1_settle 74 = .ok (.getfield 26, 3) := by decide +kernel
theorem dX1_settle_77 : decode cX1_settle 77 = .ok (.if_icmp .ge 40, 3) := by decide +kernel
theorem dX1_settle_80 : decode cX1_settle 80 = .ok (.aload_n 0, 1) := by decide +kernel
theorem dX1_settle_81 : decode cX1_settle 81 = .ok (.iload 5, 2) := by decide +kernel
theorem dX1_settle_83 : decode cX1_settle 83 = .ok (.invokevirtual 51, 3) := by decide +kernel
theorem dX1_settle_86 : decode cX1_settle 86 = .ok (.astore 6, 2) := by decide +kernel
theorem dX1_settle_88 : decode cX1_settle 88 = .ok (.aload 6, 2) := by decide +kernel
theorem dX1_settle_90 : decode cX1_settle 90 = .ok (.ifnull 21, 3) := by decide +kernel
theorem dX1_settle_93 : decode cX1_settle 93 = .ok (.aload 6, 2) := by decide +kernel
theorem dX1_settle_95 : decode cX1_settle 95 = .ok (.getfield 65, 3) := by decide +kernel
theorem dX1_settle_98 : decode cX1_settle 98 = .ok (.iload_n 1, 1) := by decide +kernel
theorem dX1_settle_99 : decode cX1_settle 99 = .ok (.if_icmp .ne 12, 3) := by decide +kernel
theorem dX1_settle_102 : decode cX1_settle 102 = .ok (.aload_n 3, 1) := by decide +kernel
theorem dX1_settle_103 : decode cX1_settle 103 = .ok (.aload 6, 2) := by decide +kernel
theorem dX1_settle_105 : decode cX1_settle 105 = .ok (.invokevirtual 115, 3) := by decide +kernel
theorem dX1_settle_108 : decode cX1_settle 108 = .ok (.invokevirtual 134, 3) := by decide +kernel
theorem dX1_settle_111 : decode cX1_settle 111 = .ok (.iinc 5 1, 3) := by decide +kernel
theorem dX1_settle_114 : decode cX1_settle 114 = .ok (.goto (-43), 3) := by decide +kernel
theorem dX1_settle_117 : decode cX1_settle 117 = .ok (.aload_n 3, 1) := by decide +kernel
theorem dX1_settle_118 : decode cX1_settle 118 = .ok (.aload_n 2, 1) := by decide +kernel
theorem dX1_settle_119 : decode cX1_settle 119 = .ok (.getfield 137, 3) := by decide +kernel
theorem dX1_settle_122 : decode cX1_settle 122 = .ok (.invokevirtual 134, 3) := by decide +kernel
theorem dX1_settle_125 : decode cX1_settle 125 = .ok (.return_, 1) := by decide +kernel
theorem dX2_init_0 : decode cX2_init 0 = .ok (.aload_n 0, 1) := by decide +kernel
theorem dX2_init_1 : decode cX2_init 1 = .ok (.invokespecial 3, 3) := by decide +kernel
theorem dX2_init_4 : decode cX2_init 4 = .ok (.aload_n 0, 1) := by decide +kernel
theorem dX2_init_5 : decode cX2_init 5 = .ok (.iconst 4, 1) := by decide +kernel
theorem dX2_init_6 : decode cX2_init 6 = .ok (.anewarray 9, 3) := by decide +kernel
theorem dX2_init_9 : decode cX2_init 9 = .ok (.putfield 11, 3) := by decide +kernel
theorem dX2_init_12 : decode cX2_init 12 = .ok (.aload_n 0, 1) := by decide +kernel
theorem dX2_init_13 : decode cX2_init 13 = .ok (.iconst 0, 1) := by decide +kernel
theorem dX2_init_14 : decode cX2_init 14 = .ok (.putfield 17, 3) := by decide +kernel
theorem dX2_init_17 : decode cX2_init 17 = .ok (.aload_n 0, 1) := by decide +kernel
theorem dX2_init_18 : decode cX2_init 18 = .ok (.iconst 0, 1) := by decide +kernel
theorem dX2_init_19 : decode cX2_init 19 = .ok (.putfield 21, 3) := by decide +kernel
theorem dX2_init_22 : decode cX2_init 22 = .ok (.iconst 0, 1) := by decide +kernel
theorem dX2_init_23 : decode cX2_init 23 = .ok (.istore_n 1, 1) := by decide +kernel
theorem dX2_init_24 : decode cX2_init 24 = .ok (.iload_n 1, 1) := by decide +kernel
theorem dX2_init_25 : decode cX2_init 25 = .ok (.aload_n 0, 1) := by decide +kernel
theorem dX2_init_26 : decode cX2_init 26 = .ok (.getfield 11, 3) := by decide +kernel
theorem dX2_init_29 : decode cX2_init 29 = .ok (.arraylength, 1) := by decide +kernel
theorem dX2_init_30 : decode cX2_init 30 = .ok (.if_icmp .ge 22, 3) := by decide +kernel
theorem dX2_init_33 : decode cX2_init 33 = .ok (.aload_n 0, 1) := by decide +kernel
theorem dX2_init_34 : decode cX2_init 34 = .ok (.getfield 11, 3) := by decide +kernel
theorem dX2_init_37 : decode cX2_init 37 = .ok (.iload_n 1, 1) := by decide +kernel
theorem dX2_init_38 : decode cX2_init 38 = .ok (.new 9, 3) := by decide +kernel
theorem dX2_init_41 : decode cX2_init 41 = .ok (.dup, 1) := by decide +kernel
theorem dX2_init_42 : decode cX2_init 42 = .ok (.invokespecial 24, 3) := by decide +kernel
theorem dX2_init_45 : decode cX2_init 45 = .ok (.aastore, 1) := by decide +kernel
theorem dX2_init_46 : decode cX2_init 46 = .ok (.iinc 1 1, 3) := by decide +kernel
theorem dX2_init_49 : decode cX2_init 49 = .ok (.goto (-25), 3) := by decide +kernel
theorem dX2_init_52 : decode cX2_init 52 = .ok (.return_, 1) := by decide +kernel
theorem dX2_push_0 : decode cX2_push 0 = .ok (.aload_n 0, 1) := by decide +kernel
theorem dX2_push_1 : decode cX2_push 1 = .ok (.getfield 21, 3) := by decide +kernel
theorem dX2_push_4 : decode cX2_push 4 = .ok (.iconst 4, 1) := by decide +kernel
theorem dX2_push_5 : decode cX2_push 5 = .ok (.if_icmp .lt 25, 3) := by decide +kernel
theorem dX2_push_8 : decode cX2_push 8 = .ok (.aload_n 0, 1) := by decide +kernel
theorem dX2_push_9 : decode cX2_push 9 = .ok (.aload_n 0, 1) := by decide +kernel
theorem dX2_push_10 : decode cX2_push 10 = .ok (.getfield 17, 3) := by decide +kernel
theorem dX2_push_13 : decode cX2_push 13 = .ok (.iconst 1, 1) := by decide +kernel
theorem dX2_push_14 : decode cX2_push 14 = .ok (.iadd, 1) := by decide +kernel
theorem dX2_push_15 : decode cX2_push 15 = .ok (.iconst 4, 1) := by decide +kernel
theorem dX2_push_16 : decode cX2_push 16 = .ok (.irem, 1) := by decide +kernel
theorem dX2_push_17 : decode cX2_push 17 = .ok (.putfield 17, 3) := by decide +kernel
theorem dX2_push_20 : decode cX2_push 20 = .ok (.aload_n 0, 1) := by decide +kernel
theorem dX2_push_21 : decode cX2_push 21 = .ok (.dup, 1) := by decide +kernel
theorem dX2_push_22 : decode cX2_push 22 = .ok (.getfield 21, 3) := by decide +kernel
theorem dX2_push_25 : decode cX2_push 25 = .ok (.iconst 1, 1) := by decide +kernel
theorem dX2_push_26 : decode cX2_push 26 = .ok (.isub, 1) := by decide +kernel
theorem dX2_push_27 : decode cX2_push 27 = .ok (.putfield 21, 3) := by decide +kernel
theorem dX2_push_30 : decode cX2_push 30 = .ok (.aload_n 0, 1) := by decide +kernel
theorem dX2_push_31 : decode cX2_push 31 = .ok (.aload_n 0, 1) := by decide +kernel
theorem dX2_push_32 : decode cX2_push 32 = .ok (.getfield 21, 3) := by decide +kernel
theorem dX2_push_35 : decode cX2_push 35 = .ok (.invokevirtual 25, 3) := by decide +kernel
theorem dX2_push_38 : decode cX2_push 38 = .ok (.astore_n 2, 1) := by decide +kernel
theorem dX2_push_39 : decode cX2_push 39 = .ok (.aload_n 2, 1) := by decide +kernel
theorem dX2_push_40 : decode cX2_push 40 = .ok (.ifnull 18, 3) := by decide +kernel
theorem dX2_push_43 : decode cX2_push 43 = .ok (.aload_n 2, 1) := by decide +kernel
theorem dX2_push_44 : decode cX2_push 44 = .ok (.aload_n 1, 1) := by decide +kernel
theorem dX2_push_45 : decode cX2_push 45 = .ok (.invokevirtual 29, 3) := by decide +kernel
theorem dX2_push_48 : decode cX2_push 48 = .ok (.aload_n 0, 1) := by decide +kernel
theorem dX2_push_49 : decode cX2_push 49 = .ok (.dup, 1) := by decide +kernel
theorem dX2_push_50 : decode cX2_push 50 = .ok (.getfield 21, 3) := by decide +kernel
theorem dX2_push_53 : decode cX2_push 53 = .ok (.iconst 1, 1) := by decide +kernel
theorem dX2_push_54 : decode cX2_push 54 = .ok (.iadd, 1) := by decide +kernel
theorem dX2_push_55 : decode cX2_push 55 = .ok (.putfield 21, 3) := by decide +kernel
theorem dX2_push_58 : decode cX2_push 58 = .ok (.return_, 1) := by decide +kernel
theorem dX2_latest_0 : decode cX2_latest 0 = .ok (.aload_n 0, 1) := by decide +kernel
theorem dX2_latest_1 : decode cX2_latest 1 = .ok (.getfield 21, 3) := by decide +kernel
theorem dX2_latest_4 : decode cX2_latest 4 = .ok (.ifCond .le 16, 3) := by decide +kernel
theorem dX2_latest_7 : decode cX2_latest 7 = .ok (.aload_n 0, 1) := by decide +kernel
theorem dX2_latest_8 : decode cX2_latest 8 = .ok (.aload_n 0, 1) := by decide +kernel
theorem dX2_latest_9 : decode cX2_latest 9 = .ok (.getfield 21, 3) := by decide +kernel
theorem dX2_latest_12 : decode cX2_latest 12 = .ok (.iconst 1, 1) := by decide +kernel
theorem dX2_latest_13 : decode cX2_latest 13 = .ok (.isub, 1) := by decide +kernel
theorem dX2_latest_14 : decode cX2_latest 14 = .ok (.invokevirtual 25, 3) := by decide +kernel
theorem dX2_latest_17 : decode cX2_latest 17 = .ok (.goto 4, 3) := by decide +kernel
theorem dX2_latest_20 : decode cX2_latest 20 = .ok (.aconst_null, 1) := by decide +kernel
theorem dX2_latest_21 : decode cX2_latest 21 = .ok (.areturn, 1) := by decide +kernel
theorem dX2_stateAt_0 : decode cX2_stateAt 0 = .ok (.aload_n 0, 1) := by decide +kernel
theorem dX2_stateAt_1 : decode cX2_stateAt 1 = .ok (.getfield 17, 3) := by decide +kernel
theorem dX2_stateAt_4 : decode cX2_stateAt 4 = .ok (.iload_n 1, 1) := by decide +kernel
theorem dX2_stateAt_5 : decode cX2_stateAt 5 = .ok (.iadd, 1) := by decide +kernel
theorem dX2_stateAt_6 : decode cX2_stateAt 6 = .ok (.iconst 4, 1) := by decide +kernel
theorem dX2_stateAt_7 : decode cX2_stateAt 7 = .ok (.irem, 1) := by decide +kernel
theorem dX2_stateAt_8 : decode cX2_stateAt 8 = .ok (.istore_n 2, 1) := by decide +kernel
theorem dX2_stateAt_9 : decode cX2_stateAt 9 = .ok (.iload_n 2, 1) := by decide +kernel
theorem dX2_stateAt_10 : decode cX2_stateAt 10 = .ok (.ifCond .lt 21, 3) := by decide +kernel
theorem dX2_stateAt_13 : decode cX2_stateAt 13 = .ok (.iload_n 2, 1) := by decide +kernel
theorem dX2_stateAt_14 : decode cX2_stateAt 14 = .ok (.aload_n 0, 1) := by decide +kernel
theorem dX2_stateAt_15 : decode cX2_stateAt 15 = .ok (.getfield 11, 3) := by decide +kernel
theorem dX2_stateAt_18 : decode cX2_stateAt 18 = .ok (.arraylength, 1) := by decide +kernel
theorem dX2_stateAt_19 : decode cX2_stateAt 19 = .ok (.if_icmp .ge 12, 3) := by decide +kernel
theorem dX2_stateAt_22 : decode cX2_stateAt 22 = .ok (.aload_n 0, 1) := by decide +kernel
theorem dX2_stateAt_23 : decode cX2_stateAt 23 = .ok (.getfield 11, 3) := by decide +kernel
theorem dX2_stateAt_26 : decode cX2_stateAt 26 = .ok (.iload_n 2, 1) := by decide +kernel
theorem dX2_stateAt_27 : decode cX2_stateAt 27 = .ok (.aaload, 1) := by decide +kernel
theorem dX2_stateAt_28 : decode cX2_stateAt 28 = .ok (.goto 4, 3) := by decide +kernel
theorem dX2_stateAt_31 : decode cX2_stateAt 31 = .ok (.aconst_null, 1) := by decide +kernel
theorem dX2_stateAt_32 : decode cX2_stateAt 32 = .ok (.areturn, 1) := by decide +kernel
theorem dX3_init_0 : decode cX3_init 0 = .ok (.aload_n 0, 1) := by decide +kernel
theorem dX3_init_1 : decode cX3_init 1 = .ok (.invokespecial 3, 3) := by decide +kernel
theorem dX3_init_4 : decode cX3_init 4 = .ok (.aload_n 0, 1) := by decide +kernel
theorem dX3_init_5 : decode cX3_init 5 = .ok (.iconst 0, 1) := by decide +kernel
theorem dX3_init_6 : decode cX3_init 6 = .ok (.putfield 9, 3) := by decide +kernel
theorem dX3_init_9 : decode cX3_init 9 = .ok (.aload_n 0, 1) := by decide +kernel
theorem dX3_init_10 : decode cX3_init 10 = .ok (.iconst 0, 1) := by decide +kernel
theorem dX3_init_11 : decode cX3_init 11 = .ok (.putfield 15, 3) := by decide +kernel
theorem dX3_init_14 : decode cX3_init 14 = .ok (.aload_n 0, 1) := by decide +kernel
theorem dX3_init_15 : decode cX3_init 15 = .ok (.iconst 0, 1) := by decide +kernel
theorem dX3_init_16 : decode cX3_init 16 = .ok (.putfield 18, 3) := by decide +kernel
theorem dX3_init_19 : decode cX3_init 19 = .ok (.aload_n 0, 1) := by decide +kernel
theorem dX3_init_20 : decode cX3_init 20 = .ok (.iconst 0, 1) := by decide +kernel
theorem dX3_init_21 : decode cX3_init 21 = .ok (.putfield 21, 3) := by decide +kernel
theorem dX3_init_24 : decode cX3_init 24 = .ok (.aload_n 0, 1) := by decide +kernel
theorem dX3_init_25 : decode cX3_init 25 = .ok (.iconst 0, 1) := by decide +kernel
theorem dX3_init_26 : decode cX3_init 26 = .ok (.putfield 24, 3) := by decide +kernel
theorem dX3_init_29 : decode cX3_init 29 = .ok (.aload_n 0, 1) := by decide +kernel
theorem dX3_init_30 : decode cX3_init 30 = .ok (.iconst 0, 1) := by decide +kernel
theorem dX3_init_31 : decode cX3_init 31 = .ok (.putfield 27, 3) := by decide +kernel
theorem dX3_init_34 : decode cX3_init 34 = .ok (.aload_n 0, 1) := by decide +kernel
theorem dX3_init_35 : decode cX3_init 35 = .ok (.iconst 0, 1) := by decide +kernel
theorem dX3_init_36 : decode cX3_init 36 = .ok (.putfield 30, 3) := by decide +kernel
theorem dX3_init_39 : decode cX3_init 39 = .ok (.aload_n 0, 1) := by decide +kernel
theorem dX3_init_40 : decode cX3_init 40 = .ok (.iconst 0, 1) := by decide +kernel
theorem dX3_init_41 : decode cX3_init 41 = .ok (.putfield 33, 3) := by decide +kernel
theorem dX3_init_44 : decode cX3_init 44 = .ok (.aload_n 0, 1) := by decide +kernel
theorem dX3_init_45 : decode cX3_init 45 = .ok (.iconst 0, 1) := by decide +kernel
theorem dX3_init_46 : decode cX3_init 46 = .ok (.putfield 36, 3) := by decide +kernel
theorem dX3_init_49 : decode cX3_init 49 = .ok (.aload_n 0, 1) := by decide +kernel
theorem dX3_init_50 : decode cX3_init 50 = .ok (.iconst 0, 1) := by decide +kernel
theorem dX3_init_51 : decode cX3_init 51 = .ok (.putfield 39, 3) := by decide +kernel
theorem dX3_init_54 : decode cX3_init 54 = .ok (.aload_n 0, 1) := by decide +kernel
theorem dX3_init_55 : decode cX3_init 55 = .ok (.iconst 0, 1) := by decide +kernel
theorem dX3_init_56 : decode cX3_init 56 = .ok (.putfield 42, 3) := by decide +kernel
theorem dX3_init_59 : decode cX3_init 59 = .ok (.return_, 1) := by decide +kernel
theorem dX3_start_0 : decode cX3_start 0 = .ok (.aload_n 0, 1) := by decide +kernel
theorem dX3_start_1 : decode cX3_start 1 = .ok (.iload_n 1, 1) := by decide +kernel
theorem dX3_start_2 : decode cX3_start 2 = .ok (.putfield 9, 3) := by decide +kernel
theorem dX3_start_5 : decode cX3_start 5 = .ok (.aload_n 0, 1) := by decide +kernel
theorem dX3_start_6 : decode cX3_start 6 = .ok (.iload_n 2, 1) := by decide +kernel
theorem dX3_start_7 : decode cX3_start 7 = .ok (.putfield 15, 3) := by decide +kernel
theorem dX3_start_10 : decode cX3_start 10 = .ok (.aload_n 0, 1) := by decide +kernel
theorem dX3_start_11 : decode cX3_start 11 = .ok (.iload_n 3, 1) := by decide +kernel
theorem dX3_start_12 : decode cX3_start 12 = .ok (.putfield 18, 3) := by decide +kernel
theorem dX3_start_15 : decode cX3_start 15 = .ok (.aload_n 0, 1) := by decide +kernel
theorem dX3_start_16 : decode cX3_start 16 = .ok (.iload 4, 2) := by decide +kernel
theorem dX3_start_18 : decode cX3_start 18 = .ok (.putfield 21, 3) := by decide +kernel
theorem dX3_start_21 : decode cX3_start 21 = .ok (.aload_n 0, 1) := by decide +kernel
theorem dX3_start_22 : decode cX3_start 22 = .ok (.iload 5, 2) := by decide +kernel
theorem dX3_start_24 : decode cX3_start 24 = .ok (.putfield 24, 3) := by decide +kernel
theorem dX3_start_27 : decode cX3_start 27 = .ok (.aload_n 0, 1) := by decide +kernel
theorem dX3_start_28 : decode cX3_start 28 = .ok (.iconst 0, 1) := by decide +kernel
theorem dX3_start_29 : decode cX3_start 29 = .ok (.putfield 27, 3) := by decide +kernel
theorem dX3_start_32 : decode cX3_start 32 = .ok (.aload_n 0, 1) := by decide +kernel
theorem dX3_start_33 : decode cX3_start 33 = .ok (.iconst 0, 1) := by decide +kernel
theorem dX3_start_34 : decode cX3_start 34 = .ok (.putfield 30, 3) := by decide +kernel
theorem dX3_start_37 : decode cX3_start 37 = .ok (.aload_n 0, 1) := by decide +kernel
theorem dX3_start_38 : decode cX3_start 38 = .ok (.iconst 0, 1) := by decide +kernel
theorem dX3_start_39 : decode cX3_start 39 = .ok (.putfield 33, 3) := by decide +kernel
theorem dX3_start_42 : decode cX3_start 42 = .ok (.aload_n 0, 1) := by decide +kernel
theorem dX3_start_43 : decode cX3_start 43 = .ok (.iconst 0, 1) := by decide +kernel
theorem dX3_start_44 : decode cX3_start 44 = .ok (.putfield 36, 3) := by decide +kernel
theorem dX3_start_47 : decode cX3_start 47 = .ok (.aload_n 0, 1) := by decide +kernel
theorem dX3_start_48 : decode cX3_start 48 = .ok (.iconst 0, 1) := by decide +kernel
theorem dX3_start_49 : decode cX3_start 49 = .ok (.putfield 39, 3) := by decide +kernel
theorem dX3_start_52 : decode cX3_start 52 = .ok (.aload_n 0, 1) := by decide +kernel
theorem dX3_start_53 : decode cX3_start 53 = .ok (.iconst 0, 1) := by decide +kernel
theorem dX3_start_54 : decode cX3_start 54 = .ok (.putfield 42, 3) := by decide +kernel
theorem dX3_start_57 : decode cX3_start 57 = .ok (.return_, 1) := by decide +kernel
theorem dX3_copyFrom_0 : decode cX3_copyFrom 0 = .ok (.aload_n 0, 1) := by decide +kernel
theorem dX3_copyFrom_1 : decode cX3_copyFrom 1 = .ok (.aload_n 1, 1) := by decide +kernel
theorem dX3_copyFrom_2 : decode cX3_copyFrom 2 = .ok (.getfield 9, 3) := by decide +kernel
theorem dX3_copyFrom_5 : decode cX3_copyFrom 5 = .ok (.putfield 9, 3) := by decide +kernel
theorem dX3_copyFrom_8 : decode cX3_copyFrom 8 = .ok (.aload_n 0, 1) := by decide +kernel
theorem dX3_copyFrom_9 : decode cX3_copyFrom 9 = .ok (.aload_n 1, 1) := by decide +kernel
theorem dX3_copyFrom_10 : decode cX3_copyFrom 10 = .ok (.getfield 15, 3) := by decide +kernel
theorem dX3_copyFrom_13 : decode cX3_copyFrom 13 = .ok (.putfield 15, 3) := by decide +kernel
theorem dX3_copyFrom_16 : decode cX3_copyFrom 16 = .ok (.aload_n 0, 1) := by decide +kernel
theorem dX3_copyFrom_17 : decode cX3_copyFrom 17 = .ok (.aload_n 1, 1) := by decide +kernel
theorem dX3_copyFrom_18 : decode cX3_copyFrom 18 = .ok (.getfield 18, 3) := by decide +kernel
theorem dX3_copyFrom_21 : decode cX3_copyFrom 21 = .ok (.putfield 18, 3) := by decide +kernel
theorem dX3_copyFrom_24 : decode cX3_copyFrom 24 = .ok (.aload_n 0, 1) := by decide +kernel
theorem dX3_copyFrom_25 : decode cX3_copyFrom 25 = .ok (.aload_n 1, 1) := by decide +kernel
theorem dX3_copyFrom_26 : decode cX3_copyFrom 26 = .ok (.getfield 21, 3) := by decide +kernel
theorem dX3_copyFrom_29 : decode cX3_copyFrom 29 = .ok (.putfield 21, 3) := by decide +kernel
theorem dX3_copyFrom_32 : decode cX3_copyFrom 32 = .ok (.aload_n 0, 1) := by decide +kernel
theorem dX3_copyFrom_33 : decode cX3_copyFrom 33 = .ok (.aload_n 1, 1) := by decide +kernel
theorem dX3_copyFrom_34 : decode cX3_copyFrom 34 = .ok (.getfield 24, 3) := by decide +kernel
theorem dX3_copyFrom_37 : decode cX3_copyFrom 37 = .ok (.putfield 24, 3) := by decide +kernel
theorem dX3_copyFrom_40 : decode cX3_copyFrom 40 = .ok (.aload_n 0, 1) := by decide +kernel
theorem dX3_copyFrom_41 : decode cX3_copyFrom 41 = .ok (.aload_n 1, 1) := by decide +kernel
theorem dX3_copyFrom_42 : decode cX3_copyFrom 42 = .ok (.getfield 27, 3) := by decide +kernel
theorem dX3_copyFrom_45 : decode cX3_copyFrom 45 = .ok (.putfield 27, 3) := by decide +kernel
theorem dX3_copyFrom_48 : decode cX3_copyFrom 48 = .ok (.aload_n 0, 1) := by decide +kernel
theorem dX3_copyFrom_49 : decode cX3_copyFrom 49 = .ok (.aload_n 1, 1) := by decide +kernel
theorem dX3_copyFrom_50 : decode cX3_copyFrom 50 = .ok (.getfield 30, 3) := by decide +kernel
theorem dX3_copyFrom_53 : decode cX3_copyFrom 53 = .ok (.putfield 30, 3) := by decide +kernel
theorem dX3_copyFrom_56 : decode cX3_copyFrom 56 = .ok (.aload_n 0, 1) := by decide +kernel
theorem dX3_copyFrom_57 : decode cX3_copyFrom 57 = .ok (.aload_n 1, 1) := by decide +kernel
theorem dX3_copyFrom_58 : decode cX3_copyFrom 58 = .ok (.getfield 33, 3) := by decide +kernel
theorem dX3_copyFrom_61 : decode cX3_copyFrom 61 = .ok (.putfield 33, 3) := by decide +kernel
theorem dX3_copyFrom_64 : decode cX3_copyFrom 64 = .ok (.aload_n 0, 1) := by decide +kernel
theorem dX3_copyFrom_65 : decode cX3_copyFrom 65 = .ok (.aload_n 1, 1) := by decide +kernel
theorem dX3_copyFrom_66 : decode cX3_copyFrom 66 = .ok (.getfield 36, 3) := by decide +kernel
theorem dX3_copyFrom_69 : decode cX3_copyFrom 69 = .ok (.putfield 36, 3) := by decide +kernel
theorem dX3_copyFrom_72 : decode cX3_copyFrom 72 = .ok (.aload_n 0, 1) := by decide +kernel
theorem dX3_copyFrom_73 : decode cX3_copyFrom 73 = .ok (.aload_n 1, 1) := by decide +kernel
theorem dX3_copyFrom_74 : decode cX3_copyFrom 74 = .ok (.getfield 39, 3) := by decide +kernel
theorem dX3_copyFrom_77 : decode cX3_copyFrom 77 = .ok (.putfield 39, 3) := by decide +kernel
theorem dX3_copyFrom_80 : decode cX3_copyFrom 80 = .ok (.aload_n 0, 1) := by decide +kernel
theorem dX3_copyFrom_81 : decode cX3_copyFrom 81 = .ok (.aload_n 1, 1) := by decide +kernel
theorem dX3_copyFrom_82 : decode cX3_copyFrom 82 = .ok (.getfield 42, 3) := by decide +kernel
theorem dX3_copyFrom_85 : decode cX3_copyFrom 85 = .ok (.putfield 42, 3) := by decide +kernel
theorem dX3_copyFrom_88 : decode cX3_copyFrom 88 = .ok (.return_, 1) := by decide +kernel
theorem dX3_ageAfter_0 : decode cX3_ageAfter 0 = .ok (.aload_n 0, 1) := by decide +kernel
theorem dX3_ageAfter_1 : decode cX3_ageAfter 1 = .ok (.getfield 21, 3) := by decide +kernel
theorem dX3_ageAfter_4 : decode cX3_ageAfter 4 = .ok (.iload_n 1, 1) := by decide +kernel
theorem dX3_ageAfter_5 : decode cX3_ageAfter 5 = .ok (.iadd, 1) := by decide +kernel
theorem dX3_ageAfter_6 : decode cX3_ageAfter 6 = .ok (.ireturn, 1) := by decide +kernel
theorem dX3_fairAfter_0 : decode cX3_fairAfter 0 = .ok (.aload_n 0, 1) := by decide +kernel
theorem dX3_fairAfter_1 : decode cX3_fairAfter 1 = .ok (.getfield 18, 3) := by decide +kernel
theorem dX3_fairAfter_4 : decode cX3_fairAfter 4 = .ok (.ifCond .gt 5, 3) := by decide +kernel
theorem dX3_fairAfter_7 : decode cX3_fairAfter 7 = .ok (.iconst 0, 1) := by decide +kernel
theorem dX3_fairAfter_8 : decode cX3_fairAfter 8 = .ok (.ireturn, 1) := by decide +kernel
theorem dX3_fairAfter_9 : decode cX3_fairAfter 9 = .ok (.aload_n 0, 1) := by decide +kernel
theorem dX3_fairAfter_10 : decode cX3_fairAfter 10 = .ok (.getfield 24, 3) := by decide +kernel
theorem dX3_fairAfter_13 : decode cX3_fairAfter 13 = .ok (.bipush 100, 2) := by decide +kernel
theorem dX3_fairAfter_15 : decode cX3_fairAfter 15 = .ok (.iload_n 1, 1) := by decide +kernel
theorem dX3_fairAfter_16 : decode cX3_fairAfter 16 = .ok (.imul, 1) := by decide +kernel
theorem dX3_fairAfter_17 : decode cX3_fairAfter 17 = .ok (.aload_n 0, 1) := by decide +kernel
theorem dX3_fairAfter_18 : decode cX3_fairAfter 18 = .ok (.getfield 18, 3) := by decide +kernel
theorem dX3_fairAfter_21 : decode cX3_fairAfter 21 = .ok (.idiv, 1) := by decide +kernel
theorem dX3_fairAfter_22 : decode cX3_fairAfter 22 = .ok (.isub, 1) := by decide +kernel
theorem dX3_fairAfter_23 : decode cX3_fairAfter 23 = .ok (.iconst 0, 1) := by decide +kernel
theorem dX3_fairAfter_24 : decode cX3_fairAfter 24 = .ok (.invokestatic 45, 3) := by decide +kernel
theorem dX3_fairAfter_27 : decode cX3_fairAfter 27 = .ok (.ireturn, 1) := by decide +kernel
theorem dX3_restAfter_0 : decode cX3_restAfter 0 = .ok (.aload_n 0, 1) := by decide +kernel
theorem dX3_restAfter_1 : decode cX3_restAfter 1 = .ok (.getfield 18, 3) := by decide +kernel
theorem dX3_restAfter_4 : decode cX3_restAfter 4 = .ok (.ifCond .gt 5, 3) := by decide +kernel
theorem dX3_restAfter_7 : decode cX3_restAfter 7 = .ok (.fconst 0, 1) := by decide +kernel
theorem dX3_restAfter_8 : decode cX3_restAfter 8 = .ok (.freturn, 1) := by decide +kernel
theorem dX3_restAfter_9 : decode cX3_restAfter 9 = .ok (.fconst 1, 1) := by decide +kernel
theorem dX3_restAfter_10 : decode cX3_restAfter 10 = .ok (.aload_n 0, 1) := by decide +kernel
theorem dX3_restAfter_11 : decode cX3_restAfter 11 = .ok (.iload_n 1, 1) := by decide +kernel
theorem dX3_restAfter_12 : decode cX3_restAfter 12 = .ok (.invokevirtual 51, 3) := by decide +kernel
theorem dX3_restAfter_15 : decode cX3_restAfter 15 = .ok (.i2f, 1) := by decide +kernel
theorem dX3_restAfter_16 : decode cX3_restAfter 16 = .ok (.aload_n 0, 1) := by decide +kernel
theorem dX3_restAfter_17 : decode cX3_restAfter 17 = .ok (.getfield 18, 3) := by decide +kernel
theorem dX3_restAfter_20 : decode cX3_restAfter 20 = .ok (.i2f, 1) := by decide +kernel
theorem dX3_restAfter_21 : decode cX3_restAfter 21 = .ok (.fdiv, 1) := by decide +kernel
theorem dX3_restAfter_22 : decode cX3_restAfter 22 = .ok (.fsub, 1) := by decide +kernel
theorem dX3_restAfter_23 : decode cX3_restAfter 23 = .ok (.fstore_n 2, 1) := by decide +kernel
theorem dX3_restAfter_24 : decode cX3_restAfter 24 = .ok (.fload_n 2, 1) := by decide +kernel
theorem dX3_restAfter_25 : decode cX3_restAfter 25 = .ok (.fconst 0, 1) := by decide +kernel
theorem dX3_restAfter_26 : decode cX3_restAfter 26 = .ok (.fcmp .g, 1) := by decide +kernel
theorem dX3_restAfter_27 : decode cX3_restAfter 27 = .ok (.ifCond .ge 7, 3) := by decide +kernel
theorem dX3_restAfter_30 : decode cX3_restAfter 30 = .ok (.fconst 0, 1) := by decide +kernel
theorem dX3_restAfter_31 : decode cX3_restAfter 31 = .ok (.goto 4, 3) := by decide +kernel
theorem dX3_restAfter_34 : decode cX3_restAfter 34 = .ok (.fload_n 2, 1) := by decide +kernel
theorem dX3_restAfter_35 : decode cX3_restAfter 35 = .ok (.freturn, 1) := by decide +kernel
theorem dX3_damageAfter_0 : decode cX3_damageAfter 0 = .ok (.aload_n 0, 1) := by decide +kernel
theorem dX3_damageAfter_1 : decode cX3_damageAfter 1 = .ok (.iload_n 1, 1) := by decide +kernel
theorem dX3_damageAfter_2 : decode cX3_damageAfter 2 = .ok (.invokevirtual 55, 3) := by decide +kernel
theorem dX3_damageAfter_5 : decode cX3_damageAfter 5 = .ok (.iload_n 2, 1) := by decide +kernel
theorem dX3_damageAfter_6 : decode cX3_damageAfter 6 = .ok (.isub, 1) := by decide +kernel
theorem dX3_damageAfter_7 : decode cX3_damageAfter 7 = .ok (.iconst 0, 1) := by decide +kernel
theorem dX3_damageAfter_8 : decode cX3_damageAfter 8 = .ok (.invokestatic 45, 3) := by decide +kernel
theorem dX3_damageAfter_11 : decode cX3_damageAfter 11 = .ok (.ireturn, 1) := by decide +kernel
theorem dX3_dueAfter_0 : decode cX3_dueAfter 0 = .ok (.aload_n 0, 1) := by decide +kernel
theorem dX3_dueAfter_1 : decode cX3_dueAfter 1 = .ok (.iload_n 1, 1) := by decide +kernel
theorem dX3_dueAfter_2 : decode cX3_dueAfter 2 = .ok (.iload_n 2, 1) := by decide +kernel
theorem dX3_dueAfter_3 : decode cX3_dueAfter 3 = .ok (.invokevirtual 58, 3) := by decide +kernel
theorem dX3_dueAfter_6 : decode cX3_dueAfter 6 = .ok (.i2f, 1) := by decide +kernel
theorem dX3_dueAfter_7 : decode cX3_dueAfter 7 = .ok (.ldc 61, 2) := by decide +kernel
theorem dX3_dueAfter_9 : decode cX3_dueAfter 9 = .ok (.fdiv, 1) := by decide +kernel
theorem dX3_dueAfter_10 : decode cX3_dueAfter 10 = .ok (.fstore_n 3, 1) := by decide +kernel
theorem dX3_dueAfter_11 : decode cX3_dueAfter 11 = .ok (.aload_n 0, 1) := by decide +kernel
theorem dX3_dueAfter_12 : decode cX3_dueAfter 12 = .ok (.getfield 15, 3) := by decide +kernel
theorem dX3_dueAfter_15 : decode cX3_dueAfter 15 = .ok (.i2f, 1) := by decide +kernel
theorem dX3_dueAfter_16 : decode cX3_dueAfter 16 = .ok (.aload_n 0, 1) := by decide +kernel
theorem dX3_dueAfter_17 : decode cX3_dueAfter 17 = .ok (.iload_n 1, 1) := by decide +kernel
theorem dX3_dueAfter_18 : decode cX3_dueAfter 18 = .ok (.invokevirtual 62, 3) := by decide +kernel
theorem dX3_dueAfter_21 : decode cX3_dueAfter 21 = .ok (.fmul, 1) := by decide +kernel
theorem dX3_dueAfter_22 : decode cX3_dueAfter 22 = .ok (.fload_n 3, 1) := by decide +kernel
theorem dX3_dueAfter_23 : decode cX3_dueAfter 23 = .ok (.fmul, 1) := by decide +kernel
theorem dX3_dueAfter_24 : decode cX3_dueAfter 24 = .ok (.f2i, 1) := by decide +kernel
theorem dX3_dueAfter_25 : decode cX3_dueAfter 25 = .ok (.ireturn, 1) := by decide +kernel
theorem dX3_tellEnd_0 : decode cX3_tellEnd 0 = .ok (.aload_n 0, 1) := by decide +kernel
theorem dX3_tellEnd_1 : decode cX3_tellEnd 1 = .ok (.iload_n 2, 1) := by decide +kernel
theorem dX3_tellEnd_2 : decode cX3_tellEnd 2 = .ok (.putfield 27, 3) := by decide +kernel
theorem dX3_tellEnd_5 : decode cX3_tellEnd 5 = .ok (.aload_n 0, 1) := by decide +kernel
theorem dX3_tellEnd_6 : decode cX3_tellEnd 6 = .ok (.aload_n 0, 1) := by decide +kernel
theorem dX3_tellEnd_7 : decode cX3_tellEnd 7 = .ok (.iload_n 1, 1) := by decide +kernel
theorem dX3_tellEnd_8 : decode cX3_tellEnd 8 = .ok (.iload_n 2, 1) := by decide +kernel
theorem dX3_tellEnd_9 : decode cX3_tellEnd 9 = .ok (.invokevirtual 66, 3) := by decide +kernel
theorem dX3_tellEnd_12 : decode cX3_tellEnd 12 = .ok (.putfield 30, 3) := by decide +kernel
theorem dX3_tellEnd_15 : decode cX3_tellEnd 15 = .ok (.return_, 1) := by decide +kernel
theorem dX3_award_0 : decode cX3_award 0 = .ok (.aload_n 0, 1) := by decide +kernel
theorem dX3_award_1 : decode cX3_award 1 = .ok (.getfield 36, 3) := by decide +kernel
theorem dX3_award_4 : decode cX3_award 4 = .ok (.iconst 2, 1) := by decide +kernel
theorem dX3_award_5 : decode cX3_award 5 = .ok (.if_icmp .ne 14, 3) := by decide +kernel
theorem dX3_award_8 : decode cX3_award 8 = .ok (.aload_n 0, 1) := by decide +kernel
theorem dX3_award_9 : decode cX3_award 9 = .ok (.getfield 33, 3) := by decide +kernel
theorem dX3_award_12 : decode cX3_award 12 = .ok (.aload_n 0, 1) := by decide +kernel
theorem dX3_award_13 : decode cX3_award 13 = .ok (.getfield 30, 3) := by decide +kernel
theorem dX3_award_16 : decode cX3_award 16 = .ok (.if_icmp .gt 8, 3) := by decide +kernel
theorem dX3_award_19 : decode cX3_award 19 = .ok (.aload_n 0, 1) := by decide +kernel
theorem dX3_award_20 : decode cX3_award 20 = .ok (.getfield 33, 3) := by decide +kernel
theorem dX3_award_23 : decode cX3_award 23 = .ok (.ireturn, 1) := by decide +kernel
theorem dX3_award_24 : decode cX3_award 24 = .ok (.aload_n 0, 1) := by decide +kernel
theorem dX3_award_25 : decode cX3_award 25 = .ok (.getfield 30, 3) := by decide +kernel
theorem dX3_award_28 : decode cX3_award 28 = .ok (.aload_n 0, 1) := by decide +kernel
theorem dX3_award_29 : decode cX3_award 29 = .ok (.getfield 33, 3) := by decide +kernel
theorem dX3_award_32 : decode cX3_award 32 = .ok (.aload_n 0, 1) := by decide +kernel
theorem dX3_award_33 : decode cX3_award 33 = .ok (.getfield 30, 3) := by decide +kernel
theorem dX3_award_36 : decode cX3_award 36 = .ok (.isub, 1) := by decide +kernel
theorem dX3_award_37 : decode cX3_award 37 = .ok (.i2f, 1) := by decide +kernel
theorem dX3_award_38 : decode cX3_award 38 = .ok (.aload_n 0, 1) := by decide +kernel
theorem dX3_award_39 : decode cX3_award 39 = .ok (.invokevirtual 69, 3) := by decide +kernel
theorem dX3_award_42 : decode cX3_award 42 = .ok (.fmul, 1) := by decide +kernel
theorem dX3_award_43 : decode cX3_award 43 = .ok (.f2i, 1) := by decide +kernel
theorem dX3_award_44 : decode cX3_award 44 = .ok (.iadd, 1) := by decide +kernel
theorem dX3_award_45 : decode cX3_award 45 = .ok (.ireturn, 1) := by decide +kernel
theorem dX3_landlordWeight_0 : decode cX3_landlordWeight 0 = .ok (.aload_n 0, 1) := by decide +kernel
theorem dX3_landlordWeight_1 : decode cX3_landlordWeight 1 = .ok (.getfield 39, 3) := by decide +kernel
theorem dX3_landlordWeight_4 : decode cX3_landlordWeight 4 = .ok (.aload_n 0, 1) := by decide +kernel
theorem dX3_landlordWeight_5 : decode cX3_landlordWeight 5 = .ok (.getfield 42, 3) := by decide +kernel
theorem dX3_landlordWeight_8 : decode cX3_landlordWeight 8 = .ok (.iadd, 1) := by decide +kernel
theorem dX3_landlordWeight_9 : decode cX3_landlordWeight 9 = .ok (.istore_n 1, 1) := by decide +kernel
theorem dX3_landlordWeight_10 : decode cX3_landlordWeight 10 = .ok (.iload_n 1, 1) := by decide +kernel
theorem dX3_landlordWeight_11 : decode cX3_landlordWeight 11 = .ok (.ifCond .le 14, 3) := by decide +kernel
theorem dX3_landlordWeight_14 : decode cX3_landlordWeight 14 = .ok (.aload_n 0, 1) := by decide +kernel
theorem dX3_landlordWeight_15 : decode cX3_landlordWeight 15 = .ok (.getfield 39, 3) := by decide +kernel
theorem dX3_landlordWeight_18 : decode cX3_landlordWeight 18 = .ok (.i2f, 1) := by decide +kernel
theorem dX3_landlordWeight_19 : decode cX3_landlordWeight 19 = .ok (.iload_n 1, 1) := by decide +kernel
theorem dX3_landlordWeight_20 : decode cX3_landlordWeight 20 = .ok (.i2f, 1) := by decide +kernel
theorem dX3_landlordWeight_21 : decode cX3_landlordWeight 21 = .ok (.fdiv, 1) := by decide +kernel
theorem dX3_landlordWeight_22 : decode cX3_landlordWeight 22 = .ok (.goto 5, 3) := by decide +kernel
theorem dX3_landlordWeight_25 : decode cX3_landlordWeight 25 = .ok (.ldc 73, 2) := by decide +kernel
theorem dX3_landlordWeight_27 : decode cX3_landlordWeight 27 = .ok (.freturn, 1) := by decide +kernel
theorem dX4_init_0 : decode cX4_init 0 = .ok (.aload_n 0, 1) := by decide +kernel
theorem dX4_init_1 : decode cX4_init 1 = .ok (.invokespecial 1, 3) := by decide +kernel
theorem dX4_init_4 : decode cX4_init 4 = .ok (.aload_n 0, 1) := by decide +kernel
theorem dX4_init_5 : decode cX4_init 5 = .ok (.iconst 0, 1) := by decide +kernel
theorem dX4_init_6 : decode cX4_init 6 = .ok (.putfield 7, 3) := by decide +kernel
theorem dX4_init_9 : decode cX4_init 9 = .ok (.aload_n 0, 1) := by decide +kernel
theorem dX4_init_10 : decode cX4_init 10 = .ok (.iconst 0, 1) := by decide +kernel
theorem dX4_init_11 : decode cX4_init 11 = .ok (.putfield 13, 3) := by decide +kernel
theorem dX4_init_14 : decode cX4_init 14 = .ok (.aload_n 0, 1) := by decide +kernel
theorem dX4_init_15 : decode cX4_init 15 = .ok (.iconst 0, 1) := by decide +kernel
theorem dX4_init_16 : decode cX4_init 16 = .ok (.putfield 16, 3) := by decide +kernel
theorem dX4_init_19 : decode cX4_init 19 = .ok (.aload_n 0, 1) := by decide +kernel
theorem dX4_init_20 : decode cX4_init 20 = .ok (.iconst 0, 1) := by decide +kernel
theorem dX4_init_21 : decode cX4_init 21 = .ok (.putfield 19, 3) := by decide +kernel
theorem dX4_init_24 : decode cX4_init 24 = .ok (.aload_n 0, 1) := by decide +kernel
theorem dX4_init_25 : decode cX4_init 25 = .ok (.iconst 0, 1) := by decide +kernel
theorem dX4_init_26 : decode cX4_init 26 = .ok (.putfield 22, 3) := by decide +kernel
theorem dX4_init_29 : decode cX4_init 29 = .ok (.aload_n 0, 1) := by decide +kernel
theorem dX4_init_30 : decode cX4_init 30 = .ok (.iconst 0, 1) := by decide +kernel
theorem dX4_init_31 : decode cX4_init 31 = .ok (.putfield 25, 3) := by decide +kernel
theorem dX4_init_34 : decode cX4_init 34 = .ok (.return_, 1) := by decide +kernel
theorem dX4_start_0 : decode cX4_start 0 = .ok (.aload_n 0, 1) := by decide +kernel
theorem dX4_start_1 : decode cX4_start 1 = .ok (.iload_n 1, 1) := by decide +kernel
theorem dX4_start_2 : decode cX4_start 2 = .ok (.putfield 7, 3) := by decide +kernel
theorem dX4_start_5 : decode cX4_start 5 = .ok (.aload_n 0, 1) := by decide +kernel
theorem dX4_start_6 : decode cX4_start 6 = .ok (.iload_n 1, 1) := by decide +kernel
theorem dX4_start_7 : decode cX4_start 7 = .ok (.putfield 13, 3) := by decide +kernel
theorem dX4_start_10 : decode cX4_start 10 = .ok (.aload_n 0, 1) := by decide +kernel
theorem dX4_start_11 : decode cX4_start 11 = .ok (.iconst 0, 1) := by decide +kernel
theorem dX4_start_12 : decode cX4_start 12 = .ok (.putfield 16, 3) := by decide +kernel
theorem dX4_start_15 : decode cX4_start 15 = .ok (.aload_n 0, 1) := by decide +kernel
theorem dX4_start_16 : decode cX4_start 16 = .ok (.iconst 0, 1) := by decide +kernel
theorem dX4_start_17 : decode cX4_start 17 = .ok (.putfield 19, 3) := by decide +kernel
theorem dX4_start_20 : decode cX4_start 20 = .ok (.aload_n 0, 1) := by decide +kernel
theorem dX4_start_21 : decode cX4_start 21 = .ok (.iconst 0, 1) := by decide +kernel
theorem dX4_start_22 : decode cX4_start 22 = .ok (.putfield 22, 3) := by decide +kernel
theorem dX4_start_25 : decode cX4_start 25 = .ok (.aload_n 0, 1) := by decide +kernel
theorem dX4_start_26 : decode cX4_start 26 = .ok (.iconst 0, 1) := by decide +kernel
theorem dX4_start_27 : decode cX4_start 27 = .ok (.putfield 25, 3) := by decide +kernel
theorem dX4_start_30 : decode cX4_start 30 = .ok (.return_, 1) := by decide +kernel
theorem dX4_copyFrom_0 : decode cX4_copyFrom 0 = .ok (.aload_n 0, 1) := by decide +kernel
theorem dX4_copyFrom_1 : decode cX4_copyFrom 1 = .ok (.aload_n 1, 1) := by decide +kernel
theorem dX4_copyFrom_2 : decode cX4_copyFrom 2 = .ok (.getfield 7, 3) := by decide +kernel
theorem dX4_copyFrom_5 : decode cX4_copyFrom 5 = .ok (.putfield 7, 3) := by decide +kernel
theorem dX4_copyFrom_8 : decode cX4_copyFrom 8 = .ok (.aload_n 0, 1) := by decide +kernel
theorem dX4_copyFrom_9 : decode cX4_copyFrom 9 = .ok (.aload_n 1, 1) := by decide +kernel
theorem dX4_copyFrom_10 : decode cX4_copyFrom 10 = .ok (.getfield 13, 3) := by decide +kernel
theorem dX4_copyFrom_13 : decode cX4_copyFrom 13 = .ok (.putfield 13, 3) := by decide +kernel
theorem dX4_copyFrom_16 : decode cX4_copyFrom 16 = .ok (.aload_n 0, 1) := by decide +kernel
theorem dX4_copyFrom_17 : decode cX4_copyFrom 17 = .ok (.aload_n 1, 1) := by decide +kernel
theorem dX4_copyFrom_18 : decode cX4_copyFrom 18 = .ok (.getfield 16, 3) := by decide +kernel
theorem dX4_copyFrom_21 : decode cX4_copyFrom 21 = .ok (.putfield 16, 3) := by decide +kernel
theorem dX4_copyFrom_24 : decode cX4_copyFrom 24 = .ok (.aload_n 0, 1) := by decide +kernel
theorem dX4_copyFrom_25 : decode cX4_copyFrom 25 = .ok (.aload_n 1, 1) := by decide +kernel
theorem dX4_copyFrom_26 : decode cX4_copyFrom 26 = .ok (.getfield 19, 3) := by decide +kernel
theorem dX4_copyFrom_29 : decode cX4_copyFrom 29 = .ok (.putfield 19, 3) := by decide +kernel
theorem dX4_copyFrom_32 : decode cX4_copyFrom 32 = .ok (.aload_n 0, 1) := by decide +kernel
theorem dX4_copyFrom_33 : decode cX4_copyFrom 33 = .ok (.aload_n 1, 1) := by decide +kernel
theorem dX4_copyFrom_34 : decode cX4_copyFrom 34 = .ok (.getfield 22, 3) := by decide +kernel
theorem dX4_copyFrom_37 : decode cX4_copyFrom 37 = .ok (.putfield 22, 3) := by decide +kernel
theorem dX4_copyFrom_40 : decode cX4_copyFrom 40 = .ok (.aload_n 0, 1) := by decide +kernel
theorem dX4_copyFrom_41 : decode cX4_copyFrom 41 = .ok (.aload_n 1, 1) := by decide +kernel
theorem dX4_copyFrom_42 : decode cX4_copyFrom 42 = .ok (.getfield 25, 3) := by decide +kernel
theorem dX4_copyFrom_45 : decode cX4_copyFrom 45 = .ok (.putfield 25, 3) := by decide +kernel
theorem dX4_copyFrom_48 : decode cX4_copyFrom 48 = .ok (.return_, 1) := by decide +kernel
theorem dX4_takeFee_0 : decode cX4_takeFee 0 = .ok (.aload_n 0, 1) := by decide +kernel
theorem dX4_takeFee_1 : decode cX4_takeFee 1 = .ok (.iload_n 1, 1) := by decide +kernel
theorem dX4_takeFee_2 : decode cX4_takeFee 2 = .ok (.putfield 22, 3) := by decide +kernel
theorem dX4_takeFee_5 : decode cX4_takeFee 5 = .ok (.aload_n 0, 1) := by decide +kernel
theorem dX4_takeFee_6 : decode cX4_takeFee 6 = .ok (.aload_n 0, 1) := by decide +kernel
theorem dX4_takeFee_7 : decode cX4_takeFee 7 = .ok (.iload_n 2, 1) := by decide +kernel
theorem dX4_takeFee_8 : decode cX4_takeFee 8 = .ok (.invokevirtual 28, 3) := by decide +kernel
theorem dX4_takeFee_11 : decode cX4_takeFee 11 = .ok (.putfield 19, 3) := by decide +kernel
theorem dX4_takeFee_14 : decode cX4_takeFee 14 = .ok (.return_, 1) := by decide +kernel
theorem dX4_payLandlord_0 : decode cX4_payLandlord 0 = .ok (.aload_n 0, 1) := by decide +kernel
theorem dX4_payLandlord_1 : decode cX4_payLandlord 1 = .ok (.dup, 1) := by decide +kernel
theorem dX4_payLandlord_2 : decode cX4_payLandlord 2 = .ok (.getfield 16, 3) := by decide +kernel
theorem dX4_payLandlord_5 : decode cX4_payLandlord 5 = .ok (.aload_n 0, 1) := by decide +kernel
theorem dX4_payLandlord_6 : decode cX4_payLandlord 6 = .ok (.iload_n 1, 1) := by decide +kernel
theorem dX4_payLandlord_7 : decode cX4_payLandlord 7 = .ok (.invokevirtual 28, 3) := by decide +kernel
theorem dX4_payLandlord_10 : decode cX4_payLandlord 10 = .ok (.iadd, 1) := by decide +kernel
theorem dX4_payLandlord_11 : decode cX4_payLandlord 11 = .ok (.putfield 16, 3) := by decide +kernel
theorem dX4_payLandlord_14 : decode cX4_payLandlord 14 = .ok (.return_, 1) := by decide +kernel
theorem dX4_take_0 : decode cX4_take 0 = .ok (.iload_n 1, 1) := by decide +kernel
theorem dX4_take_1 : decode cX4_take 1 = .ok (.aload_n 0, 1) := by decide +kernel
theorem dX4_take_2 : decode cX4_take 2 = .ok (.getfield 13, 3) := by decide +kernel
theorem dX4_take_5 : decode cX4_take 5 = .ok (.invokestatic 32, 3) := by decide +kernel
theorem dX4_take_8 : decode cX4_take 8 = .ok (.istore_n 2, 1) := by decide +kernel
theorem dX4_take_9 : decode cX4_take 9 = .ok (.aload_n 0, 1) := by decide +kernel
theorem dX4_take_10 : decode cX4_take 10 = .ok (.dup, 1) := by decide +kernel
theorem dX4_take_11 : decode cX4_take 11 = .ok (.getfield 13, 3) := by decide +kernel
theorem dX4_take_14 : decode cX4_take 14 = .ok (.iload_n 2, 1) := by decide +kernel
theorem dX4_take_15 : decode cX4_take 15 = .ok (.isub, 1) := by decide +kernel
theorem dX4_take_16 : decode cX4_take 16 = .ok (.putfield 13, 3) := by decide +kernel
theorem dX4_take_19 : decode cX4_take 19 = .ok (.aload_n 0, 1) := by decide +kernel
theorem dX4_take_20 : decode cX4_take 20 = .ok (.dup, 1) := by decide +kernel
theorem dX4_take_21 : decode cX4_take 21 = .ok (.getfield 25, 3) := by decide +kernel
theorem dX4_take_24 : decode cX4_take 24 = .ok (.iload_n 1, 1) := by decide +kernel
theorem dX4_take_25 : decode cX4_take 25 = .ok (.iload_n 2, 1) := by decide +kernel
theorem dX4_take_26 : decode cX4_take 26 = .ok (.isub, 1) := by decide +kernel
theorem dX4_take_27 : decode cX4_take 27 = .ok (.iadd, 1) := by decide +kernel
theorem dX4_take_28 : decode cX4_take 28 = .ok (.putfield 25, 3) := by decide +kernel
theorem dX4_take_31 : decode cX4_take 31 = .ok (.iload_n 2, 1) := by decide +kernel
theorem dX4_take_32 : decode cX4_take 32 = .ok (.ireturn, 1) := by decide +kernel
theorem dX4_fact_0 : decode cX4_fact 0 = .ok (.iload_n 1, 1) := by decide +kernel
theorem dX4_fact_1 : decode cX4_fact 1 = .ok (.tableswitch 60 0 4 #[35, 40, 45, 50, 55], 35) := by decide +kernel
theorem dX4_fact_36 : decode cX4_fact 36 = .ok (.aload_n 0, 1) := by decide +kernel
theorem dX4_fact_37 : decode cX4_fact 37 = .ok (.getfield 13, 3) := by decide +kernel
theorem dX4_fact_40 : decode cX4_fact 40 = .ok (.ireturn, 1) := by decide +kernel
theorem dX4_fact_41 : decode cX4_fact 41 = .ok (.aload_n 0, 1) := by decide +kernel
theorem dX4_fact_42 : decode cX4_fact 42 = .ok (.getfield 16, 3) := by decide +kernel
theorem dX4_fact_45 : decode cX4_fact 45 = .ok (.ireturn, 1) := by decide +kernel
theorem dX4_fact_46 : decode cX4_fact 46 = .ok (.aload_n 0, 1) := by decide +kernel
theorem dX4_fact_47 : decode cX4_fact 47 = .ok (.getfield 19, 3) := by decide +kernel
theorem dX4_fact_50 : decode cX4_fact 50 = .ok (.ireturn, 1) := by decide +kernel
theorem dX4_fact_51 : decode cX4_fact 51 = .ok (.aload_n 0, 1) := by decide +kernel
theorem dX4_fact_52 : decode cX4_fact 52 = .ok (.getfield 22, 3) := by decide +kernel
theorem dX4_fact_55 : decode cX4_fact 55 = .ok (.ireturn, 1) := by decide +kernel
theorem dX4_fact_56 : decode cX4_fact 56 = .ok (.aload_n 0, 1) := by decide +kernel
theorem dX4_fact_57 : decode cX4_fact 57 = .ok (.getfield 25, 3) := by decide +kernel
theorem dX4_fact_60 : decode cX4_fact 60 = .ok (.ireturn, 1) := by decide +kernel
theorem dX4_fact_61 : decode cX4_fact 61 = .ok (.aload_n 0, 1) := by decide +kernel
theorem dX4_fact_62 : decode cX4_fact 62 = .ok (.getfield 7, 3) := by decide +kernel
theorem dX4_fact_65 : decode cX4_fact 65 = .ok (.ireturn, 1) := by decide +kernel
theorem dX4_part_0 : decode cX4_part 0 = .ok (.iload_n 1, 1) := by decide +kernel
theorem dX4_part_1 : decode cX4_part 1 = .ok (.tableswitch 47 8 10 #[27, 32, 37], 27) := by decide +kernel
theorem dX4_part_28 : decode cX4_part 28 = .ok (.aload_n 0, 1) := by decide +kernel
theorem dX4_part_29 : decode cX4_part 29 = .ok (.getfield 13, 3) := by decide +kernel
theorem dX4_part_32 : decode cX4_part 32 = .ok (.ireturn, 1) := by decide +kernel
theorem dX4_part_33 : decode cX4_part 33 = .ok (.aload_n 0, 1) := by decide +kernel
theorem dX4_part_34 : decode cX4_part 34 = .ok (.getfield 16, 3) := by decide +kernel
theorem dX4_part_37 : decode cX4_part 37 = .ok (.ireturn, 1) := by decide +kernel
theorem dX4_part_38 : decode cX4_part 38 = .ok (.aload_n 0, 1) := by decide +kernel
theorem dX4_part_39 : decode cX4_part 39 = .ok (.getfield 19, 3) := by decide +kernel
theorem dX4_part_42 : decode cX4_part 42 = .ok (.aload_n 0, 1) := by decide +kernel
theorem dX4_part_43 : decode cX4_part 43 = .ok (.getfield 22, 3) := by decide +kernel
theorem dX4_part_46 : decode cX4_part 46 = .ok (.iadd, 1) := by decide +kernel
theorem dX4_part_47 : decode cX4_part 47 = .ok (.ireturn, 1) := by decide +kernel
theorem dX4_part_48 : decode cX4_part 48 = .ok (.aload_n 0, 1) := by decide +kernel
theorem dX4_part_49 : decode cX4_part 49 = .ok (.getfield 25, 3) := by decide +kernel
theorem dX4_part_52 : decode cX4_part 52 = .ok (.ireturn, 1) := by decide +kernel
theorem dX5_init_0 : decode cX5_init 0 = .ok (.aload_n 0, 1) := by decide +kernel
theorem dX5_init_1 : decode cX5_init 1 = .ok (.invokespecial 3, 3) := by decide +kernel
theorem dX5_init_4 : decode cX5_init 4 = .ok (.aload_n 0, 1) := by decide +kernel
theorem dX5_init_5 : decode cX5_init 5 = .ok (.iconst 0, 1) := by decide +kernel
theorem dX5_init_6 : decode cX5_init 6 = .ok (.putfield 9, 3) := by decide +kernel
theorem dX5_init_9 : decode cX5_init 9 = .ok (.aload_n 0, 1) := by decide +kernel
theorem dX5_init_10 : decode cX5_init 10 = .ok (.iconst 0, 1) := by decide +kernel
theorem dX5_init_11 : decode cX5_init 11 = .ok (.putfield 15, 3) := by decide +kernel
theorem dX5_init_14 : decode cX5_init 14 = .ok (.aload_n 0, 1) := by decide +kernel
theorem dX5_init_15 : decode cX5_init 15 = .ok (.iconst 0, 1) := by decide +kernel
theorem dX5_init_16 : decode cX5_init 16 = .ok (.putfield 18, 3) := by decide +kernel
theorem dX5_init_19 : decode cX5_init 19 = .ok (.aload_n 0, 1) := by decide +kernel
theorem dX5_init_20 : decode cX5_init 20 = .ok (.iconst 0, 1) := by decide +kernel
theorem dX5_init_21 : decode cX5_init 21 = .ok (.putfield 21, 3) := by decide +kernel
theorem dX5_init_24 : decode cX5_init 24 = .ok (.aload_n 0, 1) := by decide +kernel
theorem dX5_init_25 : decode cX5_init 25 = .ok (.iconst 0, 1) := by decide +kernel
theorem dX5_init_26 : decode cX5_init 26 = .ok (.putfield 24, 3) := by decide +kernel
theorem dX5_init_29 : decode cX5_init 29 = .ok (.aload_n 0, 1) := by decide +kernel
theorem dX5_init_30 : decode cX5_init 30 = .ok (.iconst 0, 1) := by decide +kernel
theorem dX5_init_31 : decode cX5_init 31 = .ok (.putfield 27, 3) := by decide +kernel
theorem dX5_init_34 : decode cX5_init 34 = .ok (.aload_n 0, 1) := by decide +kernel
theorem dX5_init_35 : decode cX5_init 35 = .ok (.new 30, 3) := by decide +kernel
theorem dX5_init_38 : decode cX5_init 38 = .ok (.dup, 1) := by decide +kernel
theorem dX5_init_39 : decode cX5_init 39 = .ok (.invokespecial 32, 3) := by decide +kernel
theorem dX5_init_42 : decode cX5_init 42 = .ok (.putfield 33, 3) := by decide +kernel
theorem dX5_init_45 : decode cX5_init 45 = .ok (.return_, 1) := by decide +kernel
theorem dX5_start_0 : decode cX5_start 0 = .ok (.aload_n 0, 1) := by decide +kernel
theorem dX5_start_1 : decode cX5_start 1 = .ok (.iload_n 1, 1) := by decide +kernel
theorem dX5_start_2 : decode cX5_start 2 = .ok (.putfield 9, 3) := by decide +kernel
theorem dX5_start_5 : decode cX5_start 5 = .ok (.aload_n 0, 1) := by decide +kernel
theorem dX5_start_6 : decode cX5_start 6 = .ok (.iload_n 2, 1) := by decide +kernel
theorem dX5_start_7 : decode cX5_start 7 = .ok (.putfield 15, 3) := by decide +kernel
theorem dX5_start_10 : decode cX5_start 10 = .ok (.aload_n 0, 1) := by decide +kernel
theorem dX5_start_11 : decode cX5_start 11 = .ok (.iconst 0, 1) := by decide +kernel
theorem dX5_start_12 : decode cX5_start 12 = .ok (.putfield 18, 3) := by decide +kernel
theorem dX5_start_15 : decode cX5_start 15 = .ok (.aload_n 0, 1) := by decide +kernel
theorem dX5_start_16 : decode cX5_start 16 = .ok (.iload_n 2, 1) := by decide +kernel
theorem dX5_start_17 : decode cX5_start 17 = .ok (.putfield 21, 3) := by decide +kernel
theorem dX5_start_20 : decode cX5_start 20 = .ok (.aload_n 0, 1) := by decide +kernel
theorem dX5_start_21 : decode cX5_start 21 = .ok (.iconst 0, 1) := by decide +kernel
theorem dX5_start_22 : decode cX5_start 22 = .ok (.putfield 24, 3) := by decide +kernel
theorem dX5_start_25 : decode cX5_start 25 = .ok (.aload_n 0, 1) := by decide +kernel
theorem dX5_start_26 : decode cX5_start 26 = .ok (.iconst 0, 1) := by decide +kernel
theorem dX5_start_27 : decode cX5_start 27 = .ok (.putfield 27, 3) := by decide +kernel
theorem dX5_start_30 : decode cX5_start 30 = .ok (.aload_n 0, 1) := by decide +kernel
theorem dX5_start_31 : decode cX5_start 31 = .ok (.getfield 33, 3) := by decide +kernel
theorem dX5_start_34 : decode cX5_start 34 = .ok (.iconst 0, 1) := by decide +kernel
theorem dX5_start_35 : decode cX5_start 35 = .ok (.invokevirtual 37, 3) := by decide +kernel
theorem dX5_start_38 : decode cX5_start 38 = .ok (.return_, 1) := by decide +kernel
theorem dX5_copyFrom_0 : decode cX5_copyFrom 0 = .ok (.aload_n 0, 1) := by decide +kernel
theorem dX5_copyFrom_1 : decode cX5_copyFrom 1 = .ok (.aload_n 1, 1) := by decide +kernel
theorem dX5_copyFrom_2 : decode cX5_copyFrom 2 = .ok (.getfield 9, 3) := by decide +kernel
theorem dX5_copyFrom_5 : decode cX5_copyFrom 5 = .ok (.putfield 9, 3) := by decide +kernel
theorem dX5_copyFrom_8 : decode cX5_copyFrom 8 = .ok (.aload_n 0, 1) := by decide +kernel
theorem dX5_copyFrom_9 : decode cX5_copyFrom 9 = .ok (.aload_n 1, 1) := by decide +kernel
theorem dX5_copyFrom_10 : decode cX5_copyFrom 10 = .ok (.getfield 15, 3) := by decide +kernel
theorem dX5_copyFrom_13 : decode cX5_copyFrom 13 = .ok (.putfield 15, 3) := by decide +kernel
theorem dX5_copyFrom_16 : decode cX5_copyFrom 16 = .ok (.aload_n 0, 1) := by decide +kernel
theorem dX5_copyFrom_17 : decode cX5_copyFrom 17 = .ok (.aload_n 1, 1) := by decide +kernel
theorem dX5_copyFrom_18 : decode cX5_copyFrom 18 = .ok (.getfield 18, 3) := by decide +kernel
theorem dX5_copyFrom_21 : decode cX5_copyFrom 21 = .ok (.putfield 18, 3) := by decide +kernel
theorem dX5_copyFrom_24 : decode cX5_copyFrom 24 = .ok (.aload_n 0, 1) := by decide +kernel
theorem dX5_copyFrom_25 : decode cX5_copyFrom 25 = .ok (.aload_n 1, 1) := by decide +kernel
theorem dX5_copyFrom_26 : decode cX5_copyFrom 26 = .ok (.getfield 21, 3) := by decide +kernel
theorem dX5_copyFrom_29 : decode cX5_copyFrom 29 = .ok (.putfield 21, 3) := by decide +kernel
theorem dX5_copyFrom_32 : decode cX5_copyFrom 32 = .ok (.aload_n 0, 1) := by decide +kernel
theorem dX5_copyFrom_33 : decode cX5_copyFrom 33 = .ok (.aload_n 1, 1) := by decide +kernel
theorem dX5_copyFrom_34 : decode cX5_copyFrom 34 = .ok (.getfield 24, 3) := by decide +kernel
theorem dX5_copyFrom_37 : decode cX5_copyFrom 37 = .ok (.putfield 24, 3) := by decide +kernel
theorem dX5_copyFrom_40 : decode cX5_copyFrom 40 = .ok (.aload_n 0, 1) := by decide +kernel
theorem dX5_copyFrom_41 : decode cX5_copyFrom 41 = .ok (.aload_n 1, 1) := by decide +kernel
theorem dX5_copyFrom_42 : decode cX5_copyFrom 42 = .ok (.getfield 27, 3) := by decide +kernel
theorem dX5_copyFrom_45 : decode cX5_copyFrom 45 = .ok (.putfield 27, 3) := by decide +kernel
theorem dX5_copyFrom_48 : decode cX5_copyFrom 48 = .ok (.aload_n 0, 1) := by decide +kernel
theorem dX5_copyFrom_49 : decode cX5_copyFrom 49 = .ok (.getfield 33, 3) := by decide +kernel
theorem dX5_copyFrom_52 : decode cX5_copyFrom 52 = .ok (.aload_n 1, 1) := by decide +kernel
theorem dX5_copyFrom_53 : decode cX5_copyFrom 53 = .ok (.getfield 33, 3) := by decide +kernel
theorem dX5_copyFrom_56 : decode cX5_copyFrom 56 = .ok (.invokevirtual 41, 3) := by decide +kernel
theorem dX5_copyFrom_59 : decode cX5_copyFrom 59 = .ok (.return_, 1) := by decide +kernel
theorem dX6_init_0 : decode cX6_init 0 = .ok (.aload_n 0, 1) := by decide +kernel
theorem dX6_init_1 : decode cX6_init 1 = .ok (.invokespecial 1, 3) := by decide +kernel
theorem dX6_init_4 : decode cX6_init 4 = .ok (.aload_n 0, 1) := by decide +kernel
theorem dX6_init_5 : decode cX6_init 5 = .ok (.new 7, 3) := by decide +kernel
theorem dX6_init_8 : decode cX6_init 8 = .ok (.dup, 1) := by decide +kernel
theorem dX6_init_9 : decode cX6_init 9 = .ok (.invokespecial 9, 3) := by decide +kernel
theorem dX6_init_12 : decode cX6_init 12 = .ok (.putfield 10, 3) := by decide +kernel
theorem dX6_init_15 : decode cX6_init 15 = .ok (.aload_n 0, 1) := by decide +kernel
theorem dX6_init_16 : decode cX6_init 16 = .ok (.new 7, 3) := by decide +kernel
theorem dX6_init_19 : decode cX6_init 19 = .ok (.dup, 1) := by decide +kernel
theorem dX6_init_20 : decode cX6_init 20 = .ok (.invokespecial 9, 3) := by decide +kernel
theorem dX6_init_23 : decode cX6_init 23 = .ok (.putfield 16, 3) := by decide +kernel
theorem dX6_init_26 : decode cX6_init 26 = .ok (.aload_n 0, 1) := by decide +kernel
theorem dX6_init_27 : decode cX6_init 27 = .ok (.new 19, 3) := by decide +kernel
theorem dX6_init_30 : decode cX6_init 30 = .ok (.dup, 1) := by decide +kernel
theorem dX6_init_31 : decode cX6_init 31 = .ok (.invokespecial 21, 3) := by decide +kernel
theorem dX6_init_34 : decode cX6_init 34 = .ok (.putfield 22, 3) := by decide +kernel
theorem dX6_init_37 : decode cX6_init 37 = .ok (.aload_n 0, 1) := by decide +kernel
theorem dX6_init_38 : decode cX6_init 38 = .ok (.new 26, 3) := by decide +kernel
theorem dX6_init_41 : decode cX6_init 41 = .ok (.dup, 1) := by decide +kernel
theorem dX6_init_42 : decode cX6_init 42 = .ok (.invokespecial 28, 3) := by decide +kernel
theorem dX6_init_45 : decode cX6_init 45 = .ok (.putfield 29, 3) := by decide +kernel
theorem dX6_init_48 : decode cX6_init 48 = .ok (.aload_n 0, 1) := by decide +kernel
theorem dX6_init_49 : decode cX6_init 49 = .ok (.new 33, 3) := by decide +kernel
theorem dX6_init_52 : decode cX6_init 52 = .ok (.dup, 1) := by decide +kernel
theorem dX6_init_53 : decode cX6_init 53 = .ok (.invokespecial 35, 3) := by decide +kernel
theorem dX6_init_56 : decode cX6_init 56 = .ok (.putfield 36, 3) := by decide +kernel
theorem dX6_init_59 : decode cX6_init 59 = .ok (.aload_n 0, 1) := by decide +kernel
theorem dX6_init_60 : decode cX6_init 60 = .ok (.iconst 0, 1) := by decide +kernel
theorem dX6_init_61 : decode cX6_init 61 = .ok (.putfield 40, 3) := by decide +kernel
theorem dX6_init_64 : decode cX6_init 64 = .ok (.return_, 1) := by decide +kernel
theorem dX6_setRate_0 : decode cX6_setRate 0 = .ok (.iload_n 1, 1) := by decide +kernel
theorem dX6_setRate_1 : decode cX6_setRate 1 = .ok (.iconst 0, 1) := by decide +kernel
theorem dX6_setRate_2 : decode cX6_setRate 2 = .ok (.ldc 44, 2) := by decide +kernel
theorem dX6_setRate_4 : decode cX6_setRate 4 = .ok (.invokestatic 45, 3) := by decide +kernel
theorem dX6_setRate_7 : decode cX6_setRate 7 = .ok (.ifCond .eq 6, 3) := by decide +kernel
theorem dX6_setRate_10 : decode cX6_setRate 10 = .ok (.bipush (-2), 2) := by decide +kernel
theorem dX6_setRate_12 : decode cX6_setRate 12 = .ok (.ireturn, 1) := by decide +kernel
theorem dX6_setRate_13 : decode cX6_setRate 13 = .ok (.iload_n 1, 1) := by decide +kernel
theorem dX6_setRate_14 : decode cX6_setRate 14 = .ok (.invokestatic 49, 3) := by decide +kernel
theorem dX6_setRate_17 : decode cX6_setRate 17 = .ok (.fstore_n 2, 1) := by decide +kernel
theorem dX6_setRate_18 : decode cX6_setRate 18 = .ok (.fload_n 2, 1) := by decide +kernel
theorem dX6_setRate_19 : decode cX6_setRate 19 = .ok (.aload_n 0, 1) := by decide +kernel
theorem dX6_setRate_20 : decode cX6_setRate 20 = .ok (.getfield 10, 3) := by decide +kernel
theorem dX6_setRate_23 : decode cX6_setRate 23 = .ok (.getfield 53, 3) := by decide +kernel
theorem dX6_setRate_26 : decode cX6_setRate 26 = .ok (.fcmp .l, 1) := by decide +kernel
theorem dX6_setRate_27 : decode cX6_setRate 27 = .ok (.ifCond .ne 6, 3) := by decide +kernel
theorem dX6_setRate_30 : decode cX6_setRate 30 = .ok (.bipush (-5), 2) := by decide +kernel
theorem dX6_setRate_32 : decode cX6_setRate 32 = .ok (.ireturn, 1) := by decide +kernel
theorem dX6_setRate_33 : decode cX6_setRate 33 = .ok (.aload_n 0, 1) := by decide +kernel
theorem dX6_setRate_34 : decode cX6_setRate 34 = .ok (.getfield 22, 3) := by decide +kernel
theorem dX6_setRate_37 : decode cX6_setRate 37 = .ok (.aload_n 0, 1) := by decide +kernel
theorem dX6_setRate_38 : decode cX6_setRate 38 = .ok (.getfield 10, 3) := by decide +kernel
theorem dX6_setRate_41 : decode cX6_setRate 41 = .ok (.invokevirtual 57, 3) := by decide +kernel
theorem dX6_setRate_44 : decode cX6_setRate 44 = .ok (.aload_n 0, 1) := by decide +kernel
theorem dX6_setRate_45 : decode cX6_setRate 45 = .ok (.getfield 10, 3) := by decide +kernel
theorem dX6_setRate_48 : decode cX6_setRate 48 = .ok (.fload_n 2, 1) := by decide +kernel
theorem dX6_setRate_49 : decode cX6_setRate 49 = .ok (.putfield 53, 3) := by decide +kernel
theorem dX6_setRate_52 : decode cX6_setRate 52 = .ok (.iconst 1, 1) := by decide +kernel
theorem dX6_setRate_53 : decode cX6_setRate 53 = .ok (.ireturn, 1) := by decide +kernel
theorem dX6_setFee_0 : decode cX6_setFee 0 = .ok (.iload_n 1, 1) := by decide +kernel
theorem dX6_setFee_1 : decode cX6_setFee 1 = .ok (.iconst 0, 1) := by decide +kernel
theorem dX6_setFee_2 : decode cX6_setFee 2 = .ok (.ldc 61, 2) := by decide +kernel
theorem dX6_setFee_4 : decode cX6_setFee 4 = .ok (.invokestatic 45, 3) := by decide +kernel
theorem dX6_setFee_7 : decode cX6_setFee 7 = .ok (.ifCond .eq 6, 3) := by decide +kernel
theorem dX6_setFee_10 : decode cX6_setFee 10 = .ok (.bipush (-2), 2) := by decide +kernel
theorem dX6_setFee_12 : decode cX6_setFee 12 = .ok (.ireturn, 1) := by decide +kernel
theorem dX6_setFee_13 : decode cX6_setFee 13 = .ok (.aload_n 0, 1) := by decide +kernel
theorem dX6_setFee_14 : decode cX6_setFee 14 = .ok (.getfield 10, 3) := by decide +kernel
theorem dX6_setFee_17 : decode cX6_setFee 17 = .ok (.getfield 62, 3) := by decide +kernel
theorem dX6_setFee_20 : decode cX6_setFee 20 = .ok (.istore_n 2, 1) := by decide +kernel
theorem dX6_setFee_21 : decode cX6_setFee 21 = .ok (.iload_n 2, 1) := by decide +kernel
theorem dX6_setFee_22 : decode cX6_setFee 22 = .ok (.iload_n 1, 1) := by decide +kernel
theorem dX6_setFee_23 : decode cX6_setFee 23 = .ok (.if_icmp .ne 6, 3) := by decide +kernel
theorem dX6_setFee_26 : decode cX6_setFee 26 = .ok (.bipush (-5), 2) := by decide +kernel
theorem dX6_setFee_28 : decode cX6_setFee 28 = .ok (.ireturn, 1) := by decide +kernel
theorem dX6_setFee_29 : decode cX6_setFee 29 = .ok (.aload_n 0, 1) := by decide +kernel
theorem dX6_setFee_30 : decode cX6_setFee 30 = .ok (.getfield 22, 3) := by decide +kernel
theorem dX6_setFee_33 : decode cX6_setFee 33 = .ok (.aload_n 0, 1) := by decide +kernel
theorem dX6_setFee_34 : decode cX6_setFee 34 = .ok (.getfield 10, 3) := by decide +kernel
theorem dX6_setFee_37 : decode cX6_setFee 37 = .ok (.invokevirtual 57, 3) := by decide +kernel
theorem dX6_setFee_40 : decode cX6_setFee 40 = .ok (.aload_n 0, 1) := by decide +kernel
theorem dX6_setFee_41 : decode cX6_setFee 41 = .ok (.getfield 10, 3) := by decide +kernel
theorem dX6_setFee_44 : decode cX6_setFee 44 = .ok (.iload_n 1, 1) := by decide +kernel
theorem dX6_setFee_45 : decode cX6_setFee 45 = .ok (.putfield 62, 3) := by decide +kernel
theorem dX6_setFee_48 : decode cX6_setFee 48 = .ok (.iload_n 2, 1) := by decide +kernel
theorem dX6_setFee_49 : decode cX6_setFee 49 = .ok (.ireturn, 1) := by decide +kernel
theorem dX6_pass_0 : decode cX6_pass 0 = .ok (.iload_n 1, 1) := by decide +kernel
theorem dX6_pass_1 : decode cX6_pass 1 = .ok (.iconst 1, 1) := by decide +kernel
theorem dX6_pass_2 : decode cX6_pass 2 = .ok (.sipush 1000, 3) := by decide +kernel
theorem dX6_pass_5 : decode cX6_pass 5 = .ok (.invokestatic 45, 3) := by decide +kernel
theorem dX6_pass_8 : decode cX6_pass 8 = .ok (.ifCond .eq 6, 3) := by decide +kernel
theorem dX6_pass_11 : decode cX6_pass 11 = .ok (.bipush (-2), 2) := by decide +kernel
theorem dX6_pass_13 : decode cX6_pass 13 = .ok (.ireturn, 1) := by decide +kernel
theorem dX6_pass_14 : decode cX6_pass 14 = .ok (.aload_n 0, 1) := by decide +kernel
theorem dX6_pass_15 : decode cX6_pass 15 = .ok (.getfield 10, 3) := by decide +kernel
theorem dX6_pass_18 : decode cX6_pass 18 = .ok (.getfield 66, 3) := by decide +kernel
theorem dX6_pass_21 : decode cX6_pass 21 = .ok (.iload_n 1, 1) := by decide +kernel
theorem dX6_pass_22 : decode cX6_pass 22 = .ok (.iadd, 1) := by decide +kernel
theorem dX6_pass_23 : decode cX6_pass 23 = .ok (.ldc 69, 2) := by decide +kernel
theorem dX6_pass_25 : decode cX6_pass 25 = .ok (.if_icmp .le 6, 3) := by decide +kernel
theorem dX6_pass_28 : decode cX6_pass 28 = .ok (.bipush (-3), 2) := by decide +kernel
theorem dX6_pass_30 : decode cX6_pass 30 = .ok (.ireturn, 1) := by decide +kernel
theorem dX6_pass_31 : decode cX6_pass 31 = .ok (.aload_n 0, 1) := by decide +kernel
theorem dX6_pass_32 : decode cX6_pass 32 = .ok (.getfield 22, 3) := by decide +kernel
theorem dX6_pass_35 : decode cX6_pass 35 = .ok (.aload_n 0, 1) := by decide +kernel
theorem dX6_pass_36 : decode cX6_pass 36 = .ok (.getfield 10, 3) := by decide +kernel
theorem dX6_pass_39 : decode cX6_pass 39 = .ok (.invokevirtual 57, 3) := by decide +kernel
theorem dX6_pass_42 : decode cX6_pass 42 = .ok (.aload_n 0, 1) := by decide +kernel
theorem dX6_pass_43 : decode cX6_pass 43 = .ok (.getfield 10, 3) := by decide +kernel
theorem dX6_pass_46 : decode cX6_pass 46 = .ok (.dup, 1) := by decide +kernel
theorem dX6_pass_47 : decode cX6_pass 47 = .ok (.getfield 66, 3) := by decide +kernel
theorem dX6_pass_50 : decode cX6_pass 50 = .ok (.iload_n 1, 1) := by decide +kernel
theorem dX6_pass_51 : decode cX6_pass 51 = .ok (.iadd, 1) := by decide +kernel
theorem dX6_pass_52 : decode cX6_pass 52 = .ok (.putfield 66, 3) := by decide +kernel
theorem dX6_pass_55 : decode cX6_pass 55 = .ok (.aload_n 0, 1) := by decide +kernel
theorem dX6_pass_56 : decode cX6_pass 56 = .ok (.getfield 10, 3) := by decide +kernel
theorem dX6_pass_59 : decode cX6_pass 59 = .ok (.getfield 66, 3) := by decide +kernel
theorem dX6_pass_62 : decode cX6_pass 62 = .ok (.ireturn, 1) := by decide +kernel
theorem dX6_begin_0 : decode cX6_begin 0 = .ok (.iload_n 1, 1) := by decide +kernel
theorem dX6_begin_1 : decode cX6_begin 1 = .ok (.sipush 1000, 3) := by decide +kernel
theorem dX6_begin_4 : decode cX6_begin 4 = .ok (.ldc 70, 2) := by decide +kernel
theorem dX6_begin_6 : decode cX6_begin 6 = .ok (.invokestatic 45, 3) := by decide +kernel
theorem dX6_begin_9 : decode cX6_begin 9 = .ok (.ifCond .eq 6, 3) := by decide +kernel
theorem dX6_begin_12 : decode cX6_begin 12 = .ok (.bipush (-2), 2) := by decide +kernel
theorem dX6_begin_14 : decode cX6_begin 14 = .ok (.ireturn, 1) := by decide +kernel
theorem dX6_begin_15 : decode cX6_begin 15 = .ok (.aload_n 0, 1) := by decide +kernel
theorem dX6_begin_16 : decode cX6_begin 16 = .ok (.getfield 10, 3) := by decide +kernel
theorem dX6_begin_19 : decode cX6_begin 19 = .ok (.getfield 71, 3) := by decide +kernel
theorem dX6_begin_22 : decode cX6_begin 22 = .ok (.bipush 6, 2) := by decide +kernel
theorem dX6_begin_24 : decode cX6_begin 24 = .ok (.if_icmp .lt 6, 3) := by decide +kernel
theorem dX6_begin_27 : decode cX6_begin 27 = .ok (.bipush (-3), 2) := by decide +kernel
theorem dX6_begin_29 : decode cX6_begin 29 = .ok (.ireturn, 1) := by decide +kernel
theorem dX6_begin_30 : decode cX6_begin 30 = .ok (.aload_n 0, 1) := by decide +kernel
theorem dX6_begin_31 : decode cX6_begin 31 = .ok (.getfield 22, 3) := by decide +kernel
theorem dX6_begin_34 : decode cX6_begin 34 = .ok (.aload_n 0, 1) := by decide +kernel
theorem dX6_begin_35 : decode cX6_begin 35 = .ok (.getfield 10, 3) := by decide +kernel
theorem dX6_begin_38 : decode cX6_begin 38 = .ok (.invokevirtual 57, 3) := by decide +kernel
theorem dX6_begin_41 : decode cX6_begin 41 = .ok (.aload_n 0, 1) := by decide +kernel
theorem dX6_begin_42 : decode cX6_begin 42 = .ok (.getfield 10, 3) := by decide +kernel
theorem dX6_begin_45 : decode cX6_begin 45 = .ok (.iload_n 1, 1) := by decide +kernel
theorem dX6_begin_46 : decode cX6_begin 46 = .ok (.invokevirtual 74, 3) := by decide +kernel
theorem dX6_begin_49 : decode cX6_begin 49 = .ok (.ireturn, 1) := by decide +kernel
theorem dX6_addItem_0 : decode cX6_addItem 0 = .ok (.aload_n 0, 1) := by decide +kernel
theorem dX6_addItem_1 : decode cX6_addItem 1 = .ok (.getfield 10, 3) := by decide +kernel
theorem dX6_addItem_4 : decode cX6_addItem 4 = .ok (.iload_n 1, 1) := by decide +kernel
theorem dX6_addItem_5 : decode cX6_addItem 5 = .ok (.invokevirtual 78, 3) := by decide +kernel
theorem dX6_addItem_8 : decode cX6_addItem 8 = .ok (.astore 6, 2) := by decide +kernel
theorem dX6_addItem_10 : decode cX6_addItem 10 = .ok (.aload 6, 2) := by decide +kernel
theorem dX6_addItem_12 : decode cX6_addItem 12 = .ok (.ifnonnull 5, 3) := by decide +kernel
theorem dX6_addItem_15 : decode cX6_addItem 15 = .ok (.iconst (-1), 1) := by decide +kernel
theorem dX6_addItem_16 : decode cX6_addItem 16 = .ok (.ireturn, 1) := by decide +kernel
theorem dX6_addItem_17 : decode cX6_addItem 17 = .ok (.iload_n 2, 1) := by decide +kernel
theorem dX6_addItem_18 : decode cX6_addItem 18 = .ok (.bipush 100, 2) := by decide +kernel
theorem dX6_addItem_20 : decode cX6_addItem 20 = .ok (.ldc 82, 2) := by decide +kernel
theorem dX6_addItem_22 : decode cX6_addItem 22 = .ok (.invokestatic 45, 3) := by decide +kernel
theorem dX6_addItem_25 : decode cX6_addItem 25 = .ok (.ifCond .ne 38, 3) := by decide +kernel
theorem dX6_addItem_28 : decode cX6_addItem 28 = .ok (.iload_n 3, 1) := by decide +kernel
theorem dX6_addItem_29 : decode cX6_addItem 29 = .ok (.bipush 30, 2) := by decide +kernel
theorem dX6_addItem_31 : decode cX6_addItem 31 = .ok (.sipush 9999, 3) := by decide +kernel
theorem dX6_addItem_34 : decode cX6_addItem 34 = .ok (.invokestatic 45, 3) := by decide +kernel
theorem dX6_addItem_37 : decode cX6_addItem 37 = .ok (.ifCond .ne 26, 3) := by decide +kernel
theorem dX6_addItem_40 : decode cX6_addItem 40 = .ok (.iload 4, 2) := by decide +kernel
theorem dX6_addItem_42 : decode cX6_addItem 42 = .ok (.iconst 0, 1) := by decide +kernel
theorem dX6_addItem_43 : decode cX6_addItem 43 = .ok (.sipush 9999, 3) := by decide +kernel
theorem dX6_addItem_46 : decode cX6_addItem 46 = .ok (.invokestatic 45, 3) := by decide +kernel
theorem dX6_addItem_49 : decode cX6_addItem 49 = .ok (.ifCond .ne 14, 3) := by decide +kernel
theorem dX6_addItem_52 : decode cX6_addItem 52 = .ok (.iload 5, 2) := by decide +kernel
theorem dX6_addItem_54 : decode cX6_addItem 54 = .ok (.iconst 0, 1) := by decide +kernel
theorem dX6_addItem_55 : decode cX6_addItem 55 = .ok (.bipush 100, 2) := by decide +kernel
theorem dX6_addItem_57 : decode cX6_addItem 57 = .ok (.invokestatic 45, 3) := by decide +kernel
theorem dX6_addItem_60 : decode cX6_addItem 60 = .ok (.ifCond .eq 6, 3) := by decide +kernel
theorem dX6_addItem_63 : decode cX6_addItem 63 = .ok (.bipush (-2), 2) := by decide +kernel
theorem dX6_addItem_65 : decode cX6_addItem 65 = .ok (.ireturn, 1) := by decide +kernel
theorem dX6_addItem_66 : decode cX6_addItem 66 = .ok (.aload 6, 2) := by decide +kernel
theorem dX6_addItem_68 : decode cX6_addItem 68 = .ok (.getfield 83, 3) := by decide +kernel
theorem dX6_addItem_71 : decode cX6_addItem 71 = .ok (.ifCond .ne 18, 3) := by decide +kernel
theorem dX6_addItem_74 : decode cX6_addItem 74 = .ok (.aload 6, 2) := by decide +kernel
theorem dX6_addItem_76 : decode cX6_addItem 76 = .ok (.getfield 88, 3) := by decide +kernel
theorem dX6_addItem_79 : decode cX6_addItem 79 = .ok (.aload_n 0, 1) := by decide +kernel
theorem dX6_addItem_80 : decode cX6_addItem 80 = .ok (.getfield 10, 3) := by decide +kernel
theorem dX6_addItem_83 : decode cX6_addItem 83 = .ok (.getfield 66, 3) := by decide +kernel
theorem dX6_addItem_86 : decode cX6_addItem 86 = .ok (.if_icmp .eq 6, 3) := by decide +kernel
theorem dX6_addItem_89 : decode cX6_addItem 89 = .ok (.bipush (-4), 2) := by decide +kernel
theorem dX6_addItem_91 : decode cX6_addItem 91 = .ok (.ireturn, 1) := by decide +kernel
theorem dX6_addItem_92 : decode cX6_addItem 92 = .ok (.aload_n 0, 1) := by decide +kernel
theorem dX6_addItem_93 : decode cX6_addItem 93 = .ok (.getfield 10, 3) := by decide +kernel
theorem dX6_addItem_96 : decode cX6_addItem 96 = .ok (.getfield 91, 3) := by decide +kernel
theorem dX6_addItem_99 : decode cX6_addItem 99 = .ok (.bipush 24, 2) := by decide +kernel
theorem dX6_addItem_101 : decode cX6_addItem 101 = .ok (.if_icmp .lt 6, 3) := by decide +kernel
theorem dX6_addItem_104 : decode cX6_addItem 104 = .ok (.bipush (-3), 2) := by decide +kernel
theorem dX6_addItem_106 : decode cX6_addItem 106 = .ok (.ireturn, 1) := by decide +kernel
theorem dX6_addItem_107 : decode cX6_addItem 107 = .ok (.aload_n 0, 1) := by decide +kernel
theorem dX6_addItem_108 : decode cX6_addItem 108 = .ok (.getfield 22, 3) := by decide +kernel
theorem dX6_addItem_111 : decode cX6_addItem 111 = .ok (.aload_n 0, 1) := by decide +kernel
theorem dX6_addItem_112 : decode cX6_addItem 112 = .ok (.getfield 10, 3) := by decide +kernel
theorem dX6_addItem_115 : decode cX6_addItem 115 = .ok (.invokevirtual 57, 3) := by decide +kernel
theorem dX6_addItem_118 : decode cX6_addItem 118 = .ok (.aload_n 0, 1) := by decide +kernel
theorem dX6_addItem_119 : decode cX6_addItem 119 = .ok (.getfield 10, 3) := by decide +kernel
theorem dX6_addItem_122 : decode cX6_addItem 122 = .ok (.iload_n 1, 1) := by decide +kernel
theorem dX6_addItem_123 : decode cX6_addItem 123 = .ok (.iload_n 2, 1) := by decide +kernel
theorem dX6_addItem_124 : decode cX6_addItem 124 = .ok (.iload_n 3, 1) := by decide +kernel
theorem dX6_addItem_125 : decode cX6_addItem 125 = .ok (.iload 4, 2) := by decide +kernel
theorem dX6_addItem_127 : decode cX6_addItem 127 = .ok (.iload 5, 2) := by decide +kernel
theorem dX6_addItem_129 : decode cX6_addItem 129 = .ok (.invokevirtual 94, 3) := by decide +kernel
theorem dX6_addItem_132 : decode cX6_addItem 132 = .ok (.ireturn, 1) := by decide +kernel
theorem dX6_end_0 : decode cX6_end 0 = .ok (.aload_n 0, 1) := by decide +kernel
theorem dX6_end_1 : decode cX6_end 1 = .ok (.getfield 10, 3) := by decide +kernel
theorem dX6_end_4 : decode cX6_end 4 = .ok (.iload_n 1, 1) := by decide +kernel
theorem dX6_end_5 : decode cX6_end 5 = .ok (.invokevirtual 78, 3) := by decide +kernel
theorem dX6_end_8 : decode cX6_end 8 = .ok (.astore_n 2, 1) := by decide +kernel
theorem dX6_end_9 : decode cX6_end 9 = .ok (.aload_n 2, 1) := by decide +kernel
theorem dX6_end_10 : decode cX6_end 10 = .ok (.ifnonnull 5, 3) := by decide +kernel
theorem dX6_end_13 : decode cX6_end 13 = .ok (.iconst (-1), 1) := by decide +kernel
theorem dX6_end_14 : decode cX6_end 14 = .ok (.ireturn, 1) := by decide +kernel
theorem dX6_end_15 : decode cX6_end 15 = .ok (.aload_n 2, 1) := by decide +kernel
theorem dX6_end_16 : decode cX6_end 16 = .ok (.getfield 83, 3) := by decide +kernel
theorem dX6_end_19 : decode cX6_end 19 = .ok (.ifCond .eq 6, 3) := by decide +kernel
theorem dX6_end_22 : decode cX6_end 22 = .ok (.bipush (-4), 2) := by decide +kernel
theorem dX6_end_24 : decode cX6_end 24 = .ok (.ireturn, 1) := by decide +kernel
theorem dX6_end_25 : decode cX6_end 25 = .ok (.aload_n 0, 1) := by decide +kernel
theorem dX6_end_26 : decode cX6_end 26 = .ok (.getfield 22, 3) := by decide +kernel
theorem dX6_end_29 : decode cX6_end 29 = .ok (.aload_n 0, 1) := by decide +kernel
theorem dX6_end_30 : decode cX6_end 30 = .ok (.getfield 10, 3) := by decide +kernel
theorem dX6_end_33 : decode cX6_end 33 = .ok (.invokevirtual 57, 3) := by decide +kernel
theorem dX6_end_36 : decode cX6_end 36 = .ok (.aload_n 2, 1) := by decide +kernel
theorem dX6_end_37 : decode cX6_end 37 = .ok (.iconst 1, 1) := by decide +kernel
theorem dX6_end_38 : decode cX6_end 38 = .ok (.putfield 83, 3) := by decide +kernel
theorem dX6_end_41 : decode cX6_end 41 = .ok (.aload_n 2, 1) := by decide +kernel
theorem dX6_end_42 : decode cX6_end 42 = .ok (.aload_n 0, 1) := by decide +kernel
theorem dX6_end_43 : decode cX6_end 43 = .ok (.getfield 10, 3) := by decide +kernel
theorem dX6_end_46 : decode cX6_end 46 = .ok (.getfield 66, 3) := by decide +kernel
theorem dX6_end_49 : decode cX6_end 49 = .ok (.putfield 98, 3) := by decide +kernel
theorem dX6_end_52 : decode cX6_end 52 = .ok (.aload_n 0, 1) := by decide +kernel
theorem dX6_end_53 : decode cX6_end 53 = .ok (.getfield 10, 3) := by decide +kernel
theorem dX6_end_56 : decode cX6_end 56 = .ok (.iload_n 1, 1) := by decide +kernel
theorem dX6_end_57 : decode cX6_end 57 = .ok (.invokevirtual 101, 3) := by decide +kernel
theorem dX6_end_60 : decode cX6_end 60 = .ok (.aload_n 0, 1) := by decide +kernel
theorem dX6_end_61 : decode cX6_end 61 = .ok (.getfield 10, 3) := by decide +kernel
theorem dX6_end_64 : decode cX6_end 64 = .ok (.aload_n 2, 1) := by decide +kernel
theorem dX6_end_65 : decode cX6_end 65 = .ok (.invokevirtual 105, 3) := by decide +kernel
theorem dX6_end_68 : decode cX6_end 68 = .ok (.ireturn, 1) := by decide +kernel
theorem dX6_inspect_0 : decode cX6_inspect 0 = .ok (.aload_n 0, 1) := by decide +kernel
theorem dX6_inspect_1 : decode cX6_inspect 1 = .ok (.getfield 10, 3) := by decide +kernel
theorem dX6_inspect_4 : decode cX6_inspect 4 = .ok (.iload_n 1, 1) := by decide +kernel
theorem dX6_inspect_5 : decode cX6_inspect 5 = .ok (.invokevirtual 109, 3) := by decide +kernel
theorem dX6_inspect_8 : decode cX6_inspect 8 = .ok (.astore_n 3, 1) := by decide +kernel
theorem dX6_inspect_9 : decode cX6_inspect 9 = .ok (.aload_n 3, 1) := by decide +kernel
theorem dX6_inspect_10 : decode cX6_inspect 10 = .ok (.ifnonnull 5, 3) := by decide +kernel
theorem dX6_inspect_13 : decode cX6_inspect 13 = .ok (.iconst (-1), 1) := by decide +kernel
theorem dX6_inspect_14 : decode cX6_inspect 14 = .ok (.ireturn, 1) := by decide +kernel
theorem dX6_inspect_15 : decode cX6_inspect 15 = .ok (.iload_n 2, 1) := by decide +kernel
theorem dX6_inspect_16 : decode cX6_inspect 16 = .ok (.iconst 0, 1) := by decide +kernel
theorem dX6_inspect_17 : decode cX6_inspect 17 = .ok (.bipush 100, 2) := by decide +kernel
theorem dX6_inspect_19 : decode cX6_inspect 19 = .ok (.invokestatic 45, 3) := by decide +kernel
theorem dX6_inspect_22 : decode cX6_inspect 22 = .ok (.ifCond .eq 6, 3) := by decide +kernel
theorem dX6_inspect_25 : decode cX6_inspect 25 = .ok (.bipush (-2), 2) := by decide +kernel
theorem dX6_inspect_27 : decode cX6_inspect 27 = .ok (.ireturn, 1) := by decide +kernel
theorem dX6_inspect_28 : decode cX6_inspect 28 = .ok (.aload_n 0, 1) := by decide +kernel
theorem dX6_inspect_29 : decode cX6_inspect 29 = .ok (.getfield 10, 3) := by decide +kernel
theorem dX6_inspect_32 : decode cX6_inspect 32 = .ok (.aload_n 3, 1) := by decide +kernel
theorem dX6_inspect_33 : decode cX6_inspect 33 = .ok (.invokevirtual 113, 3) := by decide +kernel
theorem dX6_inspect_36 : decode cX6_inspect 36 = .ok (.iconst 1, 1) := by decide +kernel
theorem dX6_inspect_37 : decode cX6_inspect 37 = .ok (.if_icmp .eq 6, 3) := by decide +kernel
theorem dX6_inspect_40 : decode cX6_inspect 40 = .ok (.bipush (-4), 2) := by decide +kernel
theorem dX6_inspect_42 : decode cX6_inspect 42 = .ok (.ireturn, 1) := by decide +kernel
theorem dX6_inspect_43 : decode cX6_inspect 43 = .ok (.aload_n 3, 1) := by decide +kernel
theorem dX6_inspect_44 : decode cX6_inspect 44 = .ok (.getfield 117, 3) := by decide +kernel
theorem dX6_inspect_47 : decode cX6_inspect 47 = .ok (.iload_n 2, 1) := by decide +kernel
theorem dX6_inspect_48 : decode cX6_inspect 48 = .ok (.if_icmp .ne 6, 3) := by decide +kernel
theorem dX6_inspect_51 : decode cX6_inspect 51 = .ok (.bipush (-5), 2) := by decide +kernel
theorem dX6_inspect_53 : decode cX6_inspect 53 = .ok (.ireturn, 1) := by decide +kernel
theorem dX6_inspect_54 : decode cX6_inspect 54 = .ok (.aload_n 0, 1) := by decide +kernel
theorem dX6_inspect_55 : decode cX6_inspect 55 = .ok (.getfield 22, 3) := by decide +kernel
theorem dX6_inspect_58 : decode cX6_inspect 58 = .ok (.aload_n 0, 1) := by decide +kernel
theorem dX6_inspect_59 : decode cX6_inspect 59 = .ok (.getfield 10, 3) := by decide +kernel
theorem dX6_inspect_62 : decode cX6_inspect 62 = .ok (.invokevirtual 57, 3) := by decide +kernel
theorem dX6_inspect_65 : decode cX6_inspect 65 = .ok (.aload_n 3, 1) := by decide +kernel
theorem dX6_inspect_66 : decode cX6_inspect 66 = .ok (.aload_n 0, 1) := by decide +kernel
theorem dX6_inspect_67 : decode cX6_inspect 67 = .ok (.getfield 10, 3) := by decide +kernel
theorem dX6_inspect_70 : decode cX6_inspect 70 = .ok (.aload_n 3, 1) := by decide +kernel
theorem dX6_inspect_71 : decode cX6_inspect 71 = .ok (.invokevirtual 122, 3) := by decide +kernel
theorem dX6_inspect_74 : decode cX6_inspect 74 = .ok (.iload_n 2, 1) := by decide +kernel
theorem dX6_inspect_75 : decode cX6_inspect 75 = .ok (.invokevirtual 125, 3) := by decide +kernel
theorem dX6_inspect_78 : decode cX6_inspect 78 = .ok (.aload_n 3, 1) := by decide +kernel
theorem dX6_inspect_79 : decode cX6_inspect 79 = .ok (.getfield 129, 3) := by decide +kernel
theorem dX6_inspect_82 : decode cX6_inspect 82 = .ok (.ireturn, 1) := by decide +kernel
theorem dX6_claim_0 : decode cX6_claim 0 = .ok (.aload_n 0, 1) := by decide +kernel
theorem dX6_claim_1 : decode cX6_claim 1 = .ok (.getfield 10, 3) := by decide +kernel
theorem dX6_claim_4 : decode cX6_claim 4 = .ok (.iload_n 1, 1) := by decide +kernel
theorem dX6_claim_5 : decode cX6_claim 5 = .ok (.invokevirtual 109, 3) := by decide +kernel
theorem dX6_claim_8 : decode cX6_claim 8 = .ok (.astore_n 3, 1) := by decide +kernel
theorem dX6_claim_9 : decode cX6_claim 9 = .ok (.aload_n 3, 1) := by decide +kernel
theorem dX6_claim_10 : decode cX6_claim 10 = .ok (.ifnonnull 5, 3) := by decide +kernel
theorem dX6_claim_13 : decode cX6_claim 13 = .ok (.iconst (-1), 1) := by decide +kernel
theorem dX6_claim_14 : decode cX6_claim 14 = .ok (.ireturn, 1) := by decide +kernel
theorem dX6_claim_15 : decode cX6_claim 15 = .ok (.iload_n 2, 1) := by decide +kernel
theorem dX6_claim_16 : decode cX6_claim 16 = .ok (.iconst 0, 1) := by decide +kernel
theorem dX6_claim_17 : decode cX6_claim 17 = .ok (.aload_n 3, 1) := by decide +kernel
theorem dX6_claim_18 : decode cX6_claim 18 = .ok (.getfield 132, 3) := by decide +kernel
theorem dX6_claim_21 : decode cX6_claim 21 = .ok (.invokestatic 45, 3) := by decide +kernel
theorem dX6_claim_24 : decode cX6_claim 24 = .ok (.ifCond .eq 6, 3) := by decide +kernel
theorem dX6_claim_27 : decode cX6_claim 27 = .ok (.bipush (-2), 2) := by decide +kernel
theorem dX6_claim_29 : decode cX6_claim 29 = .ok (.ireturn, 1) := by decide +kernel
theorem dX6_claim_30 : decode cX6_claim 30 = .ok (.aload_n 0, 1) := by decide +kernel
theorem dX6_claim_31 : decode cX6_claim 31 = .ok (.getfield 10, 3) := by decide +kernel
theorem dX6_claim_34 : decode cX6_claim 34 = .ok (.aload_n 3, 1) := by decide +kernel
theorem dX6_claim_35 : decode cX6_claim 35 = .ok (.invokevirtual 113, 3) := by decide +kernel
theorem dX6_claim_38 : decode cX6_claim 38 = .ok (.iconst 1, 1) := by decide +kernel
theorem dX6_claim_39 : decode cX6_claim 39 = .ok (.if_icmp .eq 6, 3) := by decide +kernel
theorem dX6_claim_42 : decode cX6_claim 42 = .ok (.bipush (-4), 2) := by decide +kernel
theorem dX6_claim_44 : decode cX6_claim 44 = .ok (.ireturn, 1) := by decide +kernel
theorem dX6_claim_45 : decode cX6_claim 45 = .ok (.aload_n 3, 1) := by decide +kernel
theorem dX6_claim_46 : decode cX6_claim 46 = .ok (.getfield 135, 3) := by decide +kernel
theorem dX6_claim_49 : decode cX6_claim 49 = .ok (.istore 4, 2) := by decide +kernel
theorem dX6_claim_51 : decode cX6_claim 51 = .ok (.iload 4, 2) := by decide +kernel
theorem dX6_claim_53 : decode cX6_claim 53 = .ok (.iload_n 2, 1) := by decide +kernel
theorem dX6_claim_54 : decode cX6_claim 54 = .ok (.if_icmp .ne 6, 3) := by decide +kernel
theorem dX6_claim_57 : decode cX6_claim 57 = .ok (.bipush (-5), 2) := by decide +kernel
theorem dX6_claim_59 : decode cX6_claim 59 = .ok (.ireturn, 1) := by decide +kernel
theorem dX6_claim_60 : decode cX6_claim 60 = .ok (.aload_n 0, 1) := by decide +kernel
theorem dX6_claim_61 : decode cX6_claim 61 = .ok (.getfield 22, 3) := by decide +kernel
theorem dX6_claim_64 : decode cX6_claim 64 = .ok (.aload_n 0, 1) := by decide +kernel
theorem dX6_claim_65 : decode cX6_claim 65 = .ok (.getfield 10, 3) := by decide +kernel
theorem dX6_claim_68 : decode cX6_claim 68 = .ok (.invokevirtual 57, 3) := by decide +kernel
theorem dX6_claim_71 : decode cX6_claim 71 = .ok (.aload_n 3, 1) := by decide +kernel
theorem dX6_claim_72 : decode cX6_claim 72 = .ok (.iload_n 2, 1) := by decide +kernel
theorem dX6_claim_73 : decode cX6_claim 73 = .ok (.putfield 135, 3) := by decide +kernel
theorem dX6_claim_76 : decode cX6_claim 76 = .ok (.iload 4, 2) := by decide +kernel
theorem dX6_claim_78 : decode cX6_claim 78 = .ok (.ireturn, 1) := by decide +kernel
theorem dX6_claimRent_0 : decode cX6_claimRent 0 = .ok (.aload_n 0, 1) := by decide +kernel
theorem dX6_claimRent_1 : decode cX6_claimRent 1 = .ok (.getfield 10, 3) := by decide +kernel
theorem dX6_claimRent_4 : decode cX6_claimRent 4 = .ok (.iload_n 1, 1) := by decide +kernel
theorem dX6_claimRent_5 : decode cX6_claimRent 5 = .ok (.invokevirtual 78, 3) := by decide +kernel
theorem dX6_claimRent_8 : decode cX6_claimRent 8 = .ok (.astore_n 3, 1) := by decide +kernel
theorem dX6_claimRent_9 : decode cX6_claimRent 9 = .ok (.aload_n 3, 1) := by decide +kernel
theorem dX6_claimRent_10 : decode cX6_claimRent 10 = .ok (.ifnonnull 5, 3) := by decide +kernel
theorem dX6_claimRent_13 : decode cX6_claimRent 13 = .ok (.iconst (-1), 1) := by decide +kernel
theorem dX6_claimRent_14 : decode cX6_claimRent 14 = .ok (.ireturn, 1) := by decide +kernel
theorem dX6_claimRent_15 : decode cX6_claimRent 15 = .ok (.iload_n 2, 1) := by decide +kernel
theorem dX6_claimRent_16 : decode cX6_claimRent 16 = .ok (.iconst 0, 1) := by decide +kernel
theorem dX6_claimRent_17 : decode cX6_claimRent 17 = .ok (.ldc 70, 2) := by decide +kernel
theorem dX6_claimRent_19 : decode cX6_claimRent 19 = .ok (.invokestatic 45, 3) := by decide +kernel
theorem dX6_claimRent_22 : decode cX6_claimRent 22 = .ok (.ifCond .eq 6, 3) := by decide +kernel
theorem dX6_claimRent_25 : decode cX6_claimRent 25 = .ok (.bipush (-2), 2) := by decide +kernel
theorem dX6_claimRent_27 : decode cX6_claimRent 27 = .ok (.ireturn, 1) := by decide +kernel
theorem dX6_claimRent_28 : decode cX6_claimRent 28 = .ok (.aload_n 3, 1) := by decide +kernel
theorem dX6_claimRent_29 : decode cX6_claimRent 29 = .ok (.getfield 83, 3) := by decide +kernel
theorem dX6_claimRent_32 : decode cX6_claimRent 32 = .ok (.iconst 1, 1) := by decide +kernel
theorem dX6_claimRent_33 : decode cX6_claimRent 33 = .ok (.if_icmp .eq 6, 3) := by decide +kernel
theorem dX6_claimRent_36 : decode cX6_claimRent 36 = .ok (.bipush (-4), 2) := by decide +kernel
theorem dX6_claimRent_38 : decode cX6_claimRent 38 = .ok (.ireturn, 1) := by decide +kernel
theorem dX6_claimRent_39 : decode cX6_claimRent 39 = .ok (.aload_n 3, 1) := by decide +kernel
theorem dX6_claimRent_40 : decode cX6_claimRent 40 = .ok (.getfield 138, 3) := by decide +kernel
theorem dX6_claimRent_43 : decode cX6_claimRent 43 = .ok (.istore 4, 2) := by decide +kernel
theorem dX6_claimRent_45 : decode cX6_claimRent 45 = .ok (.iload 4, 2) := by decide +kernel
theorem dX6_claimRent_47 : decode cX6_claimRent 47 = .ok (.iload_n 2, 1) := by decide +kernel
theorem dX6_claimRent_48 : decode cX6_claimRent 48 = .ok (.if_icmp .ne 6, 3) := by decide +kernel
theorem dX6_claimRent_51 : decode cX6_claimRent 51 = .ok (.bipush (-5), 2) := by decide +kernel
theorem dX6_claimRent_53 : decode cX6_claimRent 53 = .ok (.ireturn, 1) := by decide +kernel
theorem dX6_claimRent_54 : decode cX6_claimRent 54 = .ok (.aload_n 0, 1) := by decide +kernel
theorem dX6_claimRent_55 : decode cX6_claimRent 55 = .ok (.getfield 22, 3) := by decide +kernel
theorem dX6_claimRent_58 : decode cX6_claimRent 58 = .ok (.aload_n 0, 1) := by decide +kernel
theorem dX6_claimRent_59 : decode cX6_claimRent 59 = .ok (.getfield 10, 3) := by decide +kernel
theorem dX6_claimRent_62 : decode cX6_claimRent 62 = .ok (.invokevirtual 57, 3) := by decide +kernel
theorem dX6_claimRent_65 : decode cX6_claimRent 65 = .ok (.aload_n 3, 1) := by decide +kernel
theorem dX6_claimRent_66 : decode cX6_claimRent 66 = .ok (.iload_n 2, 1) := by decide +kernel
theorem dX6_claimRent_67 : decode cX6_claimRent 67 = .ok (.putfield 138, 3) := by decide +kernel
theorem dX6_claimRent_70 : decode cX6_claimRent 70 = .ok (.iload 4, 2) := by decide +kernel
theorem dX6_claimRent_72 : decode cX6_claimRent 72 = .ok (.ireturn, 1) := by decide +kernel
theorem dX6_put_0 : decode cX6_put 0 = .ok (.aload_n 0, 1) := by decide +kernel
theorem dX6_put_1 : decode cX6_put 1 = .ok (.getfield 10, 3) := by decide +kernel
theorem dX6_put_4 : decode cX6_put 4 = .ok (.iload_n 1, 1) := by decide +kernel
theorem dX6_put_5 : decode cX6_put 5 = .ok (.invokevirtual 78, 3) := by decide +kernel
theorem dX6_put_8 : decode cX6_put 8 = .ok (.astore_n 2, 1) := by decide +kernel
theorem dX6_put_9 : decode cX6_put 9 = .ok (.aload_n 2, 1) := by decide +kernel
theorem dX6_put_10 : decode cX6_put 10 = .ok (.ifnonnull 5, 3) := by decide +kernel
theorem dX6_put_13 : decode cX6_put 13 = .ok (.iconst (-1), 1) := by decide +kernel
theorem dX6_put_14 : decode cX6_put 14 = .ok (.ireturn, 1) := by decide +kernel
theorem dX6_put_15 : decode cX6_put 15 = .ok (.aload_n 2, 1) := by decide +kernel
theorem dX6_put_16 : decode cX6_put 16 = .ok (.getfield 83, 3) := by decide +kernel
theorem dX6_put_19 : decode cX6_put 19 = .ok (.iconst 1, 1) := by decide +kernel
theorem dX6_put_20 : decode cX6_put 20 = .ok (.if_icmp .eq 6, 3) := by decide +kernel
theorem dX6_put_23 : decode cX6_put 23 = .ok (.bipush (-4), 2) := by decide +kernel
theorem dX6_put_25 : decode cX6_put 25 = .ok (.ireturn, 1) := by decide +kernel
theorem dX6_put_26 : decode cX6_put 26 = .ok (.aload_n 0, 1) := by decide +kernel
theorem dX6_put_27 : decode cX6_put 27 = .ok (.getfield 22, 3) := by decide +kernel
theorem dX6_put_30 : decode cX6_put 30 = .ok (.aload_n 0, 1) := by decide +kernel
theorem dX6_put_31 : decode cX6_put 31 = .ok (.getfield 10, 3) := by decide +kernel
theorem dX6_put_34 : decode cX6_put 34 = .ok (.invokevirtual 57, 3) := by decide +kernel
theorem dX6_put_37 : decode cX6_put 37 = .ok (.aload_n 2, 1) := by decide +kernel
theorem dX6_put_38 : decode cX6_put 38 = .ok (.iconst 2, 1) := by decide +kernel
theorem dX6_put_39 : decode cX6_put 39 = .ok (.putfield 83, 3) := by decide +kernel
theorem dX6_put_42 : decode cX6_put 42 = .ok (.aload_n 0, 1) := by decide +kernel
theorem dX6_put_43 : decode cX6_put 43 = .ok (.getfield 10, 3) := by decide +kernel
theorem dX6_put_46 : decode cX6_put 46 = .ok (.iload_n 1, 1) := by decide +kernel
theorem dX6_put_47 : decode cX6_put 47 = .ok (.iconst 1, 1) := by decide +kernel
theorem dX6_put_48 : decode cX6_put 48 = .ok (.invokevirtual 141, 3) := by decide +kernel
theorem dX6_put_51 : decode cX6_put 51 = .ok (.ireturn, 1) := by decide +kernel
theorem dX6_answer_0 : decode cX6_answer 0 = .ok (.aload_n 0, 1) := by decide +kernel
theorem dX6_answer_1 : decode cX6_answer 1 = .ok (.getfield 10, 3) := by decide +kernel
theorem dX6_answer_4 : decode cX6_answer 4 = .ok (.iload_n 1, 1) := by decide +kernel
theorem dX6_answer_5 : decode cX6_answer 5 = .ok (.invokevirtual 109, 3) := by decide +kernel
theorem dX6_answer_8 : decode cX6_answer 8 = .ok (.astore_n 3, 1) := by decide +kernel
theorem dX6_answer_9 : decode cX6_answer 9 = .ok (.aload_n 3, 1) := by decide +kernel
theorem dX6_answer_10 : decode cX6_answer 10 = .ok (.ifnonnull 5, 3) := by decide +kernel
theorem dX6_answer_13 : decode cX6_answer 13 = .ok (.iconst (-1), 1) := by decide +kernel
theorem dX6_answer_14 : decode cX6_answer 14 = .ok (.ireturn, 1) := by decide +kernel
theorem dX6_answer_15 : decode cX6_answer 15 = .ok (.aload_n 0, 1) := by decide +kernel
theorem dX6_answer_16 : decode cX6_answer 16 = .ok (.getfield 10, 3) := by decide +kernel
theorem dX6_answer_19 : decode cX6_answer 19 = .ok (.aload_n 3, 1) := by decide +kernel
theorem dX6_answer_20 : decode cX6_answer 20 = .ok (.invokevirtual 145, 3) := by decide +kernel
theorem dX6_answer_23 : decode cX6_answer 23 = .ok (.ifCond .ne 6, 3) := by decide +kernel
theorem dX6_answer_26 : decode cX6_answer 26 = .ok (.bipush (-4), 2) := by decide +kernel
theorem dX6_answer_28 : decode cX6_answer 28 = .ok (.ireturn, 1) := by decide +kernel
theorem dX6_answer_29 : decode cX6_answer 29 = .ok (.aload_n 3, 1) := by decide +kernel
theorem dX6_answer_30 : decode cX6_answer 30 = .ok (.getfield 149, 3) := by decide +kernel
theorem dX6_answer_33 : decode cX6_answer 33 = .ok (.istore 4, 2) := by decide +kernel
theorem dX6_answer_35 : decode cX6_answer 35 = .ok (.iload_n 2, 1) := by decide +kernel
theorem dX6_answer_36 : decode cX6_answer 36 = .ok (.ifCond .eq 7, 3) := by decide +kernel
theorem dX6_answer_39 : decode cX6_answer 39 = .ok (.iconst 1, 1) := by decide +kernel
theorem dX6_answer_40 : decode cX6_answer 40 = .ok (.goto 4, 3) := by decide +kernel
theorem dX6_answer_43 : decode cX6_answer 43 = .ok (.iconst 2, 1) := by decide +kernel
theorem dX6_answer_44 : decode cX6_answer 44 = .ok (.istore 5, 2) := by decide +kernel
theorem dX6_answer_46 : decode cX6_answer 46 = .ok (.iload 4, 2) := by decide +kernel
theorem dX6_answer_48 : decode cX6_answer 48 = .ok (.iload 5, 2) := by decide +kernel
theorem dX6_answer_50 : decode cX6_answer 50 = .ok (.if_icmp .ne 6, 3) := by decide +kernel
theorem dX6_answer_53 : decode cX6_answer 53 = .ok (.bipush (-5), 2) := by decide +kernel
theorem dX6_answer_55 : decode cX6_answer 55 = .ok (.ireturn, 1) := by decide +kernel
theorem dX6_answer_56 : decode cX6_answer 56 = .ok (.aload_n 0, 1) := by decide +kernel
theorem dX6_answer_57 : decode cX6_answer 57 = .ok (.getfield 22, 3) := by decide +kernel
theorem dX6_answer_60 : decode cX6_answer 60 = .ok (.aload_n 0, 1) := by decide +kernel
theorem dX6_answer_61 : decode cX6_answer 61 = .ok (.getfield 10, 3) := by decide +kernel
theorem dX6_answer_64 : decode cX6_answer 64 = .ok (.invokevirtual 57, 3) := by decide +kernel
theorem dX6_answer_67 : decode cX6_answer 67 = .ok (.aload_n 3, 1) := by decide +kernel
theorem dX6_answer_68 : decode cX6_answer 68 = .ok (.iload 5, 2) := by decide +kernel
theorem dX6_answer_70 : decode cX6_answer 70 = .ok (.putfield 149, 3) := by decide +kernel
theorem dX6_answer_73 : decode cX6_answer 73 = .ok (.iload 4, 2) := by decide +kernel
theorem dX6_answer_75 : decode cX6_answer 75 = .ok (.ireturn, 1) := by decide +kernel
theorem dX6_setEvidence_0 : decode cX6_setEvidence 0 = .ok (.aload_n 0, 1) := by decide +kernel
theorem dX6_setEvidence_1 : decode cX6_setEvidence 1 = .ok (.getfield 10, 3) := by decide +kernel
theorem dX6_setEvidence_4 : decode cX6_setEvidence 4 = .ok (.iload_n 1, 1) := by decide +kernel
theorem dX6_setEvidence_5 : decode cX6_setEvidence 5 = .ok (.invokevirtual 109, 3) := by decide +kernel
theorem dX6_setEvidence_8 : decode cX6_setEvidence 8 = .ok (.astore 4, 2) := by decide +kernel
theorem dX6_setEvidence_10 : decode cX6_setEvidence 10 = .ok (.aload 4, 2) := by decide +kernel
theorem dX6_setEvidence_12 : decode cX6_setEvidence 12 = .ok (.ifnonnull 5, 3) := by decide +kernel
theorem dX6_setEvidence_15 : decode cX6_setEvidence 15 = .ok (.iconst (-1), 1) := by decide +kernel
theorem dX6_setEvidence_16 : decode cX6_setEvidence 16 = .ok (.ireturn, 1) := by decide +kernel
theorem dX6_setEvidence_17 : decode cX6_setEvidence 17 = .ok (.iload_n 2, 1) := by decide +kernel
theorem dX6_setEvidence_18 : decode cX6_setEvidence 18 = .ok (.iconst 0, 1) := by decide +kernel
theorem dX6_setEvidence_19 : decode cX6_setEvidence 19 = .ok (.bipush 10, 2) := by decide +kernel
theorem dX6_setEvidence_21 : decode cX6_setEvidence 21 = .ok (.invokestatic 45, 3) := by decide +kernel
theorem dX6_setEvidence_24 : decode cX6_setEvidence 24 = .ok (.ifCond .ne 13, 3) := by decide +kernel
theorem dX6_setEvidence_27 : decode cX6_setEvidence 27 = .ok (.iload_n 3, 1) := by decide +kernel
theorem dX6_setEvidence_28 : decode cX6_setEvidence 28 = .ok (.iconst 0, 1) := by decide +kernel
theorem dX6_setEvidence_29 : decode cX6_setEvidence 29 = .ok (.bipush 10, 2) := by decide +kernel
theorem dX6_setEvidence_31 : decode cX6_setEvidence 31 = .ok (.invokestatic 45, 3) := by decide +kernel
theorem dX6_setEvidence_34 : decode cX6_setEvidence 34 = .ok (.ifCond .eq 6, 3) := by decide +kernel
theorem dX6_setEvidence_37 : decode cX6_setEvidence 37 = .ok (.bipush (-2), 2) := by decide +kernel
theorem dX6_setEvidence_39 : decode cX6_setEvidence 39 = .ok (.ireturn, 1) := by decide +kernel
theorem dX6_setEvidence_40 : decode cX6_setEvidence 40 = .ok (.aload_n 0, 1) := by decide +kernel
theorem dX6_setEvidence_41 : decode cX6_setEvidence 41 = .ok (.getfield 10, 3) := by decide +kernel
theorem dX6_setEvidence_44 : decode cX6_setEvidence 44 = .ok (.aload 4, 2) := by decide +kernel
theorem dX6_setEvidence_46 : decode cX6_setEvidence 46 = .ok (.invokevirtual 113, 3) := by decide +kernel
theorem dX6_setEvidence_49 : decode cX6_setEvidence 49 = .ok (.istore 5, 2) := by decide +kernel
theorem dX6_setEvidence_51 : decode cX6_setEvidence 51 = .ok (.iload 5, 2) := by decide +kernel
theorem dX6_setEvidence_53 : decode cX6_setEvidence 53 = .ok (.iconst 1, 1) := by decide +kernel
theorem dX6_setEvidence_54 : decode cX6_setEvidence 54 = .ok (.if_icmp .eq 12, 3) := by decide +kernel
theorem dX6_setEvidence_57 : decode cX6_setEvidence 57 = .ok (.iload 5, 2) := by decide +kernel
theorem dX6_setEvidence_59 : decode cX6_setEvidence 59 = .ok (.iconst 2, 1) := by decide +kernel
theorem dX6_setEvidence_60 : decode cX6_setEvidence 60 = .ok (.if_icmp .eq 6, 3) := by decide +kernel
theorem dX6_setEvidence_63 : decode cX6_setEvidence 63 = .ok (.bipush (-4), 2) := by decide +kernel
theorem dX6_setEvidence_65 : decode cX6_setEvidence 65 = .ok (.ireturn, 1) := by decide +kernel
theorem dX6_setEvidence_66 : decode cX6_setEvidence 66 = .ok (.aload_n 0, 1) := by decide +kernel
theorem dX6_setEvidence_67 : decode cX6_setEvidence 67 = .ok (.getfield 22, 3) := by decide +kernel
theorem dX6_setEvidence_70 : decode cX6_setEvidence 70 = .ok (.aload_n 0, 1) := by decide +kernel
theorem dX6_setEvidence_71 : decode cX6_setEvidence 71 = .ok (.getfield 10, 3) := by decide +kernel
theorem dX6_setEvidence_74 : decode cX6_setEvidence 74 = .ok (.invokevirtual 57, 3) := by decide +kernel
theorem dX6_setEvidence_77 : decode cX6_setEvidence 77 = .ok (.aload 4, 2) := by decide +kernel
theorem dX6_setEvidence_79 : decode cX6_setEvidence 79 = .ok (.iload_n 2, 1) := by decide +kernel
theorem dX6_setEvidence_80 : decode cX6_setEvidence 80 = .ok (.putfield 172, 3) := by decide +kernel
theorem dX6_setEvidence_83 : decode cX6_setEvidence 83 = .ok (.aload 4, 2) := by decide +kernel
theorem dX6_setEvidence_85 : decode cX6_setEvidence 85 = .ok (.iload_n 3, 1) := by decide +kernel
theorem dX6_setEvidence_86 : decode cX6_setEvidence 86 = .ok (.putfield 175, 3) := by decide +kernel
theorem dX6_setEvidence_89 : decode cX6_setEvidence 89 = .ok (.aload 4, 2) := by decide +kernel
theorem dX6_setEvidence_91 : decode cX6_setEvidence 91 = .ok (.invokevirtual 178, 3) := by decide +kernel
theorem dX6_setEvidence_94 : decode cX6_setEvidence 94 = .ok (.ireturn, 1) := by decide +kernel
theorem dX6_close_0 : decode cX6_close 0 = .ok (.aload_n 0, 1) := by decide +kernel
theorem dX6_close_1 : decode cX6_close 1 = .ok (.getfield 10, 3) := by decide +kernel
theorem dX6_close_4 : decode cX6_close 4 = .ok (.iload_n 1, 1) := by decide +kernel
theorem dX6_close_5 : decode cX6_close 5 = .ok (.invokevirtual 78, 3) := by decide +kernel
theorem dX6_close_8 : decode cX6_close 8 = .ok (.astore_n 2, 1) := by decide +kernel
theorem dX6_close_9 : decode cX6_close 9 = .ok (.aload_n 2, 1) := by decide +kernel
theorem dX6_close_10 : decode cX6_close 10 = .ok (.ifnonnull 5, 3) := by decide +kernel
theorem dX6_close_13 : decode cX6_close 13 = .ok (.iconst (-1), 1) := by decide +kernel
theorem dX6_close_14 : decode cX6_close 14 = .ok (.ireturn, 1) := by decide +kernel
theorem dX6_close_15 : decode cX6_close 15 = .ok (.aload_n 2, 1) := by decide +kernel
theorem dX6_close_16 : decode cX6_close 16 = .ok (.getfield 83, 3) := by decide +kernel
theorem dX6_close_19 : decode cX6_close 19 = .ok (.iconst 2, 1) := by decide +kernel
theorem dX6_close_20 : decode cX6_close 20 = .ok (.if_icmp .eq 6, 3) := by decide +kernel
theorem dX6_close_23 : decode cX6_close 23 = .ok (.bipush (-4), 2) := by decide +kernel
theorem dX6_close_25 : decode cX6_close 25 = .ok (.ireturn, 1) := by decide +kernel
theorem dX6_close_26 : decode cX6_close 26 = .ok (.aload_n 0, 1) := by decide +kernel
theorem dX6_close_27 : decode cX6_close 27 = .ok (.getfield 22, 3) := by decide +kernel
theorem dX6_close_30 : decode cX6_close 30 = .ok (.aload_n 0, 1) := by decide +kernel
theorem dX6_close_31 : decode cX6_close 31 = .ok (.getfield 10, 3) := by decide +kernel
theorem dX6_close_34 : decode cX6_close 34 = .ok (.invokevirtual 57, 3) := by decide +kernel
theorem dX6_close_37 : decode cX6_close 37 = .ok (.aload_n 0, 1) := by decide +kernel
theorem dX6_close_38 : decode cX6_close 38 = .ok (.getfield 10, 3) := by decide +kernel
theorem dX6_close_41 : decode cX6_close 41 = .ok (.iload_n 1, 1) := by decide +kernel
theorem dX6_close_42 : decode cX6_close 42 = .ok (.aload_n 2, 1) := by decide +kernel
theorem dX6_close_43 : decode cX6_close 43 = .ok (.aload_n 2, 1) := by decide +kernel
theorem dX6_close_44 : decode cX6_close 44 = .ok (.getfield 181, 3) := by decide +kernel
theorem dX6_close_47 : decode cX6_close 47 = .ok (.invokevirtual 184, 3) := by decide +kernel
theorem dX6_close_50 : decode cX6_close 50 = .ok (.aload_n 2, 1) := by decide +kernel
theorem dX6_close_51 : decode cX6_close 51 = .ok (.aload_n 0, 1) := by decide +kernel
theorem dX6_close_52 : decode cX6_close 52 = .ok (.getfield 10, 3) := by decide +kernel
theorem dX6_close_55 : decode cX6_close 55 = .ok (.aload_n 2, 1) := by decide +kernel
theorem dX6_close_56 : decode cX6_close 56 = .ok (.invokevirtual 188, 3) := by decide +kernel
theorem dX6_close_59 : decode cX6_close 59 = .ok (.putfield 191, 3) := by decide +kernel
theorem dX6_close_62 : decode cX6_close 62 = .ok (.aload_n 2, 1) := by decide +kernel
theorem dX6_close_63 : decode cX6_close 63 = .ok (.iconst 3, 1) := by decide +kernel
theorem dX6_close_64 : decode cX6_close 64 = .ok (.putfield 83, 3) := by decide +kernel
theorem dX6_close_67 : decode cX6_close 67 = .ok (.aload_n 2, 1) := by decide +kernel
theorem dX6_close_68 : decode cX6_close 68 = .ok (.getfield 181, 3) := by decide +kernel
theorem dX6_close_71 : decode cX6_close 71 = .ok (.getfield 194, 3) := by decide +kernel
theorem dX6_close_74 : decode cX6_close 74 = .ok (.ireturn, 1) := by decide +kernel
theorem dX6_undo_0 : decode cX6_undo 0 = .ok (.aload_n 0, 1) := by decide +kernel
theorem dX6_undo_1 : decode cX6_undo 1 = .ok (.getfield 22, 3) := by decide +kernel
theorem dX6_undo_4 : decode cX6_undo 4 = .ok (.invokevirtual 204, 3) := by decide +kernel
theorem dX6_undo_7 : decode cX6_undo 7 = .ok (.astore_n 1, 1) := by decide +kernel
theorem dX6_undo_8 : decode cX6_undo 8 = .ok (.aload_n 1, 1) := by decide +kernel
theorem dX6_undo_9 : decode cX6_undo 9 = .ok (.ifnonnull 6, 3) := by decide +kernel
theorem dX6_undo_12 : decode cX6_undo 12 = .ok (.bipush (-5), 2) := by decide +kernel
theorem dX6_undo_14 : decode cX6_undo 14 = .ok (.ireturn, 1) := by decide +kernel
theorem dX6_undo_15 : decode cX6_undo 15 = .ok (.aload_n 0, 1) := by decide +kernel
theorem dX6_undo_16 : decode cX6_undo 16 = .ok (.getfield 10, 3) := by decide +kernel
theorem dX6_undo_19 : decode cX6_undo 19 = .ok (.aload_n 1, 1) := by decide +kernel
theorem dX6_undo_20 : decode cX6_undo 20 = .ok (.invokevirtual 208, 3) := by decide +kernel
theorem dX6_undo_23 : decode cX6_undo 23 = .ok (.aload_n 0, 1) := by decide +kernel
theorem dX6_undo_24 : decode cX6_undo 24 = .ok (.getfield 22, 3) := by decide +kernel
theorem dX6_undo_27 : decode cX6_undo 27 = .ok (.dup, 1) := by decide +kernel
theorem dX6_undo_28 : decode cX6_undo 28 = .ok (.getfield 211, 3) := by decide +kernel
theorem dX6_undo_31 : decode cX6_undo 31 = .ok (.iconst 1, 1) := by decide +kernel
theorem dX6_undo_32 : decode cX6_undo 32 = .ok (.isub, 1) := by decide +kernel
theorem dX6_undo_33 : decode cX6_undo 33 = .ok (.putfield 211, 3) := by decide +kernel
theorem dX6_undo_36 : decode cX6_undo 36 = .ok (.aload_n 0, 1) := by decide +kernel
theorem dX6_undo_37 : decode cX6_undo 37 = .ok (.getfield 22, 3) := by decide +kernel
theorem dX6_undo_40 : decode cX6_undo 40 = .ok (.getfield 211, 3) := by decide +kernel
theorem dX6_undo_43 : decode cX6_undo 43 = .ok (.ireturn, 1) := by decide +kernel
theorem dX6_keep_0 : decode cX6_keep 0 = .ok (.aload_n 0, 1) := by decide +kernel
theorem dX6_keep_1 : decode cX6_keep 1 = .ok (.getfield 16, 3) := by decide +kernel
theorem dX6_keep_4 : decode cX6_keep 4 = .ok (.aload_n 0, 1) := by decide +kernel
theorem dX6_keep_5 : decode cX6_keep 5 = .ok (.getfield 10, 3) := by decide +kernel
theorem dX6_keep_8 : decode cX6_keep 8 = .ok (.invokevirtual 208, 3) := by decide +kernel
theorem dX6_keep_11 : decode cX6_keep 11 = .ok (.aload_n 0, 1) := by decide +kernel
theorem dX6_keep_12 : decode cX6_keep 12 = .ok (.iconst 1, 1) := by decide +kernel
theorem dX6_keep_13 : decode cX6_keep 13 = .ok (.putfield 40, 3) := by decide +kernel
theorem dX6_keep_16 : decode cX6_keep 16 = .ok (.aload_n 0, 1) := by decide +kernel
theorem dX6_keep_17 : decode cX6_keep 17 = .ok (.getfield 10, 3) := by decide +kernel
theorem dX6_keep_20 : decode cX6_keep 20 = .ok (.getfield 66, 3) := by decide +kernel
theorem dX6_keep_23 : decode cX6_keep 23 = .ok (.ireturn, 1) := by decide +kernel
theorem dX6_restore_0 : decode cX6_restore 0 = .ok (.aload_n 0, 1) := by decide +kernel
theorem dX6_restore_1 : decode cX6_restore 1 = .ok (.getfield 40, 3) := by decide +kernel
theorem dX6_restore_4 : decode cX6_restore 4 = .ok (.ifCond .ne 6, 3) := by decide +kernel
theorem dX6_restore_7 : decode cX6_restore 7 = .ok (.bipush (-5), 2) := by decide +kernel
theorem dX6_restore_9 : decode cX6_restore 9 = .ok (.ireturn, 1) := by decide +kernel
theorem dX6_restore_10 : decode cX6_restore 10 = .ok (.aload_n 0, 1) := by decide +kernel
theorem dX6_restore_11 : decode cX6_restore 11 = .ok (.getfield 22, 3) := by decide +kernel
theorem dX6_restore_14 : decode cX6_restore 14 = .ok (.aload_n 0, 1) := by decide +kernel
theorem dX6_restore_15 : decode cX6_restore 15 = .ok (.getfield 10, 3) := by decide +kernel
theorem dX6_restore_18 : decode cX6_restore 18 = .ok (.invokevirtual 57, 3) := by decide +kernel
theorem dX6_restore_21 : decode cX6_restore 21 = .ok (.aload_n 0, 1) := by decide +kernel
theorem dX6_restore_22 : decode cX6_restore 22 = .ok (.getfield 10, 3) := by decide +kernel
theorem dX6_restore_25 : decode cX6_restore 25 = .ok (.aload_n 0, 1) := by decide +kernel
theorem dX6_restore_26 : decode cX6_restore 26 = .ok (.getfield 16, 3) := by decide +kernel
theorem dX6_restore_29 : decode cX6_restore 29 = .ok (.invokevirtual 208, 3) := by decide +kernel
theorem dX6_restore_32 : decode cX6_restore 32 = .ok (.aload_n 0, 1) := by decide +kernel
theorem dX6_restore_33 : decode cX6_restore 33 = .ok (.getfield 10, 3) := by decide +kernel
theorem dX6_restore_36 : decode cX6_restore 36 = .ok (.getfield 66, 3) := by decide +kernel
theorem dX6_restore_39 : decode cX6_restore 39 = .ok (.ireturn, 1) := by decide +kernel
theorem dX6_rate_0 : decode cX6_rate 0 = .ok (.aload_n 0, 1) := by decide +kernel
theorem dX6_rate_1 : decode cX6_rate 1 = .ok (.getfield 10, 3) := by decide +kernel
theorem dX6_rate_4 : decode cX6_rate 4 = .ok (.getfield 53, 3) := by decide +kernel
theorem dX6_rate_7 : decode cX6_rate 7 = .ok (.freturn, 1) := by decide +kernel
theorem dX6_tenancy_0 : decode cX6_tenancy 0 = .ok (.aload_n 0, 1) := by decide +kernel
theorem dX6_tenancy_1 : decode cX6_tenancy 1 = .ok (.getfield 10, 3) := by decide +kernel
theorem dX6_tenancy_4 : decode cX6_tenancy 4 = .ok (.iload_n 1, 1) := by decide +kernel
theorem dX6_tenancy_5 : decode cX6_tenancy 5 = .ok (.invokevirtual 78, 3) := by decide +kernel
theorem dX6_tenancy_8 : decode cX6_tenancy 8 = .ok (.astore_n 3, 1) := by decide +kernel
theorem dX6_tenancy_9 : decode cX6_tenancy 9 = .ok (.aload_n 3, 1) := by decide +kernel
theorem dX6_tenancy_10 : decode cX6_tenancy 10 = .ok (.ifnonnull 5, 3) := by decide +kernel
theorem dX6_tenancy_13 : decode cX6_tenancy 13 = .ok (.iconst (-1), 1) := by decide +kernel
theorem dX6_tenancy_14 : decode cX6_tenancy 14 = .ok (.ireturn, 1) := by decide +kernel
theorem dX6_tenancy_15 : decode cX6_tenancy 15 = .ok (.iload_n 2, 1) := by decide +kernel
theorem dX6_tenancy_16 : decode cX6_tenancy 16 = .ok (.tableswitch 134 0 9 #[56, 61, 66, 71, 80, 89, 99, 104, 114, 124], 56) := by decide +kernel
theorem dX6_tenancy_72 : decode cX6_tenancy 72 = .ok (.aload_n 3, 1) := by decide +kernel
theorem dX6_tenancy_73 : decode cX6_tenancy 73 = .ok (.getfield 212, 3) := by decide +kernel
theorem dX6_tenancy_76 : decode cX6_tenancy 76 = .ok (.ireturn, 1) := by decide +kernel
theorem dX6_tenancy_77 : decode cX6_tenancy 77 = .ok (.aload_n 3, 1) := by decide +kernel
theorem dX6_tenancy_78 : decode cX6_tenancy 78 = .ok (.getfield 88, 3) := by decide +kernel
theorem dX6_tenancy_81 : decode cX6_tenancy 81 = .ok (.ireturn, 1) := by decide +kernel
theorem dX6_tenancy_82 : decode cX6_tenancy 82 = .ok (.aload_n 3, 1) := by decide +kernel
theorem dX6_tenancy_83 : decode cX6_tenancy 83 = .ok (.getfield 83, 3) := by decide +kernel
theorem dX6_tenancy_86 : decode cX6_tenancy 86 = .ok (.ireturn, 1) := by decide +kernel
theorem dX6_tenancy_87 : decode cX6_tenancy 87 = .ok (.aload_n 0, 1) := by decide +kernel
theorem dX6_tenancy_88 : decode cX6_tenancy 88 = .ok (.getfield 10, 3) := by decide +kernel
theorem dX6_tenancy_91 : decode cX6_tenancy 91 = .ok (.aload_n 3, 1) := by decide +kernel
theorem dX6_tenancy_92 : decode cX6_tenancy 92 = .ok (.invokevirtual 105, 3) := by decide +kernel
theorem dX6_tenancy_95 : decode cX6_tenancy 95 = .ok (.ireturn, 1) := by decide +kernel
theorem dX6_tenancy_96 : decode cX6_tenancy 96 = .ok (.aload_n 0, 1) := by decide +kernel
theorem dX6_tenancy_97 : decode cX6_tenancy 97 = .ok (.getfield 10, 3) := by decide +kernel
theorem dX6_tenancy_100 : decode cX6_tenancy 100 = .ok (.aload_n 3, 1) := by decide +kernel
theorem dX6_tenancy_101 : decode cX6_tenancy 101 = .ok (.invokevirtual 188, 3) := by decide +kernel
theorem dX6_tenancy_104 : decode cX6_tenancy 104 = .ok (.ireturn, 1) := by decide +kernel
theorem dX6_tenancy_105 : decode cX6_tenancy 105 = .ok (.aload_n 0, 1) := by decide +kernel
theorem dX6_tenancy_106 : decode cX6_tenancy 106 = .ok (.getfield 10, 3) := by decide +kernel
theorem dX6_tenancy_109 : decode cX6_tenancy 109 = .ok (.iload_n 1, 1) := by decide +kernel
theorem dX6_tenancy_110 : decode cX6_tenancy 110 = .ok (.iconst 0, 1) := by decide +kernel
theorem dX6_tenancy_111 : decode cX6_tenancy 111 = .ok (.invokevirtual 141, 3) := by decide +kernel
theorem dX6_tenancy_114 : decode cX6_tenancy 114 = .ok (.ireturn, 1) := by decide +kernel
theorem dX6_tenancy_115 : decode cX6_tenancy 115 = .ok (.aload_n 3, 1) := by decide +kernel
theorem dX6_tenancy_116 : decode cX6_tenancy 116 = .ok (.getfield 138, 3) := by decide +kernel
theorem dX6_tenancy_119 : decode cX6_tenancy 119 = .ok (.ireturn, 1) := by decide +kernel
theorem dX6_tenancy_120 : decode cX6_tenancy 120 = .ok (.aload_n 0, 1) := by decide +kernel
theorem dX6_tenancy_121 : decode cX6_tenancy 121 = .ok (.getfield 10, 3) := by decide +kernel
theorem dX6_tenancy_124 : decode cX6_tenancy 124 = .ok (.iload_n 1, 1) := by decide +kernel
theorem dX6_tenancy_125 : decode cX6_tenancy 125 = .ok (.iconst 2, 1) := by decide +kernel
theorem dX6_tenancy_126 : decode cX6_tenancy 126 = .ok (.invokevirtual 141, 3) := by decide +kernel
theorem dX6_tenancy_129 : decode cX6_tenancy 129 = .ok (.ireturn, 1) := by decide +kernel
theorem dX6_tenancy_130 : decode cX6_tenancy 130 = .ok (.aload_n 0, 1) := by decide +kernel
theorem dX6_tenancy_131 : decode cX6_tenancy 131 = .ok (.getfield 10, 3) := by decide +kernel
theorem dX6_tenancy_134 : decode cX6_tenancy 134 = .ok (.iload_n 1, 1) := by decide +kernel
theorem dX6_tenancy_135 : decode cX6_tenancy 135 = .ok (.iconst 3, 1) := by decide +kernel
theorem dX6_tenancy_136 : decode cX6_tenancy 136 = .ok (.invokevirtual 141, 3) := by decide +kernel
theorem dX6_tenancy_139 : decode cX6_tenancy 139 = .ok (.ireturn, 1) := by decide +kernel
theorem dX6_tenancy_140 : decode cX6_tenancy 140 = .ok (.aload_n 0, 1) := by decide +kernel
theorem dX6_tenancy_141 : decode cX6_tenancy 141 = .ok (.getfield 10, 3) := by decide +kernel
theorem dX6_tenancy_144 : decode cX6_tenancy 144 = .ok (.iload_n 1, 1) := by decide +kernel
theorem dX6_tenancy_145 : decode cX6_tenancy 145 = .ok (.iconst 4, 1) := by decide +kernel
theorem dX6_tenancy_146 : decode cX6_tenancy 146 = .ok (.invokevirtual 141, 3) := by decide +kernel
theorem dX6_tenancy_149 : decode cX6_tenancy 149 = .ok (.ireturn, 1) := by decide +kernel
theorem dX6_tenancy_150 : decode cX6_tenancy 150 = .ok (.bipush (-2), 2) := by decide +kernel
theorem dX6_tenancy_152 : decode cX6_tenancy 152 = .ok (.ireturn, 1) := by decide +kernel
theorem dX6_item_0 : decode cX6_item 0 = .ok (.aload_n 0, 1) := by decide +kernel
theorem dX6_item_1 : decode cX6_item 1 = .ok (.getfield 10, 3) := by decide +kernel
theorem dX6_item_4 : decode cX6_item 4 = .ok (.iload_n 1, 1) := by decide +kernel
theorem dX6_item_5 : decode cX6_item 5 = .ok (.invokevirtual 109, 3) := by decide +kernel
theorem dX6_item_8 : decode cX6_item 8 = .ok (.astore_n 3, 1) := by decide +kernel
theorem dX6_item_9 : decode cX6_item 9 = .ok (.aload_n 3, 1) := by decide +kernel
theorem dX6_item_10 : decode cX6_item 10 = .ok (.ifnonnull 5, 3) := by decide +kernel
theorem dX6_item_13 : decode cX6_item 13 = .ok (.iconst (-1), 1) := by decide +kernel
theorem dX6_item_14 : decode cX6_item 14 = .ok (.ireturn, 1) := by decide +kernel
theorem dX6_item_15 : decode cX6_item 15 = .ok (.iload_n 2, 1) := by decide +kernel
theorem dX6_item_16 : decode cX6_item 16 = .ok (.tableswitch 123 0 10 #[60, 65, 70, 75, 88, 88, 88, 95, 100, 105, 110], 60) := by decide +kernel
theorem dX6_item_76 : decode cX6_item 76 = .ok (.aload_n 3, 1) := by decide +kernel
theorem dX6_item_77 : decode cX6_item 77 = .ok (.getfield 215, 3) := by decide +kernel
theorem dX6_item_80 : decode cX6_item 80 = .ok (.ireturn, 1) := by decide +kernel
theorem dX6_item_81 : decode cX6_item 81 = .ok (.aload_n 3, 1) := by decide +kernel
theorem dX6_item_82 : decode cX6_item 82 = .ok (.getfield 132, 3) := by decide +kernel
theorem dX6_item_85 : decode cX6_item 85 = .ok (.ireturn, 1) := by decide +kernel
theorem dX6_item_86 : decode cX6_item 86 = .ok (.aload_n 3, 1) := by decide +kernel
theorem dX6_item_87 : decode cX6_item 87 = .ok (.getfield 218, 3) := by decide +kernel
theorem dX6_item_90 : decode cX6_item 90 = .ok (.ireturn, 1) := by decide +kernel
theorem dX6_item_91 : decode cX6_item 91 = .ok (.aload_n 3, 1) := by decide +kernel
theorem dX6_item_92 : decode cX6_item 92 = .ok (.aload_n 0, 1) := by decide +kernel
theorem dX6_item_93 : decode cX6_item 93 = .ok (.getfield 10, 3) := by decide +kernel
theorem dX6_item_96 : decode cX6_item 96 = .ok (.aload_n 3, 1) := by decide +kernel
theorem dX6_item_97 : decode cX6_item 97 = .ok (.invokevirtual 122, 3) := by decide +kernel
theorem dX6_item_100 : decode cX6_item 100 = .ok (.invokevirtual 221, 3) := by decide +kernel
theorem dX6_item_103 : decode cX6_item 103 = .ok (.ireturn, 1) := by decide +kernel
theorem dX6_item_104 : decode cX6_item 104 = .ok (.aload_n 0, 1) := by decide +kernel
theorem dX6_item_105 : decode cX6_item 105 = .ok (.aload_n 3, 1) := by decide +kernel
theorem dX6_item_106 : decode cX6_item 106 = .ok (.iload_n 2, 1) := by decide +kernel
theorem dX6_item_107 : decode cX6_item 107 = .ok (.invokevirtual 224, 3) := by decide +kernel
theorem dX6_item_110 : decode cX6_item 110 = .ok (.ireturn, 1) := by decide +kernel
theorem dX6_item_111 : decode cX6_item 111 = .ok (.aload_n 3, 1) := by decide +kernel
theorem dX6_item_112 : decode cX6_item 112 = .ok (.getfield 135, 3) := by decide +kernel
theorem dX6_item_115 : decode cX6_item 115 = .ok (.ireturn, 1) := by decide +kernel
theorem dX6_item_116 : decode cX6_item 116 = .ok (.aload_n 3, 1) := by decide +kernel
theorem dX6_item_117 : decode cX6_item 117 = .ok (.getfield 149, 3) := by decide +kernel
theorem dX6_item_120 : decode cX6_item 120 = .ok (.ireturn, 1) := by decide +kernel
theorem dX6_item_121 : decode cX6_item 121 = .ok (.aload_n 3, 1) := by decide +kernel
theorem dX6_item_122 : decode cX6_item 122 = .ok (.invokevirtual 178, 3) := by decide +kernel
theorem dX6_item_125 : decode cX6_item 125 = .ok (.ireturn, 1) := by decide +kernel
theorem dX6_item_126 : decode cX6_item 126 = .ok (.aload_n 3, 1) := by decide +kernel
theorem dX6_item_127 : decode cX6_item 127 = .ok (.aload_n 0, 1) := by decide +kernel
theorem dX6_item_128 : decode cX6_item 128 = .ok (.getfield 10, 3) := by decide +kernel
theorem dX6_item_131 : decode cX6_item 131 = .ok (.aload_n 3, 1) := by decide +kernel
theorem dX6_item_132 : decode cX6_item 132 = .ok (.invokevirtual 122, 3) := by decide +kernel
theorem dX6_item_135 : decode cX6_item 135 = .ok (.invokevirtual 228, 3) := by decide +kernel
theorem dX6_item_138 : decode cX6_item 138 = .ok (.ireturn, 1) := by decide +kernel
theorem dX6_item_139 : decode cX6_item 139 = .ok (.bipush (-2), 2) := by decide +kernel
theorem dX6_item_141 : decode cX6_item 141 = .ok (.ireturn, 1) := by decide +kernel
theorem dX6_rest_0 : decode cX6_rest 0 = .ok (.aload_n 0, 1) := by decide +kernel
theorem dX6_rest_1 : decode cX6_rest 1 = .ok (.getfield 10, 3) := by decide +kernel
theorem dX6_rest_4 : decode cX6_rest 4 = .ok (.iload_n 1, 1) := by decide +kernel
theorem dX6_rest_5 : decode cX6_rest 5 = .ok (.invokevirtual 109, 3) := by decide +kernel
theorem dX6_rest_8 : decode cX6_rest 8 = .ok (.astore_n 2, 1) := by decide +kernel
theorem dX6_rest_9 : decode cX6_rest 9 = .ok (.aload_n 2, 1) := by decide +kernel
theorem dX6_rest_10 : decode cX6_rest 10 = .ok (.ifnonnull 6, 3) := by decide +kernel
theorem dX6_rest_13 : decode cX6_rest 13 = .ok (.ldc 231, 2) := by decide +kernel
theorem dX6_rest_15 : decode cX6_rest 15 = .ok (.freturn, 1) := by decide +kernel
theorem dX6_rest_16 : decode cX6_rest 16 = .ok (.aload_n 2, 1) := by decide +kernel
theorem dX6_rest_17 : decode cX6_rest 17 = .ok (.aload_n 0, 1) := by decide +kernel
theorem dX6_rest_18 : decode cX6_rest 18 = .ok (.getfield 10, 3) := by decide +kernel
theorem dX6_rest_21 : decode cX6_rest 21 = .ok (.aload_n 2, 1) := by decide +kernel
theorem dX6_rest_22 : decode cX6_rest 22 = .ok (.invokevirtual 122, 3) := by decide +kernel
theorem dX6_rest_25 : decode cX6_rest 25 = .ok (.invokevirtual 232, 3) := by decide +kernel
theorem dX6_rest_28 : decode cX6_rest 28 = .ok (.freturn, 1) := by decide +kernel
theorem dX6_weight_0 : decode cX6_weight 0 = .ok (.aload_n 0, 1) := by decide +kernel
theorem dX6_weight_1 : decode cX6_weight 1 = .ok (.getfield 10, 3) := by decide +kernel
theorem dX6_weight_4 : decode cX6_weight 4 = .ok (.iload_n 1, 1) := by decide +kernel
theorem dX6_weight_5 : decode cX6_weight 5 = .ok (.invokevirtual 109, 3) := by decide +kernel
theorem dX6_weight_8 : decode cX6_weight 8 = .ok (.astore_n 2, 1) := by decide +kernel
theorem dX6_weight_9 : decode cX6_weight 9 = .ok (.aload_n 2, 1) := by decide +kernel
theorem dX6_weight_10 : decode cX6_weight 10 = .ok (.ifnonnull 6, 3) := by decide +kernel
theorem dX6_weight_13 : decode cX6_weight 13 = .ok (.ldc 231, 2) := by decide +kernel
theorem dX6_weight_15 : decode cX6_weight 15 = .ok (.freturn, 1) := by decide +kernel
theorem dX6_weight_16 : decode cX6_weight 16 = .ok (.aload_n 2, 1) := by decide +kernel
theorem dX6_weight_17 : decode cX6_weight 17 = .ok (.invokevirtual 235, 3) := by decide +kernel
theorem dX6_weight_20 : decode cX6_weight 20 = .ok (.freturn, 1) := by decide +kernel
theorem dX6_reason_0 : decode cX6_reason 0 = .ok (.aload_n 0, 1) := by decide +kernel
theorem dX6_reason_1 : decode cX6_reason 1 = .ok (.getfield 10, 3) := by decide +kernel
theorem dX6_reason_4 : decode cX6_reason 4 = .ok (.iload_n 1, 1) := by decide +kernel
theorem dX6_reason_5 : decode cX6_reason 5 = .ok (.invokevirtual 109, 3) := by decide +kernel
theorem dX6_reason_8 : decode cX6_reason 8 = .ok (.astore_n 2, 1) := by decide +kernel
theorem dX6_reason_9 : decode cX6_reason 9 = .ok (.aload_n 2, 1) := by decide +kernel
theorem dX6_reason_10 : decode cX6_reason 10 = .ok (.ifnonnull 5, 3) := by decide +kernel
theorem dX6_reason_13 : decode cX6_reason 13 = .ok (.iconst (-1), 1) := by decide +kernel
theorem dX6_reason_14 : decode cX6_reason 14 = .ok (.ireturn, 1) := by decide +kernel
theorem dX6_reason_15 : decode cX6_reason 15 = .ok (.aload_n 2, 1) := by decide +kernel
theorem dX6_reason_16 : decode cX6_reason 16 = .ok (.getfield 135, 3) := by decide +kernel
theorem dX6_reason_19 : decode cX6_reason 19 = .ok (.ifCond .ne 5, 3) := by decide +kernel
theorem dX6_reason_22 : decode cX6_reason 22 = .ok (.iconst 0, 1) := by decide +kernel
theorem dX6_reason_23 : decode cX6_reason 23 = .ok (.ireturn, 1) := by decide +kernel
theorem dX6_reason_24 : decode cX6_reason 24 = .ok (.aload_n 2, 1) := by decide +kernel
theorem dX6_reason_25 : decode cX6_reason 25 = .ok (.getfield 149, 3) := by decide +kernel
theorem dX6_reason_28 : decode cX6_reason 28 = .ok (.iconst 2, 1) := by decide +kernel
theorem dX6_reason_29 : decode cX6_reason 29 = .ok (.if_icmp .eq 5, 3) := by decide +kernel
theorem dX6_reason_32 : decode cX6_reason 32 = .ok (.iconst 1, 1) := by decide +kernel
theorem dX6_reason_33 : decode cX6_reason 33 = .ok (.ireturn, 1) := by decide +kernel
theorem dX6_reason_34 : decode cX6_reason 34 = .ok (.aload_n 2, 1) := by decide +kernel
theorem dX6_reason_35 : decode cX6_reason 35 = .ok (.getfield 135, 3) := by decide +kernel
theorem dX6_reason_38 : decode cX6_reason 38 = .ok (.aload_n 2, 1) := by decide +kernel
theorem dX6_reason_39 : decode cX6_reason 39 = .ok (.getfield 129, 3) := by decide +kernel
theorem dX6_reason_42 : decode cX6_reason 42 = .ok (.if_icmp .gt 7, 3) := by decide +kernel
theorem dX6_reason_45 : decode cX6_reason 45 = .ok (.iconst 2, 1) := by decide +kernel
theorem dX6_reason_46 : decode cX6_reason 46 = .ok (.goto 4, 3) := by decide +kernel
theorem dX6_reason_49 : decode cX6_reason 49 = .ok (.iconst 3, 1) := by decide +kernel
theorem dX6_reason_50 : decode cX6_reason 50 = .ok (.ireturn, 1) := by decide +kernel
theorem dX6_outcome_0 : decode cX6_outcome 0 = .ok (.aload_n 0, 1) := by decide +kernel
theorem dX6_outcome_1 : decode cX6_outcome 1 = .ok (.getfield 10, 3) := by decide +kernel
theorem dX6_outcome_4 : decode cX6_outcome 4 = .ok (.iload_n 1, 1) := by decide +kernel
theorem dX6_outcome_5 : decode cX6_outcome 5 = .ok (.invokevirtual 78, 3) := by decide +kernel
theorem dX6_outcome_8 : decode cX6_outcome 8 = .ok (.astore_n 3, 1) := by decide +kernel
theorem dX6_outcome_9 : decode cX6_outcome 9 = .ok (.aload_n 3, 1) := by decide +kernel
theorem dX6_outcome_10 : decode cX6_outcome 10 = .ok (.ifnonnull 5, 3) := by decide +kernel
theorem dX6_outcome_13 : decode cX6_outcome 13 = .ok (.iconst (-1), 1) := by decide +kernel
theorem dX6_outcome_14 : decode cX6_outcome 14 = .ok (.ireturn, 1) := by decide +kernel
theorem dX6_outcome_15 : decode cX6_outcome 15 = .ok (.iload_n 2, 1) := by decide +kernel
theorem dX6_outcome_16 : decode cX6_outcome 16 = .ok (.iconst 0, 1) := by decide +kernel
theorem dX6_outcome_17 : decode cX6_outcome 17 = .ok (.iconst 5, 1) := by decide +kernel
theorem dX6_outcome_18 : decode cX6_outcome 18 = .ok (.invokestatic 45, 3) := by decide +kernel
theorem dX6_outcome_21 : decode cX6_outcome 21 = .ok (.ifCond .eq 6, 3) := by decide +kernel
theorem dX6_outcome_24 : decode cX6_outcome 24 = .ok (.bipush (-2), 2) := by decide +kernel
theorem dX6_outcome_26 : decode cX6_outcome 26 = .ok (.ireturn, 1) := by decide +kernel
theorem dX6_outcome_27 : decode cX6_outcome 27 = .ok (.aload_n 3, 1) := by decide +kernel
theorem dX6_outcome_28 : decode cX6_outcome 28 = .ok (.getfield 83, 3) := by decide +kernel
theorem dX6_outcome_31 : decode cX6_outcome 31 = .ok (.ifCond .ne 6, 3) := by decide +kernel
theorem dX6_outcome_34 : decode cX6_outcome 34 = .ok (.bipush (-4), 2) := by decide +kernel
theorem dX6_outcome_36 : decode cX6_outcome 36 = .ok (.ireturn, 1) := by decide +kernel
theorem dX6_outcome_37 : decode cX6_outcome 37 = .ok (.aload_n 3, 1) := by decide +kernel
theorem dX6_outcome_38 : decode cX6_outcome 38 = .ok (.getfield 83, 3) := by decide +kernel
theorem dX6_outcome_41 : decode cX6_outcome 41 = .ok (.iconst 3, 1) := by decide +kernel
theorem dX6_outcome_42 : decode cX6_outcome 42 = .ok (.if_icmp .ne 12, 3) := by decide +kernel
theorem dX6_outcome_45 : decode cX6_outcome 45 = .ok (.aload_n 3, 1) := by decide +kernel
theorem dX6_outcome_46 : decode cX6_outcome 46 = .ok (.getfield 181, 3) := by decide +kernel
theorem dX6_outcome_49 : decode cX6_outcome 49 = .ok (.iload_n 2, 1) := by decide +kernel
theorem dX6_outcome_50 : decode cX6_outcome 50 = .ok (.invokevirtual 239, 3) := by decide +kernel
theorem dX6_outcome_53 : decode cX6_outcome 53 = .ok (.ireturn, 1) := by decide +kernel
theorem dX6_outcome_54 : decode cX6_outcome 54 = .ok (.aload_n 0, 1) := by decide +kernel
theorem dX6_outcome_55 : decode cX6_outcome 55 = .ok (.getfield 10, 3) := by decide +kernel
theorem dX6_outcome_58 : decode cX6_outcome 58 = .ok (.iload_n 1, 1) := by decide +kernel
theorem dX6_outcome_59 : decode cX6_outcome 59 = .ok (.aload_n 3, 1) := by decide +kernel
theorem dX6_outcome_60 : decode cX6_outcome 60 = .ok (.aload_n 0, 1) := by decide +kernel
theorem dX6_outcome_61 : decode cX6_outcome 61 = .ok (.getfield 36, 3) := by decide +kernel
theorem dX6_outcome_64 : decode cX6_outcome 64 = .ok (.invokevirtual 184, 3) := by decide +kernel
theorem dX6_outcome_67 : decode cX6_outcome 67 = .ok (.aload_n 0, 1) := by decide +kernel
theorem dX6_outcome_68 : decode cX6_outcome 68 = .ok (.getfield 36, 3) := by decide +kernel
theorem dX6_outcome_71 : decode cX6_outcome 71 = .ok (.iload_n 2, 1) := by decide +kernel
theorem dX6_outcome_72 : decode cX6_outcome 72 = .ok (.invokevirtual 239, 3) := by decide +kernel
theorem dX6_outcome_75 : decode cX6_outcome 75 = .ok (.ireturn, 1) := by decide +kernel
theorem dX6_count_0 : decode cX6_count 0 = .ok (.iload_n 1, 1) := by decide +kernel
theorem dX6_count_1 : decode cX6_count 1 = .ok (.tableswitch 136 0 13 #[71, 79, 87, 87, 87, 87, 98, 106, 114, 114, 114, 114, 120, 128], 71) := by decide +kernel
theorem dX6_count_72 : decode cX6_count 72 = .ok (.aload_n 0, 1) := by decide +kernel
theorem dX6_count_73 : decode cX6_count 73 = .ok (.getfield 10, 3) := by decide +kernel
theorem dX6_count_76 : decode cX6_count 76 = .ok (.getfield 66, 3) := by decide +kernel
theorem dX6_count_79 : decode cX6_count 79 = .ok (.ireturn, 1) := by decide +kernel
theorem dX6_count_80 : decode cX6_count 80 = .ok (.aload_n 0, 1) := by decide +kernel
theorem dX6_count_81 : decode cX6_count 81 = .ok (.getfield 10, 3) := by decide +kernel
theorem dX6_count_84 : decode cX6_count 84 = .ok (.getfield 71, 3) := by decide +kernel
theorem dX6_count_87 : decode cX6_count 87 = .ok (.ireturn, 1) := by decide +kernel
theorem dX6_count_88 : decode cX6_count 88 = .ok (.aload_n 0, 1) := by decide +kernel
theorem dX6_count_89 : decode cX6_count 89 = .ok (.getfield 10, 3) := by decide +kernel
theorem dX6_count_92 : decode cX6_count 92 = .ok (.iload_n 1, 1) := by decide +kernel
theorem dX6_count_93 : decode cX6_count 93 = .ok (.iconst 2, 1) := by decide +kernel
theorem dX6_count_94 : decode cX6_count 94 = .ok (.isub, 1) := by decide +kernel
theorem dX6_count_95 : decode cX6_count 95 = .ok (.invokevirtual 245, 3) := by decide +kernel
theorem dX6_count_98 : decode cX6_count 98 = .ok (.ireturn, 1) := by decide +kernel
theorem dX6_count_99 : decode cX6_count 99 = .ok (.aload_n 0, 1) := by decide +kernel
theorem dX6_count_100 : decode cX6_count 100 = .ok (.getfield 10, 3) := by decide +kernel
theorem dX6_count_103 : decode cX6_count 103 = .ok (.getfield 91, 3) := by decide +kernel
theorem dX6_count_106 : decode cX6_count 106 = .ok (.ireturn, 1) := by decide +kernel
theorem dX6_count_107 : decode cX6_count 107 = .ok (.aload_n 0, 1) := by decide +kernel
theorem dX6_count_108 : decode cX6_count 108 = .ok (.getfield 10, 3) := by decide +kernel
theorem dX6_count_111 : decode cX6_count 111 = .ok (.getfield 62, 3) := by decide +kernel
theorem dX6_count_114 : decode cX6_count 114 = .ok (.ireturn, 1) := by decide +kernel
theorem dX6_count_115 : decode cX6_count 115 = .ok (.aload_n 0, 1) := by decide +kernel
theorem dX6_count_116 : decode cX6_count 116 = .ok (.iload_n 1, 1) := by decide +kernel
theorem dX6_count_117 : decode cX6_count 117 = .ok (.invokevirtual 248, 3) := by decide +kernel
theorem dX6_count_120 : decode cX6_count 120 = .ok (.ireturn, 1) := by decide +kernel
theorem dX6_count_121 : decode cX6_count 121 = .ok (.aload_n 0, 1) := by decide +kernel
theorem dX6_count_122 : decode cX6_count 122 = .ok (.getfield 22, 3) := by decide +kernel
theorem dX6_count_125 : decode cX6_count 125 = .ok (.getfield 211, 3) := by decide +kernel
theorem dX6_count_128 : decode cX6_count 128 = .ok (.ireturn, 1) := by decide +kernel
theorem dX6_count_129 : decode cX6_count 129 = .ok (.aload_n 0, 1) := by decide +kernel
theorem dX6_count_130 : decode cX6_count 130 = .ok (.getfield 29, 3) := by decide +kernel
theorem dX6_count_133 : decode cX6_count 133 = .ok (.getfield 201, 3) := by decide +kernel
theorem dX6_count_136 : decode cX6_count 136 = .ok (.ireturn, 1) := by decide +kernel
theorem dX6_count_137 : decode cX6_count 137 = .ok (.bipush (-2), 2) := by decide +kernel
theorem dX6_count_139 : decode cX6_count 139 = .ok (.ireturn, 1) := by decide +kernel
theorem dX6_outside_0 : decode cX6_outside 0 = .ok (.iload_n 0, 1) := by decide +kernel
theorem dX6_outside_1 : decode cX6_outside 1 = .ok (.iload_n 1, 1) := by decide +kernel
theorem dX6_outside_2 : decode cX6_outside 2 = .ok (.if_icmp .lt 8, 3) := by decide +kernel
theorem dX6_outside_5 : decode cX6_outside 5 = .ok (.iload_n 0, 1) := by decide +kernel
theorem dX6_outside_6 : decode cX6_outside 6 = .ok (.iload_n 2, 1) := by decide +kernel
theorem dX6_outside_7 : decode cX6_outside 7 = .ok (.if_icmp .le 7, 3) := by decide +kernel
theorem dX6_outside_10 : decode cX6_outside 10 = .ok (.iconst 1, 1) := by decide +kernel
theorem dX6_outside_11 : decode cX6_outside 11 = .ok (.goto 4, 3) := by decide +kernel
theorem dX6_outside_14 : decode cX6_outside 14 = .ok (.iconst 0, 1) := by decide +kernel
theorem dX6_outside_15 : decode cX6_outside 15 = .ok (.ireturn, 1) := by decide +kernel
theorem dX6_floatOf_0 : decode cX6_floatOf 0 = .ok (.iload_n 0, 1) := by decide +kernel
theorem dX6_floatOf_1 : decode cX6_floatOf 1 = .ok (.bipush 23, 2) := by decide +kernel
theorem dX6_floatOf_3 : decode cX6_floatOf 3 = .ok (.ishr, 1) := by decide +kernel
theorem dX6_floatOf_4 : decode cX6_floatOf 4 = .ok (.istore_n 1, 1) := by decide +kernel
theorem dX6_floatOf_5 : decode cX6_floatOf 5 = .ok (.iload_n 0, 1) := by decide +kernel
theorem dX6_floatOf_6 : decode cX6_floatOf 6 = .ok (.ldc 251, 2) := by decide +kernel
theorem dX6_floatOf_8 : decode cX6_floatOf 8 = .ok (.iand, 1) := by decide +kernel
theorem dX6_floatOf_9 : decode cX6_floatOf 9 = .ok (.istore_n 2, 1) := by decide +kernel
theorem dX6_floatOf_10 : decode cX6_floatOf 10 = .ok (.iload_n 1, 1) := by decide +kernel
theorem dX6_floatOf_11 : decode cX6_floatOf 11 = .ok (.ifCond .le 11, 3) := by decide +kernel
theorem dX6_floatOf_14 : decode cX6_floatOf 14 = .ok (.iload_n 2, 1) := by decide +kernel
theorem dX6_floatOf_15 : decode cX6_floatOf 15 = .ok (.ldc 252, 2) := by decide +kernel
theorem dX6_floatOf_17 : decode cX6_floatOf 17 = .ok (.iadd, 1) := by decide +kernel
theorem dX6_floatOf_18 : decode cX6_floatOf 18 = .ok (.istore_n 2, 1) := by decide +kernel
theorem dX6_floatOf_19 : decode cX6_floatOf 19 = .ok (.goto 5, 3) := by decide +kernel
theorem dX6_floatOf_22 : decode cX6_floatOf 22 = .ok (.iconst 1, 1) := by decide +kernel
theorem dX6_floatOf_23 : decode cX6_floatOf 23 = .ok (.istore_n 1, 1) := by decide +kernel
theorem dX6_floatOf_24 : decode cX6_floatOf 24 = .ok (.iload_n 2, 1) := by decide +kernel
theorem dX6_floatOf_25 : decode cX6_floatOf 25 = .ok (.i2f, 1) := by decide +kernel
theorem dX6_floatOf_26 : decode cX6_floatOf 26 = .ok (.fstore_n 3, 1) := by decide +kernel
theorem dX6_floatOf_27 : decode cX6_floatOf 27 = .ok (.iload_n 1, 1) := by decide +kernel
theorem dX6_floatOf_28 : decode cX6_floatOf 28 = .ok (.istore 4, 2) := by decide +kernel
theorem dX6_floatOf_30 : decode cX6_floatOf 30 = .ok (.iload 4, 2) := by decide +kernel
theorem dX6_floatOf_32 : decode cX6_floatOf 32 = .ok (.sipush 150, 3) := by decide +kernel
theorem dX6_floatOf_35 : decode cX6_floatOf 35 = .ok (.if_icmp .ge 13, 3) := by decide +kernel
theorem dX6_floatOf_38 : decode cX6_floatOf 38 = .ok (.fload_n 3, 1) := by decide +kernel
theorem dX6_floatOf_39 : decode cX6_floatOf 39 = .ok (.fconst 2, 1) := by decide +kernel
theorem dX6_floatOf_40 : decode cX6_floatOf 40 = .ok (.fdiv, 1) := by decide +kernel
theorem dX6_floatOf_41 : decode cX6_floatOf 41 = .ok (.fstore_n 3, 1) := by decide +kernel
theorem dX6_floatOf_42 : decode cX6_floatOf 42 = .ok (.iinc 4 1, 3) := by decide +kernel
theorem dX6_floatOf_45 : decode cX6_floatOf 45 = .ok (.goto (-15), 3) := by decide +kernel
theorem dX6_floatOf_48 : decode cX6_floatOf 48 = .ok (.fload_n 3, 1) := by decide +kernel
theorem dX6_floatOf_49 : decode cX6_floatOf 49 = .ok (.freturn, 1) := by decide +kernel
theorem dX6_conditionFact_0 : decode cX6_conditionFact 0 = .ok (.aload_n 0, 1) := by decide +kernel
theorem dX6_conditionFact_1 : decode cX6_conditionFact 1 = .ok (.getfield 10, 3) := by decide +kernel
theorem dX6_conditionFact_4 : decode cX6_conditionFact 4 = .ok (.aload_n 1, 1) := by decide +kernel
theorem dX6_conditionFact_5 : decode cX6_conditionFact 5 = .ok (.invokevirtual 113, 3) := by decide +kernel
theorem dX6_conditionFact_8 : decode cX6_conditionFact 8 = .ok (.ifCond .ne 6, 3) := by decide +kernel
theorem dX6_conditionFact_11 : decode cX6_conditionFact 11 = .ok (.bipush (-5), 2) := by decide +kernel
theorem dX6_conditionFact_13 : decode cX6_conditionFact 13 = .ok (.ireturn, 1) := by decide +kernel
theorem dX6_conditionFact_14 : decode cX6_conditionFact 14 = .ok (.iload_n 2, 1) := by decide +kernel
theorem dX6_conditionFact_15 : decode cX6_conditionFact 15 = .ok (.iconst 4, 1) := by decide +kernel
theorem dX6_conditionFact_16 : decode cX6_conditionFact 16 = .ok (.if_icmp .ne 8, 3) := by decide +kernel
theorem dX6_conditionFact_19 : decode cX6_conditionFact 19 = .ok (.aload_n 1, 1) := by decide +kernel
theorem dX6_conditionFact_20 : decode cX6_conditionFact 20 = .ok (.getfield 117, 3) := by decide +kernel
theorem dX6_conditionFact_23 : decode cX6_conditionFact 23 = .ok (.ireturn, 1) := by decide +kernel
theorem dX6_conditionFact_24 : decode cX6_conditionFact 24 = .ok (.iload_n 2, 1) := by decide +kernel
theorem dX6_conditionFact_25 : decode cX6_conditionFact 25 = .ok (.iconst 5, 1) := by decide +kernel
theorem dX6_conditionFact_26 : decode cX6_conditionFact 26 = .ok (.if_icmp .ne 20, 3) := by decide +kernel
theorem dX6_conditionFact_29 : decode cX6_conditionFact 29 = .ok (.aload_n 1, 1) := by decide +kernel
theorem dX6_conditionFact_30 : decode cX6_conditionFact 30 = .ok (.aload_n 0, 1) := by decide +kernel
theorem dX6_conditionFact_31 : decode cX6_conditionFact 31 = .ok (.getfield 10, 3) := by decide +kernel
theorem dX6_conditionFact_34 : decode cX6_conditionFact 34 = .ok (.aload_n 1, 1) := by decide +kernel
theorem dX6_conditionFact_35 : decode cX6_conditionFact 35 = .ok (.invokevirtual 122, 3) := by decide +kernel
theorem dX6_conditionFact_38 : decode cX6_conditionFact 38 = .ok (.aload_n 1, 1) := by decide +kernel
theorem dX6_conditionFact_39 : decode cX6_conditionFact 39 = .ok (.getfield 117, 3) := by decide +kernel
theorem dX6_conditionFact_42 : decode cX6_conditionFact 42 = .ok (.invokevirtual 262, 3) := by decide +kernel
theorem dX6_conditionFact_45 : decode cX6_conditionFact 45 = .ok (.ireturn, 1) := by decide +kernel
theorem dX6_conditionFact_46 : decode cX6_conditionFact 46 = .ok (.aload_n 1, 1) := by decide +kernel
theorem dX6_conditionFact_47 : decode cX6_conditionFact 47 = .ok (.getfield 129, 3) := by decide +kernel
theorem dX6_conditionFact_50 : decode cX6_conditionFact 50 = .ok (.ireturn, 1) := by decide +kernel
theorem dX6_closedSum_0 : decode cX6_closedSum 0 = .ok (.iconst 0, 1) := by decide +kernel
theorem dX6_closedSum_1 : decode cX6_closedSum 1 = .ok (.istore_n 2, 1) := by decide +kernel
theorem dX6_closedSum_2 : decode cX6_closedSum 2 = .ok (.iconst 0, 1) := by decide +kernel
theorem dX6_closedSum_3 : decode cX6_closedSum 3 = .ok (.istore_n 3, 1) := by decide +kernel
theorem dX6_closedSum_4 : decode cX6_closedSum 4 = .ok (.iload_n 3, 1) := by decide +kernel
theorem dX6_closedSum_5 : decode cX6_closedSum 5 = .ok (.aload_n 0, 1) := by decide +kernel
theorem dX6_closedSum_6 : decode cX6_closedSum 6 = .ok (.getfield 10, 3) := by decide +kernel
theorem dX6_closedSum_9 : decode cX6_closedSum 9 = .ok (.getfield 71, 3) := by decide +kernel
theorem dX6_closedSum_12 : decode cX6_closedSum 12 = .ok (.if_icmp .ge 45, 3) := by decide +kernel
theorem dX6_closedSum_15 : decode cX6_closedSum 15 = .ok (.aload_n 0, 1) := by decide +kernel
theorem dX6_closedSum_16 : decode cX6_closedSum 16 = .ok (.getfield 10, 3) := by decide +kernel
theorem dX6_closedSum_19 : decode cX6_closedSum 19 = .ok (.iload_n 3, 1) := by decide +kernel
theorem dX6_closedSum_20 : decode cX6_closedSum 20 = .ok (.invokevirtual 78, 3) := by decide +kernel
theorem dX6_closedSum_23 : decode cX6_closedSum 23 = .ok (.astore 4, 2) := by decide +kernel
theorem dX6_closedSum_25 : decode cX6_closedSum 25 = .ok (.aload 4, 2) := by decide +kernel
theorem dX6_closedSum_27 : decode cX6_closedSum 27 = .ok (.ifnull 24, 3) := by decide +kernel
theorem dX6_closedSum_30 : decode cX6_closedSum 30 = .ok (.aload 4, 2) := by decide +kernel
theorem dX6_closedSum_32 : decode cX6_closedSum 32 = .ok (.getfield 83, 3) := by decide +kernel
theorem dX6_closedSum_35 : decode cX6_closedSum 35 = .ok (.iconst 3, 1) := by decide +kernel
theorem dX6_closedSum_36 : decode cX6_closedSum 36 = .ok (.if_icmp .ne 15, 3) := by decide +kernel
theorem dX6_closedSum_39 : decode cX6_closedSum 39 = .ok (.iload_n 2, 1) := by decide +kernel
theorem dX6_closedSum_40 : decode cX6_closedSum 40 = .ok (.aload 4, 2) := by decide +kernel
theorem dX6_closedSum_42 : decode cX6_closedSum 42 = .ok (.getfield 181, 3) := by decide +kernel
theorem dX6_closedSum_45 : decode cX6_closedSum 45 = .ok (.iload_n 1, 1) := by decide +kernel
theorem dX6_closedSum_46 : decode cX6_closedSum 46 = .ok (.invokevirtual 265, 3) := by decide +kernel
theorem dX6_closedSum_49 : decode cX6_closedSum 49 = .ok (.iadd, 1) := by decide +kernel
theorem dX6_closedSum_50 : decode cX6_closedSum 50 = .ok (.istore_n 2, 1) := by decide +kernel
theorem dX6_closedSum_51 : decode cX6_closedSum 51 = .ok (.iinc 3 1, 3) := by decide +kernel
theorem dX6_closedSum_54 : decode cX6_closedSum 54 = .ok (.goto (-50), 3) := by decide +kernel
theorem dX6_closedSum_57 : decode cX6_closedSum 57 = .ok (.iload_n 2, 1) := by decide +kernel
theorem dX6_closedSum_58 : decode cX6_closedSum 58 = .ok (.ireturn, 1) := by decide +kernel
end
section
theorem dL_cell_0 : decode cL_cell 0 = .ok (.iload_n 1, 1) := by decide +kernel
theorem dL_cell_1 : decode cL_cell 1 = .ok (.aload_n 0, 1) := by decide +kernel
theorem dL_cell_2 : decode cL_cell 2 = .ok (.arraylength, 1) := by decide +kernel
theorem dL_cell_3 : decode cL_cell 3 = .ok (.if_icmp .ge 9, 3) := by decide +kernel
theorem dL_cell_6 : decode cL_cell 6 = .ok (.aload_n 0, 1) := by decide +kernel
theorem dL_cell_7 : decode cL_cell 7 = .ok (.iload_n 1, 1) := by decide +kernel
theorem dL_cell_8 : decode cL_cell 8 = .ok (.iaload, 1) := by decide +kernel
theorem dL_cell_9 : decode cL_cell 9 = .ok (.goto 15, 3) := by decide +kernel
theorem dL_cell_12 : decode cL_cell 12 = .ok (.sipush 7919, 3) := by decide +kernel
theorem dL_cell_15 : decode cL_cell 15 = .ok (.iload_n 1, 1) := by decide +kernel
theorem dL_cell_16 : decode cL_cell 16 = .ok (.iconst 3, 1) := by decide +kernel
theorem dL_cell_17 : decode cL_cell 17 = .ok (.iadd, 1) := by decide +kernel
theorem dL_cell_18 : decode cL_cell 18 = .ok (.imul, 1) := by decide +kernel
theorem dL_cell_19 : decode cL_cell 19 = .ok (.iload_n 1, 1) := by decide +kernel
theorem dL_cell_20 : decode cL_cell 20 = .ok (.bipush 11, 2) := by decide +kernel
theorem dL_cell_22 : decode cL_cell 22 = .ok (.iadd, 1) := by decide +kernel
theorem dL_cell_23 : decode cL_cell 23 = .ok (.imul, 1) := by decide +kernel
theorem dL_cell_24 : decode cL_cell 24 = .ok (.ireturn, 1) := by decide +kernel
theorem dL_low_0 : decode cL_low 0 = .ok (.iload_n 0, 1) := by decide +kernel
theorem dL_low_1 : decode cL_low 1 = .ok (.ldc 7, 2) := by decide +kernel
theorem dL_low_3 : decode cL_low 3 = .ok (.iand, 1) := by decide +kernel
theorem dL_low_4 : decode cL_low 4 = .ok (.iload_n 1, 1) := by decide +kernel
theorem dL_low_5 : decode cL_low 5 = .ok (.irem, 1) := by decide +kernel
theorem dL_low_6 : decode cL_low 6 = .ok (.ireturn, 1) := by decide +kernel
theorem dL_digest_0 : decode cL_digest 0 = .ok (.ldc2_w 8, 3) := by decide +kernel
theorem dL_digest_3 : decode cL_digest 3 = .ok (.aload_n 0, 1) := by decide +kernel
theorem dL_digest_4 : decode cL_digest 4 = .ok (.invokevirtual 10, 3) := by decide +kernel
theorem dL_digest_7 : decode cL_digest 7 = .ok (.ldc 16, 2) := by decide +kernel
theorem dL_digest_9 : decode cL_digest 9 = .ok (.fmul, 1) := by decide +kernel
theorem dL_digest_10 : decode cL_digest 10 = .ok (.f2i, 1) := by decide +kernel
theorem dL_digest_11 : decode cL_digest 11 = .ok (.i2l, 1) := by decide +kernel
theorem dL_digest_12 : decode cL_digest 12 = .ok (.ladd, 1) := by decide +kernel
theorem dL_digest_13 : decode cL_digest 13 = .ok (.lstore_n 1, 1) := by decide +kernel
theorem dL_digest_14 : decode cL_digest 14 = .ok (.iconst 0, 1) := by decide +kernel
theorem dL_digest_15 : decode cL_digest 15 = .ok (.istore_n 3, 1) := by decide +kernel
theorem dL_digest_16 : decode cL_digest 16 = .ok (.iload_n 3, 1) := by decide +kernel
theorem dL_digest_17 : decode cL_digest 17 = .ok (.bipush 12, 2) := by decide +kernel
theorem dL_digest_19 : decode cL_digest 19 = .ok (.if_icmp .ge 22, 3) := by decide +kernel
theorem dL_digest_22 : decode cL_digest 22 = .ok (.ldc2_w 17, 3) := by decide +kernel
theorem dL_digest_25 : decode cL_digest 25 = .ok (.lload_n 1, 1) := by decide +kernel
theorem dL_digest_26 : decode cL_digest 26 = .ok (.lmul, 1) := by decide +kernel
theorem dL_digest_27 : decode cL_digest 27 = .ok (.aload_n 0, 1) := by decide +kernel
theorem dL_digest_28 : decode cL_digest 28 = .ok (.iload_n 3, 1) := by decide +kernel
theorem dL_digest_29 : decode cL_digest 29 = .ok (.invokevirtual 19, 3) := by decide +kernel
theorem dL_digest_32 : decode cL_digest 32 = .ok (.i2l, 1) := by decide +kernel
theorem dL_digest_33 : decode cL_digest 33 = .ok (.ladd, 1) := by decide +kernel
theorem dL_digest_34 : decode cL_digest 34 = .ok (.lstore_n 1, 1) := by decide +kernel
theorem dL_digest_35 : decode cL_digest 35 = .ok (.iinc 3 1, 3) := by decide +kernel
theorem dL_digest_38 : decode cL_digest 38 = .ok (.goto (-22), 3) := by decide +kernel
theorem dL_digest_41 : decode cL_digest 41 = .ok (.iconst 0, 1) := by decide +kernel
theorem dL_digest_42 : decode cL_digest 42 = .ok (.istore_n 3, 1) := by decide +kernel
theorem dL_digest_43 : decode cL_digest 43 = .ok (.iload_n 3, 1) := by decide +kernel
theorem dL_digest_44 : decode cL_digest 44 = .ok (.aload_n 0, 1) := by decide +kernel
theorem dL_digest_45 : decode cL_digest 45 = .ok (.iconst 1, 1) := by decide +kernel
theorem dL_digest_46 : decode cL_digest 46 = .ok (.invokevirtual 19, 3) := by decide +kernel
theorem dL_digest_49 : decode cL_digest 49 = .ok (.if_icmp .ge 71, 3) := by decide +kernel
theorem dL_digest_52 : decode cL_digest 52 = .ok (.iconst 0, 1) := by decide +kernel
theorem dL_digest_53 : decode cL_digest 53 = .ok (.istore 4, 2) := by decide +kernel
theorem dL_digest_55 : decode cL_digest 55 = .ok (.iload 4, 2) := by decide +kernel
theorem dL_digest_57 : decode cL_digest 57 = .ok (.bipush 10, 2) := by decide +kernel
theorem dL_digest_59 : decode cL_digest 59 = .ok (.if_icmp .ge 24, 3) := by decide +kernel
theorem dL_digest_62 : decode cL_digest 62 = .ok (.ldc2_w 17, 3) := by decide +kernel
theorem dL_digest_65 : decode cL_digest 65 = .ok (.lload_n 1, 1) := by decide +kernel
theorem dL_digest_66 : decode cL_digest 66 = .ok (.lmul, 1) := by decide +kernel
theorem dL_digest_67 : decode cL_digest 67 = .ok (.aload_n 0, 1) := by decide +kernel
theorem dL_digest_68 : decode cL_digest 68 = .ok (.iload_n 3, 1) := by decide +kernel
theorem dL_digest_69 : decode cL_digest 69 = .ok (.iload 4, 2) := by decide +kernel
theorem dL_digest_71 : decode cL_digest 71 = .ok (.invokevirtual 23, 3) := by decide +kernel
theorem dL_digest_74 : decode cL_digest 74 = .ok (.i2l, 1) := by decide +kernel
theorem dL_digest_75 : decode cL_digest 75 = .ok (.ladd, 1) := by decide +kernel
theorem dL_digest_76 : decode cL_digest 76 = .ok (.lstore_n 1, 1) := by decide +kernel
theorem dL_digest_77 : decode cL_digest 77 = .ok (.iinc 4 1, 3) := by decide +kernel
theorem dL_digest_80 : decode cL_digest 80 = .ok (.goto (-25), 3) := by decide +kernel
theorem dL_digest_83 : decode cL_digest 83 = .ok (.iconst 0, 1) := by decide +kernel
theorem dL_digest_84 : decode cL_digest 84 = .ok (.istore 4, 2) := by decide +kernel
theorem dL_digest_86 : decode cL_digest 86 = .ok (.iload 4, 2) := by decide +kernel
theorem dL_digest_88 : decode cL_digest 88 = .ok (.bipush 6, 2) := by decide +kernel
theorem dL_digest_90 : decode cL_digest 90 = .ok (.if_icmp .ge 24, 3) := by decide +kernel
theorem dL_digest_93 : decode cL_digest 93 = .ok (.ldc2_w 17, 3) := by decide +kernel
theorem dL_digest_96 : decode cL_digest 96 = .ok (.lload_n 1, 1) := by decide +kernel
theorem dL_digest_97 : decode cL_digest 97 = .ok (.lmul, 1) := by decide +kernel
theorem dL_digest_98 : decode cL_digest 98 = .ok (.aload_n 0, 1) := by decide +kernel
theorem dL_digest_99 : decode cL_digest 99 = .ok (.iload_n 3, 1) := by decide +kernel
theorem dL_digest_100 : decode cL_digest 100 = .ok (.iload 4, 2) := by decide +kernel
theorem dL_digest_102 : decode cL_digest 102 = .ok (.invokevirtual 27, 3) := by decide +kernel
theorem dL_digest_105 : decode cL_digest 105 = .ok (.i2l, 1) := by decide +kernel
theorem dL_digest_106 : decode cL_digest 106 = .ok (.ladd, 1) := by decide +kernel
theorem dL_digest_107 : decode cL_digest 107 = .ok (.lstore_n 1, 1) := by decide +kernel
theorem dL_digest_108 : decode cL_digest 108 = .ok (.iinc 4 1, 3) := by decide +kernel
theorem dL_digest_111 : decode cL_digest 111 = .ok (.goto (-25), 3) := by decide +kernel
theorem dL_digest_114 : decode cL_digest 114 = .ok (.iinc 3 1, 3) := by decide +kernel
theorem dL_digest_117 : decode cL_digest 117 = .ok (.goto (-74), 3) := by decide +kernel
theorem dL_digest_120 : decode cL_digest 120 = .ok (.iconst 0, 1) := by decide +kernel
theorem dL_digest_121 : decode cL_digest 121 = .ok (.istore_n 3, 1) := by decide +kernel
theorem dL_digest_122 : decode cL_digest 122 = .ok (.iload_n 3, 1) := by decide +kernel
theorem dL_digest_123 : decode cL_digest 123 = .ok (.aload_n 0, 1) := by decide +kernel
theorem dL_digest_124 : decode cL_digest 124 = .ok (.bipush 6, 2) := by decide +kernel
theorem dL_digest_126 : decode cL_digest 126 = .ok (.invokevirtual 19, 3) := by decide +kernel
theorem dL_digest_129 : decode cL_digest 129 = .ok (.if_icmp .ge 68, 3) := by decide +kernel
theorem dL_digest_132 : decode cL_digest 132 = .ok (.iconst 0, 1) := by decide +kernel
theorem dL_digest_133 : decode cL_digest 133 = .ok (.istore 4, 2) := by decide +kernel
theorem dL_digest_135 : decode cL_digest 135 = .ok (.iload 4, 2) := by decide +kernel
theorem dL_digest_137 : decode cL_digest 137 = .ok (.bipush 11, 2) := by decide +kernel
theorem dL_digest_139 : decode cL_digest 139 = .ok (.if_icmp .ge 24, 3) := by decide +kernel
theorem dL_digest_142 : decode cL_digest 142 = .ok (.ldc2_w 17, 3) := by decide +kernel
theorem dL_digest_145 : decode cL_digest 145 = .ok (.lload_n 1, 1) := by decide +kernel
theorem dL_digest_146 : decode cL_digest 146 = .ok (.lmul, 1) := by decide +kernel
theorem dL_digest_147 : decode cL_digest 147 = .ok (.aload_n 0, 1) := by decide +kernel
theorem dL_digest_148 : decode cL_digest 148 = .ok (.iload_n 3, 1) := by decide +kernel
theorem dL_digest_149 : decode cL_digest 149 = .ok (.iload 4, 2) := by decide +kernel
theorem dL_digest_151 : decode cL_digest 151 = .ok (.invokevirtual 30, 3) := by decide +kernel
theorem dL_digest_154 : decode cL_digest 154 = .ok (.i2l, 1) := by decide +kernel
theorem dL_digest_155 : decode cL_digest 155 = .ok (.ladd, 1) := by decide +kernel
theorem dL_digest_156 : decode cL_digest 156 = .ok (.lstore_n 1, 1) := by decide +kernel
theorem dL_digest_157 : decode cL_digest 157 = .ok (.iinc 4 1, 3) := by decide +kernel
theorem dL_digest_160 : decode cL_digest 160 = .ok (.goto (-25), 3) := by decide +kernel
theorem dL_digest_163 : decode cL_digest 163 = .ok (.ldc2_w 17, 3) := by decide +kernel
theorem dL_digest_166 : decode cL_digest 166 = .ok (.ldc2_w 17, 3) := by decide +kernel
theorem dL_digest_169 : decode cL_digest 169 = .ok (.lload_n 1, 1) := by decide +kernel
theorem dL_digest_170 : decode cL_digest 170 = .ok (.lmul, 1) := by decide +kernel
theorem dL_digest_171 : decode cL_digest 171 = .ok (.aload_n 0, 1) := by decide +kernel
theorem dL_digest_172 : decode cL_digest 172 = .ok (.iload_n 3, 1) := by decide +kernel
theorem dL_digest_173 : decode cL_digest 173 = .ok (.invokevirtual 33, 3) := by decide +kernel
theorem dL_digest_176 : decode cL_digest 176 = .ok (.ldc 37, 2) := by decide +kernel
theorem dL_digest_178 : decode cL_digest 178 = .ok (.fmul, 1) := by decide +kernel
theorem dL_digest_179 : decode cL_digest 179 = .ok (.f2i, 1) := by decide +kernel
theorem dL_digest_180 : decode cL_digest 180 = .ok (.i2l, 1) := by decide +kernel
theorem dL_digest_181 : decode cL_digest 181 = .ok (.ladd, 1) := by decide +kernel
theorem dL_digest_182 : decode cL_digest 182 = .ok (.lmul, 1) := by decide +kernel
theorem dL_digest_183 : decode cL_digest 183 = .ok (.aload_n 0, 1) := by decide +kernel
theorem dL_digest_184 : decode cL_digest 184 = .ok (.iload_n 3, 1) := by decide +kernel
theorem dL_digest_185 : decode cL_digest 185 = .ok (.invokevirtual 38, 3) := by decide +kernel
theorem dL_digest_188 : decode cL_digest 188 = .ok (.i2l, 1) := by decide +kernel
theorem dL_digest_189 : decode cL_digest 189 = .ok (.ladd, 1) := by decide +kernel
theorem dL_digest_190 : decode cL_digest 190 = .ok (.lstore_n 1, 1) := by decide +kernel
theorem dL_digest_191 : decode cL_digest 191 = .ok (.iinc 3 1, 3) := by decide +kernel
theorem dL_digest_194 : decode cL_digest 194 = .ok (.goto (-72), 3) := by decide +kernel
theorem dL_digest_197 : decode cL_digest 197 = .ok (.lload_n 1, 1) := by decide +kernel
theorem dL_digest_198 : decode cL_digest 198 = .ok (.lreturn, 1) := by decide +kernel
theorem dL_act_0 : decode cL_act 0 = .ok (.iload_n 1, 1) := by decide +kernel
theorem dL_act_1 : decode cL_act 1 = .ok (.iconst 4, 1) := by decide +kernel
theorem dL_act_2 : decode cL_act 2 = .ok (.ishr, 1) := by decide +kernel
theorem dL_act_3 : decode cL_act 3 = .ok (.aload_n 0, 1) := by decide +kernel
theorem dL_act_4 : decode cL_act 4 = .ok (.iconst 1, 1) := by decide +kernel
theorem dL_act_5 : decode cL_act 5 = .ok (.invokevirtual 19, 3) := by decide +kernel
theorem dL_act_8 : decode cL_act 8 = .ok (.iconst 1, 1) := by decide +kernel
theorem dL_act_9 : decode cL_act 9 = .ok (.iadd, 1) := by decide +kernel
theorem dL_act_10 : decode cL_act 10 = .ok (.invokestatic 41, 3) := by decide +kernel
theorem dL_act_13 : decode cL_act 13 = .ok (.istore_n 3, 1) := by decide +kernel
theorem dL_act_14 : decode cL_act 14 = .ok (.iload_n 1, 1) := by decide +kernel
theorem dL_act_15 : decode cL_act 15 = .ok (.iconst 4, 1) := by decide +kernel
theorem dL_act_16 : decode cL_act 16 = .ok (.ishr, 1) := by decide +kernel
theorem dL_act_17 : decode cL_act 17 = .ok (.aload_n 0, 1) := by decide +kernel
theorem dL_act_18 : decode cL_act 18 = .ok (.bipush 6, 2) := by decide +kernel
theorem dL_act_20 : decode cL_act 20 = .ok (.invokevirtual 19, 3) := by decide +kernel
theorem dL_act_23 : decode cL_act 23 = .ok (.iconst 1, 1) := by decide +kernel
theorem dL_act_24 : decode cL_act 24 = .ok (.iadd, 1) := by decide +kernel
theorem dL_act_25 : decode cL_act 25 = .ok (.invokestatic 41, 3) := by decide +kernel
theorem dL_act_28 : decode cL_act 28 = .ok (.istore 4, 2) := by decide +kernel
theorem dL_act_30 : decode cL_act 30 = .ok (.iload_n 1, 1) := by decide +kernel
theorem dL_act_31 : decode cL_act 31 = .ok (.bipush 15, 2) := by decide +kernel
theorem dL_act_33 : decode cL_act 33 = .ok (.iand, 1) := by decide +kernel
theorem dL_act_34 : decode cL_act 34 = .ok (.tableswitch 314 0 14 #[74, 89, 89, 141, 153, 159, 172, 172, 200, 212, 218, 218, 236, 257, 309], 74) := by decide +kernel
theorem dL_act_108 : decode cL_act 108 = .ok (.aload_n 0, 1) := by decide +kernel
theorem dL_act_109 : decode cL_act 109 = .ok (.sipush 900, 3) := by decide +kernel
theorem dL_act_112 : decode cL_act 112 = .ok (.iload_n 2, 1) := by decide +kernel
theorem dL_act_113 : decode cL_act 113 = .ok (.ldc 46, 2) := by decide +kernel
theorem dL_act_115 : decode cL_act 115 = .ok (.invokestatic 41, 3) := by decide +kernel
theorem dL_act_118 : decode cL_act 118 = .ok (.iadd, 1) := by decide +kernel
theorem dL_act_119 : decode cL_act 119 = .ok (.invokevirtual 47, 3) := by decide +kernel
theorem dL_act_122 : decode cL_act 122 = .ok (.ireturn, 1) := by decide +kernel
theorem dL_act_123 : decode cL_act 123 = .ok (.aload_n 0, 1) := by decide +kernel
theorem dL_act_124 : decode cL_act 124 = .ok (.aload_n 0, 1) := by decide +kernel
theorem dL_act_125 : decode cL_act 125 = .ok (.iconst 1, 1) := by decide +kernel
theorem dL_act_126 : decode cL_act 126 = .ok (.invokevirtual 19, 3) := by decide +kernel
theorem dL_act_129 : decode cL_act 129 = .ok (.iconst 1, 1) := by decide +kernel
theorem dL_act_130 : decode cL_act 130 = .ok (.isub, 1) := by decide +kernel
theorem dL_act_131 : decode cL_act 131 = .ok (.bipush 90, 2) := by decide +kernel
theorem dL_act_133 : decode cL_act 133 = .ok (.iload_n 2, 1) := by decide +kernel
theorem dL_act_134 : decode cL_act 134 = .ok (.ldc 46, 2) := by decide +kernel
theorem dL_act_136 : decode cL_act 136 = .ok (.invokestatic 41, 3) := by decide +kernel
theorem dL_act_139 : decode cL_act 139 = .ok (.iadd, 1) := by decide +kernel
theorem dL_act_140 : decode cL_act 140 = .ok (.bipush 30, 2) := by decide +kernel
theorem dL_act_142 : decode cL_act 142 = .ok (.iload_n 2, 1) := by decide +kernel
theorem dL_act_143 : decode cL_act 143 = .ok (.iconst 3, 1) := by decide +kernel
theorem dL_act_144 : decode cL_act 144 = .ok (.ishr, 1) := by decide +kernel
theorem dL_act_145 : decode cL_act 145 = .ok (.sipush 3000, 3) := by decide +kernel
theorem dL_act_148 : decode cL_act 148 = .ok (.invokestatic 41, 3) := by decide +kernel
theorem dL_act_151 : decode cL_act 151 = .ok (.iadd, 1) := by decide +kernel
theorem dL_act_152 : decode cL_act 152 = .ok (.iload_n 2, 1) := by decide +kernel
theorem dL_act_153 : decode cL_act 153 = .ok (.bipush 7, 2) := by decide +kernel
theorem dL_act_155 : decode cL_act 155 = .ok (.ishr, 1) := by decide +kernel
theorem dL_act_156 : decode cL_act 156 = .ok (.sipush 2000, 3) := by decide +kernel
theorem dL_act_159 : decode cL_act 159 = .ok (.invokestatic 41, 3) := by decide +kernel
theorem dL_act_162 : decode cL_act 162 = .ok (.iload_n 2, 1) := by decide +kernel
theorem dL_act_163 : decode cL_act 163 = .ok (.bipush 11, 2) := by decide +kernel
theorem dL_act_165 : decode cL_act 165 = .ok (.ishr, 1) := by decide +kernel
theorem dL_act_166 : decode cL_act 166 = .ok (.bipush 103, 2) := by decide +kernel
theorem dL_act_168 : decode cL_act 168 = .ok (.invokestatic 41, 3) := by decide +kernel
theorem dL_act_171 : decode cL_act 171 = .ok (.invokevirtual 50, 3) := by decide +kernel
theorem dL_act_174 : decode cL_act 174 = .ok (.ireturn, 1) := by decide +kernel
theorem dL_act_175 : decode cL_act 175 = .ok (.aload_n 0, 1) := by decide +kernel
theorem dL_act_176 : decode cL_act 176 = .ok (.iload_n 2, 1) := by decide +kernel
theorem dL_act_177 : decode cL_act 177 = .ok (.sipush 300, 3) := by decide +kernel
theorem dL_act_180 : decode cL_act 180 = .ok (.invokestatic 41, 3) := by decide +kernel
theorem dL_act_183 : decode cL_act 183 = .ok (.invokevirtual 54, 3) := by decide +kernel
theorem dL_act_186 : decode cL_act 186 = .ok (.ireturn, 1) := by decide +kernel
theorem dL_act_187 : decode cL_act 187 = .ok (.aload_n 0, 1) := by decide +kernel
theorem dL_act_188 : decode cL_act 188 = .ok (.iload_n 3, 1) := by decide +kernel
theorem dL_act_189 : decode cL_act 189 = .ok (.invokevirtual 57, 3) := by decide +kernel
theorem dL_act_192 : decode cL_act 192 = .ok (.ireturn, 1) := by decide +kernel
theorem dL_act_193 : decode cL_act 193 = .ok (.aload_n 0, 1) := by decide +kernel
theorem dL_act_194 : decode cL_act 194 = .ok (.iload 4, 2) := by decide +kernel
theorem dL_act_196 : decode cL_act 196 = .ok (.iload_n 2, 1) := by decide +kernel
theorem dL_act_197 : decode cL_act 197 = .ok (.bipush 102, 2) := by decide +kernel
theorem dL_act_199 : decode cL_act 199 = .ok (.invokestatic 41, 3) := by decide +kernel
theorem dL_act_202 : decode cL_act 202 = .ok (.invokevirtual 60, 3) := by decide +kernel
theorem dL_act_205 : decode cL_act 205 = .ok (.ireturn, 1) := by decide +kernel
theorem dL_act_206 : decode cL_act 206 = .ok (.aload_n 0, 1) := by decide +kernel
theorem dL_act_207 : decode cL_act 207 = .ok (.iload 4, 2) := by decide +kernel
theorem dL_act_209 : decode cL_act 209 = .ok (.iload_n 2, 1) := by decide +kernel
theorem dL_act_210 : decode cL_act 210 = .ok (.iload_n 2, 1) := by decide +kernel
theorem dL_act_211 : decode cL_act 211 = .ok (.bipush 20, 2) := by decide +kernel
theorem dL_act_213 : decode cL_act 213 = .ok (.ishr, 1) := by decide +kernel
theorem dL_act_214 : decode cL_act 214 = .ok (.iconst 1, 1) := by decide +kernel
theorem dL_act_215 : decode cL_act 215 = .ok (.iand, 1) := by decide +kernel
theorem dL_act_216 : decode cL_act 216 = .ok (.ifCond .ne 9, 3) := by decide +kernel
theorem dL_act_219 : decode cL_act 219 = .ok (.sipush 5000, 3) := by decide +kernel
theorem dL_act_222 : decode cL_act 222 = .ok (.goto 5, 3) := by decide +kernel
theorem dL_act_225 : decode cL_act 225 = .ok (.ldc 46, 2) := by decide +kernel
theorem dL_act_227 : decode cL_act 227 = .ok (.invokestatic 41, 3) := by decide +kernel
theorem dL_act_230 : decode cL_act 230 = .ok (.invokevirtual 63, 3) := by decide +kernel
theorem dL_act_233 : decode cL_act 233 = .ok (.ireturn, 1) := by decide +kernel
theorem dL_act_234 : decode cL_act 234 = .ok (.aload_n 0, 1) := by decide +kernel
theorem dL_act_235 : decode cL_act 235 = .ok (.iload_n 3, 1) := by decide +kernel
theorem dL_act_236 : decode cL_act 236 = .ok (.iload_n 2, 1) := by decide +kernel
theorem dL_act_237 : decode cL_act 237 = .ok (.ldc 66, 2) := by decide +kernel
theorem dL_act_239 : decode cL_act 239 = .ok (.invokestatic 41, 3) := by decide +kernel
theorem dL_act_242 : decode cL_act 242 = .ok (.invokevirtual 67, 3) := by decide +kernel
theorem dL_act_245 : decode cL_act 245 = .ok (.ireturn, 1) := by decide +kernel
theorem dL_act_246 : decode cL_act 246 = .ok (.aload_n 0, 1) := by decide +kernel
theorem dL_act_247 : decode cL_act 247 = .ok (.iload_n 3, 1) := by decide +kernel
theorem dL_act_248 : decode cL_act 248 = .ok (.invokevirtual 70, 3) := by decide +kernel
theorem dL_act_251 : decode cL_act 251 = .ok (.ireturn, 1) := by decide +kernel
theorem dL_act_252 : decode cL_act 252 = .ok (.aload_n 0, 1) := by decide +kernel
theorem dL_act_253 : decode cL_act 253 = .ok (.iload 4, 2) := by decide +kernel
theorem dL_act_255 : decode cL_act 255 = .ok (.iload_n 2, 1) := by decide +kernel
theorem dL_act_256 : decode cL_act 256 = .ok (.iconst 3, 1) := by decide +kernel
theorem dL_act_257 : decode cL_act 257 = .ok (.iand, 1) := by decide +kernel
theorem dL_act_258 : decode cL_act 258 = .ok (.ifCond .ne 7, 3) := by decide +kernel
theorem dL_act_261 : decode cL_act 261 = .ok (.iconst 1, 1) := by decide +kernel
theorem dL_act_262 : decode cL_act 262 = .ok (.goto 4, 3) := by decide +kernel
theorem dL_act_265 : decode cL_act 265 = .ok (.iconst 0, 1) := by decide +kernel
theorem dL_act_266 : decode cL_act 266 = .ok (.invokevirtual 73, 3) := by decide +kernel
theorem dL_act_269 : decode cL_act 269 = .ok (.ireturn, 1) := by decide +kernel
theorem dL_act_270 : decode cL_act 270 = .ok (.aload_n 0, 1) := by decide +kernel
theorem dL_act_271 : decode cL_act 271 = .ok (.iload 4, 2) := by decide +kernel
theorem dL_act_273 : decode cL_act 273 = .ok (.iload_n 2, 1) := by decide +kernel
theorem dL_act_274 : decode cL_act 274 = .ok (.bipush 12, 2) := by decide +kernel
theorem dL_act_276 : decode cL_act 276 = .ok (.invokestatic 41, 3) := by decide +kernel
theorem dL_act_279 : decode cL_act 279 = .ok (.iload_n 2, 1) := by decide +kernel
theorem dL_act_280 : decode cL_act 280 = .ok (.iconst 4, 1) := by decide +kernel
theorem dL_act_281 : decode cL_act 281 = .ok (.ishr, 1) := by decide +kernel
theorem dL_act_282 : decode cL_act 282 = .ok (.bipush 11, 2) := by decide +kernel
theorem dL_act_284 : decode cL_act 284 = .ok (.invokestatic 41, 3) := by decide +kernel
theorem dL_act_287 : decode cL_act 287 = .ok (.invokevirtual 77, 3) := by decide +kernel
theorem dL_act_290 : decode cL_act 290 = .ok (.ireturn, 1) := by decide +kernel
theorem dL_act_291 : decode cL_act 291 = .ok (.iload_n 2, 1) := by decide +kernel
theorem dL_act_292 : decode cL_act 292 = .ok (.iconst 1, 1) := by decide +kernel
theorem dL_act_293 : decode cL_act 293 = .ok (.iand, 1) := by decide +kernel
theorem dL_act_294 : decode cL_act 294 = .ok (.ifCond .ne 18, 3) := by decide +kernel
theorem dL_act_297 : decode cL_act 297 = .ok (.aload_n 0, 1) := by decide +kernel
theorem dL_act_298 : decode cL_act 298 = .ok (.iload_n 2, 1) := by decide +kernel
theorem dL_act_299 : decode cL_act 299 = .ok (.iconst 1, 1) := by decide +kernel
theorem dL_act_300 : decode cL_act 300 = .ok (.ishr, 1) := by decide +kernel
theorem dL_act_301 : decode cL_act 301 = .ok (.ldc 81, 2) := by decide +kernel
theorem dL_act_303 : decode cL_act 303 = .ok (.invokestatic 41, 3) := by decide +kernel
theorem dL_act_306 : decode cL_act 306 = .ok (.invokevirtual 82, 3) := by decide +kernel
theorem dL_act_309 : decode cL_act 309 = .ok (.goto 33, 3) := by decide +kernel
theorem dL_act_312 : decode cL_act 312 = .ok (.aload_n 0, 1) := by decide +kernel
theorem dL_act_313 : decode cL_act 313 = .ok (.iload_n 2, 1) := by decide +kernel
theorem dL_act_314 : decode cL_act 314 = .ok (.iconst 1, 1) := by decide +kernel
theorem dL_act_315 : decode cL_act 315 = .ok (.ishr, 1) := by decide +kernel
theorem dL_act_316 : decode cL_act 316 = .ok (.iconst 3, 1) := by decide +kernel
theorem dL_act_317 : decode cL_act 317 = .ok (.iand, 1) := by decide +kernel
theorem dL_act_318 : decode cL_act 318 = .ok (.ifCond .ne 7, 3) := by decide +kernel
theorem dL_act_321 : decode cL_act 321 = .ok (.iload_n 2, 1) := by decide +kernel
theorem dL_act_322 : decode cL_act 322 = .ok (.goto 17, 3) := by decide +kernel
theorem dL_act_325 : decode cL_act 325 = .ok (.ldc 85, 2) := by decide +kernel
theorem dL_act_327 : decode cL_act 327 = .ok (.iload_n 2, 1) := by decide +kernel
theorem dL_act_328 : decode cL_act 328 = .ok (.iconst 3, 1) := by decide +kernel
theorem dL_act_329 : decode cL_act 329 = .ok (.ishr, 1) := by decide +kernel
theorem dL_act_330 : decode cL_act 330 = .ok (.bipush 50, 2) := by decide +kernel
theorem dL_act_332 : decode cL_act 332 = .ok (.invokestatic 41, 3) := by decide +kernel
theorem dL_act_335 : decode cL_act 335 = .ok (.bipush 19, 2) := by decide +kernel
theorem dL_act_337 : decode cL_act 337 = .ok (.ishl, 1) := by decide +kernel
theorem dL_act_338 : decode cL_act 338 = .ok (.isub, 1) := by decide +kernel
theorem dL_act_339 : decode cL_act 339 = .ok (.invokevirtual 86, 3) := by decide +kernel
theorem dL_act_342 : decode cL_act 342 = .ok (.ireturn, 1) := by decide +kernel
theorem dL_act_343 : decode cL_act 343 = .ok (.aload_n 0, 1) := by decide +kernel
theorem dL_act_344 : decode cL_act 344 = .ok (.invokevirtual 89, 3) := by decide +kernel
theorem dL_act_347 : decode cL_act 347 = .ok (.ireturn, 1) := by decide +kernel
theorem dL_act_348 : decode cL_act 348 = .ok (.aload_n 0, 1) := by decide +kernel
theorem dL_act_349 : decode cL_act 349 = .ok (.iload_n 3, 1) := by decide +kernel
theorem dL_act_350 : decode cL_act 350 = .ok (.invokevirtual 93, 3) := by decide +kernel
theorem dL_act_353 : decode cL_act 353 = .ok (.ireturn, 1) := by decide +kernel
theorem dL_holds_0 : decode cL_holds 0 = .ok (.iconst 0, 1) := by decide +kernel
theorem dL_holds_1 : decode cL_holds 1 = .ok (.istore_n 1, 1) := by decide +kernel
theorem dL_holds_2 : decode cL_holds 2 = .ok (.iconst 0, 1) := by decide +kernel
theorem dL_holds_3 : decode cL_holds 3 = .ok (.istore_n 2, 1) := by decide +kernel
theorem dL_holds_4 : decode cL_holds 4 = .ok (.iconst 0, 1) := by decide +kernel
theorem dL_holds_5 : decode cL_holds 5 = .ok (.istore_n 3, 1) := by decide +kernel
theorem dL_holds_6 : decode cL_holds 6 = .ok (.iconst 0, 1) := by decide +kernel
theorem dL_holds_7 : decode cL_holds 7 = .ok (.istore 4, 2) := by decide +kernel
theorem dL_holds_9 : decode cL_holds 9 = .ok (.iconst 0, 1) := by decide +kernel
theorem dL_holds_10 : decode cL_holds 10 = .ok (.istore 5, 2) := by decide +kernel
theorem dL_holds_12 : decode cL_holds 12 = .ok (.iconst 0, 1) := by decide +kernel
theorem dL_holds_13 : decode cL_holds 13 = .ok (.istore 6, 2) := by decide +kernel
theorem dL_holds_15 : decode cL_holds 15 = .ok (.iload 6, 2) := by decide +kernel
theorem dL_holds_17 : decode cL_holds 17 = .ok (.aload_n 0, 1) := by decide +kernel
theorem dL_holds_18 : decode cL_holds 18 = .ok (.iconst 1, 1) := by decide +kernel
theorem dL_holds_19 : decode cL_holds 19 = .ok (.invokevirtual 19, 3) := by decide +kernel
theorem dL_holds_22 : decode cL_holds 22 = .ok (.if_icmp .ge 293, 3) := by decide +kernel
theorem dL_holds_25 : decode cL_holds 25 = .ok (.aload_n 0, 1) := by decide +kernel
theorem dL_holds_26 : decode cL_holds 26 = .ok (.iload 6, 2) := by decide +kernel
theorem dL_holds_28 : decode cL_holds 28 = .ok (.iconst 2, 1) := by decide +kernel
theorem dL_holds_29 : decode cL_holds 29 = .ok (.invokevirtual 23, 3) := by decide +kernel
theorem dL_holds_32 : decode cL_holds 32 = .ok (.istore 7, 2) := by decide +kernel
theorem dL_holds_34 : decode cL_holds 34 = .ok (.iload 5, 2) := by decide +kernel
theorem dL_holds_36 : decode cL_holds 36 = .ok (.iload 7, 2) := by decide +kernel
theorem dL_holds_38 : decode cL_holds 38 = .ok (.iadd, 1) := by decide +kernel
theorem dL_holds_39 : decode cL_holds 39 = .ok (.istore 5, 2) := by decide +kernel
theorem dL_holds_41 : decode cL_holds 41 = .ok (.iload 7, 2) := by decide +kernel
theorem dL_holds_43 : decode cL_holds 43 = .ok (.ifCond .le 176, 3) := by decide +kernel
theorem dL_holds_46 : decode cL_holds 46 = .ok (.aload_n 0, 1) := by decide +kernel
theorem dL_holds_47 : decode cL_holds 47 = .ok (.iload 6, 2) := by decide +kernel
theorem dL_holds_49 : decode cL_holds 49 = .ok (.iconst 0, 1) := by decide +kernel
theorem dL_holds_50 : decode cL_holds 50 = .ok (.invokevirtual 27, 3) := by decide +kernel
theorem dL_holds_53 : decode cL_holds 53 = .ok (.aload_n 0, 1) := by decide +kernel
theorem dL_holds_54 : decode cL_holds 54 = .ok (.iload 6, 2) := by decide +kernel
theorem dL_holds_56 : decode cL_holds 56 = .ok (.iconst 1, 1) := by decide +kernel
theorem dL_holds_57 : decode cL_holds 57 = .ok (.invokevirtual 27, 3) := by decide +kernel
theorem dL_holds_60 : decode cL_holds 60 = .ok (.iadd, 1) := by decide +kernel
theorem dL_holds_61 : decode cL_holds 61 = .ok (.aload_n 0, 1) := by decide +kernel
theorem dL_holds_62 : decode cL_holds 62 = .ok (.iload 6, 2) := by decide +kernel
theorem dL_holds_64 : decode cL_holds 64 = .ok (.iconst 2, 1) := by decide +kernel
theorem dL_holds_65 : decode cL_holds 65 = .ok (.invokevirtual 27, 3) := by decide +kernel
theorem dL_holds_68 : decode cL_holds 68 = .ok (.iadd, 1) := by decide +kernel
theorem dL_holds_69 : decode cL_holds 69 = .ok (.istore 8, 2) := by decide +kernel
theorem dL_holds_71 : decode cL_holds 71 = .ok (.aload_n 0, 1) := by decide +kernel
theorem dL_holds_72 : decode cL_holds 72 = .ok (.iload 6, 2) := by decide +kernel
theorem dL_holds_74 : decode cL_holds 74 = .ok (.iconst 2, 1) := by decide +kernel
theorem dL_holds_75 : decode cL_holds 75 = .ok (.invokevirtual 27, 3) := by decide +kernel
theorem dL_holds_78 : decode cL_holds 78 = .ok (.aload_n 0, 1) := by decide +kernel
theorem dL_holds_79 : decode cL_holds 79 = .ok (.iload 6, 2) := by decide +kernel
theorem dL_holds_81 : decode cL_holds 81 = .ok (.iconst 3, 1) := by decide +kernel
theorem dL_holds_82 : decode cL_holds 82 = .ok (.invokevirtual 27, 3) := by decide +kernel
theorem dL_holds_85 : decode cL_holds 85 = .ok (.iadd, 1) := by decide +kernel
theorem dL_holds_86 : decode cL_holds 86 = .ok (.istore 9, 2) := by decide +kernel
theorem dL_holds_88 : decode cL_holds 88 = .ok (.iload 7, 2) := by decide +kernel
theorem dL_holds_90 : decode cL_holds 90 = .ok (.iconst 3, 1) := by decide +kernel
theorem dL_holds_91 : decode cL_holds 91 = .ok (.if_icmp .eq 62, 3) := by decide +kernel
theorem dL_holds_94 : decode cL_holds 94 = .ok (.iload 9, 2) := by decide +kernel
theorem dL_holds_96 : decode cL_holds 96 = .ok (.aload_n 0, 1) := by decide +kernel
theorem dL_holds_97 : decode cL_holds 97 = .ok (.bipush 7, 2) := by decide +kernel
theorem dL_holds_99 : decode cL_holds 99 = .ok (.invokevirtual 19, 3) := by decide +kernel
theorem dL_holds_102 : decode cL_holds 102 = .ok (.if_icmp .gt 55, 3) := by decide +kernel
theorem dL_holds_105 : decode cL_holds 105 = .ok (.aload_n 0, 1) := by decide +kernel
theorem dL_holds_106 : decode cL_holds 106 = .ok (.iload 6, 2) := by decide +kernel
theorem dL_holds_108 : decode cL_holds 108 = .ok (.bipush 9, 2) := by decide +kernel
theorem dL_holds_110 : decode cL_holds 110 = .ok (.invokevirtual 23, 3) := by decide +kernel
theorem dL_holds_113 : decode cL_holds 113 = .ok (.ifCond .gt 8, 3) := by decide +kernel
theorem dL_holds_116 : decode cL_holds 116 = .ok (.iload 9, 2) := by decide +kernel
theorem dL_holds_118 : decode cL_holds 118 = .ok (.ifCond .ne 39, 3) := by decide +kernel
theorem dL_holds_121 : decode cL_holds 121 = .ok (.aload_n 0, 1) := by decide +kernel
theorem dL_holds_122 : decode cL_holds 122 = .ok (.iload 6, 2) := by decide +kernel
theorem dL_holds_124 : decode cL_holds 124 = .ok (.iconst 4, 1) := by decide +kernel
theorem dL_holds_125 : decode cL_holds 125 = .ok (.invokevirtual 27, 3) := by decide +kernel
theorem dL_holds_128 : decode cL_holds 128 = .ok (.ifCond .gt 25, 3) := by decide +kernel
theorem dL_holds_131 : decode cL_holds 131 = .ok (.aload_n 0, 1) := by decide +kernel
theorem dL_holds_132 : decode cL_holds 132 = .ok (.iload 6, 2) := by decide +kernel
theorem dL_holds_134 : decode cL_holds 134 = .ok (.bipush 9, 2) := by decide +kernel
theorem dL_holds_136 : decode cL_holds 136 = .ok (.invokevirtual 23, 3) := by decide +kernel
theorem dL_holds_139 : decode cL_holds 139 = .ok (.ifCond .eq 14, 3) := by decide +kernel
theorem dL_holds_142 : decode cL_holds 142 = .ok (.iload 9, 2) := by decide +kernel
theorem dL_holds_144 : decode cL_holds 144 = .ok (.aload_n 0, 1) := by decide +kernel
theorem dL_holds_145 : decode cL_holds 145 = .ok (.bipush 7, 2) := by decide +kernel
theorem dL_holds_147 : decode cL_holds 147 = .ok (.invokevirtual 19, 3) := by decide +kernel
theorem dL_holds_150 : decode cL_holds 150 = .ok (.if_icmp .ne 7, 3) := by decide +kernel
theorem dL_holds_153 : decode cL_holds 153 = .ok (.iconst 1, 1) := by decide +kernel
theorem dL_holds_154 : decode cL_holds 154 = .ok (.goto 4, 3) := by decide +kernel
theorem dL_holds_157 : decode cL_holds 157 = .ok (.iconst 0, 1) := by decide +kernel
theorem dL_holds_158 : decode cL_holds 158 = .ok (.istore 10, 2) := by decide +kernel
theorem dL_holds_160 : decode cL_holds 160 = .ok (.iload 8, 2) := by decide +kernel
theorem dL_holds_162 : decode cL_holds 162 = .ok (.aload_n 0, 1) := by decide +kernel
theorem dL_holds_163 : decode cL_holds 163 = .ok (.iload 6, 2) := by decide +kernel
theorem dL_holds_165 : decode cL_holds 165 = .ok (.iconst 5, 1) := by decide +kernel
theorem dL_holds_166 : decode cL_holds 166 = .ok (.invokevirtual 27, 3) := by decide +kernel
theorem dL_holds_169 : decode cL_holds 169 = .ok (.if_icmp .ne 48, 3) := by decide +kernel
theorem dL_holds_172 : decode cL_holds 172 = .ok (.iload 8, 2) := by decide +kernel
theorem dL_holds_174 : decode cL_holds 174 = .ok (.aload_n 0, 1) := by decide +kernel
theorem dL_holds_175 : decode cL_holds 175 = .ok (.iload 6, 2) := by decide +kernel
theorem dL_holds_177 : decode cL_holds 177 = .ok (.iconst 0, 1) := by decide +kernel
theorem dL_holds_178 : decode cL_holds 178 = .ok (.invokevirtual 23, 3) := by decide +kernel
theorem dL_holds_181 : decode cL_holds 181 = .ok (.aload_n 0, 1) := by decide +kernel
theorem dL_holds_182 : decode cL_holds 182 = .ok (.iload 6, 2) := by decide +kernel
theorem dL_holds_184 : decode cL_holds 184 = .ok (.iconst 4, 1) := by decide +kernel
theorem dL_holds_185 : decode cL_holds 185 = .ok (.invokevirtual 23, 3) := by decide +kernel
theorem dL_holds_188 : decode cL_holds 188 = .ok (.iadd, 1) := by decide +kernel
theorem dL_holds_189 : decode cL_holds 189 = .ok (.if_icmp .ne 28, 3) := by decide +kernel
theorem dL_holds_192 : decode cL_holds 192 = .ok (.aload_n 0, 1) := by decide +kernel
theorem dL_holds_193 : decode cL_holds 193 = .ok (.iload 6, 2) := by decide +kernel
theorem dL_holds_195 : decode cL_holds 195 = .ok (.iconst 4, 1) := by decide +kernel
theorem dL_holds_196 : decode cL_holds 196 = .ok (.invokevirtual 27, 3) := by decide +kernel
theorem dL_holds_199 : decode cL_holds 199 = .ok (.ifCond .le 13, 3) := by decide +kernel
theorem dL_holds_202 : decode cL_holds 202 = .ok (.aload_n 0, 1) := by decide +kernel
theorem dL_holds_203 : decode cL_holds 203 = .ok (.iload 6, 2) := by decide +kernel
theorem dL_holds_205 : decode cL_holds 205 = .ok (.iconst 0, 1) := by decide +kernel
theorem dL_holds_206 : decode cL_holds 206 = .ok (.invokevirtual 27, 3) := by decide +kernel
theorem dL_holds_209 : decode cL_holds 209 = .ok (.ifCond .gt 8, 3) := by decide +kernel
theorem dL_holds_212 : decode cL_holds 212 = .ok (.iload 10, 2) := by decide +kernel
theorem dL_holds_214 : decode cL_holds 214 = .ok (.ifCond .ne 5, 3) := by decide +kernel
theorem dL_holds_217 : decode cL_holds 217 = .ok (.iconst 0, 1) := by decide +kernel
theorem dL_holds_218 : decode cL_holds 218 = .ok (.ireturn, 1) := by decide +kernel
theorem dL_holds_219 : decode cL_holds 219 = .ok (.iload_n 1, 1) := by decide +kernel
theorem dL_holds_220 : decode cL_holds 220 = .ok (.iload 7, 2) := by decide +kernel
theorem dL_holds_222 : decode cL_holds 222 = .ok (.iconst 3, 1) := by decide +kernel
theorem dL_holds_223 : decode cL_holds 223 = .ok (.if_icmp .ne 13, 3) := by decide +kernel
theorem dL_holds_226 : decode cL_holds 226 = .ok (.aload_n 0, 1) := by decide +kernel
theorem dL_holds_227 : decode cL_holds 227 = .ok (.iload 6, 2) := by decide +kernel
theorem dL_holds_229 : decode cL_holds 229 = .ok (.iconst 0, 1) := by decide +kernel
theorem dL_holds_230 : decode cL_holds 230 = .ok (.invokevirtual 27, 3) := by decide +kernel
theorem dL_holds_233 : decode cL_holds 233 = .ok (.goto 4, 3) := by decide +kernel
theorem dL_holds_236 : decode cL_holds 236 = .ok (.iconst 0, 1) := by decide +kernel
theorem dL_holds_237 : decode cL_holds 237 = .ok (.iadd, 1) := by decide +kernel
theorem dL_holds_238 : decode cL_holds 238 = .ok (.istore_n 1, 1) := by decide +kernel
theorem dL_holds_239 : decode cL_holds 239 = .ok (.iload_n 2, 1) := by decide +kernel
theorem dL_holds_240 : decode cL_holds 240 = .ok (.iload 7, 2) := by decide +kernel
theorem dL_holds_242 : decode cL_holds 242 = .ok (.iconst 3, 1) := by decide +kernel
theorem dL_holds_243 : decode cL_holds 243 = .ok (.if_icmp .ne 13, 3) := by decide +kernel
theorem dL_holds_246 : decode cL_holds 246 = .ok (.aload_n 0, 1) := by decide +kernel
theorem dL_holds_247 : decode cL_holds 247 = .ok (.iload 6, 2) := by decide +kernel
theorem dL_holds_249 : decode cL_holds 249 = .ok (.iconst 1, 1) := by decide +kernel
theorem dL_holds_250 : decode cL_holds 250 = .ok (.invokevirtual 27, 3) := by decide +kernel
theorem dL_holds_253 : decode cL_holds 253 = .ok (.goto 4, 3) := by decide +kernel
theorem dL_holds_256 : decode cL_holds 256 = .ok (.iconst 0, 1) := by decide +kernel
theorem dL_holds_257 : decode cL_holds 257 = .ok (.iadd, 1) := by decide +kernel
theorem dL_holds_258 : decode cL_holds 258 = .ok (.istore_n 2, 1) := by decide +kernel
theorem dL_holds_259 : decode cL_holds 259 = .ok (.iload_n 3, 1) := by decide +kernel
theorem dL_holds_260 : decode cL_holds 260 = .ok (.iload 7, 2) := by decide +kernel
theorem dL_holds_262 : decode cL_holds 262 = .ok (.iconst 3, 1) := by decide +kernel
theorem dL_holds_263 : decode cL_holds 263 = .ok (.if_icmp .ne 21, 3) := by decide +kernel
theorem dL_holds_266 : decode cL_holds 266 = .ok (.aload_n 0, 1) := by decide +kernel
theorem dL_holds_267 : decode cL_holds 267 = .ok (.iload 6, 2) := by decide +kernel
theorem dL_holds_269 : decode cL_holds 269 = .ok (.iconst 2, 1) := by decide +kernel
theorem dL_holds_270 : decode cL_holds 270 = .ok (.invokevirtual 27, 3) := by decide +kernel
theorem dL_holds_273 : decode cL_holds 273 = .ok (.aload_n 0, 1) := by decide +kernel
theorem dL_holds_274 : decode cL_holds 274 = .ok (.iload 6, 2) := by decide +kernel
theorem dL_holds_276 : decode cL_holds 276 = .ok (.iconst 3, 1) := by decide +kernel
theorem dL_holds_277 : decode cL_holds 277 = .ok (.invokevirtual 27, 3) := by decide +kernel
theorem dL_holds_280 : decode cL_holds 280 = .ok (.iadd, 1) := by decide +kernel
theorem dL_holds_281 : decode cL_holds 281 = .ok (.goto 4, 3) := by decide +kernel
theorem dL_holds_284 : decode cL_holds 284 = .ok (.iconst 0, 1) := by decide +kernel
theorem dL_holds_285 : decode cL_holds 285 = .ok (.iadd, 1) := by decide +kernel
theorem dL_holds_286 : decode cL_holds 286 = .ok (.istore_n 3, 1) := by decide +kernel
theorem dL_holds_287 : decode cL_holds 287 = .ok (.iload 4, 2) := by decide +kernel
theorem dL_holds_289 : decode cL_holds 289 = .ok (.iload 7, 2) := by decide +kernel
theorem dL_holds_291 : decode cL_holds 291 = .ok (.iconst 3, 1) := by decide +kernel
theorem dL_holds_292 : decode cL_holds 292 = .ok (.if_icmp .ne 13, 3) := by decide +kernel
theorem dL_holds_295 : decode cL_holds 295 = .ok (.aload_n 0, 1) := by decide +kernel
theorem dL_holds_296 : decode cL_holds 296 = .ok (.iload 6, 2) := by decide +kernel
theorem dL_holds_298 : decode cL_holds 298 = .ok (.iconst 4, 1) := by decide +kernel
theorem dL_holds_299 : decode cL_holds 299 = .ok (.invokevirtual 27, 3) := by decide +kernel
theorem dL_holds_302 : decode cL_holds 302 = .ok (.goto 4, 3) := by decide +kernel
theorem dL_holds_305 : decode cL_holds 305 = .ok (.iconst 0, 1) := by decide +kernel
theorem dL_holds_306 : decode cL_holds 306 = .ok (.iadd, 1) := by decide +kernel
theorem dL_holds_307 : decode cL_holds 307 = .ok (.istore 4, 2) := by decide +kernel
theorem dL_holds_309 : decode cL_holds 309 = .ok (.iinc 6 1, 3) := by decide +kernel
theorem dL_holds_312 : decode cL_holds 312 = .ok (.goto (-297), 3) := by decide +kernel
theorem dL_holds_315 : decode cL_holds 315 = .ok (.iconst 0, 1) := by decide +kernel
theorem dL_holds_316 : decode cL_holds 316 = .ok (.istore 6, 2) := by decide +kernel
theorem dL_holds_318 : decode cL_holds 318 = .ok (.iload 6, 2) := by decide +kernel
theorem dL_holds_320 : decode cL_holds 320 = .ok (.aload_n 0, 1) := by decide +kernel
theorem dL_holds_321 : decode cL_holds 321 = .ok (.bipush 6, 2) := by decide +kernel
theorem dL_holds_323 : decode cL_holds 323 = .ok (.invokevirtual 19, 3) := by decide +kernel
theorem dL_holds_326 : decode cL_holds 326 = .ok (.if_icmp .ge 164, 3) := by decide +kernel
theorem dL_holds_329 : decode cL_holds 329 = .ok (.aload_n 0, 1) := by decide +kernel
theorem dL_holds_330 : decode cL_holds 330 = .ok (.iload 6, 2) := by decide +kernel
theorem dL_holds_332 : decode cL_holds 332 = .ok (.bipush 7, 2) := by decide +kernel
theorem dL_holds_334 : decode cL_holds 334 = .ok (.invokevirtual 30, 3) := by decide +kernel
theorem dL_holds_337 : decode cL_holds 337 = .ok (.istore 7, 2) := by decide +kernel
theorem dL_holds_339 : decode cL_holds 339 = .ok (.aload_n 0, 1) := by decide +kernel
theorem dL_holds_340 : decode cL_holds 340 = .ok (.iload 6, 2) := by decide +kernel
theorem dL_holds_342 : decode cL_holds 342 = .ok (.bipush 9, 2) := by decide +kernel
theorem dL_holds_344 : decode cL_holds 344 = .ok (.invokevirtual 30, 3) := by decide +kernel
theorem dL_holds_347 : decode cL_holds 347 = .ok (.istore 8, 2) := by decide +kernel
theorem dL_holds_349 : decode cL_holds 349 = .ok (.aload_n 0, 1) := by decide +kernel
theorem dL_holds_350 : decode cL_holds 350 = .ok (.iload 6, 2) := by decide +kernel
theorem dL_holds_352 : decode cL_holds 352 = .ok (.bipush 6, 2) := by decide +kernel
theorem dL_holds_354 : decode cL_holds 354 = .ok (.invokevirtual 30, 3) := by decide +kernel
theorem dL_holds_357 : decode cL_holds 357 = .ok (.istore 9, 2) := by decide +kernel
theorem dL_holds_359 : decode cL_holds 359 = .ok (.aload_n 0, 1) := by decide +kernel
theorem dL_holds_360 : decode cL_holds 360 = .ok (.iload 6, 2) := by decide +kernel
theorem dL_holds_362 : decode cL_holds 362 = .ok (.invokevirtual 96, 3) := by decide +kernel
theorem dL_holds_365 : decode cL_holds 365 = .ok (.fstore 10, 2) := by decide +kernel
theorem dL_holds_367 : decode cL_holds 367 = .ok (.aload_n 0, 1) := by decide +kernel
theorem dL_holds_368 : decode cL_holds 368 = .ok (.aload_n 0, 1) := by decide +kernel
theorem dL_holds_369 : decode cL_holds 369 = .ok (.iload 6, 2) := by decide +kernel
theorem dL_holds_371 : decode cL_holds 371 = .ok (.iconst 0, 1) := by decide +kernel
theorem dL_holds_372 : decode cL_holds 372 = .ok (.invokevirtual 30, 3) := by decide +kernel
theorem dL_holds_375 : decode cL_holds 375 = .ok (.iconst 2, 1) := by decide +kernel
theorem dL_holds_376 : decode cL_holds 376 = .ok (.invokevirtual 23, 3) := by decide +kernel
theorem dL_holds_379 : decode cL_holds 379 = .ok (.ifCond .ne 7, 3) := by decide +kernel
theorem dL_holds_382 : decode cL_holds 382 = .ok (.iconst 1, 1) := by decide +kernel
theorem dL_holds_383 : decode cL_holds 383 = .ok (.goto 4, 3) := by decide +kernel
theorem dL_holds_386 : decode cL_holds 386 = .ok (.iconst 0, 1) := by decide +kernel
theorem dL_holds_387 : decode cL_holds 387 = .ok (.istore 11, 2) := by decide +kernel
theorem dL_holds_389 : decode cL_holds 389 = .ok (.iload 8, 2) := by decide +kernel
theorem dL_holds_391 : decode cL_holds 391 = .ok (.iload 7, 2) := by decide +kernel
theorem dL_holds_393 : decode cL_holds 393 = .ok (.if_icmp .gt 89, 3) := by decide +kernel
theorem dL_holds_396 : decode cL_holds 396 = .ok (.iload 11, 2) := by decide +kernel
theorem dL_holds_398 : decode cL_holds 398 = .ok (.ifCond .ne 34, 3) := by decide +kernel
theorem dL_holds_401 : decode cL_holds 401 = .ok (.iload 8, 2) := by decide +kernel
theorem dL_holds_403 : decode cL_holds 403 = .ok (.iload 7, 2) := by decide +kernel
theorem dL_holds_405 : decode cL_holds 405 = .ok (.iload 9, 2) := by decide +kernel
theorem dL_holds_407 : decode cL_holds 407 = .ok (.if_icmp .ge 8, 3) := by decide +kernel
theorem dL_holds_410 : decode cL_holds 410 = .ok (.iload 7, 2) := by decide +kernel
theorem dL_holds_412 : decode cL_holds 412 = .ok (.goto 5, 3) := by decide +kernel
theorem dL_holds_415 : decode cL_holds 415 = .ok (.iload 9, 2) := by decide +kernel
theorem dL_holds_417 : decode cL_holds 417 = .ok (.if_icmp .lt 65, 3) := by decide +kernel
theorem dL_holds_420 : decode cL_holds 420 = .ok (.iload 9, 2) := by decide +kernel
theorem dL_holds_422 : decode cL_holds 422 = .ok (.aload_n 0, 1) := by decide +kernel
theorem dL_holds_423 : decode cL_holds 423 = .ok (.iload 6, 2) := by decide +kernel
theorem dL_holds_425 : decode cL_holds 425 = .ok (.iconst 1, 1) := by decide +kernel
theorem dL_holds_426 : decode cL_holds 426 = .ok (.invokevirtual 30, 3) := by decide +kernel
theorem dL_holds_429 : decode cL_holds 429 = .ok (.if_icmp .gt 53, 3) := by decide +kernel
theorem dL_holds_432 : decode cL_holds 432 = .ok (.fload 10, 2) := by decide +kernel
theorem dL_holds_434 : decode cL_holds 434 = .ok (.fconst 0, 1) := by decide +kernel
theorem dL_holds_435 : decode cL_holds 435 = .ok (.fcmp .g, 1) := by decide +kernel
theorem dL_holds_436 : decode cL_holds 436 = .ok (.ifCond .lt 46, 3) := by decide +kernel
theorem dL_holds_439 : decode cL_holds 439 = .ok (.fload 10, 2) := by decide +kernel
theorem dL_holds_441 : decode cL_holds 441 = .ok (.fconst 1, 1) := by decide +kernel
theorem dL_holds_442 : decode cL_holds 442 = .ok (.fcmp .l, 1) := by decide +kernel
theorem dL_holds_443 : decode cL_holds 443 = .ok (.ifCond .gt 39, 3) := by decide +kernel
theorem dL_holds_446 : decode cL_holds 446 = .ok (.aload_n 0, 1) := by decide +kernel
theorem dL_holds_447 : decode cL_holds 447 = .ok (.iload 6, 2) := by decide +kernel
theorem dL_holds_449 : decode cL_holds 449 = .ok (.iconst 3, 1) := by decide +kernel
theorem dL_holds_450 : decode cL_holds 450 = .ok (.invokevirtual 30, 3) := by decide +kernel
theorem dL_holds_453 : decode cL_holds 453 = .ok (.aload_n 0, 1) := by decide +kernel
theorem dL_holds_454 : decode cL_holds 454 = .ok (.iload 6, 2) := by decide +kernel
theorem dL_holds_456 : decode cL_holds 456 = .ok (.iconst 2, 1) := by decide +kernel
theorem dL_holds_457 : decode cL_holds 457 = .ok (.invokevirtual 30, 3) := by decide +kernel
theorem dL_holds_460 : decode cL_holds 460 = .ok (.if_icmp .gt 22, 3) := by decide +kernel
theorem dL_holds_463 : decode cL_holds 463 = .ok (.aload_n 0, 1) := by decide +kernel
theorem dL_holds_464 : decode cL_holds 464 = .ok (.iload 6, 2) := by decide +kernel
theorem dL_holds_466 : decode cL_holds 466 = .ok (.bipush 8, 2) := by decide +kernel
theorem dL_holds_468 : decode cL_holds 468 = .ok (.invokevirtual 30, 3) := by decide +kernel
theorem dL_holds_471 : decode cL_holds 471 = .ok (.iconst 1, 1) := by decide +kernel
theorem dL_holds_472 : decode cL_holds 472 = .ok (.if_icmp .ne 12, 3) := by decide +kernel
theorem dL_holds_475 : decode cL_holds 475 = .ok (.iload 8, 2) := by decide +kernel
theorem dL_holds_477 : decode cL_holds 477 = .ok (.iload 7, 2) := by decide +kernel
theorem dL_holds_479 : decode cL_holds 479 = .ok (.if_icmp .eq 5, 3) := by decide +kernel
theorem dL_holds_482 : decode cL_holds 482 = .ok (.iconst 0, 1) := by decide +kernel
theorem dL_holds_483 : decode cL_holds 483 = .ok (.ireturn, 1) := by decide +kernel
theorem dL_holds_484 : decode cL_holds 484 = .ok (.iinc 6 1, 3) := by decide +kernel
theorem dL_holds_487 : decode cL_holds 487 = .ok (.goto (-169), 3) := by decide +kernel
theorem dL_holds_490 : decode cL_holds 490 = .ok (.iload 5, 2) := by decide +kernel
theorem dL_holds_492 : decode cL_holds 492 = .ok (.aload_n 0, 1) := by decide +kernel
theorem dL_holds_493 : decode cL_holds 493 = .ok (.iconst 3, 1) := by decide +kernel
theorem dL_holds_494 : decode cL_holds 494 = .ok (.invokevirtual 19, 3) := by decide +kernel
theorem dL_holds_497 : decode cL_holds 497 = .ok (.iconst 2, 1) := by decide +kernel
theorem dL_holds_498 : decode cL_holds 498 = .ok (.aload_n 0, 1) := by decide +kernel
theorem dL_holds_499 : decode cL_holds 499 = .ok (.iconst 4, 1) := by decide +kernel
theorem dL_holds_500 : decode cL_holds 500 = .ok (.invokevirtual 19, 3) := by decide +kernel
theorem dL_holds_503 : decode cL_holds 503 = .ok (.imul, 1) := by decide +kernel
theorem dL_holds_504 : decode cL_holds 504 = .ok (.iadd, 1) := by decide +kernel
theorem dL_holds_505 : decode cL_holds 505 = .ok (.iconst 3, 1) := by decide +kernel
theorem dL_holds_506 : decode cL_holds 506 = .ok (.aload_n 0, 1) := by decide +kernel
theorem dL_holds_507 : decode cL_holds 507 = .ok (.iconst 5, 1) := by decide +kernel
theorem dL_holds_508 : decode cL_holds 508 = .ok (.invokevirtual 19, 3) := by decide +kernel
theorem dL_holds_511 : decode cL_holds 511 = .ok (.imul, 1) := by decide +kernel
theorem dL_holds_512 : decode cL_holds 512 = .ok (.iadd, 1) := by decide +kernel
theorem dL_holds_513 : decode cL_holds 513 = .ok (.if_icmp .ne 38, 3) := by decide +kernel
theorem dL_holds_516 : decode cL_holds 516 = .ok (.aload_n 0, 1) := by decide +kernel
theorem dL_holds_517 : decode cL_holds 517 = .ok (.iconst 2, 1) := by decide +kernel
theorem dL_holds_518 : decode cL_holds 518 = .ok (.invokevirtual 19, 3) := by decide +kernel
theorem dL_holds_521 : decode cL_holds 521 = .ok (.aload_n 0, 1) := by decide +kernel
theorem dL_holds_522 : decode cL_holds 522 = .ok (.iconst 3, 1) := by decide +kernel
theorem dL_holds_523 : decode cL_holds 523 = .ok (.invokevirtual 19, 3) := by decide +kernel
theorem dL_holds_526 : decode cL_holds 526 = .ok (.iadd, 1) := by decide +kernel
theorem dL_holds_527 : decode cL_holds 527 = .ok (.aload_n 0, 1) := by decide +kernel
theorem dL_holds_528 : decode cL_holds 528 = .ok (.iconst 4, 1) := by decide +kernel
theorem dL_holds_529 : decode cL_holds 529 = .ok (.invokevirtual 19, 3) := by decide +kernel
theorem dL_holds_532 : decode cL_holds 532 = .ok (.iadd, 1) := by decide +kernel
theorem dL_holds_533 : decode cL_holds 533 = .ok (.aload_n 0, 1) := by decide +kernel
theorem dL_holds_534 : decode cL_holds 534 = .ok (.iconst 5, 1) := by decide +kernel
theorem dL_holds_535 : decode cL_holds 535 = .ok (.invokevirtual 19, 3) := by decide +kernel
theorem dL_holds_538 : decode cL_holds 538 = .ok (.iadd, 1) := by decide +kernel
theorem dL_holds_539 : decode cL_holds 539 = .ok (.aload_n 0, 1) := by decide +kernel
theorem dL_holds_540 : decode cL_holds 540 = .ok (.iconst 1, 1) := by decide +kernel
theorem dL_holds_541 : decode cL_holds 541 = .ok (.invokevirtual 19, 3) := by decide +kernel
theorem dL_holds_544 : decode cL_holds 544 = .ok (.if_icmp .ne 7, 3) := by decide +kernel
theorem dL_holds_547 : decode cL_holds 547 = .ok (.iconst 1, 1) := by decide +kernel
theorem dL_holds_548 : decode cL_holds 548 = .ok (.goto 4, 3) := by decide +kernel
theorem dL_holds_551 : decode cL_holds 551 = .ok (.iconst 0, 1) := by decide +kernel
theorem dL_holds_552 : decode cL_holds 552 = .ok (.istore 6, 2) := by decide +kernel
theorem dL_holds_554 : decode cL_holds 554 = .ok (.iload 6, 2) := by decide +kernel
theorem dL_holds_556 : decode cL_holds 556 = .ok (.ifCond .eq 78, 3) := by decide +kernel
theorem dL_holds_559 : decode cL_holds 559 = .ok (.iload_n 1, 1) := by decide +kernel
theorem dL_holds_560 : decode cL_holds 560 = .ok (.aload_n 0, 1) := by decide +kernel
theorem dL_holds_561 : decode cL_holds 561 = .ok (.bipush 8, 2) := by decide +kernel
theorem dL_holds_563 : decode cL_holds 563 = .ok (.invokevirtual 19, 3) := by decide +kernel
theorem dL_holds_566 : decode cL_holds 566 = .ok (.if_icmp .ne 68, 3) := by decide +kernel
theorem dL_holds_569 : decode cL_holds 569 = .ok (.iload_n 2, 1) := by decide +kernel
theorem dL_holds_570 : decode cL_holds 570 = .ok (.aload_n 0, 1) := by decide +kernel
theorem dL_holds_571 : decode cL_holds 571 = .ok (.bipush 9, 2) := by decide +kernel
theorem dL_holds_573 : decode cL_holds 573 = .ok (.invokevirtual 19, 3) := by decide +kernel
theorem dL_holds_576 : decode cL_holds 576 = .ok (.if_icmp .ne 58, 3) := by decide +kernel
theorem dL_holds_579 : decode cL_holds 579 = .ok (.iload_n 3, 1) := by decide +kernel
theorem dL_holds_580 : decode cL_holds 580 = .ok (.aload_n 0, 1) := by decide +kernel
theorem dL_holds_581 : decode cL_holds 581 = .ok (.bipush 10, 2) := by decide +kernel
theorem dL_holds_583 : decode cL_holds 583 = .ok (.invokevirtual 19, 3) := by decide +kernel
theorem dL_holds_586 : decode cL_holds 586 = .ok (.if_icmp .ne 48, 3) := by decide +kernel
theorem dL_holds_589 : decode cL_holds 589 = .ok (.iload 4, 2) := by decide +kernel
theorem dL_holds_591 : decode cL_holds 591 = .ok (.aload_n 0, 1) := by decide +kernel
theorem dL_holds_592 : decode cL_holds 592 = .ok (.bipush 11, 2) := by decide +kernel
theorem dL_holds_594 : decode cL_holds 594 = .ok (.invokevirtual 19, 3) := by decide +kernel
theorem dL_holds_597 : decode cL_holds 597 = .ok (.if_icmp .ne 37, 3) := by decide +kernel
theorem dL_holds_600 : decode cL_holds 600 = .ok (.aload_n 0, 1) := by decide +kernel
theorem dL_holds_601 : decode cL_holds 601 = .ok (.bipush 24, 2) := by decide +kernel
theorem dL_holds_603 : decode cL_holds 603 = .ok (.invokevirtual 33, 3) := by decide +kernel
theorem dL_holds_606 : decode cL_holds 606 = .ok (.aload_n 0, 1) := by decide +kernel
theorem dL_holds_607 : decode cL_holds 607 = .ok (.bipush 24, 2) := by decide +kernel
theorem dL_holds_609 : decode cL_holds 609 = .ok (.invokevirtual 33, 3) := by decide +kernel
theorem dL_holds_612 : decode cL_holds 612 = .ok (.fcmp .l, 1) := by decide +kernel
theorem dL_holds_613 : decode cL_holds 613 = .ok (.ifCond .eq 21, 3) := by decide +kernel
theorem dL_holds_616 : decode cL_holds 616 = .ok (.aload_n 0, 1) := by decide +kernel
theorem dL_holds_617 : decode cL_holds 617 = .ok (.iconst (-1), 1) := by decide +kernel
theorem dL_holds_618 : decode cL_holds 618 = .ok (.invokevirtual 96, 3) := by decide +kernel
theorem dL_holds_621 : decode cL_holds 621 = .ok (.aload_n 0, 1) := by decide +kernel
theorem dL_holds_622 : decode cL_holds 622 = .ok (.iconst (-1), 1) := by decide +kernel
theorem dL_holds_623 : decode cL_holds 623 = .ok (.invokevirtual 96, 3) := by decide +kernel
theorem dL_holds_626 : decode cL_holds 626 = .ok (.fcmp .l, 1) := by decide +kernel
theorem dL_holds_627 : decode cL_holds 627 = .ok (.ifCond .eq 7, 3) := by decide +kernel
theorem dL_holds_630 : decode cL_holds 630 = .ok (.iconst 1, 1) := by decide +kernel
theorem dL_holds_631 : decode cL_holds 631 = .ok (.goto 4, 3) := by decide +kernel
theorem dL_holds_634 : decode cL_holds 634 = .ok (.iconst 0, 1) := by decide +kernel
theorem dL_holds_635 : decode cL_holds 635 = .ok (.ireturn, 1) := by decide +kernel
theorem dL_law_0 : decode cL_law 0 = .ok (.new 11, 3) := by decide +kernel
theorem dL_law_3 : decode cL_law 3 = .ok (.dup, 1) := by decide +kernel
theorem dL_law_4 : decode cL_law 4 = .ok (.invokespecial 99, 3) := by decide +kernel
theorem dL_law_7 : decode cL_law 7 = .ok (.astore_n 1, 1) := by decide +kernel
theorem dL_law_8 : decode cL_law 8 = .ok (.aload_n 1, 1) := by decide +kernel
theorem dL_law_9 : decode cL_law 9 = .ok (.invokevirtual 100, 3) := by decide +kernel
theorem dL_law_12 : decode cL_law 12 = .ok (.bipush (-5), 2) := by decide +kernel
theorem dL_law_14 : decode cL_law 14 = .ok (.if_icmp .ne 19, 3) := by decide +kernel
theorem dL_law_17 : decode cL_law 17 = .ok (.aload_n 1, 1) := by decide +kernel
theorem dL_law_18 : decode cL_law 18 = .ok (.invokevirtual 89, 3) := by decide +kernel
theorem dL_law_21 : decode cL_law 21 = .ok (.bipush (-5), 2) := by decide +kernel
theorem dL_law_23 : decode cL_law 23 = .ok (.if_icmp .ne 10, 3) := by decide +kernel
theorem dL_law_26 : decode cL_law 26 = .ok (.aload_n 1, 1) := by decide +kernel
theorem dL_law_27 : decode cL_law 27 = .ok (.invokevirtual 103, 3) := by decide +kernel
theorem dL_law_30 : decode cL_law 30 = .ok (.ifCond .eq 5, 3) := by decide +kernel
theorem dL_law_33 : decode cL_law 33 = .ok (.iconst 0, 1) := by decide +kernel
theorem dL_law_34 : decode cL_law 34 = .ok (.ireturn, 1) := by decide +kernel
theorem dL_law_35 : decode cL_law 35 = .ok (.aload_n 1, 1) := by decide +kernel
theorem dL_law_36 : decode cL_law 36 = .ok (.invokestatic 106, 3) := by decide +kernel
theorem dL_law_39 : decode cL_law 39 = .ok (.lstore_n 2, 1) := by decide +kernel
theorem dL_law_40 : decode cL_law 40 = .ok (.iconst 0, 1) := by decide +kernel
theorem dL_law_41 : decode cL_law 41 = .ok (.istore 4, 2) := by decide +kernel
theorem dL_law_43 : decode cL_law 43 = .ok (.iload 4, 2) := by decide +kernel
theorem dL_law_45 : decode cL_law 45 = .ok (.bipush 40, 2) := by decide +kernel
theorem dL_law_47 : decode cL_law 47 = .ok (.if_icmp .ge 234, 3) := by decide +kernel
theorem dL_law_50 : decode cL_law 50 = .ok (.aload_n 0, 1) := by decide +kernel
theorem dL_law_51 : decode cL_law 51 = .ok (.iconst 2, 1) := by decide +kernel
theorem dL_law_52 : decode cL_law 52 = .ok (.iload 4, 2) := by decide +kernel
theorem dL_law_54 : decode cL_law 54 = .ok (.imul, 1) := by decide +kernel
theorem dL_law_55 : decode cL_law 55 = .ok (.invokestatic 110, 3) := by decide +kernel
theorem dL_law_58 : decode cL_law 58 = .ok (.istore 5, 2) := by decide +kernel
theorem dL_law_60 : decode cL_law 60 = .ok (.aload_n 0, 1) := by decide +kernel
theorem dL_law_61 : decode cL_law 61 = .ok (.iconst 2, 1) := by decide +kernel
theorem dL_law_62 : decode cL_law 62 = .ok (.iload 4, 2) := by decide +kernel
theorem dL_law_64 : decode cL_law 64 = .ok (.imul, 1) := by decide +kernel
theorem dL_law_65 : decode cL_law 65 = .ok (.iconst 1, 1) := by decide +kernel
theorem dL_law_66 : decode cL_law 66 = .ok (.iadd, 1) := by decide +kernel
theorem dL_law_67 : decode cL_law 67 = .ok (.invokestatic 110, 3) := by decide +kernel
theorem dL_law_70 : decode cL_law 70 = .ok (.istore 6, 2) := by decide +kernel
theorem dL_law_72 : decode cL_law 72 = .ok (.aload_n 1, 1) := by decide +kernel
theorem dL_law_73 : decode cL_law 73 = .ok (.invokestatic 106, 3) := by decide +kernel
theorem dL_law_76 : decode cL_law 76 = .ok (.lstore 7, 2) := by decide +kernel
theorem dL_law_78 : decode cL_law 78 = .ok (.aload_n 1, 1) := by decide +kernel
theorem dL_law_79 : decode cL_law 79 = .ok (.bipush 12, 2) := by decide +kernel
theorem dL_law_81 : decode cL_law 81 = .ok (.invokevirtual 19, 3) := by decide +kernel
theorem dL_law_84 : decode cL_law 84 = .ok (.istore 9, 2) := by decide +kernel
theorem dL_law_86 : decode cL_law 86 = .ok (.aload_n 1, 1) := by decide +kernel
theorem dL_law_87 : decode cL_law 87 = .ok (.iload 5, 2) := by decide +kernel
theorem dL_law_89 : decode cL_law 89 = .ok (.iload 6, 2) := by decide +kernel
theorem dL_law_91 : decode cL_law 91 = .ok (.invokestatic 114, 3) := by decide +kernel
theorem dL_law_94 : decode cL_law 94 = .ok (.istore 10, 2) := by decide +kernel
theorem dL_law_96 : decode cL_law 96 = .ok (.aload_n 1, 1) := by decide +kernel
theorem dL_law_97 : decode cL_law 97 = .ok (.invokestatic 106, 3) := by decide +kernel
theorem dL_law_100 : decode cL_law 100 = .ok (.lstore 11, 2) := by decide +kernel
theorem dL_law_102 : decode cL_law 102 = .ok (.iload 10, 2) := by decide +kernel
theorem dL_law_104 : decode cL_law 104 = .ok (.ifCond .ge 25, 3) := by decide +kernel
theorem dL_law_107 : decode cL_law 107 = .ok (.lload 11, 2) := by decide +kernel
theorem dL_law_109 : decode cL_law 109 = .ok (.lload 7, 2) := by decide +kernel
theorem dL_law_111 : decode cL_law 111 = .ok (.lcmp, 1) := by decide +kernel
theorem dL_law_112 : decode cL_law 112 = .ok (.ifCond .ne 40, 3) := by decide +kernel
theorem dL_law_115 : decode cL_law 115 = .ok (.aload_n 1, 1) := by decide +kernel
theorem dL_law_116 : decode cL_law 116 = .ok (.bipush 12, 2) := by decide +kernel
theorem dL_law_118 : decode cL_law 118 = .ok (.invokevirtual 19, 3) := by decide +kernel
theorem dL_law_121 : decode cL_law 121 = .ok (.iload 9, 2) := by decide +kernel
theorem dL_law_123 : decode cL_law 123 = .ok (.if_icmp .eq 31, 3) := by decide +kernel
theorem dL_law_126 : decode cL_law 126 = .ok (.goto 26, 3) := by decide +kernel
theorem dL_law_129 : decode cL_law 129 = .ok (.aload_n 1, 1) := by decide +kernel
theorem dL_law_130 : decode cL_law 130 = .ok (.bipush 12, 2) := by decide +kernel
theorem dL_law_132 : decode cL_law 132 = .ok (.invokevirtual 19, 3) := by decide +kernel
theorem dL_law_135 : decode cL_law 135 = .ok (.iload 9, 2) := by decide +kernel
theorem dL_law_137 : decode cL_law 137 = .ok (.iconst 4, 1) := by decide +kernel
theorem dL_law_138 : decode cL_law 138 = .ok (.if_icmp .ge 10, 3) := by decide +kernel
theorem dL_law_141 : decode cL_law 141 = .ok (.iload 9, 2) := by decide +kernel
theorem dL_law_143 : decode cL_law 143 = .ok (.iconst 1, 1) := by decide +kernel
theorem dL_law_144 : decode cL_law 144 = .ok (.iadd, 1) := by decide +kernel
theorem dL_law_145 : decode cL_law 145 = .ok (.goto 4, 3) := by decide +kernel
theorem dL_law_148 : decode cL_law 148 = .ok (.iconst 4, 1) := by decide +kernel
theorem dL_law_149 : decode cL_law 149 = .ok (.if_icmp .eq 5, 3) := by decide +kernel
theorem dL_law_152 : decode cL_law 152 = .ok (.iconst 0, 1) := by decide +kernel
theorem dL_law_153 : decode cL_law 153 = .ok (.ireturn, 1) := by decide +kernel
theorem dL_law_154 : decode cL_law 154 = .ok (.iload 10, 2) := by decide +kernel
theorem dL_law_156 : decode cL_law 156 = .ok (.ifCond .lt 22, 3) := by decide +kernel
theorem dL_law_159 : decode cL_law 159 = .ok (.iload 5, 2) := by decide +kernel
theorem dL_law_161 : decode cL_law 161 = .ok (.bipush 15, 2) := by decide +kernel
theorem dL_law_163 : decode cL_law 163 = .ok (.iand, 1) := by decide +kernel
theorem dL_law_164 : decode cL_law 164 = .ok (.bipush 14, 2) := by decide +kernel
theorem dL_law_166 : decode cL_law 166 = .ok (.if_icmp .ne 12, 3) := by decide +kernel
theorem dL_law_169 : decode cL_law 169 = .ok (.lload 11, 2) := by decide +kernel
theorem dL_law_171 : decode cL_law 171 = .ok (.lload_n 2, 1) := by decide +kernel
theorem dL_law_172 : decode cL_law 172 = .ok (.lcmp, 1) := by decide +kernel
theorem dL_law_173 : decode cL_law 173 = .ok (.ifCond .eq 5, 3) := by decide +kernel
theorem dL_law_176 : decode cL_law 176 = .ok (.iconst 0, 1) := by decide +kernel
theorem dL_law_177 : decode cL_law 177 = .ok (.ireturn, 1) := by decide +kernel
theorem dL_law_178 : decode cL_law 178 = .ok (.iload 10, 2) := by decide +kernel
theorem dL_law_180 : decode cL_law 180 = .ok (.ifCond .lt 67, 3) := by decide +kernel
theorem dL_law_183 : decode cL_law 183 = .ok (.iload 5, 2) := by decide +kernel
theorem dL_law_185 : decode cL_law 185 = .ok (.bipush 10, 2) := by decide +kernel
theorem dL_law_187 : decode cL_law 187 = .ok (.ishr, 1) := by decide +kernel
theorem dL_law_188 : decode cL_law 188 = .ok (.iconst 1, 1) := by decide +kernel
theorem dL_law_189 : decode cL_law 189 = .ok (.iand, 1) := by decide +kernel
theorem dL_law_190 : decode cL_law 190 = .ok (.ifCond .ne 57, 3) := by decide +kernel
theorem dL_law_193 : decode cL_law 193 = .ok (.aload_n 1, 1) := by decide +kernel
theorem dL_law_194 : decode cL_law 194 = .ok (.bipush 12, 2) := by decide +kernel
theorem dL_law_196 : decode cL_law 196 = .ok (.invokevirtual 19, 3) := by decide +kernel
theorem dL_law_199 : decode cL_law 199 = .ok (.iconst 1, 1) := by decide +kernel
theorem dL_law_200 : decode cL_law 200 = .ok (.isub, 1) := by decide +kernel
theorem dL_law_201 : decode cL_law 201 = .ok (.istore 13, 2) := by decide +kernel
theorem dL_law_203 : decode cL_law 203 = .ok (.aload_n 1, 1) := by decide +kernel
theorem dL_law_204 : decode cL_law 204 = .ok (.invokevirtual 100, 3) := by decide +kernel
theorem dL_law_207 : decode cL_law 207 = .ok (.iload 13, 2) := by decide +kernel
theorem dL_law_209 : decode cL_law 209 = .ok (.if_icmp .ne 36, 3) := by decide +kernel
theorem dL_law_212 : decode cL_law 212 = .ok (.aload_n 1, 1) := by decide +kernel
theorem dL_law_213 : decode cL_law 213 = .ok (.invokestatic 106, 3) := by decide +kernel
theorem dL_law_216 : decode cL_law 216 = .ok (.lload 7, 2) := by decide +kernel
theorem dL_law_218 : decode cL_law 218 = .ok (.lcmp, 1) := by decide +kernel
theorem dL_law_219 : decode cL_law 219 = .ok (.ifCond .ne 26, 3) := by decide +kernel
theorem dL_law_222 : decode cL_law 222 = .ok (.aload_n 1, 1) := by decide +kernel
theorem dL_law_223 : decode cL_law 223 = .ok (.iload 5, 2) := by decide +kernel
theorem dL_law_225 : decode cL_law 225 = .ok (.iload 6, 2) := by decide +kernel
theorem dL_law_227 : decode cL_law 227 = .ok (.invokestatic 114, 3) := by decide +kernel
theorem dL_law_230 : decode cL_law 230 = .ok (.iload 10, 2) := by decide +kernel
theorem dL_law_232 : decode cL_law 232 = .ok (.if_icmp .ne 13, 3) := by decide +kernel
theorem dL_law_235 : decode cL_law 235 = .ok (.aload_n 1, 1) := by decide +kernel
theorem dL_law_236 : decode cL_law 236 = .ok (.invokestatic 106, 3) := by decide +kernel
theorem dL_law_239 : decode cL_law 239 = .ok (.lload 11, 2) := by decide +kernel
theorem dL_law_241 : decode cL_law 241 = .ok (.lcmp, 1) := by decide +kernel
theorem dL_law_242 : decode cL_law 242 = .ok (.ifCond .eq 5, 3) := by decide +kernel
theorem dL_law_245 : decode cL_law 245 = .ok (.iconst 0, 1) := by decide +kernel
theorem dL_law_246 : decode cL_law 246 = .ok (.ireturn, 1) := by decide +kernel
theorem dL_law_247 : decode cL_law 247 = .ok (.aload_n 1, 1) := by decide +kernel
theorem dL_law_248 : decode cL_law 248 = .ok (.invokestatic 118, 3) := by decide +kernel
theorem dL_law_251 : decode cL_law 251 = .ok (.ifCond .ne 5, 3) := by decide +kernel
theorem dL_law_254 : decode cL_law 254 = .ok (.iconst 0, 1) := by decide +kernel
theorem dL_law_255 : decode cL_law 255 = .ok (.ireturn, 1) := by decide +kernel
theorem dL_law_256 : decode cL_law 256 = .ok (.iload 5, 2) := by decide +kernel
theorem dL_law_258 : decode cL_law 258 = .ok (.bipush 11, 2) := by decide +kernel
theorem dL_law_260 : decode cL_law 260 = .ok (.ishr, 1) := by decide +kernel
theorem dL_law_261 : decode cL_law 261 = .ok (.bipush 7, 2) := by decide +kernel
theorem dL_law_263 : decode cL_law 263 = .ok (.iand, 1) := by decide +kernel
theorem dL_law_264 : decode cL_law 264 = .ok (.ifCond .ne 11, 3) := by decide +kernel
theorem dL_law_267 : decode cL_law 267 = .ok (.aload_n 1, 1) := by decide +kernel
theorem dL_law_268 : decode cL_law 268 = .ok (.invokevirtual 103, 3) := by decide +kernel
theorem dL_law_271 : decode cL_law 271 = .ok (.pop, 1) := by decide +kernel
theorem dL_law_272 : decode cL_law 272 = .ok (.lload 11, 2) := by decide +kernel
theorem dL_law_274 : decode cL_law 274 = .ok (.lstore_n 2, 1) := by decide +kernel
theorem dL_law_275 : decode cL_law 275 = .ok (.iinc 4 1, 3) := by decide +kernel
theorem dL_law_278 : decode cL_law 278 = .ok (.goto (-235), 3) := by decide +kernel
theorem dL_law_281 : decode cL_law 281 = .ok (.iconst 1, 1) := by decide +kernel
theorem dL_law_282 : decode cL_law 282 = .ok (.ireturn, 1) := by decide +kernel
end
section
/-! THE WORLD: the 243 objects that one TenancyDeposits makes lie one behind the other from G.1 on; object n's numbers are μ n. -/
abbrev zM : Type := Nat → Nat → Int32
abbrev zG : Type := Nat × va_G × ClassId × ClassId × ClassId
/-- the kind of a book's r-th object: 1 the book, 2 its tenancies, 3 its items (arrays), 4 a tenancy, 5 its settlement, 6 an item -/
def zkb (r : Nat) : Nat := if r = 0 then 1 else if r = 1 then 2 else if r = 2 then 3 else if r < 15 then (if r % 2 = 1 then 4 else 5) else 6
/-- the kind of object n: 0 the TenancyDeposits, 7 the history, 8 its array; 9: not held -/
def zk (n : Nat) : Nat := if n = 0 then 0 else if n < 79 then zkb ((n - 1) % 39) else if n = 79 then 7 else if n = 80 then 8 else if n < 237 then zkb ((n - 81) % 39) else if n = 242 then 5 else 9
/-- the books' places -/
def zB (B : Nat) : Prop := B = 1 ∨ B = 40 ∨ B = 81 ∨ B = 120 ∨ B = 159 ∨ B = 198
theorem zk_book {B : Nat} (h : zB B) : zk B = 1 := by rcases h with h | h | h | h | h | h <;> subst h <;> decide
theorem zk_ta {B : Nat} (h : zB B) : zk (B + 1) = 2 := by rcases h with h | h | h | h | h | h <;> subst h <;> decide
theorem zk_ia {B : Nat} (h : zB B) : zk (B + 2) = 3 := by rcases h with h | h | h | h | h | h <;> subst h <;> decide
theorem zk_ten {B i : Nat} (h : zB B) (hi : i < 6) : zk (B + (3 + 2 * i)) = 4 := by
  have k : ∀ i, i < 6 → zk (1 + (3 + 2 * i)) = 4 ∧ zk (40 + (3 + 2 * i)) = 4 ∧ zk (81 + (3 + 2 * i)) = 4 ∧ zk (120 + (3 + 2 * i)) = 4 ∧ zk (159 + (3 + 2 * i)) = 4 ∧ zk (198 + (3 + 2 * i)) = 4 := by decide
  obtain ⟨k1, k2, k3, k4, k5, k6⟩ := k i hi
  rcases h with h | h | h | h | h | h <;> subst h <;> assumption
theorem zk_set {B i : Nat} (h : zB B) (hi : i < 6) : zk (B + (4 + 2 * i)) = 5 := by
  have k : ∀ i, i < 6 → zk (1 + (4 + 2 * i)) = 5 ∧ zk (40 + (4 + 2 * i)) = 5 ∧ zk (81 + (4 + 2 * i)) = 5 ∧ zk (120 + (4 + 2 * i)) = 5 ∧ zk (159 + (4 + 2 * i)) = 5 ∧ zk (198 + (4 + 2 * i)) = 5 := by decide
  obtain ⟨k1, k2, k3, k4, k5, k6⟩ := k i hi
  rcases h with h | h | h | h | h | h <;> subst h <;> assumption
theorem zk_item {B i : Nat} (h : zB B) (hi : i < 24) : zk (B + (15 + i)) = 6 := by
  have k : ∀ i, i < 24 → zk (1 + (15 + i)) = 6 ∧ zk (40 + (15 + i)) = 6 ∧ zk (81 + (15 + i)) = 6 ∧ zk (120 + (15 + i)) = 6 ∧ zk (159 + (15 + i)) = 6 ∧ zk (198 + (15 + i)) = 6 := by decide
  obtain ⟨k1, k2, k3, k4, k5, k6⟩ := k i hi
  rcases h with h | h | h | h | h | h <;> subst h <;> assumption
abbrev zRows (n : Nat) (f : Nat → Option Nat) : vp_A := (n, .inr (.inr (.inr (.inr f))))
abbrev zF0 (G : zG) (f : Nat → Int32) : List Value := [.ref (G.1 + 1), .ref (G.1 + 40), .ref (G.1 + 79), .ref (G.1 + 237), .ref (G.1 + 242), .int (f 5)]
abbrev zF1 (G : zG) (n : Nat) (f : Nat → Int32) : List Value := [.int (f 0), .int (f 1), .float (f 2).toUInt32, .int (f 3), .int (f 4), .ref (G.1 + (n + 1)), .ref (G.1 + (n + 2))]
abbrev zF4 (G : zG) (n : Nat) (f : Nat → Int32) : List Value := [.int (f 0), .int (f 1), .int (f 2), .int (f 3), .int (f 4), .int (f 5), .ref (G.1 + (n + 1))]
abbrev zF5 (f : Nat → Int32) : List Value := [.int (f 0), .int (f 1), .int (f 2), .int (f 3), .int (f 4), .int (f 5)]
abbrev zF6 (f : Nat → Int32) : List Value := [.int (f 0), .int (f 1), .int (f 2), .int (f 3), .int (f 4), .int (f 5), .int (f 6), .int (f 7), .int (f 8), .int (f 9), .int (f 10)]
abbrev zF7 (G : zG) (f : Nat → Int32) : List Value := [.ref (G.1 + 80), .int (f 1), .int (f 2)]
/-- what a cell of kind k holds -/
def zE (G : zG) (k n : Nat) (f : Nat → Int32) : va_E := match k with
  | 0 => .inr (6, zF0 G f)
  | 1 => .inr (1, zF1 G n f)
  | 2 => .inl (G.2.2.1, zRows 6 (fun i => some (G.1 + (n + 2 + 2 * i))))
  | 3 => .inl (G.2.2.2.1, zRows 24 (fun i => some (G.1 + (n + 13 + i))))
  | 4 => .inr (5, zF4 G n f)
  | 5 => .inr (4, zF5 f)
  | 6 => .inr (3, zF6 f)
  | 7 => .inr (2, zF7 G f)
  | _ => .inl (G.2.2.2.2, zRows 4 (fun i => some (G.1 + (81 + 39 * i))))
def zW (G : zG) (μ : zM) (H : Heap) : Prop := ∀ n, zk n < 9 → va_at G.2.1 vwCl (G.1 + n, zE G (zk n) n (μ n)) H
abbrev zT (G : zG) : List (ClassId × FieldType) := [(G.2.2.1, .object "TenancyDeposits$Tenancy"), (G.2.2.2.1, .object "TenancyDeposits$Item"), (G.2.2.2.2, .object "TenancyDeposits$Book")]
abbrev zKU (G : zG) (U : State) : Prop := va_K G.2.1 vwCl (zT G) U
def zA (G : zG) : Nat → Prop := fun q => G.1 ≤ q
def zU (G : zG) (μ : zM) (U : State) : Prop := zW G μ U.heap ∧ zKU G U
/-- number x in place k of object n -/
def zu (f : Nat → Int32) (k : Nat) (x : Int32) : Nat → Int32 := fun i => if i = k then x else f i
def zs (μ : zM) (n k : Nat) (x : Int32) : zM := fun j => if j = n then zu (μ j) k x else μ j
theorem zs_same (μ : zM) (n k : Nat) (x : Int32) : zs μ n k x n = zu (μ n) k x := by unfold zs; rw [if_pos rfl]
theorem zs_other (μ : zM) {n j : Nat} (k : Nat) (x : Int32) (h : j ≠ n) : zs μ n k x j = μ j := by unfold zs; rw [if_neg h]
theorem zW.one {G : zG} {μ : zM} {H : Heap} (h : zW G μ H) {n k : Nat} (hn : zk n = k) (hk : k < 9) : va_P G.2.1 vwCl [(G.1 + n, zE G k n (μ n))] H := by
  subst hn
  intro i q hq
  match i, hq with
  | 0, hq => cases hq; exact h n hk
  | i + 1, hq => simp at hq
theorem pfd_I : parseFieldDescriptor "I" = some .int := by decide +kernel
theorem pfd_F : parseFieldDescriptor "F" = some .float := by decide +kernel
theorem pfd_Z : parseFieldDescriptor "Z" = some .boolean := by decide +kernel
section ZR
variable {p : Program} {l : Launch} {e : Env} {R : Room} {s : State} {m : MethodId} {args : Array Value} {below : List Frame} {meth : Method} {c : Code} {H : Heap} {locs : List Loc} {cells slots : Nat} {Q : State → Prop}
variable {cc : ByteArray} {pc : Nat} {ls : Array Slot} {rest : List Value} {G : zG} {μ : zM} {H0 : Heap}
theorem zU.calling {U : State} {g : JFrame} {mk : MethodId} {a : Array Value} (h : zU G μ U) : zU G μ (U.calling g mk a) := ⟨h.1, va_K.moved (u := U) (U := U.calling g mk a) (Vm.Alike.refl U.vm) h.2⟩
theorem z_get (hexec : p.tables.exec = Jvm.exec) (hb : c.code = cc) {own C : String} {T : u_T} {N ci index : Nat} (hts : ∀ w ∈ zall, w.before args s = true) (hin : ∀ w ∈ u_ws C T N, w ∈ zall) (hown : s.vm.findClass own = some m.cls) (hK : zKU G s) (hZ : zW G μ H) {n kd : Nat} (hn : zk n = kd) (hk9 : kd < 9) {fs : List Value} (he : zE G kd n (μ n) = .inr (ci, fs)) (hc : vwCl[ci]? = some (C, T, N)) (k : Nat) (hk : k < N) (hlink : Cond.fieldLink own index (T k).1 (T k).2.1 (T k).2.2.1 ∈ zall) {v : Value} (hv : fs[k]? = some v) (hdg : decode cc pc = .ok (.getfield index, 3))
    (kk : W p l e R s m args below meth c H locs cells slots Q (F0 m (pc + 3) ls (v :: rest))) : W p l e R s m args below meth c H locs cells slots Q (F0 m pc ls (.ref (G.1 + n) :: rest)) := by
  have h1 := hZ.one hn hk9
  rw [he] at h1
  exact va_get (ref := (T k).1) hexec hb hts hin hown hK h1 0 rfl hc k hk (hts _ hlink) (fun _ h => h) hv hdg kk
theorem z_put (hexec : p.tables.exec = Jvm.exec) (hb : c.code = cc) {own C : String} {T : u_T} {N ci index : Nat} (hts : ∀ w ∈ zall, w.before args s = true) (hin : ∀ w ∈ u_ws C T N, w ∈ zall) (ty0 : Nat → FieldType) (hty : ∀ k, k < N → parseFieldDescriptor (T k).2.2.1 = some (ty0 k)) (hnm : ∀ a, a < N → ∀ b, b < N → a ≠ b → (T a).2.1 ≠ (T b).2.1) (hown : s.vm.findClass own = some m.cls) (hK : zKU G s) (hZ : zW G μ H) {n kd : Nat} (hn : zk n = kd) (hk9 : kd < 9) {fs : List Value} (he : zE G kd n (μ n) = .inr (ci, fs)) (hc : vwCl[ci]? = some (C, T, N)) (k : Nat) (hk : k < N) (hlink : Cond.fieldLink own index (T k).1 (T k).2.1 (T k).2.2.1 ∈ zall) (hfin : (T k).2.2.2 = false) {ty : FieldType} {v : Value} (hd : parseFieldDescriptor (T k).2.2.1 = some ty) (hnar : narrow ty v = v) (hfit : fits ty v = true) (hl : k < fs.length)
    {μ1 : zM} (he1 : zE G kd n (μ1 n) = .inr (ci, fs.set k v)) (ho : ∀ j, j ≠ n → μ1 j = μ j) (hS : va_S (zA G) H0 H locs) (hdg : decode cc pc = .ok (.putfield index, 3))
    (kk : ∀ (H1 : Heap) (locs1 : List Loc), zW G μ1 H1 → va_S (zA G) H0 H1 locs1 → W p l e R s m args below meth c H1 locs1 cells slots Q (F0 m (pc + 3) ls rest)) : W p l e R s m args below meth c H locs cells slots Q (F0 m pc ls (v :: .ref (G.1 + n) :: rest)) := by
  have hap := va_apart (own := own) hts hin ty0 hty hnm hK hc
  have hat := hZ n (by rw [hn]; exact hk9)
  rw [hn, he] at hat
  obtain ⟨r, h1, cell, q1, q2, q3, q4⟩ := hat
  have hr : r = (C, T, N) := Option.some.inj (h1.symm.trans hc)
  subst hr
  obtain ⟨hSl, hfc, kC, hkC, hkind⟩ := hK.1 ci _ hc
  obtain ⟨cf, kf, fi, f, hi, hsl⟩ := hSl k hk
  have hlay := hts _ (hin _ (u_in_lay hk))
  unfold u_lay at hlay
  rw [if_neg (by rw [hfin]; decide)] at hlay
  have hst := (u_facts hfc hkC (u_lays hts hin hk) hi).1
  have h6 := u_store hfc hkC hkind hlay hi hd hnar hfit
  refine W.putK hexec hb (f := f) ⟨hown, hts _ hlink, ⟨_, _, _, hi⟩, hst⟩ (by rw [q2]; exact h6) q1 q3 (by rw [hsl]; exact k2_hasslot (q4 k hk)) rfl rfl hdg fun H1 e1 e2 e3 => ?_
  rw [hsl] at e1 ⊢
  refine kk H1 _ (fun j hj => ?_) (hS.put e2 e3 (show zA G (G.1 + n) from Nat.le_add_right _ _))
  by_cases hjn : j = n
  · subst hjn
    rw [hn, he1]
    exact ⟨_, hc, t_OB.to (V := updV (vp_V fs) k v) ⟨_, e1, q2, q3, t_set q4 hap hk v⟩ (fun j _ => vp_updV_set hl v j)⟩
  · rw [ho j hjn]
    exact (hZ j hj).kept (e3 _ (by show G.1 + j ≠ G.1 + n; omega))
theorem z_recv (hK : zKU G s) (hZ : zW G μ H) {n kd ci N : Nat} {C : String} {T : u_T} (hn : zk n = kd) (hk9 : kd < 9) {fs : List Value} (he : zE G kd n (μ n) = .inr (ci, fs)) (hc : vwCl[ci]? = some (C, T, N)) : ∃ cellB : Cell, H[G.1 + n]? = some cellB ∧ cellB.vm.isStatics = false ∧ s.vm.findClass C = some cellB.cls := by
  have h1 := hZ.one hn hk9
  rw [he] at h1
  exact va_recv hK h1 hc (q0 := 0) rfl
/-- a contract: start world μ, answer r0, end world μ1 -/
abbrev zQi (G : zG) (r0 : Int32) (μ1 : zM) : Array Value → State → Outcome → State → Prop := va_Qi (fun (r : Int32) (u : zM) => r = r0 ∧ u = μ1) (fun u t => zU G u t) (zA G)
abbrev zQl (G : zG) (r0 : Int64) (μ1 : zM) : Array Value → State → Outcome → State → Prop := va_Ql (fun (r : Int64) (u : zM) => r = r0 ∧ u = μ1) (fun u t => zU G u t) (zA G)
abbrev zQf (G : zG) (r0 : UInt32) (μ1 : zM) : Array Value → State → Outcome → State → Prop := va_Qf (fun (r : UInt32) (u : zM) => r = r0 ∧ u = μ1) (fun u t => zU G u t) (zA G)
abbrev zQv (G : zG) (μ1 : zM) : Array Value → State → Outcome → State → Prop := va_Qv (fun (u : zM) => u = μ1) (fun u t => zU G u t) (zA G)
abbrev zQq (G : zG) (r0 : Option Nat) (μ1 : zM) : Array Value → State → Outcome → State → Prop := va_Qq (fun (r : Option Nat) (u : zM) => r = r0 ∧ u = μ1) (fun u t => zU G u t) (zA G)
abbrev zMet (l : Launch) (G : zG) (y : MethodName) (cm : ByteArray) (nm : Nat) (ret : Option FieldType) (fr lo : Nat) (av : List Value) (μ : zM) (Qc : Array Value → State → Outcome → State → Prop) : Prop := Met l y (ws_ y cm nm ret) { frames := fr, cells := 0, slots := 0, locals := lo } (va_Pc av (zU G μ)) Qc 0 0 (zA G)
theorem z_start {y : MethodName} {cm : ByteArray} {nm fr lo : Nat} {ret : Option FieldType} {av : List Value} {Qc : Array Value → State → Outcome → State → Prop} {lv : List (Nat × Value)} (hy : plainName y.cls = true) (hlen : (lg_sl av).length ≤ nm) (hlv : lv_args 0 av = lv)
    (body : ∀ (p : Program) (e : Env) (s : State) (m : MethodId) (args : Array Value) (below : List Frame) (meth : Method) (c : Code) (ls : Array Slot), p.tables.exec = Jvm.exec → c.code = cm → c.maxLocals = nm → meth.sig.returnType = ret → meth.locks = false → (∀ w ∈ zall, w.before args s = true) → s.vm.findClass y.cls = some m.cls → zKU G s → zW G μ s.heap → va_S (zA G) s.heap s.heap [] → lv_has ls nm lv →
      W p l e { frames := fr, cells := 0, slots := 0, locals := lo } s m args below meth c s.heap [] 0 0 (MQ below Qc args s 0 0 (zA G)) (F0 m 0 ls [])) : zMet l G y cm nm ret fr lo av μ Qc := by
  refine Met.ofW (cc := cm) (maxL := nm) (ret := ret) hy rfl ?_
  intro p e s m args below meth c s₁ B hml hv
  obtain ⟨rfl, hZ, hK⟩ := hv
  have hts : ∀ w ∈ zall, w.before av.toArray s = true := fun w h => atoms_spec (ws := ws_ y cm nm ret) B.pre w (List.mem_cons_of_mem _ h)
  have hl := lv_entry av (n := nm) hlen
  rw [lg_entry_eq]
  rw [hlv] at hl
  exact body p e s m _ below meth c _ B.exec B.bytes hml B.returns B.notSynchronized hts (findClass_of_methodNamed B.named) hK hZ va_S.rf hl
theorem z_iret {r r0 : Int32} {μ1 : zM} (hexec : p.tables.exec = Jvm.exec) (hb : c.code = cc) (hr : meth.sig.returnType = some .int) (hlocks : meth.locks = false) (hK : zKU G s) (hZ : zW G μ H) (hS : va_S (zA G) s.heap H locs) (h : r = r0 ∧ μ = μ1) (hdg : decode cc pc = .ok (.ireturn, 1)) : W p l e R s m args below meth c H locs 0 0 (MQ below (zQi G r0 μ1) args s 0 0 (zA G)) (F0 m pc ls [.int r]) :=
  W.iret (v := r) hexec hb hr (fun t ht hW => ⟨⟨r, μ, rfl, h, by rw [ht]; exact hZ, va_K.moved hW.alike hK⟩, hS.F ht⟩) hS.2.2 hdg hlocks
theorem z_zret {r r0 : Int32} {μ1 : zM} (hexec : p.tables.exec = Jvm.exec) (hb : c.code = cc) (hr : meth.sig.returnType = some .boolean) (hlocks : meth.locks = false) (hn : narrow .boolean (.int r) = .int r) (hK : zKU G s) (hZ : zW G μ H) (hS : va_S (zA G) s.heap H locs) (h : r = r0 ∧ μ = μ1) (hdg : decode cc pc = .ok (.ireturn, 1)) : W p l e R s m args below meth c H locs 0 0 (MQ below (zQi G r0 μ1) args s 0 0 (zA G)) (F0 m pc ls [.int r]) :=
  W.zret (v := r) hexec hb hr hn (fun t ht hW => ⟨⟨r, μ, rfl, h, by rw [ht]; exact hZ, va_K.moved hW.alike hK⟩, hS.F ht⟩) hS.2.2 hdg hlocks
theorem z_lret {r r0 : Int64} {μ1 : zM} (hexec : p.tables.exec = Jvm.exec) (hb : c.code = cc) (hr : meth.sig.returnType = some .long) (hlocks : meth.locks = false) (hK : zKU G s) (hZ : zW G μ H) (hS : va_S (zA G) s.heap H locs) (h : r = r0 ∧ μ = μ1) (hdg : decode cc pc = .ok (.lreturn, 1)) : W p l e R s m args below meth c H locs 0 0 (MQ below (zQl G r0 μ1) args s 0 0 (zA G)) (F0 m pc ls [.long r]) :=
  W.lret (v := r) hexec hb hr (fun t ht hW => ⟨⟨r, μ, rfl, h, by rw [ht]; exact hZ, va_K.moved hW.alike hK⟩, hS.F ht⟩) hS.2.2 hdg hlocks
theorem z_fret {r r0 : UInt32} {μ1 : zM} (hexec : p.tables.exec = Jvm.exec) (hb : c.code = cc) (hr : meth.sig.returnType = some .float) (hlocks : meth.locks = false) (hK : zKU G s) (hZ : zW G μ H) (hS : va_S (zA G) s.heap H locs) (h : r = r0 ∧ μ = μ1) (hdg : decode cc pc = .ok (.freturn, 1)) : W p l e R s m args below meth c H locs 0 0 (MQ below (zQf G r0 μ1) args s 0 0 (zA G)) (F0 m pc ls [.float r]) :=
  W.fret (v := r) hexec hb hr (fun t ht hW => ⟨⟨r, μ, rfl, h, by rw [ht]; exact hZ, va_K.moved hW.alike hK⟩, hS.F ht⟩) hS.2.2 hdg hlocks
theorem z_vret {μ1 : zM} (hexec : p.tables.exec = Jvm.exec) (hb : c.code = cc) (hr : meth.sig.returnType = none) (hlocks : meth.locks = false) (hK : zKU G s) (hZ : zW G μ H) (hS : va_S (zA G) s.heap H locs) (h : μ = μ1) (hdg : decode cc pc = .ok (.return_, 1)) : W p l e R s m args below meth c H locs 0 0 (MQ below (zQv G μ1) args s 0 0 (zA G)) (F0 m pc ls []) :=
  W.vret hexec hb hr (fun t ht hW => ⟨⟨μ, rfl, h, by rw [ht]; exact hZ, va_K.moved hW.alike hK⟩, hS.F ht⟩) hS.2.2 hdg hlocks
theorem z_aret {r r0 : Option Nat} {μ1 : zM} {rt : FieldType} (hexec : p.tables.exec = Jvm.exec) (hb : c.code = cc) (hr : meth.sig.returnType = some rt) (hrt : (∃ n, rt = .object n) ∨ ∃ t, rt = .array t) (hlocks : meth.locks = false) (hK : zKU G s) (hZ : zW G μ H) (hS : va_S (zA G) s.heap H locs) (h : r = r0 ∧ μ = μ1) {v : Value} (hv : va_rf r = v) (hdg : decode cc pc = .ok (.areturn, 1)) : W p l e R s m args below meth c H locs 0 0 (MQ below (zQq G r0 μ1) args s 0 0 (zA G)) (F0 m pc ls [v]) := by
  subst hv
  exact W.aret (v := va_rf r) hexec hb hr hrt (va_rf_or r) (fun t ht hW => ⟨⟨r, μ, rfl, h, by rw [ht]; exact hZ, va_K.moved hW.alike hK⟩, hS.F ht⟩) hS.2.2 hdg hlocks
end ZR
end
section
def zr (μ : zM) (n : Nat) (f : Nat → Int32) : zM := fun j => if j = n then f else μ j
theorem zr_same {μ : zM} {n : Nat} {f : Nat → Int32} : zr μ n f n = f := by unfold zr; rw [if_pos rfl]
theorem zr_ne {μ : zM} {n j : Nat} {f : Nat → Int32} (h : j ≠ n) : zr μ n f j = μ j := by unfold zr; rw [if_neg h]
theorem zr_at {μ : zM} {n j : Nat} {f g : Nat → Int32} (h : μ j = g) (hne : j ≠ n) : zr μ n f j = g := (zr_ne hne).trans h
theorem zr_zr {μ : zM} {n : Nat} {f g : Nat → Int32} : zr (zr μ n f) n g = zr μ n g := by
  funext j
  by_cases h : j = n
  · subst h; rw [zr_same, zr_same]
  · rw [zr_ne h, zr_ne h, zr_ne h]
theorem zr_id {μ : zM} {n : Nat} {f : Nat → Int32} (h : μ n = f) : zr μ n f = μ := by
  funext j
  by_cases hj : j = n
  · subst hj; rw [zr_same]; exact h.symm
  · exact zr_ne hj
section ZC
variable {p : Program} {l : Launch} {e : Env} {R : Room} {s : State} {m : MethodId} {args : Array Value} {below : List Frame} {meth : Method} {c : Code} {H : Heap} {locs : List Loc} {cells slots : Nat} {Q : State → Prop}
variable {cc : ByteArray} {pc : Nat} {ls : Array Slot} {rest : List Value} {G : zG} {μ : zM} {H0 : Heap}
theorem z_cVi {own C : String} {T : u_T} {N ci kd n idx nL nA nm fr lo : Nat} {y : MethodName} {cm : ByteArray} {ret : Option FieldType} {As : List Value} {st0 : List Value} {r0 : Int32} {μ1 : zM} {lv : List (Nat × Value)}
    (hx : p.tables.exec = Jvm.exec) (hb : c.code = cc) (hml : c.maxLocals = nL) (hown : s.vm.findClass own = some m.cls) (hts : ∀ w ∈ zall, w.before args s = true) (hl : lv_has ls nL lv) (hK : zKU G s) (hZ : zW G μ H) (hS : va_S (zA G) H0 H locs)
    (hM : zMet l G y cm nm ret fr lo (.ref (G.1 + n) :: As) μ (zQi G r0 μ1)) (hG : GoodIn zall (wsV own idx C y (ws_ y cm nm ret)))
    (hd : y.cls = C ∧ y.cls ≠ "java/lang/invoke/MethodHandle" ∧ y.cls ≠ "java/lang/invoke/VarHandle" ∧ (parseMethodDescriptor y.desc).map (fun d => d.parameters.length) = some nA) (hR : fr + 1 ≤ R.frames ∧ 8 + (nm + 11) + lo ≤ R.locals)
    (hn : zk n = kd) (hk9 : kd < 9) {fs : List Value} (he : zE G kd n (μ n) = .inr (ci, fs)) (hc : vwCl[ci]? = some (C, T, N)) (hA : As.length = nA) (hst : st0 = As.reverse ++ .ref (G.1 + n) :: rest) (hW : (rest.map fun v => v.category).sum ≤ 8) (hdg : decode cc pc = .ok (.invokevirtual idx, 3)) (hcs : cells ≤ R.cells ∧ slots ≤ R.slots)
    (kk : ∀ (H1 : Heap) (locs1 : List Loc), zW G μ1 H1 → va_S (zA G) H0 H1 locs1 → W p l e R s m args below meth c H1 locs1 cells slots Q (F0 m (pc + 3) ls (.int r0 :: rest))) : W p l e R s m args below meth c H locs cells slots Q (F0 m pc ls st0) := by
  refine va_calli (va_runV (As := As) (rest := rest) ⟨hx, hb, hml, hown, hts⟩ hM (cwV nA hts hG rfl rfl rfl hd hR) ⟨fun a U g mk q => ⟨q.1, q.2.calling⟩, z_recv hK hZ hn hk9 he hc, fun U hU hW => ⟨rfl, by rw [hU]; exact hZ, va_K.moved hW.alike hK⟩⟩ rfl hA hl.1 hst (lv_room hW) hdg hcs) hS (fun q _ h => h) (fun q h => h) (fun r u t H1 locs1 ht hvm hw hB hz1 hk1 hS1 => ?_)
  obtain ⟨rfl, rfl⟩ := hw
  exact kk H1 locs1 (by rw [← ht]; exact hB.1) hS1
theorem z_cSi {own : String} {idx nL nA nm fr lo : Nat} {y : MethodName} {cm : ByteArray} {ret : Option FieldType} {As : List Value} {st0 : List Value} {r0 : Int32} {μ1 : zM} {lv : List (Nat × Value)}
    (hx : p.tables.exec = Jvm.exec) (hb : c.code = cc) (hml : c.maxLocals = nL) (hown : s.vm.findClass own = some m.cls) (hts : ∀ w ∈ zall, w.before args s = true) (hl : lv_has ls nL lv) (hK : zKU G s) (hZ : zW G μ H) (hS : va_S (zA G) H0 H locs)
    (hM : zMet l G y cm nm ret fr lo As μ (zQi G r0 μ1)) (hG : GoodIn zall (wsS own idx y (ws_ y cm nm ret)))
    (hd : y.cls = own ∧ y.cls ≠ "java/lang/invoke/MethodHandle" ∧ y.cls ≠ "java/lang/invoke/VarHandle" ∧ (parseMethodDescriptor y.desc).map (fun d => d.parameters.length) = some nA) (hR : fr + 1 ≤ R.frames ∧ 8 + (nm + 11) + lo ≤ R.locals)
    (hA : As.length = nA) (hst : st0 = As.reverse ++ rest) (hW : (rest.map fun v => v.category).sum ≤ 8) (hdg : decode cc pc = .ok (.invokestatic idx, 3)) (hcs : cells ≤ R.cells ∧ slots ≤ R.slots)
    (kk : ∀ (H1 : Heap) (locs1 : List Loc), zW G μ1 H1 → va_S (zA G) H0 H1 locs1 → W p l e R s m args below meth c H1 locs1 cells slots Q (F0 m (pc + 3) ls (.int r0 :: rest))) : W p l e R s m args below meth c H locs cells slots Q (F0 m pc ls st0) := by
  refine va_calli (va_runS (As := As) (rest := rest) ⟨hx, hb, hml, hown, hts⟩ hM (cwS nA hts hG rfl rfl rfl hd hR) ⟨fun a U g mk q => ⟨q.1, q.2.calling⟩, fun U hU hW => ⟨rfl, by rw [hU]; exact hZ, va_K.moved hW.alike hK⟩⟩ rfl hA hl.1 hst (lv_room hW) hdg hcs) hS (fun q _ h => h) (fun q h => h) (fun r u t H1 locs1 ht hvm hw hB hz1 hk1 hS1 => ?_)
  obtain ⟨rfl, rfl⟩ := hw
  exact kk H1 locs1 (by rw [← ht]; exact hB.1) hS1
theorem z_cVl {own C : String} {T : u_T} {N ci kd n idx nL nA nm fr lo : Nat} {y : MethodName} {cm : ByteArray} {ret : Option FieldType} {As : List Value} {st0 : List Value} {r0 : Int64} {μ1 : zM} {lv : List (Nat × Value)}
    (hx : p.tables.exec = Jvm.exec) (hb : c.code = cc) (hml : c.maxLocals = nL) (hown : s.vm.findClass own = some m.cls) (hts : ∀ w ∈ zall, w.before args s = true) (hl : lv_has ls nL lv) (hK : zKU G s) (hZ : zW G μ H) (hS : va_S (zA G) H0 H locs)
    (hM : zMet l G y cm nm ret fr lo (.ref (G.1 + n) :: As) μ (zQl G r0 μ1)) (hG : GoodIn zall (wsV own idx C y (ws_ y cm nm ret)))
    (hd : y.cls = C ∧ y.cls ≠ "java/lang/invoke/MethodHandle" ∧ y.cls ≠ "java/lang/invoke/VarHandle" ∧ (parseMethodDescriptor y.desc).map (fun d => d.parameters.length) = some nA) (hR : fr + 1 ≤ R.frames ∧ 8 + (nm + 11) + lo ≤ R.locals)
    (hn : zk n = kd) (hk9 : kd < 9) {fs : List Value} (he : zE G kd n (μ n) = .inr (ci, fs)) (hc : vwCl[ci]? = some (C, T, N)) (hA : As.length = nA) (hst : st0 = As.reverse ++ .ref (G.1 + n) :: rest) (hW : (rest.map fun v => v.category).sum ≤ 8) (hdg : decode cc pc = .ok (.invokevirtual idx, 3)) (hcs : cells ≤ R.cells ∧ slots ≤ R.slots)
    (kk : ∀ (H1 : Heap) (locs1 : List Loc), zW G μ1 H1 → va_S (zA G) H0 H1 locs1 → W p l e R s m args below meth c H1 locs1 cells slots Q (F0 m (pc + 3) ls (.long r0 :: rest))) : W p l e R s m args below meth c H locs cells slots Q (F0 m pc ls st0) := by
  refine va_calll (va_runV (As := As) (rest := rest) ⟨hx, hb, hml, hown, hts⟩ hM (cwV nA hts hG rfl rfl rfl hd hR) ⟨fun a U g mk q => ⟨q.1, q.2.calling⟩, z_recv hK hZ hn hk9 he hc, fun U hU hW => ⟨rfl, by rw [hU]; exact hZ, va_K.moved hW.alike hK⟩⟩ rfl hA hl.1 hst (lv_room hW) hdg hcs) hS (fun q _ h => h) (fun q h => h) (fun r u t H1 locs1 ht hvm hw hB hz1 hk1 hS1 => ?_)
  obtain ⟨rfl, rfl⟩ := hw
  exact kk H1 locs1 (by rw [← ht]; exact hB.1) hS1
theorem z_cSl {own : String} {idx nL nA nm fr lo : Nat} {y : MethodName} {cm : ByteArray} {ret : Option FieldType} {As : List Value} {st0 : List Value} {r0 : Int64} {μ1 : zM} {lv : List (Nat × Value)}
    (hx : p.tables.exec = Jvm.exec) (hb : c.code = cc) (hml : c.maxLocals = nL) (hown : s.vm.findClass own = some m.cls) (hts : ∀ w ∈ zall, w.before args s = true) (hl : lv_has ls nL lv) (hK : zKU G s) (hZ : zW G μ H) (hS : va_S (zA G) H0 H locs)
    (hM : zMet l G y cm nm ret fr lo As μ (zQl G r0 μ1)) (hG : GoodIn zall (wsS own idx y (ws_ y cm nm ret)))
    (hd : y.cls = own ∧ y.cls ≠ "java/lang/invoke/MethodHandle" ∧ y.cls ≠ "java/lang/invoke/VarHandle" ∧ (parseMethodDescriptor y.desc).map (fun d => d.parameters.length) = some nA) (hR : fr + 1 ≤ R.frames ∧ 8 + (nm + 11) + lo ≤ R.locals)
    (hA : As.length = nA) (hst : st0 = As.reverse ++ rest) (hW : (rest.map fun v => v.category).sum ≤ 8) (hdg : decode cc pc = .ok (.invokestatic idx, 3)) (hcs : cells ≤ R.cells ∧ slots ≤ R.slots)
    (kk : ∀ (H1 : Heap) (locs1 : List Loc), zW G μ1 H1 → va_S (zA G) H0 H1 locs1 → W p l e R s m args below meth c H1 locs1 cells slots Q (F0 m (pc + 3) ls (.long r0 :: rest))) : W p l e R s m args below meth c H locs cells slots Q (F0 m pc ls st0) := by
  refine va_calll (va_runS (As := As) (rest := rest) ⟨hx, hb, hml, hown, hts⟩ hM (cwS nA hts hG rfl rfl rfl hd hR) ⟨fun a U g mk q => ⟨q.1, q.2.calling⟩, fun U hU hW => ⟨rfl, by rw [hU]; exact hZ, va_K.moved hW.alike hK⟩⟩ rfl hA hl.1 hst (lv_room hW) hdg hcs) hS (fun q _ h => h) (fun q h => h) (fun r u t H1 locs1 ht hvm hw hB hz1 hk1 hS1 => ?_)
  obtain ⟨rfl, rfl⟩ := hw
  exact kk H1 locs1 (by rw [← ht]; exact hB.1) hS1
theorem z_cVf {own C : String} {T : u_T} {N ci kd n idx nL nA nm fr lo : Nat} {y : MethodName} {cm : ByteArray} {ret : Option FieldType} {As : List Value} {st0 : List Value} {r0 : UInt32} {μ1 : zM} {lv : List (Nat × Value)}
    (hx : p.tables.exec = Jvm.exec) (hb : c.code = cc) (hml : c.maxLocals = nL) (hown : s.vm.findClass own = some m.cls) (hts : ∀ w ∈ zall, w.before args s = true) (hl : lv_has ls nL lv) (hK : zKU G s) (hZ : zW G μ H) (hS : va_S (zA G) H0 H locs)
    (hM : zMet l G y cm nm ret fr lo (.ref (G.1 + n) :: As) μ (zQf G r0 μ1)) (hG : GoodIn zall (wsV own idx C y (ws_ y cm nm ret)))
    (hd : y.cls = C ∧ y.cls ≠ "java/lang/invoke/MethodHandle" ∧ y.cls ≠ "java/lang/invoke/VarHandle" ∧ (parseMethodDescriptor y.desc).map (fun d => d.parameters.length) = some nA) (hR : fr + 1 ≤ R.frames ∧ 8 + (nm + 11) + lo ≤ R.locals)
    (hn : zk n = kd) (hk9 : kd < 9) {fs : List Value} (he : zE G kd n (μ n) = .inr (ci, fs)) (hc : vwCl[ci]? = some (C, T, N)) (hA : As.length = nA) (hst : st0 = As.reverse ++ .ref (G.1 + n) :: rest) (hW : (rest.map fun v => v.category).sum ≤ 8) (hdg : decode cc pc = .ok (.invokevirtual idx, 3)) (hcs : cells ≤ R.cells ∧ slots ≤ R.slots)
    (kk : ∀ (H1 : Heap) (locs1 : List Loc), zW G μ1 H1 → va_S (zA G) H0 H1 locs1 → W p l e R s m args below meth c H1 locs1 cells slots Q (F0 m (pc + 3) ls (.float r0 :: rest))) : W p l e R s m args below meth c H locs cells slots Q (F0 m pc ls st0) := by
  refine va_callf (va_runV (As := As) (rest := rest) ⟨hx, hb, hml, hown, hts⟩ hM (cwV nA hts hG rfl rfl rfl hd hR) ⟨fun a U g mk q => ⟨q.1, q.2.calling⟩, z_recv hK hZ hn hk9 he hc, fun U hU hW => ⟨rfl, by rw [hU]; exact hZ, va_K.moved hW.alike hK⟩⟩ rfl hA hl.1 hst (lv_room hW) hdg hcs) hS (fun q _ h => h) (fun q h => h) (fun r u t H1 locs1 ht hvm hw hB hz1 hk1 hS1 => ?_)
  obtain ⟨rfl, rfl⟩ := hw
  exact kk H1 locs1 (by rw [← ht]; exact hB.1) hS1
theorem z_cSf {own : String} {idx nL nA nm fr lo : Nat} {y : MethodName} {cm : ByteArray} {ret : Option FieldType} {As : List Value} {st0 : List Value} {r0 : UInt32} {μ1 : zM} {lv : List (Nat × Value)}
    (hx : p.tables.exec = Jvm.exec) (hb : c.code = cc) (hml : c.maxLocals = nL) (hown : s.vm.findClass own = some m.cls) (hts : ∀ w ∈ zall, w.before args s = true) (hl : lv_has ls nL lv) (hK : zKU G s) (hZ : zW G μ H) (hS : va_S (zA G) H0 H locs)
    (hM : zMet l G y cm nm ret fr lo As μ (zQf G r0 μ1)) (hG : GoodIn zall (wsS own idx y (ws_ y cm nm ret)))
    (hd : y.cls = own ∧ y.cls ≠ "java/lang/invoke/MethodHandle" ∧ y.cls ≠ "java/lang/invoke/VarHandle" ∧ (parseMethodDescriptor y.desc).map (fun d => d.parameters.length) = some nA) (hR : fr + 1 ≤ R.frames ∧ 8 + (nm + 11) + lo ≤ R.locals)
    (hA : As.length = nA) (hst : st0 = As.reverse ++ rest) (hW : (rest.map fun v => v.category).sum ≤ 8) (hdg : decode cc pc = .ok (.invokestatic idx, 3)) (hcs : cells ≤ R.cells ∧ slots ≤ R.slots)
    (kk : ∀ (H1 : Heap) (locs1 : List Loc), zW G μ1 H1 → va_S (zA G) H0 H1 locs1 → W p l e R s m args below meth c H1 locs1 cells slots Q (F0 m (pc + 3) ls (.float r0 :: rest))) : W p l e R s m args below meth c H locs cells slots Q (F0 m pc ls st0) := by
  refine va_callf (va_runS (As := As) (rest := rest) ⟨hx, hb, hml, hown, hts⟩ hM (cwS nA hts hG rfl rfl rfl hd hR) ⟨fun a U g mk q => ⟨q.1, q.2.calling⟩, fun U hU hW => ⟨rfl, by rw [hU]; exact hZ, va_K.moved hW.alike hK⟩⟩ rfl hA hl.1 hst (lv_room hW) hdg hcs) hS (fun q _ h => h) (fun q h => h) (fun r u t H1 locs1 ht hvm hw hB hz1 hk1 hS1 => ?_)
  obtain ⟨rfl, rfl⟩ := hw
  exact kk H1 locs1 (by rw [← ht]; exact hB.1) hS1
theorem z_cVv {own C : String} {T : u_T} {N ci kd n idx nL nA nm fr lo : Nat} {y : MethodName} {cm : ByteArray} {ret : Option FieldType} {As : List Value} {st0 : List Value}  {μ1 : zM} {lv : List (Nat × Value)}
    (hx : p.tables.exec = Jvm.exec) (hb : c.code = cc) (hml : c.maxLocals = nL) (hown : s.vm.findClass own = some m.cls) (hts : ∀ w ∈ zall, w.before args s = true) (hl : lv_has ls nL lv) (hK : zKU G s) (hZ : zW G μ H) (hS : va_S (zA G) H0 H locs)
    (hM : zMet l G y cm nm ret fr lo (.ref (G.1 + n) :: As) μ (zQv G μ1)) (hG : GoodIn zall (wsV own idx C y (ws_ y cm nm ret)))
    (hd : y.cls = C ∧ y.cls ≠ "java/lang/invoke/MethodHandle" ∧ y.cls ≠ "java/lang/invoke/VarHandle" ∧ (parseMethodDescriptor y.desc).map (fun d => d.parameters.length) = some nA) (hR : fr + 1 ≤ R.frames ∧ 8 + (nm + 11) + lo ≤ R.locals)
    (hn : zk n = kd) (hk9 : kd < 9) {fs : List Value} (he : zE G kd n (μ n) = .inr (ci, fs)) (hc : vwCl[ci]? = some (C, T, N)) (hA : As.length = nA) (hst : st0 = As.reverse ++ .ref (G.1 + n) :: rest) (hW : (rest.map fun v => v.category).sum ≤ 8) (hdg : decode cc pc = .ok (.invokevirtual idx, 3)) (hcs : cells ≤ R.cells ∧ slots ≤ R.slots)
    (kk : ∀ (H1 : Heap) (locs1 : List Loc), zW G μ1 H1 → va_S (zA G) H0 H1 locs1 → W p l e R s m args below meth c H1 locs1 cells slots Q (F0 m (pc + 3) ls (rest))) : W p l e R s m args below meth c H locs cells slots Q (F0 m pc ls st0) := by
  refine va_callv (va_runV (As := As) (rest := rest) ⟨hx, hb, hml, hown, hts⟩ hM (cwV nA hts hG rfl rfl rfl hd hR) ⟨fun a U g mk q => ⟨q.1, q.2.calling⟩, z_recv hK hZ hn hk9 he hc, fun U hU hW => ⟨rfl, by rw [hU]; exact hZ, va_K.moved hW.alike hK⟩⟩ rfl hA hl.1 hst (lv_room hW) hdg hcs) hS (fun q _ h => h) (fun q h => h) (fun u t H1 locs1 ht hvm hw hB hz1 hk1 hS1 => ?_)
  obtain rfl := hw
  exact kk H1 locs1 (by rw [← ht]; exact hB.1) hS1
theorem z_cSv {own : String} {idx nL nA nm fr lo : Nat} {y : MethodName} {cm : ByteArray} {ret : Option FieldType} {As : List Value} {st0 : List Value}  {μ1 : zM} {lv : List (Nat × Value)}
    (hx : p.tables.exec = Jvm.exec) (hb : c.code = cc) (hml : c.maxLocals = nL) (hown : s.vm.findClass own = some m.cls) (hts : ∀ w ∈ zall, w.before args s = true) (hl : lv_has ls nL lv) (hK : zKU G s) (hZ : zW G μ H) (hS : va_S (zA G) H0 H locs)
    (hM : zMet l G y cm nm ret fr lo As μ (zQv G μ1)) (hG : GoodIn zall (wsS own idx y (ws_ y cm nm ret)))
    (hd : y.cls = own ∧ y.cls ≠ "java/lang/invoke/MethodHandle" ∧ y.cls ≠ "java/lang/invoke/VarHandle" ∧ (parseMethodDescriptor y.desc).map (fun d => d.parameters.length) = some nA) (hR : fr + 1 ≤ R.frames ∧ 8 + (nm + 11) + lo ≤ R.locals)
    (hA : As.length = nA) (hst : st0 = As.reverse ++ rest) (hW : (rest.map fun v => v.category).sum ≤ 8) (hdg : decode cc pc = .ok (.invokestatic idx, 3)) (hcs : cells ≤ R.cells ∧ slots ≤ R.slots)
    (kk : ∀ (H1 : Heap) (locs1 : List Loc), zW G μ1 H1 → va_S (zA G) H0 H1 locs1 → W p l e R s m args below meth c H1 locs1 cells slots Q (F0 m (pc + 3) ls (rest))) : W p l e R s m args below meth c H locs cells slots Q (F0 m pc ls st0) := by
  refine va_callv (va_runS (As := As) (rest := rest) ⟨hx, hb, hml, hown, hts⟩ hM (cwS nA hts hG rfl rfl rfl hd hR) ⟨fun a U g mk q => ⟨q.1, q.2.calling⟩, fun U hU hW => ⟨rfl, by rw [hU]; exact hZ, va_K.moved hW.alike hK⟩⟩ rfl hA hl.1 hst (lv_room hW) hdg hcs) hS (fun q _ h => h) (fun q h => h) (fun u t H1 locs1 ht hvm hw hB hz1 hk1 hS1 => ?_)
  obtain rfl := hw
  exact kk H1 locs1 (by rw [← ht]; exact hB.1) hS1
theorem z_cVq {own C : String} {T : u_T} {N ci kd n idx nL nA nm fr lo : Nat} {y : MethodName} {cm : ByteArray} {ret : Option FieldType} {As : List Value} {st0 : List Value} {r0 : Option Nat} {μ1 : zM} {lv : List (Nat × Value)}
    (hx : p.tables.exec = Jvm.exec) (hb : c.code = cc) (hml : c.maxLocals = nL) (hown : s.vm.findClass own = some m.cls) (hts : ∀ w ∈ zall, w.before args s = true) (hl : lv_has ls nL lv) (hK : zKU G s) (hZ : zW G μ H) (hS : va_S (zA G) H0 H locs)
    (hM : zMet l G y cm nm ret fr lo (.ref (G.1 + n) :: As) μ (zQq G r0 μ1)) (hG : GoodIn zall (wsV own idx C y (ws_ y cm nm ret)))
    (hd : y.cls = C ∧ y.cls ≠ "java/lang/invoke/MethodHandle" ∧ y.cls ≠ "java/lang/invoke/VarHandle" ∧ (parseMethodDescriptor y.desc).map (fun d => d.parameters.length) = some nA) (hR : fr + 1 ≤ R.frames ∧ 8 + (nm + 11) + lo ≤ R.locals)
    (hn : zk n = kd) (hk9 : kd < 9) {fs : List Value} (he : zE G kd n (μ n) = .inr (ci, fs)) (hc : vwCl[ci]? = some (C, T, N)) (hA : As.length = nA) (hst : st0 = As.reverse ++ .ref (G.1 + n) :: rest) (hW : (rest.map fun v => v.category).sum ≤ 8) (hdg : decode cc pc = .ok (.invokevirtual idx, 3)) (hcs : cells ≤ R.cells ∧ slots ≤ R.slots)
    (kk : ∀ (H1 : Heap) (locs1 : List Loc), zW G μ1 H1 → va_S (zA G) H0 H1 locs1 → W p l e R s m args below meth c H1 locs1 cells slots Q (F0 m (pc + 3) ls (va_rf r0 :: rest))) : W p l e R s m args below meth c H locs cells slots Q (F0 m pc ls st0) := by
  refine va_callq (va_runV (As := As) (rest := rest) ⟨hx, hb, hml, hown, hts⟩ hM (cwV nA hts hG rfl rfl rfl hd hR) ⟨fun a U g mk q => ⟨q.1, q.2.calling⟩, z_recv hK hZ hn hk9 he hc, fun U hU hW => ⟨rfl, by rw [hU]; exact hZ, va_K.moved hW.alike hK⟩⟩ rfl hA hl.1 hst (lv_room hW) hdg hcs) hS (fun q _ h => h) (fun q h => h) (fun r u t H1 locs1 ht hvm hw hB hz1 hk1 hS1 => ?_)
  obtain ⟨rfl, rfl⟩ := hw
  exact kk H1 locs1 (by rw [← ht]; exact hB.1) hS1
theorem z_cSq {own : String} {idx nL nA nm fr lo : Nat} {y : MethodName} {cm : ByteArray} {ret : Option FieldType} {As : List Value} {st0 : List Value} {r0 : Option Nat} {μ1 : zM} {lv : List (Nat × Value)}
    (hx : p.tables.exec = Jvm.exec) (hb : c.code = cc) (hml : c.maxLocals = nL) (hown : s.vm.findClass own = some m.cls) (hts : ∀ w ∈ zall, w.before args s = true) (hl : lv_has ls nL lv) (hK : zKU G s) (hZ : zW G μ H) (hS : va_S (zA G) H0 H locs)
    (hM : zMet l G y cm nm ret fr lo As μ (zQq G r0 μ1)) (hG : GoodIn zall (wsS own idx y (ws_ y cm nm ret)))
    (hd : y.cls = own ∧ y.cls ≠ "java/lang/invoke/MethodHandle" ∧ y.cls ≠ "java/lang/invoke/VarHandle" ∧ (parseMethodDescriptor y.desc).map (fun d => d.parameters.length) = some nA) (hR : fr + 1 ≤ R.frames ∧ 8 + (nm + 11) + lo ≤ R.locals)
    (hA : As.length = nA) (hst : st0 = As.reverse ++ rest) (hW : (rest.map fun v => v.category).sum ≤ 8) (hdg : decode cc pc = .ok (.invokestatic idx, 3)) (hcs : cells ≤ R.cells ∧ slots ≤ R.slots)
    (kk : ∀ (H1 : Heap) (locs1 : List Loc), zW G μ1 H1 → va_S (zA G) H0 H1 locs1 → W p l e R s m args below meth c H1 locs1 cells slots Q (F0 m (pc + 3) ls (va_rf r0 :: rest))) : W p l e R s m args below meth c H locs cells slots Q (F0 m pc ls st0) := by
  refine va_callq (va_runS (As := As) (rest := rest) ⟨hx, hb, hml, hown, hts⟩ hM (cwS nA hts hG rfl rfl rfl hd hR) ⟨fun a U g mk q => ⟨q.1, q.2.calling⟩, fun U hU hW => ⟨rfl, by rw [hU]; exact hZ, va_K.moved hW.alike hK⟩⟩ rfl hA hl.1 hst (lv_room hW) hdg hcs) hS (fun q _ h => h) (fun q h => h) (fun r u t H1 locs1 ht hvm hw hB hz1 hk1 hS1 => ?_)
  obtain ⟨rfl, rfl⟩ := hw
  exact kk H1 locs1 (by rw [← ht]; exact hB.1) hS1
theorem z_g0 {own : String} {index n : Nat} {f : Nat → Int32} (k : Nat) {v : Value} (hx : p.tables.exec = Jvm.exec) (hb : c.code = cc) (hts : ∀ w ∈ zall, w.before args s = true) (hown : s.vm.findClass own = some m.cls) (hK : zKU G s) (hZ : zW G μ H) (hn : zk n = 0) (hf : μ n = f) (hk : k < 6) (hlink : Cond.fieldLink own index (TX6 k).1 (TX6 k).2.1 (TX6 k).2.2.1 ∈ zall) (hv : (zF0 G f)[k]? = some v) (hdg : decode cc pc = .ok (.getfield index, 3))
    (kk : W p l e R s m args below meth c H locs cells slots Q (F0 m (pc + 3) ls (v :: rest))) : W p l e R s m args below meth c H locs cells slots Q (F0 m pc ls (.ref (G.1 + n) :: rest)) := by
  subst hf
  exact z_get (C := RX6) (T := TX6) (N := 6) hx hb hts inX6 hown hK hZ hn (by decide) rfl rfl k hk hlink hv hdg kk
theorem z_p0z {own : String} {index n : Nat} {f : Nat → Int32} {μ1 : zM} (k : Nat) {x : Int32} (hx : p.tables.exec = Jvm.exec) (hb : c.code = cc) (hts : ∀ w ∈ zall, w.before args s = true) (hown : s.vm.findClass own = some m.cls) (hK : zKU G s) (hZ : zW G μ H) (hS : va_S (zA G) H0 H locs) (hn : zk n = 0) (hf : μ n = f) (hk : k < 6) (hlink : Cond.fieldLink own index (TX6 k).1 (TX6 k).2.1 (TX6 k).2.2.1 ∈ zall) (hfin : (TX6 k).2.2.2 = false) (hd : parseFieldDescriptor (TX6 k).2.2.1 = some .boolean) (hz : narrow .boolean (.int x) = .int x) (hz2 : fits .boolean (.int x) = true) (hset : zF0 G (zu f k x) = (zF0 G f).set k (.int x)) (hμ : zr μ n (zu f k x) = μ1) (hdg : decode cc pc = .ok (.putfield index, 3))
    (kk : ∀ (H1 : Heap) (locs1 : List Loc), zW G μ1 H1 → va_S (zA G) H0 H1 locs1 → W p l e R s m args below meth c H1 locs1 cells slots Q (F0 m (pc + 3) ls rest)) : W p l e R s m args below meth c H locs cells slots Q (F0 m pc ls (.int x :: .ref (G.1 + n) :: rest)) := by
  subst hf
  subst hμ
  exact z_put (C := RX6) (T := TX6) (N := 6) hx hb hts inX6 tyX6 tyX6_ok nmX6 hown hK hZ hn (by decide) (fs := zF0 G (μ n)) rfl rfl k hk hlink hfin hd hz hz2 (by show k < 6; exact hk) (μ1 := zr μ n (zu (μ n) k x)) (by rw [zr_same]; exact congrArg (fun z => (Sum.inr (6, z) : va_E)) hset) (fun j hj => zr_ne hj) hS hdg kk
theorem z_g1 {own : String} {index n : Nat} {f : Nat → Int32} (k : Nat) {v : Value} (hx : p.tables.exec = Jvm.exec) (hb : c.code = cc) (hts : ∀ w ∈ zall, w.before args s = true) (hown : s.vm.findClass own = some m.cls) (hK : zKU G s) (hZ : zW G μ H) (hn : zk n = 1) (hf : μ n = f) (hk : k < 7) (hlink : Cond.fieldLink own index (TX1 k).1 (TX1 k).2.1 (TX1 k).2.2.1 ∈ zall) (hv : (zF1 G n f)[k]? = some v) (hdg : decode cc pc = .ok (.getfield index, 3))
    (kk : W p l e R s m args below meth c H locs cells slots Q (F0 m (pc + 3) ls (v :: rest))) : W p l e R s m args below meth c H locs cells slots Q (F0 m pc ls (.ref (G.1 + n) :: rest)) := by
  subst hf
  exact z_get (C := RX1) (T := TX1) (N := 7) hx hb hts inX1 hown hK hZ hn (by decide) rfl rfl k hk hlink hv hdg kk
theorem z_p1 {own : String} {index n : Nat} {f : Nat → Int32} {μ1 : zM} (k : Nat) {x : Int32} (hx : p.tables.exec = Jvm.exec) (hb : c.code = cc) (hts : ∀ w ∈ zall, w.before args s = true) (hown : s.vm.findClass own = some m.cls) (hK : zKU G s) (hZ : zW G μ H) (hS : va_S (zA G) H0 H locs) (hn : zk n = 1) (hf : μ n = f) (hk : k < 7) (hlink : Cond.fieldLink own index (TX1 k).1 (TX1 k).2.1 (TX1 k).2.2.1 ∈ zall) (hfin : (TX1 k).2.2.2 = false) (hd : parseFieldDescriptor (TX1 k).2.2.1 = some .int) (hset : zF1 G n (zu f k x) = (zF1 G n f).set k (.int x)) (hμ : zr μ n (zu f k x) = μ1) (hdg : decode cc pc = .ok (.putfield index, 3))
    (kk : ∀ (H1 : Heap) (locs1 : List Loc), zW G μ1 H1 → va_S (zA G) H0 H1 locs1 → W p l e R s m args below meth c H1 locs1 cells slots Q (F0 m (pc + 3) ls rest)) : W p l e R s m args below meth c H locs cells slots Q (F0 m pc ls (.int x :: .ref (G.1 + n) :: rest)) := by
  subst hf
  subst hμ
  exact z_put (C := RX1) (T := TX1) (N := 7) hx hb hts inX1 tyX1 tyX1_ok nmX1 hown hK hZ hn (by decide) (fs := zF1 G n (μ n)) rfl rfl k hk hlink hfin hd rfl rfl (by show k < 7; exact hk) (μ1 := zr μ n (zu (μ n) k x)) (by rw [zr_same]; exact congrArg (fun z => (Sum.inr (1, z) : va_E)) hset) (fun j hj => zr_ne hj) hS hdg kk
theorem z_p1f {own : String} {index n : Nat} {f : Nat → Int32} {μ1 : zM} (k : Nat) {x : UInt32} (hx : p.tables.exec = Jvm.exec) (hb : c.code = cc) (hts : ∀ w ∈ zall, w.before args s = true) (hown : s.vm.findClass own = some m.cls) (hK : zKU G s) (hZ : zW G μ H) (hS : va_S (zA G) H0 H locs) (hn : zk n = 1) (hf : μ n = f) (hk : k < 7) (hlink : Cond.fieldLink own index (TX1 k).1 (TX1 k).2.1 (TX1 k).2.2.1 ∈ zall) (hfin : (TX1 k).2.2.2 = false) (hd : parseFieldDescriptor (TX1 k).2.2.1 = some .float) (hset : zF1 G n (zu f k x.toInt32) = (zF1 G n f).set k (.float x)) (hμ : zr μ n (zu f k x.toInt32) = μ1) (hdg : decode cc pc = .ok (.putfield index, 3))
    (kk : ∀ (H1 : Heap) (locs1 : List Loc), zW G μ1 H1 → va_S (zA G) H0 H1 locs1 → W p l e R s m args below meth c H1 locs1 cells slots Q (F0 m (pc + 3) ls rest)) : W p l e R s m args below meth c H locs cells slots Q (F0 m pc ls (.float x :: .ref (G.1 + n) :: rest)) := by
  subst hf
  subst hμ
  exact z_put (C := RX1) (T := TX1) (N := 7) hx hb hts inX1 tyX1 tyX1_ok nmX1 hown hK hZ hn (by decide) (fs := zF1 G n (μ n)) rfl rfl k hk hlink hfin hd rfl rfl (by show k < 7; exact hk) (μ1 := zr μ n (zu (μ n) k x.toInt32)) (by rw [zr_same]; exact congrArg (fun z => (Sum.inr (1, z) : va_E)) hset) (fun j hj => zr_ne hj) hS hdg kk
theorem z_g4 {own : String} {index n : Nat} {f : Nat → Int32} (k : Nat) {v : Value} (hx : p.tables.exec = Jvm.exec) (hb : c.code = cc) (hts : ∀ w ∈ zall, w.before args s = true) (hown : s.vm.findClass own = some m.cls) (hK : zKU G s) (hZ : zW G μ H) (hn : zk n = 4) (hf : μ n = f) (hk : k < 7) (hlink : Cond.fieldLink own index (TX5 k).1 (TX5 k).2.1 (TX5 k).2.2.1 ∈ zall) (hv : (zF4 G n f)[k]? = some v) (hdg : decode cc pc = .ok (.getfield index, 3))
    (kk : W p l e R s m args below meth c H locs cells slots Q (F0 m (pc + 3) ls (v :: rest))) : W p l e R s m args below meth c H locs cells slots Q (F0 m pc ls (.ref (G.1 + n) :: rest)) := by
  subst hf
  exact z_get (C := RX5) (T := TX5) (N := 7) hx hb hts inX5 hown hK hZ hn (by decide) rfl rfl k hk hlink hv hdg kk
theorem z_p4 {own : String} {index n : Nat} {f : Nat → Int32} {μ1 : zM} (k : Nat) {x : Int32} (hx : p.tables.exec = Jvm.exec) (hb : c.code = cc) (hts : ∀ w ∈ zall, w.before args s = true) (hown : s.vm.findClass own = some m.cls) (hK : zKU G s) (hZ : zW G μ H) (hS : va_S (zA G) H0 H locs) (hn : zk n = 4) (hf : μ n = f) (hk : k < 7) (hlink : Cond.fieldLink own index (TX5 k).1 (TX5 k).2.1 (TX5 k).2.2.1 ∈ zall) (hfin : (TX5 k).2.2.2 = false) (hd : parseFieldDescriptor (TX5 k).2.2.1 = some .int) (hset : zF4 G n (zu f k x) = (zF4 G n f).set k (.int x)) (hμ : zr μ n (zu f k x) = μ1) (hdg : decode cc pc = .ok (.putfield index, 3))
    (kk : ∀ (H1 : Heap) (locs1 : List Loc), zW G μ1 H1 → va_S (zA G) H0 H1 locs1 → W p l e R s m args below meth c H1 locs1 cells slots Q (F0 m (pc + 3) ls rest)) : W p l e R s m args below meth c H locs cells slots Q (F0 m pc ls (.int x :: .ref (G.1 + n) :: rest)) := by
  subst hf
  subst hμ
  exact z_put (C := RX5) (T := TX5) (N := 7) hx hb hts inX5 tyX5 tyX5_ok nmX5 hown hK hZ hn (by decide) (fs := zF4 G n (μ n)) rfl rfl k hk hlink hfin hd rfl rfl (by show k < 7; exact hk) (μ1 := zr μ n (zu (μ n) k x)) (by rw [zr_same]; exact congrArg (fun z => (Sum.inr (5, z) : va_E)) hset) (fun j hj => zr_ne hj) hS hdg kk
theorem z_g5 {own : String} {index n : Nat} {f : Nat → Int32} (k : Nat) {v : Value} (hx : p.tables.exec = Jvm.exec) (hb : c.code = cc) (hts : ∀ w ∈ zall, w.before args s = true) (hown : s.vm.findClass own = some m.cls) (hK : zKU G s) (hZ : zW G μ H) (hn : zk n = 5) (hf : μ n = f) (hk : k < 6) (hlink : Cond.fieldLink own index (TX4 k).1 (TX4 k).2.1 (TX4 k).2.2.1 ∈ zall) (hv : (zF5 f)[k]? = some v) (hdg : decode cc pc = .ok (.getfield index, 3))
    (kk : W p l e R s m args below meth c H locs cells slots Q (F0 m (pc + 3) ls (v :: rest))) : W p l e R s m args below meth c H locs cells slots Q (F0 m pc ls (.ref (G.1 + n) :: rest)) := by
  subst hf
  exact z_get (C := RX4) (T := TX4) (N := 6) hx hb hts inX4 hown hK hZ hn (by decide) rfl rfl k hk hlink hv hdg kk
theorem z_p5 {own : String} {index n : Nat} {f : Nat → Int32} {μ1 : zM} (k : Nat) {x : Int32} (hx : p.tables.exec = Jvm.exec) (hb : c.code = cc) (hts : ∀ w ∈ zall, w.before args s = true) (hown : s.vm.findClass own = some m.cls) (hK : zKU G s) (hZ : zW G μ H) (hS : va_S (zA G) H0 H locs) (hn : zk n = 5) (hf : μ n = f) (hk : k < 6) (hlink : Cond.fieldLink own index (TX4 k).1 (TX4 k).2.1 (TX4 k).2.2.1 ∈ zall) (hfin : (TX4 k).2.2.2 = false) (hd : parseFieldDescriptor (TX4 k).2.2.1 = some .int) (hset : zF5 (zu f k x) = (zF5 f).set k (.int x)) (hμ : zr μ n (zu f k x) = μ1) (hdg : decode cc pc = .ok (.putfield index, 3))
    (kk : ∀ (H1 : Heap) (locs1 : List Loc), zW G μ1 H1 → va_S (zA G) H0 H1 locs1 → W p l e R s m args below meth c H1 locs1 cells slots Q (F0 m (pc + 3) ls rest)) : W p l e R s m args below meth c H locs cells slots Q (F0 m pc ls (.int x :: .ref (G.1 + n) :: rest)) := by
  subst hf
  subst hμ
  exact z_put (C := RX4) (T := TX4) (N := 6) hx hb hts inX4 tyX4 tyX4_ok nmX4 hown hK hZ hn (by decide) (fs := zF5 (μ n)) rfl rfl k hk hlink hfin hd rfl rfl (by show k < 6; exact hk) (μ1 := zr μ n (zu (μ n) k x)) (by rw [zr_same]; exact congrArg (fun z => (Sum.inr (4, z) : va_E)) hset) (fun j hj => zr_ne hj) hS hdg kk
theorem z_g6 {own : String} {index n : Nat} {f : Nat → Int32} (k : Nat) {v : Value} (hx : p.tables.exec = Jvm.exec) (hb : c.code = cc) (hts : ∀ w ∈ zall, w.before args s = true) (hown : s.vm.findClass own = some m.cls) (hK : zKU G s) (hZ : zW G μ H) (hn : zk n = 6) (hf : μ n = f) (hk : k < 11) (hlink : Cond.fieldLink own index (TX3 k).1 (TX3 k).2.1 (TX3 k).2.2.1 ∈ zall) (hv : (zF6 f)[k]? = some v) (hdg : decode cc pc = .ok (.getfield index, 3))
    (kk : W p l e R s m args below meth c H locs cells slots Q (F0 m (pc + 3) ls (v :: rest))) : W p l e R s m args below meth c H locs cells slots Q (F0 m pc ls (.ref (G.1 + n) :: rest)) := by
  subst hf
  exact z_get (C := RX3) (T := TX3) (N := 11) hx hb hts inX3 hown hK hZ hn (by decide) rfl rfl k hk hlink hv hdg kk
theorem z_p6 {own : String} {index n : Nat} {f : Nat → Int32} {μ1 : zM} (k : Nat) {x : Int32} (hx : p.tables.exec = Jvm.exec) (hb : c.code = cc) (hts : ∀ w ∈ zall, w.before args s = true) (hown : s.vm.findClass own = some m.cls) (hK : zKU G s) (hZ : zW G μ H) (hS : va_S (zA G) H0 H locs) (hn : zk n = 6) (hf : μ n = f) (hk : k < 11) (hlink : Cond.fieldLink own index (TX3 k).1 (TX3 k).2.1 (TX3 k).2.2.1 ∈ zall) (hfin : (TX3 k).2.2.2 = false) (hd : parseFieldDescriptor (TX3 k).2.2.1 = some .int) (hset : zF6 (zu f k x) = (zF6 f).set k (.int x)) (hμ : zr μ n (zu f k x) = μ1) (hdg : decode cc pc = .ok (.putfield index, 3))
    (kk : ∀ (H1 : Heap) (locs1 : List Loc), zW G μ1 H1 → va_S (zA G) H0 H1 locs1 → W p l e R s m args below meth c H1 locs1 cells slots Q (F0 m (pc + 3) ls rest)) : W p l e R s m args below meth c H locs cells slots Q (F0 m pc ls (.int x :: .ref (G.1 + n) :: rest)) := by
  subst hf
  subst hμ
  exact z_put (C := RX3) (T := TX3) (N := 11) hx hb hts inX3 tyX3 tyX3_ok nmX3 hown hK hZ hn (by decide) (fs := zF6 (μ n)) rfl rfl k hk hlink hfin hd rfl rfl (by show k < 11; exact hk) (μ1 := zr μ n (zu (μ n) k x)) (by rw [zr_same]; exact congrArg (fun z => (Sum.inr (3, z) : va_E)) hset) (fun j hj => zr_ne hj) hS hdg kk
theorem z_g7 {own : String} {index n : Nat} {f : Nat → Int32} (k : Nat) {v : Value} (hx : p.tables.exec = Jvm.exec) (hb : c.code = cc) (hts : ∀ w ∈ zall, w.before args s = true) (hown : s.vm.findClass own = some m.cls) (hK : zKU G s) (hZ : zW G μ H) (hn : zk n = 7) (hf : μ n = f) (hk : k < 3) (hlink : Cond.fieldLink own index (TX2 k).1 (TX2 k).2.1 (TX2 k).2.2.1 ∈ zall) (hv : (zF7 G f)[k]? = some v) (hdg : decode cc pc = .ok (.getfield index, 3))
    (kk : W p l e R s m args below meth c H locs cells slots Q (F0 m (pc + 3) ls (v :: rest))) : W p l e R s m args below meth c H locs cells slots Q (F0 m pc ls (.ref (G.1 + n) :: rest)) := by
  subst hf
  exact z_get (C := RX2) (T := TX2) (N := 3) hx hb hts inX2 hown hK hZ hn (by decide) rfl rfl k hk hlink hv hdg kk
theorem z_p7 {own : String} {index n : Nat} {f : Nat → Int32} {μ1 : zM} (k : Nat) {x : Int32} (hx : p.tables.exec = Jvm.exec) (hb : c.code = cc) (hts : ∀ w ∈ zall, w.before args s = true) (hown : s.vm.findClass own = some m.cls) (hK : zKU G s) (hZ : zW G μ H) (hS : va_S (zA G) H0 H locs) (hn : zk n = 7) (hf : μ n = f) (hk : k < 3) (hlink : Cond.fieldLink own index (TX2 k).1 (TX2 k).2.1 (TX2 k).2.2.1 ∈ zall) (hfin : (TX2 k).2.2.2 = false) (hd : parseFieldDescriptor (TX2 k).2.2.1 = some .int) (hset : zF7 G (zu f k x) = (zF7 G f).set k (.int x)) (hμ : zr μ n (zu f k x) = μ1) (hdg : decode cc pc = .ok (.putfield index, 3))
    (kk : ∀ (H1 : Heap) (locs1 : List Loc), zW G μ1 H1 → va_S (zA G) H0 H1 locs1 → W p l e R s m args below meth c H1 locs1 cells slots Q (F0 m (pc + 3) ls rest)) : W p l e R s m args below meth c H locs cells slots Q (F0 m pc ls (.int x :: .ref (G.1 + n) :: rest)) := by
  subst hf
  subst hμ
  exact z_put (C := RX2) (T := TX2) (N := 3) hx hb hts inX2 tyX2 tyX2_ok nmX2 hown hK hZ hn (by decide) (fs := zF7 G (μ n)) rfl rfl k hk hlink hfin hd rfl rfl (by show k < 3; exact hk) (μ1 := zr μ n (zu (μ n) k x)) (by rw [zr_same]; exact congrArg (fun z => (Sum.inr (2, z) : va_E)) hset) (fun j hj => zr_ne hj) hS hdg kk
theorem z_taload {B : Nat} {x : Int32} (hx : p.tables.exec = Jvm.exec) (hb : c.code = cc) (hK : zKU G s) (hZ : zW G μ H) (hB : zk (B + 1) = 2) (hin : vp_in x 6) (hdg : decode cc pc = .ok (.aaload, 1))
    (kk : W p l e R s m args below meth c H locs cells slots Q (F0 m (pc + 1) ls (.ref (G.1 + (B + (3 + 2 * x.toNatClampNeg))) :: rest))) : W p l e R s m args below meth c H locs cells slots Q (F0 m pc ls (.int x :: .ref (G.1 + (B + 1)) :: rest)) := by
  refine va_aldq hx hb hK (hZ.one hB (by decide)) 0 0 (C := "TenancyDeposits$Tenancy") rfl rfl hin hdg ?_
  have e1 : B + (3 + 2 * x.toNatClampNeg) = B + 1 + 2 + 2 * x.toNatClampNeg := by omega
  rw [e1] at kk
  exact kk
theorem z_iaload {B : Nat} {x : Int32} (hx : p.tables.exec = Jvm.exec) (hb : c.code = cc) (hK : zKU G s) (hZ : zW G μ H) (hB : zk (B + 2) = 3) (hin : vp_in x 24) (hdg : decode cc pc = .ok (.aaload, 1))
    (kk : W p l e R s m args below meth c H locs cells slots Q (F0 m (pc + 1) ls (.ref (G.1 + (B + (15 + x.toNatClampNeg))) :: rest))) : W p l e R s m args below meth c H locs cells slots Q (F0 m pc ls (.int x :: .ref (G.1 + (B + 2)) :: rest)) := by
  refine va_aldq hx hb hK (hZ.one hB (by decide)) 0 1 (C := "TenancyDeposits$Item") rfl rfl hin hdg ?_
  have e1 : B + (15 + x.toNatClampNeg) = B + 2 + 13 + x.toNatClampNeg := by omega
  rw [e1] at kk
  exact kk
theorem z_baload {x : Int32} (hx : p.tables.exec = Jvm.exec) (hb : c.code = cc) (hK : zKU G s) (hZ : zW G μ H) (hin : vp_in x 4) (hdg : decode cc pc = .ok (.aaload, 1))
    (kk : W p l e R s m args below meth c H locs cells slots Q (F0 m (pc + 1) ls (.ref (G.1 + (81 + 39 * x.toNatClampNeg)) :: rest))) : W p l e R s m args below meth c H locs cells slots Q (F0 m pc ls (.int x :: .ref (G.1 + 80) :: rest)) :=
  va_aldq hx hb hK (hZ.one (n := 80) (k := 8) (by decide) (by decide)) 0 2 (C := "TenancyDeposits$Book") rfl rfl hin hdg kk
theorem z_talen {B : Nat} (hx : p.tables.exec = Jvm.exec) (hb : c.code = cc) (hK : zKU G s) (hZ : zW G μ H) (hB : zk (B + 1) = 2) (hdg : decode cc pc = .ok (.arraylength, 1))
    (kk : W p l e R s m args below meth c H locs cells slots Q (F0 m (pc + 1) ls (.int 6 :: rest))) : W p l e R s m args below meth c H locs cells slots Q (F0 m pc ls (.ref (G.1 + (B + 1)) :: rest)) :=
  va_alen (v := 6) hx hb hK (hZ.one hB (by decide)) 0 0 rfl rfl rfl hdg kk
theorem z_ialen {B : Nat} (hx : p.tables.exec = Jvm.exec) (hb : c.code = cc) (hK : zKU G s) (hZ : zW G μ H) (hB : zk (B + 2) = 3) (hdg : decode cc pc = .ok (.arraylength, 1))
    (kk : W p l e R s m args below meth c H locs cells slots Q (F0 m (pc + 1) ls (.int 24 :: rest))) : W p l e R s m args below meth c H locs cells slots Q (F0 m pc ls (.ref (G.1 + (B + 2)) :: rest)) :=
  va_alen (v := 24) hx hb hK (hZ.one hB (by decide)) 0 1 rfl rfl rfl hdg kk
theorem z_balen (hx : p.tables.exec = Jvm.exec) (hb : c.code = cc) (hK : zKU G s) (hZ : zW G μ H) (hdg : decode cc pc = .ok (.arraylength, 1))
    (kk : W p l e R s m args below meth c H locs cells slots Q (F0 m (pc + 1) ls (.int 4 :: rest))) : W p l e R s m args below meth c H locs cells slots Q (F0 m pc ls (.ref (G.1 + 80) :: rest)) :=
  va_alen (v := 4) hx hb hK (hZ.one (n := 80) (k := 8) (by decide) (by decide)) 0 2 rfl rfl rfl hdg kk
end ZC
end
section
/-! floats: no result that is used is a NaN (magnitudes by exponent, K * 2^23) -/
def fK (K : Nat) (x : UInt32) : Prop := x.toNat % 2 ^ 31 < K * 2 ^ 23
theorem fK.up {K L : Nat} {x : UInt32} (h : fK K x) (hKL : K ≤ L) : fK L x := Nat.lt_of_lt_of_le h (Nat.mul_le_mul_right (2 ^ 23) hKL)
theorem fK.n {K : Nat} {x : UInt32} (h : fK K x) (hK : K ≤ 255) : vf_n32 x := by
  have h := h.up hK
  unfold fK at h
  unfold vf_n32
  rw [UInt32.le_iff_toNat_le, FP.Core.mask_toNat32]
  show _ ≤ 2139095040
  omega
theorem fk_i2f (x : Int32) : fK 160 (FP.i2f x) := FP.Core.i2f_mag x
theorem fk_mul {Ka Kb : Nat} {a b : UInt32} (ha : fK Ka a) (hb : fK Kb b) (hKa : Ka ≤ 255) (hKb : Kb ≤ 255) : fK (Ka + Kb - 129 + 3) (FP.fmul a b) := FP.Core.fmul_mag ha hb hKa hKb
theorem fk_div {K L : Nat} {a b : UInt32} (ha : fK K a) (hb : L * 2 ^ 23 ≤ b.toNat % 2 ^ 31) (hb2 : fK 255 b) (hK : K ≤ 255) (hL : 1 ≤ L) : fK (K + (149 - 23 - 1) - L + 3) (FP.fdiv a b) := FP.Core.fdiv_mag ha hb hb2 hK hL
theorem fk_divi {K : Nat} {a : UInt32} {y : Int32} (ha : fK K a) (hK : K ≤ 255) (hy : ¬ y = 0) (hK2 : 2 ≤ K := by decide) : fK (K + 1) (FP.fdiv a (FP.i2f y)) := by
  have hb := FP.Core.i2f_big (FP.Core.int32_ne hy)
  exact (fk_div (L := 127) ha hb.1 hb.2 hK (by decide)).up (by omega)
theorem fk_sub {K : Nat} {a b : UInt32} (ha : fK K a) (hb : fK K b) (hK : K ≤ 255) : fK (K + 2) (FP.fsub a b) := FP.Core.fsub_mag ha hb hK
theorem fk_100 : 133 * 2 ^ 23 ≤ (1120403456 : UInt32).toNat % 2 ^ 31 ∧ fK 255 1120403456 := by unfold fK; decide
theorem fk_365 : 135 * 2 ^ 23 ≤ (1136033792 : UInt32).toNat % 2 ^ 31 ∧ fK 255 1136033792 := by unfold fK; decide
theorem fk_2 : 128 * 2 ^ 23 ≤ (1073741824 : UInt32).toNat % 2 ^ 31 ∧ fK 255 1073741824 := by unfold fK; decide
theorem fk_one : fK 161 FP.fconst1 := by unfold fK; decide
theorem fk_zero : fK 1 FP.fconst0 := by unfold fK; decide
theorem fk_half : fK 161 1056964608 := by unfold fK; decide
theorem fk_1e9 : fK 157 1315859240 := by unfold fK; decide
theorem fk_1e6 : fK 147 1232348160 := by unfold fK; decide
theorem z_ne0 {x : Int32} (h : (0 : Int32) < x) : ¬ x = 0 := by
  intro h0
  rw [h0] at h
  exact absurd h (by decide)
theorem z_ne1 {x : Int32} (h : ¬ x ≤ 0) : ¬ x = 0 := by
  intro h0
  rw [h0] at h
  exact absurd (by decide) h
end
section
theorem zE6_eq {G : zG} {n : Nat} {f g : Nat → Int32} (h : zF6 f = zF6 g) : zE G 6 n f = zE G 6 n g := congrArg (fun z => (Sum.inr (3, z) : va_E)) h
theorem zE5_eq {G : zG} {n : Nat} {f g : Nat → Int32} (h : zF5 f = zF5 g) : zE G 5 n f = zE G 5 n g := congrArg (fun z => (Sum.inr (4, z) : va_E)) h
theorem zE4_eq {G : zG} {n : Nat} {f g : Nat → Int32} (h : zF4 G n f = zF4 G n g) : zE G 4 n f = zE G 4 n g := congrArg (fun z => (Sum.inr (5, z) : va_E)) h
theorem zE1_eq {G : zG} {n : Nat} {f g : Nat → Int32} (h : zF1 G n f = zF1 G n g) : zE G 1 n f = zE G 1 n g := congrArg (fun z => (Sum.inr (1, z) : va_E)) h
/-- the same world, the row of n written otherwise -/
theorem zW.re {G : zG} {μ : zM} {H : Heap} {n k : Nat} {f g : Nat → Int32} (h : zW G (zr μ n f) H) (hk : zk n = k) (he : zE G k n f = zE G k n g) : zW G (zr μ n g) H := by
  intro j hj
  have hj2 := h j hj
  by_cases hjn : j = n
  · subst hjn
    rw [zr_same] at hj2 ⊢
    subst hk
    rw [← he]
    exact hj2
  · rw [zr_ne hjn] at hj2 ⊢
    exact hj2
def s_X3_ageAfter (f : Nat → Int32) (a : Int32) : Int32 := ((f 3) + a)
theorem hdX3_ageAfter : yX3_ageAfter.cls = RX3 ∧ yX3_ageAfter.cls ≠ "java/lang/invoke/MethodHandle" ∧ yX3_ageAfter.cls ≠ "java/lang/invoke/VarHandle" ∧ (parseMethodDescriptor yX3_ageAfter.desc).map (fun d => d.parameters.length) = some 1 := by decide +kernel
set_option maxHeartbeats 4000000 in
set_option maxRecDepth 100000 in
theorem c_X3_ageAfter (l : Launch) (G : zG) (μ : zM) (n : Nat) (f : Nat → Int32) (hk : zk n = 6) (hf : μ n = f) (a : Int32) : zMet l G yX3_ageAfter cX3_ageAfter 2 (some .int) 0 0 [.ref (G.1 + n), .int a] μ (zQi G (s_X3_ageAfter f a) μ) := by
  refine z_start (lv := [(0, .ref (G.1 + n)), (1, .int a)]) (by decide) (Nat.le_of_ble_eq_true rfl) rfl ?_
  intro p e s m args below meth c ls hx hb hml hr hlk hts hown hK hZ hS hl
  have hown : s.vm.findClass RX3 = some m.cls := hown
  refine lv_aload_n hx hb dX3_ageAfter_0 rfl (lv_at hl 0 rfl) ?_
  refine z_g6 (f := f) (v := .int (f 3)) 3 hx hb hts hown hK hZ hk hf (by decide) q105 rfl dX3_ageAfter_1 ?_
  refine lv_iload_n hx hb dX3_ageAfter_4 rfl (lv_at hl 1 rfl) ?_
  refine lv_iadd hx hb dX3_ageAfter_5 ?_
  exact z_iret hx hb hr hlk hK hZ hS ⟨by rw [s_X3_ageAfter], rfl⟩ dX3_ageAfter_6
def s_X3_fairAfter (f : Nat → Int32) (a : Int32) : Int32 := if 0 < (f 2) then (if ((f 4) - ((100 * a) / (f 2))) < 0 then 0 else ((f 4) - ((100 * a) / (f 2))))
  else 0
theorem hdX3_fairAfter : yX3_fairAfter.cls = RX3 ∧ yX3_fairAfter.cls ≠ "java/lang/invoke/MethodHandle" ∧ yX3_fairAfter.cls ≠ "java/lang/invoke/VarHandle" ∧ (parseMethodDescriptor yX3_fairAfter.desc).map (fun d => d.parameters.length) = some 1 := by decide +kernel
set_option maxHeartbeats 4000000 in
set_option maxRecDepth 100000 in
theorem c_X3_fairAfter (l : Launch) (G : zG) (μ : zM) (n : Nat) (f : Nat → Int32) (hk : zk n = 6) (hf : μ n = f) (a : Int32) : zMet l G yX3_fairAfter cX3_fairAfter 2 (some .int) 1 13 [.ref (G.1 + n), .int a] μ (zQi G (s_X3_fairAfter f a) μ) := by
  refine z_start (lv := [(0, .ref (G.1 + n)), (1, .int a)]) (by decide) (Nat.le_of_ble_eq_true rfl) rfl ?_
  intro p e s m args below meth c ls hx hb hml hr hlk hts hown hK hZ hS hl
  have hown : s.vm.findClass RX3 = some m.cls := hown
  refine lv_aload_n hx hb dX3_fairAfter_0 rfl (lv_at hl 0 rfl) ?_
  refine z_g6 (f := f) (v := .int (f 2)) 2 hx hb hts hown hK hZ hk hf (by decide) q104 rfl dX3_fairAfter_1 ?_
  refine lv_if_gt (tgt := 9) hx hb dX3_fairAfter_4 (by decide) (fun c_1 => ?_) (fun c_1 => ?_)
  · refine lv_aload_n hx hb dX3_fairAfter_9 rfl (lv_at hl 0 rfl) ?_
    refine z_g6 (f := f) (v := .int (f 4)) 4 hx hb hts hown hK hZ hk hf (by decide) q106 rfl dX3_fairAfter_10 ?_
    refine lv_bipush (v := 100) hx hb dX3_fairAfter_13 (by decide) ?_
    refine lv_iload_n hx hb dX3_fairAfter_15 rfl (lv_at hl 1 rfl) ?_
    refine lv_imul hx hb dX3_fairAfter_16 ?_
    refine lv_aload_n hx hb dX3_fairAfter_17 rfl (lv_at hl 0 rfl) ?_
    refine z_g6 (f := f) (v := .int (f 2)) 2 hx hb hts hown hK hZ hk hf (by decide) q104 rfl dX3_fairAfter_18 ?_
    refine lv_idiv hx hb dX3_fairAfter_21 (z_ne0 c_1) ?_
    refine lv_isub hx hb dX3_fairAfter_22 ?_
    refine lv_iconst (v := 0) hx hb dX3_fairAfter_23 (by decide) ?_
    refine va_mmax hx hb (hml.trans hl.1.symm) hown (hts _ q404) (hts _ q405) (hts _ q8) (hts _ q406) (Nat.le_of_ble_eq_true rfl) (Nat.le_of_ble_eq_true rfl) (Nat.zero_le _) (Nat.zero_le _) dX3_fairAfter_24 ?_
    exact z_iret hx hb hr hlk hK hZ hS ⟨by rw [s_X3_fairAfter, if_pos c_1], rfl⟩ dX3_fairAfter_27
  · refine lv_iconst (v := 0) hx hb dX3_fairAfter_7 (by decide) ?_
    exact z_iret hx hb hr hlk hK hZ hS ⟨by rw [s_X3_fairAfter, if_neg c_1], rfl⟩ dX3_fairAfter_8
def s_X3_restAfter (f : Nat → Int32) (a : Int32) : UInt32 := if 0 < (f 2) then if 0 ≤ (Op.cmpValue (FP.fcmp (FP.fsub FP.fconst1 (FP.fdiv (FP.i2f (s_X3_ageAfter f a)) (FP.i2f (f 2)))) FP.fconst0) CmpOp.g) then (FP.fsub FP.fconst1 (FP.fdiv (FP.i2f (s_X3_ageAfter f a)) (FP.i2f (f 2))))
    else FP.fconst0
  else FP.fconst0
theorem hdX3_restAfter : yX3_restAfter.cls = RX3 ∧ yX3_restAfter.cls ≠ "java/lang/invoke/MethodHandle" ∧ yX3_restAfter.cls ≠ "java/lang/invoke/VarHandle" ∧ (parseMethodDescriptor yX3_restAfter.desc).map (fun d => d.parameters.length) = some 1 := by decide +kernel
set_option maxHeartbeats 4000000 in
set_option maxRecDepth 100000 in
theorem c_X3_restAfter (l : Launch) (G : zG) (μ : zM) (n : Nat) (f : Nat → Int32) (hk : zk n = 6) (hf : μ n = f) (a : Int32) : zMet l G yX3_restAfter cX3_restAfter 3 (some .float) 1 21 [.ref (G.1 + n), .int a] μ (zQf G (s_X3_restAfter f a) μ) := by
  refine z_start (lv := [(0, .ref (G.1 + n)), (1, .int a)]) (by decide) (Nat.le_of_ble_eq_true rfl) rfl ?_
  intro p e s m args below meth c ls hx hb hml hr hlk hts hown hK hZ hS hl
  have hown : s.vm.findClass RX3 = some m.cls := hown
  refine lv_aload_n hx hb dX3_restAfter_0 rfl (lv_at hl 0 rfl) ?_
  refine z_g6 (f := f) (v := .int (f 2)) 2 hx hb hts hown hK hZ hk hf (by decide) q104 rfl dX3_restAfter_1 ?_
  refine lv_if_gt (tgt := 9) hx hb dX3_restAfter_4 (by decide) (fun c_1 => ?_) (fun c_1 => ?_)
  · refine lv_fconst1 hx hb dX3_restAfter_9 ?_
    refine lv_aload_n hx hb dX3_restAfter_10 rfl (lv_at hl 0 rfl) ?_
    refine lv_iload_n hx hb dX3_restAfter_11 rfl (lv_at hl 1 rfl) ?_
    refine z_cVi (As := [.int a]) (rest := [.float FP.fconst1]) hx hb hml hown hts hl hK hZ hS (c_X3_ageAfter l G μ n f hk hf a) (z_G q500 q422 q423 q5 q424) hdX3_ageAfter ⟨Nat.le_of_ble_eq_true rfl, Nat.le_of_ble_eq_true rfl⟩ hk (by decide) rfl rfl rfl rfl (Nat.le_of_ble_eq_true rfl) dX3_restAfter_12 ⟨(Nat.zero_le _), (Nat.zero_le _)⟩ (fun H locs hZ hS => ?_)
    refine lv_i2f hx hb dX3_restAfter_15 ?_
    refine lv_aload_n hx hb dX3_restAfter_16 rfl (lv_at hl 0 rfl) ?_
    refine z_g6 (f := f) (v := .int (f 2)) 2 hx hb hts hown hK hZ hk hf (by decide) q104 rfl dX3_restAfter_17 ?_
    refine lv_i2f hx hb dX3_restAfter_20 ?_
    refine lv_fdiv hx hb dX3_restAfter_21 ((fk_divi (fk_i2f _) (by decide) (z_ne0 c_1)).n (by decide)) ?_
    refine lv_fsub hx hb dX3_restAfter_22 ((fk_sub fk_one (fk_divi (fk_i2f _) (by decide) (z_ne0 c_1)) (by decide)).n (by decide)) ?_
    refine lv_fstore_n (lv' := [(2, .float (FP.fsub FP.fconst1 (FP.fdiv (FP.i2f (s_X3_ageAfter f a)) (FP.i2f (f 2))))), (0, .ref (G.1 + n)), (1, .int a)]) hx hb dX3_restAfter_23 rfl hl (by decide) rfl (fun ls hl => ?_)
    refine lv_fload_n hx hb dX3_restAfter_24 rfl (lv_at hl 0 rfl) ?_
    refine lv_fconst0 hx hb dX3_restAfter_25 ?_
    refine lv_fcmp hx hb dX3_restAfter_26 ?_
    refine lv_if_ge (tgt := 34) hx hb dX3_restAfter_27 (by decide) (fun c_2 => ?_) (fun c_2 => ?_)
    · refine lv_fload_n hx hb dX3_restAfter_34 rfl (lv_at hl 0 rfl) ?_
      exact z_fret hx hb hr hlk hK hZ hS ⟨by rw [s_X3_restAfter, if_pos c_1, if_pos c_2], rfl⟩ dX3_restAfter_35
    · refine lv_fconst0 hx hb dX3_restAfter_30 ?_
      refine lv_goto (tgt := 35) hx hb dX3_restAfter_31 (by decide) ?_
      exact z_fret hx hb hr hlk hK hZ hS ⟨by rw [s_X3_restAfter, if_pos c_1, if_neg c_2], rfl⟩ dX3_restAfter_35
  · refine lv_fconst0 hx hb dX3_restAfter_7 ?_
    exact z_fret hx hb hr hlk hK hZ hS ⟨by rw [s_X3_restAfter, if_neg c_1], rfl⟩ dX3_restAfter_8
theorem fk_rest (f : Nat → Int32) (a : Int32) : fK 163 (s_X3_restAfter f a) := by
  unfold s_X3_restAfter
  by_cases h : (0 : Int32) < f 2
  · rw [if_pos h]
    have h1 := fk_sub fk_one (fk_divi (fk_i2f (s_X3_ageAfter f a)) (by decide) (z_ne0 h)) (by decide)
    split
    · exact h1
    · exact fk_zero.up (by decide)
  · rw [if_neg h]
    exact fk_zero.up (by decide)
def s_X3_damageAfter (f : Nat → Int32) (a : Int32) (b : Int32) : Int32 := (if ((s_X3_fairAfter f a) - b) < 0 then 0 else ((s_X3_fairAfter f a) - b))
theorem hdX3_damageAfter : yX3_damageAfter.cls = RX3 ∧ yX3_damageAfter.cls ≠ "java/lang/invoke/MethodHandle" ∧ yX3_damageAfter.cls ≠ "java/lang/invoke/VarHandle" ∧ (parseMethodDescriptor yX3_damageAfter.desc).map (fun d => d.parameters.length) = some 2 := by decide +kernel
set_option maxHeartbeats 4000000 in
set_option maxRecDepth 100000 in
theorem c_X3_damageAfter (l : Launch) (G : zG) (μ : zM) (n : Nat) (f : Nat → Int32) (hk : zk n = 6) (hf : μ n = f) (a : Int32) (b : Int32) : zMet l G yX3_damageAfter cX3_damageAfter 3 (some .int) 2 34 [.ref (G.1 + n), .int a, .int b] μ (zQi G (s_X3_damageAfter f a b) μ) := by
  refine z_start (lv := [(0, .ref (G.1 + n)), (1, .int a), (2, .int b)]) (by decide) (Nat.le_of_ble_eq_true rfl) rfl ?_
  intro p e s m args below meth c ls hx hb hml hr hlk hts hown hK hZ hS hl
  have hown : s.vm.findClass RX3 = some m.cls := hown
  refine lv_aload_n hx hb dX3_damageAfter_0 rfl (lv_at hl 0 rfl) ?_
  refine lv_iload_n hx hb dX3_damageAfter_1 rfl (lv_at hl 1 rfl) ?_
  refine z_cVi (As := [.int a]) (rest := []) hx hb hml hown hts hl hK hZ hS (c_X3_fairAfter l G μ n f hk hf a) (z_G q419 q401 q402 q5 q403) hdX3_fairAfter ⟨Nat.le_of_ble_eq_true rfl, Nat.le_of_ble_eq_true rfl⟩ hk (by decide) rfl rfl rfl rfl (Nat.le_of_ble_eq_true rfl) dX3_damageAfter_2 ⟨(Nat.zero_le _), (Nat.zero_le _)⟩ (fun H locs hZ hS => ?_)
  refine lv_iload_n hx hb dX3_damageAfter_5 rfl (lv_at hl 2 rfl) ?_
  refine lv_isub hx hb dX3_damageAfter_6 ?_
  refine lv_iconst (v := 0) hx hb dX3_damageAfter_7 (by decide) ?_
  refine va_mmax hx hb (hml.trans hl.1.symm) hown (hts _ q404) (hts _ q405) (hts _ q8) (hts _ q406) (Nat.le_of_ble_eq_true rfl) (Nat.le_of_ble_eq_true rfl) (Nat.zero_le _) (Nat.zero_le _) dX3_damageAfter_8 ?_
  exact z_iret hx hb hr hlk hK hZ hS ⟨by rw [s_X3_damageAfter], rfl⟩ dX3_damageAfter_11
def s_X3_dueAfter (f : Nat → Int32) (a : Int32) (b : Int32) : Int32 := (FP.f2i (FP.fmul (FP.fmul (FP.i2f (f 1)) (s_X3_restAfter f a)) (FP.fdiv (FP.i2f (s_X3_damageAfter f a b)) 1120403456)))
theorem hdX3_dueAfter : yX3_dueAfter.cls = RX3 ∧ yX3_dueAfter.cls ≠ "java/lang/invoke/MethodHandle" ∧ yX3_dueAfter.cls ≠ "java/lang/invoke/VarHandle" ∧ (parseMethodDescriptor yX3_dueAfter.desc).map (fun d => d.parameters.length) = some 2 := by decide +kernel
set_option maxHeartbeats 4000000 in
set_option maxRecDepth 100000 in
theorem c_X3_dueAfter (l : Launch) (G : zG) (μ : zM) (n : Nat) (f : Nat → Int32) (hk : zk n = 6) (hf : μ n = f) (a : Int32) (b : Int32) : zMet l G yX3_dueAfter cX3_dueAfter 4 (some .int) 3 56 [.ref (G.1 + n), .int a, .int b] μ (zQi G (s_X3_dueAfter f a b) μ) := by
  refine z_start (lv := [(0, .ref (G.1 + n)), (1, .int a), (2, .int b)]) (by decide) (Nat.le_of_ble_eq_true rfl) rfl ?_
  intro p e s m args below meth c ls hx hb hml hr hlk hts hown hK hZ hS hl
  have hown : s.vm.findClass RX3 = some m.cls := hown
  refine lv_aload_n hx hb dX3_dueAfter_0 rfl (lv_at hl 0 rfl) ?_
  refine lv_iload_n hx hb dX3_dueAfter_1 rfl (lv_at hl 1 rfl) ?_
  refine lv_iload_n hx hb dX3_dueAfter_2 rfl (lv_at hl 2 rfl) ?_
  refine z_cVi (As := [.int a, .int b]) (rest := []) hx hb hml hown hts hl hK hZ hS (c_X3_damageAfter l G μ n f hk hf a b) (z_G q494 q416 q417 q5 q418) hdX3_damageAfter ⟨Nat.le_of_ble_eq_true rfl, Nat.le_of_ble_eq_true rfl⟩ hk (by decide) rfl rfl rfl rfl (Nat.le_of_ble_eq_true rfl) dX3_dueAfter_3 ⟨(Nat.zero_le _), (Nat.zero_le _)⟩ (fun H locs hZ hS => ?_)
  refine lv_i2f hx hb dX3_dueAfter_6 ?_
  refine lv_ldcf hx hb hown (hts _ q495) dX3_dueAfter_7 ?_
  refine lv_fdiv hx hb dX3_dueAfter_9 ((fk_div (fk_i2f _) fk_100.1 fk_100.2 (by decide) (by decide)).n (by decide)) ?_
  refine lv_fstore_n (lv' := [(3, .float (FP.fdiv (FP.i2f (s_X3_damageAfter f a b)) 1120403456)), (0, .ref (G.1 + n)), (1, .int a), (2, .int b)]) hx hb dX3_dueAfter_10 rfl hl (by decide) rfl (fun ls hl => ?_)
  refine lv_aload_n hx hb dX3_dueAfter_11 rfl (lv_at hl 1 rfl) ?_
  refine z_g6 (f := f) (v := .int (f 1)) 1 hx hb hts hown hK hZ hk hf (by decide) q102 rfl dX3_dueAfter_12 ?_
  refine lv_i2f hx hb dX3_dueAfter_15 ?_
  refine lv_aload_n hx hb dX3_dueAfter_16 rfl (lv_at hl 1 rfl) ?_
  refine lv_iload_n hx hb dX3_dueAfter_17 rfl (lv_at hl 2 rfl) ?_
  refine z_cVf (As := [.int a]) (rest := [.float (FP.i2f (f 1))]) hx hb hml hown hts hl hK hZ hS (c_X3_restAfter l G μ n f hk hf a) (z_G q496 q497 q498 q5 q499) hdX3_restAfter ⟨Nat.le_of_ble_eq_true rfl, Nat.le_of_ble_eq_true rfl⟩ hk (by decide) rfl rfl rfl rfl (Nat.le_of_ble_eq_true rfl) dX3_dueAfter_18 ⟨(Nat.zero_le _), (Nat.zero_le _)⟩ (fun H locs hZ hS => ?_)
  refine lv_fmul hx hb dX3_dueAfter_21 ((fk_mul (fk_i2f _) (fk_rest _ _) (by decide) (by decide)).n (by decide)) ?_
  refine lv_fload_n hx hb dX3_dueAfter_22 rfl (lv_at hl 0 rfl) ?_
  refine lv_fmul hx hb dX3_dueAfter_23 ((fk_mul (fk_mul (fk_i2f _) (fk_rest _ _) (by decide) (by decide)) (fk_div (fk_i2f _) fk_100.1 fk_100.2 (by decide) (by decide)) (by decide) (by decide)).n (by decide)) ?_
  refine lv_f2i hx hb dX3_dueAfter_24 ?_
  exact z_iret hx hb hr hlk hK hZ hS ⟨by rw [s_X3_dueAfter], rfl⟩ dX3_dueAfter_25
def s_X3_landlordWeight (f : Nat → Int32)  : UInt32 := if ((f 9) + (f 10)) ≤ 0 then 1056964608
  else (FP.fdiv (FP.i2f (f 9)) (FP.i2f ((f 9) + (f 10))))
theorem hdX3_landlordWeight : yX3_landlordWeight.cls = RX3 ∧ yX3_landlordWeight.cls ≠ "java/lang/invoke/MethodHandle" ∧ yX3_landlordWeight.cls ≠ "java/lang/invoke/VarHandle" ∧ (parseMethodDescriptor yX3_landlordWeight.desc).map (fun d => d.parameters.length) = some 0 := by decide +kernel
set_option maxHeartbeats 4000000 in
set_option maxRecDepth 100000 in
theorem c_X3_landlordWeight (l : Launch) (G : zG) (μ : zM) (n : Nat) (f : Nat → Int32) (hk : zk n = 6) (hf : μ n = f)  : zMet l G yX3_landlordWeight cX3_landlordWeight 2 (some .float) 0 0 [.ref (G.1 + n)] μ (zQf G (s_X3_landlordWeight f) μ) := by
  refine z_start (lv := [(0, .ref (G.1 + n))]) (by decide) (Nat.le_of_ble_eq_true rfl) rfl ?_
  intro p e s m args below meth c ls hx hb hml hr hlk hts hown hK hZ hS hl
  have hown : s.vm.findClass RX3 = some m.cls := hown
  refine lv_aload_n hx hb dX3_landlordWeight_0 rfl (lv_at hl 0 rfl) ?_
  refine z_g6 (f := f) (v := .int (f 9)) 9 hx hb hts hown hK hZ hk hf (by decide) q119 rfl dX3_landlordWeight_1 ?_
  refine lv_aload_n hx hb dX3_landlordWeight_4 rfl (lv_at hl 0 rfl) ?_
  refine z_g6 (f := f) (v := .int (f 10)) 10 hx hb hts hown hK hZ hk hf (by decide) q121 rfl dX3_landlordWeight_5 ?_
  refine lv_iadd hx hb dX3_landlordWeight_8 ?_
  refine lv_istore_n (lv' := [(1, .int ((f 9) + (f 10))), (0, .ref (G.1 + n))]) hx hb dX3_landlordWeight_9 rfl hl (by decide) rfl (fun ls hl => ?_)
  refine lv_iload_n hx hb dX3_landlordWeight_10 rfl (lv_at hl 0 rfl) ?_
  refine lv_if_le (tgt := 25) hx hb dX3_landlordWeight_11 (by decide) (fun c_1 => ?_) (fun c_1 => ?_)
  · refine lv_ldcf hx hb hown (hts _ q353) dX3_landlordWeight_25 ?_
    exact z_fret hx hb hr hlk hK hZ hS ⟨by rw [s_X3_landlordWeight, if_pos c_1], rfl⟩ dX3_landlordWeight_27
  · refine lv_aload_n hx hb dX3_landlordWeight_14 rfl (lv_at hl 1 rfl) ?_
    refine z_g6 (f := f) (v := .int (f 9)) 9 hx hb hts hown hK hZ hk hf (by decide) q119 rfl dX3_landlordWeight_15 ?_
    refine lv_i2f hx hb dX3_landlordWeight_18 ?_
    refine lv_iload_n hx hb dX3_landlordWeight_19 rfl (lv_at hl 0 rfl) ?_
    refine lv_i2f hx hb dX3_landlordWeight_20 ?_
    refine lv_fdiv hx hb dX3_landlordWeight_21 ((fk_divi (fk_i2f _) (by decide) (z_ne1 c_1)).n (by decide)) ?_
    refine lv_goto (tgt := 27) hx hb dX3_landlordWeight_22 (by decide) ?_
    exact z_fret hx hb hr hlk hK hZ hS ⟨by rw [s_X3_landlordWeight, if_neg c_1], rfl⟩ dX3_landlordWeight_27
theorem fk_weight (f : Nat → Int32) : fK 161 (s_X3_landlordWeight f) := by
  unfold s_X3_landlordWeight
  split
  · exact fk_half
  · next h => exact fk_divi (fk_i2f _) (by decide) (z_ne1 h)
def s_X3_award (f : Nat → Int32)  : Int32 := if (f 8) = 2 then if (f 6) < (f 7) then ((f 6) + (FP.f2i (FP.fmul (FP.i2f ((f 7) - (f 6))) (s_X3_landlordWeight f))))
    else (f 7)
  else (f 7)
theorem hdX3_award : yX3_award.cls = RX3 ∧ yX3_award.cls ≠ "java/lang/invoke/MethodHandle" ∧ yX3_award.cls ≠ "java/lang/invoke/VarHandle" ∧ (parseMethodDescriptor yX3_award.desc).map (fun d => d.parameters.length) = some 0 := by decide +kernel
set_option maxHeartbeats 4000000 in
set_option maxRecDepth 100000 in
theorem c_X3_award (l : Launch) (G : zG) (μ : zM) (n : Nat) (f : Nat → Int32) (hk : zk n = 6) (hf : μ n = f)  : zMet l G yX3_award cX3_award 1 (some .int) 1 21 [.ref (G.1 + n)] μ (zQi G (s_X3_award f) μ) := by
  refine z_start (lv := [(0, .ref (G.1 + n))]) (by decide) (Nat.le_of_ble_eq_true rfl) rfl ?_
  intro p e s m args below meth c ls hx hb hml hr hlk hts hown hK hZ hS hl
  have hown : s.vm.findClass RX3 = some m.cls := hown
  refine lv_aload_n hx hb dX3_award_0 rfl (lv_at hl 0 rfl) ?_
  refine z_g6 (f := f) (v := .int (f 8)) 8 hx hb hts hown hK hZ hk hf (by decide) q116 rfl dX3_award_1 ?_
  refine lv_iconst (v := 2) hx hb dX3_award_4 (by decide) ?_
  refine lv_icmp_ne (tgt := 19) hx hb dX3_award_5 (by decide) (fun c_1 => ?_) (fun c_1 => ?_)
  · refine lv_aload_n hx hb dX3_award_19 rfl (lv_at hl 0 rfl) ?_
    refine z_g6 (f := f) (v := .int (f 7)) 7 hx hb hts hown hK hZ hk hf (by decide) q113 rfl dX3_award_20 ?_
    exact z_iret hx hb hr hlk hK hZ hS ⟨by rw [s_X3_award, if_neg c_1], rfl⟩ dX3_award_23
  · refine lv_aload_n hx hb dX3_award_8 rfl (lv_at hl 0 rfl) ?_
    refine z_g6 (f := f) (v := .int (f 7)) 7 hx hb hts hown hK hZ hk hf (by decide) q113 rfl dX3_award_9 ?_
    refine lv_aload_n hx hb dX3_award_12 rfl (lv_at hl 0 rfl) ?_
    refine z_g6 (f := f) (v := .int (f 6)) 6 hx hb hts hown hK hZ hk hf (by decide) q110 rfl dX3_award_13 ?_
    refine lv_icmp_gt (tgt := 24) hx hb dX3_award_16 (by decide) (fun c_2 => ?_) (fun c_2 => ?_)
    · refine lv_aload_n hx hb dX3_award_24 rfl (lv_at hl 0 rfl) ?_
      refine z_g6 (f := f) (v := .int (f 6)) 6 hx hb hts hown hK hZ hk hf (by decide) q110 rfl dX3_award_25 ?_
      refine lv_aload_n hx hb dX3_award_28 rfl (lv_at hl 0 rfl) ?_
      refine z_g6 (f := f) (v := .int (f 7)) 7 hx hb hts hown hK hZ hk hf (by decide) q113 rfl dX3_award_29 ?_
      refine lv_aload_n hx hb dX3_award_32 rfl (lv_at hl 0 rfl) ?_
      refine z_g6 (f := f) (v := .int (f 6)) 6 hx hb hts hown hK hZ hk hf (by decide) q110 rfl dX3_award_33 ?_
      refine lv_isub hx hb dX3_award_36 ?_
      refine lv_i2f hx hb dX3_award_37 ?_
      refine lv_aload_n hx hb dX3_award_38 rfl (lv_at hl 0 rfl) ?_
      refine z_cVf (As := []) (rest := [.float (FP.i2f ((f 7) - (f 6))), .int (f 6)]) hx hb hml hown hts hl hK hZ hS (c_X3_landlordWeight l G μ n f hk hf ) (z_G q349 q350 q351 q5 q352) hdX3_landlordWeight ⟨Nat.le_of_ble_eq_true rfl, Nat.le_of_ble_eq_true rfl⟩ hk (by decide) rfl rfl rfl rfl (Nat.le_of_ble_eq_true rfl) dX3_award_39 ⟨(Nat.zero_le _), (Nat.zero_le _)⟩ (fun H locs hZ hS => ?_)
      refine lv_fmul hx hb dX3_award_42 ((fk_mul (fk_i2f _) (fk_weight _) (by decide) (by decide)).n (by decide)) ?_
      refine lv_f2i hx hb dX3_award_43 ?_
      refine lv_iadd hx hb dX3_award_44 ?_
      exact z_iret hx hb hr hlk hK hZ hS ⟨by rw [s_X3_award, if_pos c_1, if_pos c_2], rfl⟩ dX3_award_45
    · refine lv_aload_n hx hb dX3_award_19 rfl (lv_at hl 0 rfl) ?_
      refine z_g6 (f := f) (v := .int (f 7)) 7 hx hb hts hown hK hZ hk hf (by decide) q113 rfl dX3_award_20 ?_
      exact z_iret hx hb hr hlk hK hZ hS ⟨by rw [s_X3_award, if_pos c_1, if_neg c_2], rfl⟩ dX3_award_23
def w_X3_tellEnd (f : Nat → Int32) (a : Int32) (b : Int32) : Nat → Int32 := (zu (zu f 5 b) 6 (s_X3_dueAfter (zu f 5 b) a b))
theorem hdX3_tellEnd : yX3_tellEnd.cls = RX3 ∧ yX3_tellEnd.cls ≠ "java/lang/invoke/MethodHandle" ∧ yX3_tellEnd.cls ≠ "java/lang/invoke/VarHandle" ∧ (parseMethodDescriptor yX3_tellEnd.desc).map (fun d => d.parameters.length) = some 2 := by decide +kernel
set_option maxHeartbeats 4000000 in
set_option maxRecDepth 100000 in
theorem c_X3_tellEnd (l : Launch) (G : zG) (μ : zM) (n : Nat) (f : Nat → Int32) (hk : zk n = 6) (hf : μ n = f) (a : Int32) (b : Int32) : zMet l G yX3_tellEnd cX3_tellEnd 3 none 4 79 [.ref (G.1 + n), .int a, .int b] μ (zQv G (zr μ n (w_X3_tellEnd f a b))) := by
  refine z_start (lv := [(0, .ref (G.1 + n)), (1, .int a), (2, .int b)]) (by decide) (Nat.le_of_ble_eq_true rfl) rfl ?_
  intro p e s m args below meth c ls hx hb hml hr hlk hts hown hK hZ hS hl
  have hown : s.vm.findClass RX3 = some m.cls := hown
  refine lv_aload_n hx hb dX3_tellEnd_0 rfl (lv_at hl 0 rfl) ?_
  refine lv_iload_n hx hb dX3_tellEnd_1 rfl (lv_at hl 2 rfl) ?_
  refine z_p6 (f := f) (μ1 := (zr μ n (zu f 5 b))) 5 hx hb hts hown hK hZ hS hk hf (by decide) q108 rfl pfd_I rfl rfl dX3_tellEnd_2 (fun H locs hZ hS => ?_)
  refine lv_aload_n hx hb dX3_tellEnd_5 rfl (lv_at hl 0 rfl) ?_
  refine lv_aload_n hx hb dX3_tellEnd_6 rfl (lv_at hl 0 rfl) ?_
  refine lv_iload_n hx hb dX3_tellEnd_7 rfl (lv_at hl 1 rfl) ?_
  refine lv_iload_n hx hb dX3_tellEnd_8 rfl (lv_at hl 2 rfl) ?_
  refine z_cVi (As := [.int a, .int b]) (rest := [.ref (G.1 + n)]) hx hb hml hown hts hl hK hZ hS (c_X3_dueAfter l G (zr μ n (zu f 5 b)) n (zu f 5 b) hk zr_same a b) (z_G q490 q491 q492 q5 q493) hdX3_dueAfter ⟨Nat.le_of_ble_eq_true rfl, Nat.le_of_ble_eq_true rfl⟩ hk (by decide) rfl rfl rfl rfl (Nat.le_of_ble_eq_true rfl) dX3_tellEnd_9 ⟨(Nat.zero_le _), (Nat.zero_le _)⟩ (fun H locs hZ hS => ?_)
  refine z_p6 (f := (zu f 5 b)) (μ1 := (zr μ n (zu (zu f 5 b) 6 (s_X3_dueAfter (zu f 5 b) a b)))) 6 hx hb hts hown hK hZ hS hk zr_same (by decide) q110 rfl pfd_I rfl zr_zr dX3_tellEnd_12 (fun H locs hZ hS => ?_)
  exact z_vret hx hb hr hlk hK hZ hS (by rw [w_X3_tellEnd]) dX3_tellEnd_15
theorem hdX3_copyFrom : yX3_copyFrom.cls = RX3 ∧ yX3_copyFrom.cls ≠ "java/lang/invoke/MethodHandle" ∧ yX3_copyFrom.cls ≠ "java/lang/invoke/VarHandle" ∧ (parseMethodDescriptor yX3_copyFrom.desc).map (fun d => d.parameters.length) = some 1 := by decide +kernel
set_option maxHeartbeats 4000000 in
set_option maxRecDepth 100000 in
theorem c_X3_copyFrom (l : Launch) (G : zG) (μ : zM) (n : Nat) (f : Nat → Int32) (hk : zk n = 6) (hf : μ n = f) (o2 : Nat) (f2 : Nat → Int32) (hkm : zk o2 = 6) (hfm : μ o2 = f2) (hne : o2 ≠ n) : zMet l G yX3_copyFrom cX3_copyFrom 2 none 0 0 [.ref (G.1 + n), .ref (G.1 + o2)] μ (zQv G (zr μ n f2)) := by
  refine z_start (lv := [(0, .ref (G.1 + n)), (1, .ref (G.1 + o2))]) (by decide) (Nat.le_of_ble_eq_true rfl) rfl ?_
  intro p e s m args below meth c ls hx hb hml hr hlk hts hown hK hZ hS hl
  have hown : s.vm.findClass RX3 = some m.cls := hown
  refine lv_aload_n hx hb dX3_copyFrom_0 rfl (lv_at hl 0 rfl) ?_
  refine lv_aload_n hx hb dX3_copyFrom_1 rfl (lv_at hl 1 rfl) ?_
  refine z_g6 (f := f2) (v := .int (f2 0)) 0 hx hb hts hown hK hZ hkm hfm (by decide) q99 rfl dX3_copyFrom_2 ?_
  refine z_p6 (f := f) (μ1 := (zr μ n (zu f 0 (f2 0)))) 0 hx hb hts hown hK hZ hS hk hf (by decide) q99 rfl pfd_I rfl rfl dX3_copyFrom_5 (fun H locs hZ hS => ?_)
  refine lv_aload_n hx hb dX3_copyFrom_8 rfl (lv_at hl 0 rfl) ?_
  refine lv_aload_n hx hb dX3_copyFrom_9 rfl (lv_at hl 1 rfl) ?_
  refine z_g6 (f := f2) (v := .int (f2 1)) 1 hx hb hts hown hK hZ hkm (zr_at hfm hne) (by decide) q102 rfl dX3_copyFrom_10 ?_
  refine z_p6 (f := (zu f 0 (f2 0))) (μ1 := (zr μ n (zu (zu f 0 (f2 0)) 1 (f2 1)))) 1 hx hb hts hown hK hZ hS hk zr_same (by decide) q102 rfl pfd_I rfl zr_zr dX3_copyFrom_13 (fun H locs hZ hS => ?_)
  refine lv_aload_n hx hb dX3_copyFrom_16 rfl (lv_at hl 0 rfl) ?_
  refine lv_aload_n hx hb dX3_copyFrom_17 rfl (lv_at hl 1 rfl) ?_
  refine z_g6 (f := f2) (v := .int (f2 2)) 2 hx hb hts hown hK hZ hkm (zr_at hfm hne) (by decide) q104 rfl dX3_copyFrom_18 ?_
  refine z_p6 (f := (zu (zu f 0 (f2 0)) 1 (f2 1))) (μ1 := (zr μ n (zu (zu (zu f 0 (f2 0)) 1 (f2 1)) 2 (f2 2)))) 2 hx hb hts hown hK hZ hS hk zr_same (by decide) q104 rfl pfd_I rfl zr_zr dX3_copyFrom_21 (fun H locs hZ hS => ?_)
  refine lv_aload_n hx hb dX3_copyFrom_24 rfl (lv_at hl 0 rfl) ?_
  refine lv_aload_n hx hb dX3_copyFrom_25 rfl (lv_at hl 1 rfl) ?_
  refine z_g6 (f := f2) (v := .int (f2 3)) 3 hx hb hts hown hK hZ hkm (zr_at hfm hne) (by decide) q105 rfl dX3_copyFrom_26 ?_
  refine z_p6 (f := (zu (zu (zu f 0 (f2 0)) 1 (f2 1)) 2 (f2 2))) (μ1 := (zr μ n (zu (zu (zu (zu f 0 (f2 0)) 1 (f2 1)) 2 (f2 2)) 3 (f2 3)))) 3 hx hb hts hown hK hZ hS hk zr_same (by decide) q105 rfl pfd_I rfl zr_zr dX3_copyFrom_29 (fun H locs hZ hS => ?_)
  refine lv_aload_n hx hb dX3_copyFrom_32 rfl (lv_at hl 0 rfl) ?_
  refine lv_aload_n hx hb dX3_copyFrom_33 rfl (lv_at hl 1 rfl) ?_
  refine z_g6 (f := f2) (v := .int (f2 4)) 4 hx hb hts hown hK hZ hkm (zr_at hfm hne) (by decide) q106 rfl dX3_copyFrom_34 ?_
  refine z_p6 (f := (zu (zu (zu (zu f 0 (f2 0)) 1 (f2 1)) 2 (f2 2)) 3 (f2 3))) (μ1 := (zr μ n (zu (zu (zu (zu (zu f 0 (f2 0)) 1 (f2 1)) 2 (f2 2)) 3 (f2 3)) 4 (f2 4)))) 4 hx hb hts hown hK hZ hS hk zr_same (by decide) q106 rfl pfd_I rfl zr_zr dX3_copyFrom_37 (fun H locs hZ hS => ?_)
  refine lv_aload_n hx hb dX3_copyFrom_40 rfl (lv_at hl 0 rfl) ?_
  refine lv_aload_n hx hb dX3_copyFrom_41 rfl (lv_at hl 1 rfl) ?_
  refine z_g6 (f := f2) (v := .int (f2 5)) 5 hx hb hts hown hK hZ hkm (zr_at hfm hne) (by decide) q108 rfl dX3_copyFrom_42 ?_
  refine z_p6 (f := (zu (zu (zu (zu (zu f 0 (f2 0)) 1 (f2 1)) 2 (f2 2)) 3 (f2 3)) 4 (f2 4))) (μ1 := (zr μ n (zu (zu (zu (zu (zu (zu f 0 (f2 0)) 1 (f2 1)) 2 (f2 2)) 3 (f2 3)) 4 (f2 4)) 5 (f2 5)))) 5 hx hb hts hown hK hZ hS hk zr_same (by decide) q108 rfl pfd_I rfl zr_zr dX3_copyFrom_45 (fun H locs hZ hS => ?_)
  refine lv_aload_n hx hb dX3_copyFrom_48 rfl (lv_at hl 0 rfl) ?_
  refine lv_aload_n hx hb dX3_copyFrom_49 rfl (lv_at hl 1 rfl) ?_
  refine z_g6 (f := f2) (v := .int (f2 6)) 6 hx hb hts hown hK hZ hkm (zr_at hfm hne) (by decide) q110 rfl dX3_copyFrom_50 ?_
  refine z_p6 (f := (zu (zu (zu (zu (zu (zu f 0 (f2 0)) 1 (f2 1)) 2 (f2 2)) 3 (f2 3)) 4 (f2 4)) 5 (f2 5))) (μ1 := (zr μ n (zu (zu (zu (zu (zu (zu (zu f 0 (f2 0)) 1 (f2 1)) 2 (f2 2)) 3 (f2 3)) 4 (f2 4)) 5 (f2 5)) 6 (f2 6)))) 6 hx hb hts hown hK hZ hS hk zr_same (by decide) q110 rfl pfd_I rfl zr_zr dX3_copyFrom_53 (fun H locs hZ hS => ?_)
  refine lv_aload_n hx hb dX3_copyFrom_56 rfl (lv_at hl 0 rfl) ?_
  refine lv_aload_n hx hb dX3_copyFrom_57 rfl (lv_at hl 1 rfl) ?_
  refine z_g6 (f := f2) (v := .int (f2 7)) 7 hx hb hts hown hK hZ hkm (zr_at hfm hne) (by decide) q113 rfl dX3_copyFrom_58 ?_
  refine z_p6 (f := (zu (zu (zu (zu (zu (zu (zu f 0 (f2 0)) 1 (f2 1)) 2 (f2 2)) 3 (f2 3)) 4 (f2 4)) 5 (f2 5)) 6 (f2 6))) (μ1 := (zr μ n (zu (zu (zu (zu (zu (zu (zu (zu f 0 (f2 0)) 1 (f2 1)) 2 (f2 2)) 3 (f2 3)) 4 (f2 4)) 5 (f2 5)) 6 (f2 6)) 7 (f2 7)))) 7 hx hb hts hown hK hZ hS hk zr_same (by decide) q113 rfl pfd_I rfl zr_zr dX3_copyFrom_61 (fun H locs hZ hS => ?_)
  refine lv_aload_n hx hb dX3_copyFrom_64 rfl (lv_at hl 0 rfl) ?_
  refine lv_aload_n hx hb dX3_copyFrom_65 rfl (lv_at hl 1 rfl) ?_
  refine z_g6 (f := f2) (v := .int (f2 8)) 8 hx hb hts hown hK hZ hkm (zr_at hfm hne) (by decide) q116 rfl dX3_copyFrom_66 ?_
  refine z_p6 (f := (zu (zu (zu (zu (zu (zu (zu (zu f 0 (f2 0)) 1 (f2 1)) 2 (f2 2)) 3 (f2 3)) 4 (f2 4)) 5 (f2 5)) 6 (f2 6)) 7 (f2 7))) (μ1 := (zr μ n (zu (zu (zu (zu (zu (zu (zu (zu (zu f 0 (f2 0)) 1 (f2 1)) 2 (f2 2)) 3 (f2 3)) 4 (f2 4)) 5 (f2 5)) 6 (f2 6)) 7 (f2 7)) 8 (f2 8)))) 8 hx hb hts hown hK hZ hS hk zr_same (by decide) q116 rfl pfd_I rfl zr_zr dX3_copyFrom_69 (fun H locs hZ hS => ?_)
  refine lv_aload_n hx hb dX3_copyFrom_72 rfl (lv_at hl 0 rfl) ?_
  refine lv_aload_n hx hb dX3_copyFrom_73 rfl (lv_at hl 1 rfl) ?_
  refine z_g6 (f := f2) (v := .int (f2 9)) 9 hx hb hts hown hK hZ hkm (zr_at hfm hne) (by decide) q119 rfl dX3_copyFrom_74 ?_
  refine z_p6 (f := (zu (zu (zu (zu (zu (zu (zu (zu (zu f 0 (f2 0)) 1 (f2 1)) 2 (f2 2)) 3 (f2 3)) 4 (f2 4)) 5 (f2 5)) 6 (f2 6)) 7 (f2 7)) 8 (f2 8))) (μ1 := (zr μ n (zu (zu (zu (zu (zu (zu (zu (zu (zu (zu f 0 (f2 0)) 1 (f2 1)) 2 (f2 2)) 3 (f2 3)) 4 (f2 4)) 5 (f2 5)) 6 (f2 6)) 7 (f2 7)) 8 (f2 8)) 9 (f2 9)))) 9 hx hb hts hown hK hZ hS hk zr_same (by decide) q119 rfl pfd_I rfl zr_zr dX3_copyFrom_77 (fun H locs hZ hS => ?_)
  refine lv_aload_n hx hb dX3_copyFrom_80 rfl (lv_at hl 0 rfl) ?_
  refine lv_aload_n hx hb dX3_copyFrom_81 rfl (lv_at hl 1 rfl) ?_
  refine z_g6 (f := f2) (v := .int (f2 10)) 10 hx hb hts hown hK hZ hkm (zr_at hfm hne) (by decide) q121 rfl dX3_copyFrom_82 ?_
  refine z_p6 (f := (zu (zu (zu (zu (zu (zu (zu (zu (zu (zu f 0 (f2 0)) 1 (f2 1)) 2 (f2 2)) 3 (f2 3)) 4 (f2 4)) 5 (f2 5)) 6 (f2 6)) 7 (f2 7)) 8 (f2 8)) 9 (f2 9))) (μ1 := (zr μ n (zu (zu (zu (zu (zu (zu (zu (zu (zu (zu (zu f 0 (f2 0)) 1 (f2 1)) 2 (f2 2)) 3 (f2 3)) 4 (f2 4)) 5 (f2 5)) 6 (f2 6)) 7 (f2 7)) 8 (f2 8)) 9 (f2 9)) 10 (f2 10)))) 10 hx hb hts hown hK hZ hS hk zr_same (by decide) q121 rfl pfd_I rfl zr_zr dX3_copyFrom_85 (fun H locs hZ hS => ?_)
  exact z_vret hx hb hr hlk hK (hZ.re (g := f2) hk (zE6_eq rfl)) hS rfl dX3_copyFrom_88
theorem hdX4_copyFrom : yX4_copyFrom.cls = RX4 ∧ yX4_copyFrom.cls ≠ "java/lang/invoke/MethodHandle" ∧ yX4_copyFrom.cls ≠ "java/lang/invoke/VarHandle" ∧ (parseMethodDescriptor yX4_copyFrom.desc).map (fun d => d.parameters.length) = some 1 := by decide +kernel
set_option maxHeartbeats 4000000 in
set_option maxRecDepth 100000 in
theorem c_X4_copyFrom (l : Launch) (G : zG) (μ : zM) (n : Nat) (f : Nat → Int32) (hk : zk n = 5) (hf : μ n = f) (o2 : Nat) (f2 : Nat → Int32) (hkm : zk o2 = 5) (hfm : μ o2 = f2) (hne : o2 ≠ n) : zMet l G yX4_copyFrom cX4_copyFrom 2 none 0 0 [.ref (G.1 + n), .ref (G.1 + o2)] μ (zQv G (zr μ n f2)) := by
  refine z_start (lv := [(0, .ref (G.1 + n)), (1, .ref (G.1 + o2))]) (by decide) (Nat.le_of_ble_eq_true rfl) rfl ?_
  intro p e s m args below meth c ls hx hb hml hr hlk hts hown hK hZ hS hl
  have hown : s.vm.findClass RX4 = some m.cls := hown
  refine lv_aload_n hx hb dX4_copyFrom_0 rfl (lv_at hl 0 rfl) ?_
  refine lv_aload_n hx hb dX4_copyFrom_1 rfl (lv_at hl 1 rfl) ?_
  refine z_g5 (f := f2) (v := .int (f2 0)) 0 hx hb hts hown hK hZ hkm hfm (by decide) q39 rfl dX4_copyFrom_2 ?_
  refine z_p5 (f := f) (μ1 := (zr μ n (zu f 0 (f2 0)))) 0 hx hb hts hown hK hZ hS hk hf (by decide) q39 rfl pfd_I rfl rfl dX4_copyFrom_5 (fun H locs hZ hS => ?_)
  refine lv_aload_n hx hb dX4_copyFrom_8 rfl (lv_at hl 0 rfl) ?_
  refine lv_aload_n hx hb dX4_copyFrom_9 rfl (lv_at hl 1 rfl) ?_
  refine z_g5 (f := f2) (v := .int (f2 1)) 1 hx hb hts hown hK hZ hkm (zr_at hfm hne) (by decide) q40 rfl dX4_copyFrom_10 ?_
  refine z_p5 (f := (zu f 0 (f2 0))) (μ1 := (zr μ n (zu (zu f 0 (f2 0)) 1 (f2 1)))) 1 hx hb hts hown hK hZ hS hk zr_same (by decide) q40 rfl pfd_I rfl zr_zr dX4_copyFrom_13 (fun H locs hZ hS => ?_)
  refine lv_aload_n hx hb dX4_copyFrom_16 rfl (lv_at hl 0 rfl) ?_
  refine lv_aload_n hx hb dX4_copyFrom_17 rfl (lv_at hl 1 rfl) ?_
  refine z_g5 (f := f2) (v := .int (f2 2)) 2 hx hb hts hown hK hZ hkm (zr_at hfm hne) (by decide) q42 rfl dX4_copyFrom_18 ?_
  refine z_p5 (f := (zu (zu f 0 (f2 0)) 1 (f2 1))) (μ1 := (zr μ n (zu (zu (zu f 0 (f2 0)) 1 (f2 1)) 2 (f2 2)))) 2 hx hb hts hown hK hZ hS hk zr_same (by decide) q42 rfl pfd_I rfl zr_zr dX4_copyFrom_21 (fun H locs hZ hS => ?_)
  refine lv_aload_n hx hb dX4_copyFrom_24 rfl (lv_at hl 0 rfl) ?_
  refine lv_aload_n hx hb dX4_copyFrom_25 rfl (lv_at hl 1 rfl) ?_
  refine z_g5 (f := f2) (v := .int (f2 3)) 3 hx hb hts hown hK hZ hkm (zr_at hfm hne) (by decide) q43 rfl dX4_copyFrom_26 ?_
  refine z_p5 (f := (zu (zu (zu f 0 (f2 0)) 1 (f2 1)) 2 (f2 2))) (μ1 := (zr μ n (zu (zu (zu (zu f 0 (f2 0)) 1 (f2 1)) 2 (f2 2)) 3 (f2 3)))) 3 hx hb hts hown hK hZ hS hk zr_same (by decide) q43 rfl pfd_I rfl zr_zr dX4_copyFrom_29 (fun H locs hZ hS => ?_)
  refine lv_aload_n hx hb dX4_copyFrom_32 rfl (lv_at hl 0 rfl) ?_
  refine lv_aload_n hx hb dX4_copyFrom_33 rfl (lv_at hl 1 rfl) ?_
  refine z_g5 (f := f2) (v := .int (f2 4)) 4 hx hb hts hown hK hZ hkm (zr_at hfm hne) (by decide) q44 rfl dX4_copyFrom_34 ?_
  refine z_p5 (f := (zu (zu (zu (zu f 0 (f2 0)) 1 (f2 1)) 2 (f2 2)) 3 (f2 3))) (μ1 := (zr μ n (zu (zu (zu (zu (zu f 0 (f2 0)) 1 (f2 1)) 2 (f2 2)) 3 (f2 3)) 4 (f2 4)))) 4 hx hb hts hown hK hZ hS hk zr_same (by decide) q44 rfl pfd_I rfl zr_zr dX4_copyFrom_37 (fun H locs hZ hS => ?_)
  refine lv_aload_n hx hb dX4_copyFrom_40 rfl (lv_at hl 0 rfl) ?_
  refine lv_aload_n hx hb dX4_copyFrom_41 rfl (lv_at hl 1 rfl) ?_
  refine z_g5 (f := f2) (v := .int (f2 5)) 5 hx hb hts hown hK hZ hkm (zr_at hfm hne) (by decide) q45 rfl dX4_copyFrom_42 ?_
  refine z_p5 (f := (zu (zu (zu (zu (zu f 0 (f2 0)) 1 (f2 1)) 2 (f2 2)) 3 (f2 3)) 4 (f2 4))) (μ1 := (zr μ n (zu (zu (zu (zu (zu (zu f 0 (f2 0)) 1 (f2 1)) 2 (f2 2)) 3 (f2 3)) 4 (f2 4)) 5 (f2 5)))) 5 hx hb hts hown hK hZ hS hk zr_same (by decide) q45 rfl pfd_I rfl zr_zr dX4_copyFrom_45 (fun H locs hZ hS => ?_)
  exact z_vret hx hb hr hlk hK (hZ.re (g := f2) hk (zE5_eq rfl)) hS rfl dX4_copyFrom_48
def w_X3_start (a b x y z : Int32) : Nat → Int32 := fun k => match k with
  | 0 => a
  | 1 => b
  | 2 => x
  | 3 => y
  | 4 => z
  | _ => 0
theorem hdX3_start : yX3_start.cls = RX3 ∧ yX3_start.cls ≠ "java/lang/invoke/MethodHandle" ∧ yX3_start.cls ≠ "java/lang/invoke/VarHandle" ∧ (parseMethodDescriptor yX3_start.desc).map (fun d => d.parameters.length) = some 5 := by decide +kernel
set_option maxHeartbeats 4000000 in
set_option maxRecDepth 100000 in
theorem c_X3_start (l : Launch) (G : zG) (μ : zM) (n : Nat) (f : Nat → Int32) (hk : zk n = 6) (hf : μ n = f) (a b x y z : Int32) : zMet l G yX3_start cX3_start 6 none 0 0 [.ref (G.1 + n), .int a, .int b, .int x, .int y, .int z] μ (zQv G (zr μ n (w_X3_start a b x y z))) := by
  refine z_start (lv := [(0, .ref (G.1 + n)), (1, .int a), (2, .int b), (3, .int x), (4, .int y), (5, .int z)]) (by decide) (Nat.le_of_ble_eq_true rfl) rfl ?_
  intro p e s m args below meth c ls hx hb hml hr hlk hts hown hK hZ hS hl
  have hown : s.vm.findClass RX3 = some m.cls := hown
  refine lv_aload_n hx hb dX3_start_0 rfl (lv_at hl 0 rfl) ?_
  refine lv_iload_n hx hb dX3_start_1 rfl (lv_at hl 1 rfl) ?_
  refine z_p6 (f := f) (μ1 := (zr μ n (zu f 0 a))) 0 hx hb hts hown hK hZ hS hk hf (by decide) q99 rfl pfd_I rfl rfl dX3_start_2 (fun H locs hZ hS => ?_)
  refine lv_aload_n hx hb dX3_start_5 rfl (lv_at hl 0 rfl) ?_
  refine lv_iload_n hx hb dX3_start_6 rfl (lv_at hl 2 rfl) ?_
  refine z_p6 (f := (zu f 0 a)) (μ1 := (zr μ n (zu (zu f 0 a) 1 b))) 1 hx hb hts hown hK hZ hS hk zr_same (by decide) q102 rfl pfd_I rfl zr_zr dX3_start_7 (fun H locs hZ hS => ?_)
  refine lv_aload_n hx hb dX3_start_10 rfl (lv_at hl 0 rfl) ?_
  refine lv_iload_n hx hb dX3_start_11 rfl (lv_at hl 3 rfl) ?_
  refine z_p6 (f := (zu (zu f 0 a) 1 b)) (μ1 := (zr μ n (zu (zu (zu f 0 a) 1 b) 2 x))) 2 hx hb hts hown hK hZ hS hk zr_same (by decide) q104 rfl pfd_I rfl zr_zr dX3_start_12 (fun H locs hZ hS => ?_)
  refine lv_aload_n hx hb dX3_start_15 rfl (lv_at hl 0 rfl) ?_
  refine lv_iload hx hb dX3_start_16 (lv_at hl 4 rfl) ?_
  refine z_p6 (f := (zu (zu (zu f 0 a) 1 b) 2 x)) (μ1 := (zr μ n (zu (zu (zu (zu f 0 a) 1 b) 2 x) 3 y))) 3 hx hb hts hown hK hZ hS hk zr_same (by decide) q105 rfl pfd_I rfl zr_zr dX3_start_18 (fun H locs hZ hS => ?_)
  refine lv_aload_n hx hb dX3_start_21 rfl (lv_at hl 0 rfl) ?_
  refine lv_iload hx hb dX3_start_22 (lv_at hl 5 rfl) ?_
  refine z_p6 (f := (zu (zu (zu (zu f 0 a) 1 b) 2 x) 3 y)) (μ1 := (zr μ n (zu (zu (zu (zu (zu f 0 a) 1 b) 2 x) 3 y) 4 z))) 4 hx hb hts hown hK hZ hS hk zr_same (by decide) q106 rfl pfd_I rfl zr_zr dX3_start_24 (fun H locs hZ hS => ?_)
  refine lv_aload_n hx hb dX3_start_27 rfl (lv_at hl 0 rfl) ?_
  refine lv_iconst (v := 0) hx hb dX3_start_28 (by decide) ?_
  refine z_p6 (f := (zu (zu (zu (zu (zu f 0 a) 1 b) 2 x) 3 y) 4 z)) (μ1 := (zr μ n (zu (zu (zu (zu (zu (zu f 0 a) 1 b) 2 x) 3 y) 4 z) 5 0))) 5 hx hb hts hown hK hZ hS hk zr_same (by decide) q108 rfl pfd_I rfl zr_zr dX3_start_29 (fun H locs hZ hS => ?_)
  refine lv_aload_n hx hb dX3_start_32 rfl (lv_at hl 0 rfl) ?_
  refine lv_iconst (v := 0) hx hb dX3_start_33 (by decide) ?_
  refine z_p6 (f := (zu (zu (zu (zu (zu (zu f 0 a) 1 b) 2 x) 3 y) 4 z) 5 0)) (μ1 := (zr μ n (zu (zu (zu (zu (zu (zu (zu f 0 a) 1 b) 2 x) 3 y) 4 z) 5 0) 6 0))) 6 hx hb hts hown hK hZ hS hk zr_same (by decide) q110 rfl pfd_I rfl zr_zr dX3_start_34 (fun H locs hZ hS => ?_)
  refine lv_aload_n hx hb dX3_start_37 rfl (lv_at hl 0 rfl) ?_
  refine lv_iconst (v := 0) hx hb dX3_start_38 (by decide) ?_
  refine z_p6 (f := (zu (zu (zu (zu (zu (zu (zu f 0 a) 1 b) 2 x) 3 y) 4 z) 5 0) 6 0)) (μ1 := (zr μ n (zu (zu (zu (zu (zu (zu (zu (zu f 0 a) 1 b) 2 x) 3 y) 4 z) 5 0) 6 0) 7 0))) 7 hx hb hts hown hK hZ hS hk zr_same (by decide) q113 rfl pfd_I rfl zr_zr dX3_start_39 (fun H locs hZ hS => ?_)
  refine lv_aload_n hx hb dX3_start_42 rfl (lv_at hl 0 rfl) ?_
  refine lv_iconst (v := 0) hx hb dX3_start_43 (by decide) ?_
  refine z_p6 (f := (zu (zu (zu (zu (zu (zu (zu (zu f 0 a) 1 b) 2 x) 3 y) 4 z) 5 0) 6 0) 7 0)) (μ1 := (zr μ n (zu (zu (zu (zu (zu (zu (zu (zu (zu f 0 a) 1 b) 2 x) 3 y) 4 z) 5 0) 6 0) 7 0) 8 0))) 8 hx hb hts hown hK hZ hS hk zr_same (by decide) q116 rfl pfd_I rfl zr_zr dX3_start_44 (fun H locs hZ hS => ?_)
  refine lv_aload_n hx hb dX3_start_47 rfl (lv_at hl 0 rfl) ?_
  refine lv_iconst (v := 0) hx hb dX3_start_48 (by decide) ?_
  refine z_p6 (f := (zu (zu (zu (zu (zu (zu (zu (zu (zu f 0 a) 1 b) 2 x) 3 y) 4 z) 5 0) 6 0) 7 0) 8 0)) (μ1 := (zr μ n (zu (zu (zu (zu (zu (zu (zu (zu (zu (zu f 0 a) 1 b) 2 x) 3 y) 4 z) 5 0) 6 0) 7 0) 8 0) 9 0))) 9 hx hb hts hown hK hZ hS hk zr_same (by decide) q119 rfl pfd_I rfl zr_zr dX3_start_49 (fun H locs hZ hS => ?_)
  refine lv_aload_n hx hb dX3_start_52 rfl (lv_at hl 0 rfl) ?_
  refine lv_iconst (v := 0) hx hb dX3_start_53 (by decide) ?_
  refine z_p6 (f := (zu (zu (zu (zu (zu (zu (zu (zu (zu (zu f 0 a) 1 b) 2 x) 3 y) 4 z) 5 0) 6 0) 7 0) 8 0) 9 0)) (μ1 := (zr μ n (zu (zu (zu (zu (zu (zu (zu (zu (zu (zu (zu f 0 a) 1 b) 2 x) 3 y) 4 z) 5 0) 6 0) 7 0) 8 0) 9 0) 10 0))) 10 hx hb hts hown hK hZ hS hk zr_same (by decide) q121 rfl pfd_I rfl zr_zr dX3_start_54 (fun H locs hZ hS => ?_)
  exact z_vret hx hb hr hlk hK (hZ.re (g := (w_X3_start a b x y z)) hk (zE6_eq rfl)) hS rfl dX3_start_57
def w_X4_start (a : Int32) : Nat → Int32 := fun k => match k with
  | 0 => a
  | 1 => a
  | _ => 0
theorem hdX4_start : yX4_start.cls = RX4 ∧ yX4_start.cls ≠ "java/lang/invoke/MethodHandle" ∧ yX4_start.cls ≠ "java/lang/invoke/VarHandle" ∧ (parseMethodDescriptor yX4_start.desc).map (fun d => d.parameters.length) = some 1 := by decide +kernel
set_option maxHeartbeats 4000000 in
set_option maxRecDepth 100000 in
theorem c_X4_start (l : Launch) (G : zG) (μ : zM) (n : Nat) (f : Nat → Int32) (hk : zk n = 5) (hf : μ n = f) (a : Int32) : zMet l G yX4_start cX4_start 2 none 0 0 [.ref (G.1 + n), .int a] μ (zQv G (zr μ n (w_X4_start a))) := by
  refine z_start (lv := [(0, .ref (G.1 + n)), (1, .int a)]) (by decide) (Nat.le_of_ble_eq_true rfl) rfl ?_
  intro p e s m args below meth c ls hx hb hml hr hlk hts hown hK hZ hS hl
  have hown : s.vm.findClass RX4 = some m.cls := hown
  refine lv_aload_n hx hb dX4_start_0 rfl (lv_at hl 0 rfl) ?_
  refine lv_iload_n hx hb dX4_start_1 rfl (lv_at hl 1 rfl) ?_
  refine z_p5 (f := f) (μ1 := (zr μ n (zu f 0 a))) 0 hx hb hts hown hK hZ hS hk hf (by decide) q39 rfl pfd_I rfl rfl dX4_start_2 (fun H locs hZ hS => ?_)
  refine lv_aload_n hx hb dX4_start_5 rfl (lv_at hl 0 rfl) ?_
  refine lv_iload_n hx hb dX4_start_6 rfl (lv_at hl 1 rfl) ?_
  refine z_p5 (f := (zu f 0 a)) (μ1 := (zr μ n (zu (zu f 0 a) 1 a))) 1 hx hb hts hown hK hZ hS hk zr_same (by decide) q40 rfl pfd_I rfl zr_zr dX4_start_7 (fun H locs hZ hS => ?_)
  refine lv_aload_n hx hb dX4_start_10 rfl (lv_at hl 0 rfl) ?_
  refine lv_iconst (v := 0) hx hb dX4_start_11 (by decide) ?_
  refine z_p5 (f := (zu (zu f 0 a) 1 a)) (μ1 := (zr μ n (zu (zu (zu f 0 a) 1 a) 2 0))) 2 hx hb hts hown hK hZ hS hk zr_same (by decide) q42 rfl pfd_I rfl zr_zr dX4_start_12 (fun H locs hZ hS => ?_)
  refine lv_aload_n hx hb dX4_start_15 rfl (lv_at hl 0 rfl) ?_
  refine lv_iconst (v := 0) hx hb dX4_start_16 (by decide) ?_
  refine z_p5 (f := (zu (zu (zu f 0 a) 1 a) 2 0)) (μ1 := (zr μ n (zu (zu (zu (zu f 0 a) 1 a) 2 0) 3 0))) 3 hx hb hts hown hK hZ hS hk zr_same (by decide) q43 rfl pfd_I rfl zr_zr dX4_start_17 (fun H locs hZ hS => ?_)
  refine lv_aload_n hx hb dX4_start_20 rfl (lv_at hl 0 rfl) ?_
  refine lv_iconst (v := 0) hx hb dX4_start_21 (by decide) ?_
  refine z_p5 (f := (zu (zu (zu (zu f 0 a) 1 a) 2 0) 3 0)) (μ1 := (zr μ n (zu (zu (zu (zu (zu f 0 a) 1 a) 2 0) 3 0) 4 0))) 4 hx hb hts hown hK hZ hS hk zr_same (by decide) q44 rfl pfd_I rfl zr_zr dX4_start_22 (fun H locs hZ hS => ?_)
  refine lv_aload_n hx hb dX4_start_25 rfl (lv_at hl 0 rfl) ?_
  refine lv_iconst (v := 0) hx hb dX4_start_26 (by decide) ?_
  refine z_p5 (f := (zu (zu (zu (zu (zu f 0 a) 1 a) 2 0) 3 0) 4 0)) (μ1 := (zr μ n (zu (zu (zu (zu (zu (zu f 0 a) 1 a) 2 0) 3 0) 4 0) 5 0))) 5 hx hb hts hown hK hZ hS hk zr_same (by decide) q45 rfl pfd_I rfl zr_zr dX4_start_27 (fun H locs hZ hS => ?_)
  exact z_vret hx hb hr hlk hK (hZ.re (g := (w_X4_start a)) hk (zE5_eq rfl)) hS rfl dX4_start_30
def s_X4_take (f : Nat → Int32) (a : Int32) : Int32 := (if (f 1) < a then (f 1) else a)
def w_X4_take (f : Nat → Int32) (a : Int32) : Nat → Int32 := (zu (zu f 1 ((f 1) - (if (f 1) < a then (f 1) else a))) 5 ((f 5) + (a - (if (f 1) < a then (f 1) else a))))
theorem hdX4_take : yX4_take.cls = RX4 ∧ yX4_take.cls ≠ "java/lang/invoke/MethodHandle" ∧ yX4_take.cls ≠ "java/lang/invoke/VarHandle" ∧ (parseMethodDescriptor yX4_take.desc).map (fun d => d.parameters.length) = some 1 := by decide +kernel
set_option maxHeartbeats 4000000 in
set_option maxRecDepth 100000 in
theorem c_X4_take (l : Launch) (G : zG) (μ : zM) (n : Nat) (f : Nat → Int32) (hk : zk n = 5) (hf : μ n = f) (a : Int32) : zMet l G yX4_take cX4_take 3 (some .int) 1 13 [.ref (G.1 + n), .int a] μ (zQi G (s_X4_take f a) (zr μ n (w_X4_take f a))) := by
  refine z_start (lv := [(0, .ref (G.1 + n)), (1, .int a)]) (by decide) (Nat.le_of_ble_eq_true rfl) rfl ?_
  intro p e s m args below meth c ls hx hb hml hr hlk hts hown hK hZ hS hl
  have hown : s.vm.findClass RX4 = some m.cls := hown
  refine lv_iload_n hx hb dX4_take_0 rfl (lv_at hl 1 rfl) ?_
  refine lv_aload_n hx hb dX4_take_1 rfl (lv_at hl 0 rfl) ?_
  refine z_g5 (f := f) (v := .int (f 1)) 1 hx hb hts hown hK hZ hk hf (by decide) q40 rfl dX4_take_2 ?_
  refine va_mmin hx hb (hml.trans hl.1.symm) hown (hts _ q383) (hts _ q384) (hts _ q8) (hts _ q385) (Nat.le_of_ble_eq_true rfl) (Nat.le_of_ble_eq_true rfl) (Nat.zero_le _) (Nat.zero_le _) dX4_take_5 ?_
  refine lv_istore_n (lv' := [(2, .int (if (f 1) < a then (f 1) else a)), (0, .ref (G.1 + n)), (1, .int a)]) hx hb dX4_take_8 rfl hl (by decide) rfl (fun ls hl => ?_)
  refine lv_aload_n hx hb dX4_take_9 rfl (lv_at hl 1 rfl) ?_
  refine lv_dup hx hb dX4_take_10 rfl ?_
  refine z_g5 (f := f) (v := .int (f 1)) 1 hx hb hts hown hK hZ hk hf (by decide) q40 rfl dX4_take_11 ?_
  refine lv_iload_n hx hb dX4_take_14 rfl (lv_at hl 0 rfl) ?_
  refine lv_isub hx hb dX4_take_15 ?_
  refine z_p5 (f := f) (μ1 := (zr μ n (zu f 1 ((f 1) - (if (f 1) < a then (f 1) else a))))) 1 hx hb hts hown hK hZ hS hk hf (by decide) q40 rfl pfd_I rfl rfl dX4_take_16 (fun H locs hZ hS => ?_)
  refine lv_aload_n hx hb dX4_take_19 rfl (lv_at hl 1 rfl) ?_
  refine lv_dup hx hb dX4_take_20 rfl ?_
  refine z_g5 (f := (zu f 1 ((f 1) - (if (f 1) < a then (f 1) else a)))) (v := .int (f 5)) 5 hx hb hts hown hK hZ hk zr_same (by decide) q45 rfl dX4_take_21 ?_
  refine lv_iload_n hx hb dX4_take_24 rfl (lv_at hl 2 rfl) ?_
  refine lv_iload_n hx hb dX4_take_25 rfl (lv_at hl 0 rfl) ?_
  refine lv_isub hx hb dX4_take_26 ?_
  refine lv_iadd hx hb dX4_take_27 ?_
  refine z_p5 (f := (zu f 1 ((f 1) - (if (f 1) < a then (f 1) else a)))) (μ1 := (zr μ n (zu (zu f 1 ((f 1) - (if (f 1) < a then (f 1) else a))) 5 ((f 5) + (a - (if (f 1) < a then (f 1) else a)))))) 5 hx hb hts hown hK hZ hS hk zr_same (by decide) q45 rfl pfd_I rfl zr_zr dX4_take_28 (fun H locs hZ hS => ?_)
  refine lv_iload_n hx hb dX4_take_31 rfl (lv_at hl 0 rfl) ?_
  exact z_iret hx hb hr hlk hK hZ hS ⟨by rw [s_X4_take], by rw [w_X4_take]⟩ dX4_take_32
def w_X4_takeFee (f : Nat → Int32) (a : Int32) (b : Int32) : Nat → Int32 := (zu (w_X4_take (zu f 4 a) b) 3 (s_X4_take (zu f 4 a) b))
theorem hdX4_takeFee : yX4_takeFee.cls = RX4 ∧ yX4_takeFee.cls ≠ "java/lang/invoke/MethodHandle" ∧ yX4_takeFee.cls ≠ "java/lang/invoke/VarHandle" ∧ (parseMethodDescriptor yX4_takeFee.desc).map (fun d => d.parameters.length) = some 2 := by decide +kernel
set_option maxHeartbeats 4000000 in
set_option maxRecDepth 100000 in
theorem c_X4_takeFee (l : Launch) (G : zG) (μ : zM) (n : Nat) (f : Nat → Int32) (hk : zk n = 5) (hf : μ n = f) (a : Int32) (b : Int32) : zMet l G yX4_takeFee cX4_takeFee 3 none 2 35 [.ref (G.1 + n), .int a, .int b] μ (zQv G (zr μ n (w_X4_takeFee f a b))) := by
  refine z_start (lv := [(0, .ref (G.1 + n)), (1, .int a), (2, .int b)]) (by decide) (Nat.le_of_ble_eq_true rfl) rfl ?_
  intro p e s m args below meth c ls hx hb hml hr hlk hts hown hK hZ hS hl
  have hown : s.vm.findClass RX4 = some m.cls := hown
  refine lv_aload_n hx hb dX4_takeFee_0 rfl (lv_at hl 0 rfl) ?_
  refine lv_iload_n hx hb dX4_takeFee_1 rfl (lv_at hl 1 rfl) ?_
  refine z_p5 (f := f) (μ1 := (zr μ n (zu f 4 a))) 4 hx hb hts hown hK hZ hS hk hf (by decide) q44 rfl pfd_I rfl rfl dX4_takeFee_2 (fun H locs hZ hS => ?_)
  refine lv_aload_n hx hb dX4_takeFee_5 rfl (lv_at hl 0 rfl) ?_
  refine lv_aload_n hx hb dX4_takeFee_6 rfl (lv_at hl 0 rfl) ?_
  refine lv_iload_n hx hb dX4_takeFee_7 rfl (lv_at hl 2 rfl) ?_
  refine z_cVi (As := [.int b]) (rest := [.ref (G.1 + n)]) hx hb hml hown hts hl hK hZ hS (c_X4_take l G (zr μ n (zu f 4 a)) n (zu f 4 a) hk zr_same b) (z_G q379 q380 q381 q4 q382) hdX4_take ⟨Nat.le_of_ble_eq_true rfl, Nat.le_of_ble_eq_true rfl⟩ hk (by decide) rfl rfl rfl rfl (Nat.le_of_ble_eq_true rfl) dX4_takeFee_8 ⟨(Nat.zero_le _), (Nat.zero_le _)⟩ (fun H locs hZ hS => ?_)
  rw [zr_zr] at hZ
  refine z_p5 (f := (w_X4_take (zu f 4 a) b)) (μ1 := (zr μ n (zu (w_X4_take (zu f 4 a) b) 3 (s_X4_take (zu f 4 a) b)))) 3 hx hb hts hown hK hZ hS hk zr_same (by decide) q43 rfl pfd_I rfl zr_zr dX4_takeFee_11 (fun H locs hZ hS => ?_)
  exact z_vret hx hb hr hlk hK hZ hS (by rw [w_X4_takeFee]) dX4_takeFee_14
def w_X4_payLandlord (f : Nat → Int32) (a : Int32) : Nat → Int32 := (zu (w_X4_take f a) 2 ((f 2) + (s_X4_take f a)))
theorem hdX4_payLandlord : yX4_payLandlord.cls = RX4 ∧ yX4_payLandlord.cls ≠ "java/lang/invoke/MethodHandle" ∧ yX4_payLandlord.cls ≠ "java/lang/invoke/VarHandle" ∧ (parseMethodDescriptor yX4_payLandlord.desc).map (fun d => d.parameters.length) = some 1 := by decide +kernel
set_option maxHeartbeats 4000000 in
set_option maxRecDepth 100000 in
theorem c_X4_payLandlord (l : Launch) (G : zG) (μ : zM) (n : Nat) (f : Nat → Int32) (hk : zk n = 5) (hf : μ n = f) (a : Int32) : zMet l G yX4_payLandlord cX4_payLandlord 2 none 2 35 [.ref (G.1 + n), .int a] μ (zQv G (zr μ n (w_X4_payLandlord f a))) := by
  refine z_start (lv := [(0, .ref (G.1 + n)), (1, .int a)]) (by decide) (Nat.le_of_ble_eq_true rfl) rfl ?_
  intro p e s m args below meth c ls hx hb hml hr hlk hts hown hK hZ hS hl
  have hown : s.vm.findClass RX4 = some m.cls := hown
  refine lv_aload_n hx hb dX4_payLandlord_0 rfl (lv_at hl 0 rfl) ?_
  refine lv_dup hx hb dX4_payLandlord_1 rfl ?_
  refine z_g5 (f := f) (v := .int (f 2)) 2 hx hb hts hown hK hZ hk hf (by decide) q42 rfl dX4_payLandlord_2 ?_
  refine lv_aload_n hx hb dX4_payLandlord_5 rfl (lv_at hl 0 rfl) ?_
  refine lv_iload_n hx hb dX4_payLandlord_6 rfl (lv_at hl 1 rfl) ?_
  refine z_cVi (As := [.int a]) (rest := [.int (f 2), .ref (G.1 + n)]) hx hb hml hown hts hl hK hZ hS (c_X4_take l G μ n f hk hf a) (z_G q379 q380 q381 q4 q382) hdX4_take ⟨Nat.le_of_ble_eq_true rfl, Nat.le_of_ble_eq_true rfl⟩ hk (by decide) rfl rfl rfl rfl (Nat.le_of_ble_eq_true rfl) dX4_payLandlord_7 ⟨(Nat.zero_le _), (Nat.zero_le _)⟩ (fun H locs hZ hS => ?_)
  refine lv_iadd hx hb dX4_payLandlord_10 ?_
  refine z_p5 (f := (w_X4_take f a)) (μ1 := (zr μ n (zu (w_X4_take f a) 2 ((f 2) + (s_X4_take f a))))) 2 hx hb hts hown hK hZ hS hk zr_same (by decide) q42 rfl pfd_I rfl zr_zr dX4_payLandlord_11 (fun H locs hZ hS => ?_)
  exact z_vret hx hb hr hlk hK hZ hS (by rw [w_X4_payLandlord]) dX4_payLandlord_14
def s_X4_fact (f : Nat → Int32) (w : Nat) : Int32 := match w with
  | 0 => f 1
  | 1 => f 2
  | 2 => f 3
  | 3 => f 4
  | 4 => f 5
  | _ => f 0
theorem hdX4_fact : yX4_fact.cls = RX4 ∧ yX4_fact.cls ≠ "java/lang/invoke/MethodHandle" ∧ yX4_fact.cls ≠ "java/lang/invoke/VarHandle" ∧ (parseMethodDescriptor yX4_fact.desc).map (fun d => d.parameters.length) = some 1 := by decide +kernel
set_option maxHeartbeats 4000000 in
set_option maxRecDepth 100000 in
theorem c_X4_fact (l : Launch) (G : zG) (μ : zM) (n : Nat) (f : Nat → Int32) (hk : zk n = 5) (hf : μ n = f) (w : Nat) (hw0 : 0 ≤ w) (hw : w ≤ 5) : zMet l G yX4_fact cX4_fact 2 (some .int) 0 0 [.ref (G.1 + n), .int (nI w)] μ (zQi G (s_X4_fact f w) μ) := by
  refine z_start (lv := [(0, .ref (G.1 + n)), (1, .int (nI w))]) (by decide) (Nat.le_of_ble_eq_true rfl) rfl ?_
  intro p e s m args below meth c ls hx hb hml hr hlk hts hown hK hZ hS hl
  have hown : s.vm.findClass RX4 = some m.cls := hown
  refine lv_iload_n hx hb dX4_fact_0 rfl (lv_at hl 1 rfl) ?_
  have hcs : w = 0 ∨ w = 1 ∨ w = 2 ∨ w = 3 ∨ w = 4 ∨ w = 5 := by omega
  rcases hcs with rfl | rfl | rfl | rfl | rfl | rfl
  · refine lv_tableIn (off := 35) (tgt := 36) hx hb dX4_fact_1 (by decide) (by decide) rfl (by decide) ?_
    refine lv_aload_n hx hb dX4_fact_36 rfl (lv_at hl 0 rfl) ?_
    refine z_g5 (f := f) (v := .int (f 1)) 1 hx hb hts hown hK hZ hk hf (by decide) q40 rfl dX4_fact_37 ?_
    exact z_iret hx hb hr hlk hK hZ hS ⟨rfl, rfl⟩ dX4_fact_40
  · refine lv_tableIn (off := 40) (tgt := 41) hx hb dX4_fact_1 (by decide) (by decide) rfl (by decide) ?_
    refine lv_aload_n hx hb dX4_fact_41 rfl (lv_at hl 0 rfl) ?_
    refine z_g5 (f := f) (v := .int (f 2)) 2 hx hb hts hown hK hZ hk hf (by decide) q42 rfl dX4_fact_42 ?_
    exact z_iret hx hb hr hlk hK hZ hS ⟨rfl, rfl⟩ dX4_fact_45
  · refine lv_tableIn (off := 45) (tgt := 46) hx hb dX4_fact_1 (by decide) (by decide) rfl (by decide) ?_
    refine lv_aload_n hx hb dX4_fact_46 rfl (lv_at hl 0 rfl) ?_
    refine z_g5 (f := f) (v := .int (f 3)) 3 hx hb hts hown hK hZ hk hf (by decide) q43 rfl dX4_fact_47 ?_
    exact z_iret hx hb hr hlk hK hZ hS ⟨rfl, rfl⟩ dX4_fact_50
  · refine lv_tableIn (off := 50) (tgt := 51) hx hb dX4_fact_1 (by decide) (by decide) rfl (by decide) ?_
    refine lv_aload_n hx hb dX4_fact_51 rfl (lv_at hl 0 rfl) ?_
    refine z_g5 (f := f) (v := .int (f 4)) 4 hx hb hts hown hK hZ hk hf (by decide) q44 rfl dX4_fact_52 ?_
    exact z_iret hx hb hr hlk hK hZ hS ⟨rfl, rfl⟩ dX4_fact_55
  · refine lv_tableIn (off := 55) (tgt := 56) hx hb dX4_fact_1 (by decide) (by decide) rfl (by decide) ?_
    refine lv_aload_n hx hb dX4_fact_56 rfl (lv_at hl 0 rfl) ?_
    refine z_g5 (f := f) (v := .int (f 5)) 5 hx hb hts hown hK hZ hk hf (by decide) q45 rfl dX4_fact_57 ?_
    exact z_iret hx hb hr hlk hK hZ hS ⟨rfl, rfl⟩ dX4_fact_60
  · refine lv_tableOut (tgt := 61) hx hb dX4_fact_1 (by decide) (by decide) ?_
    refine lv_aload_n hx hb dX4_fact_61 rfl (lv_at hl 0 rfl) ?_
    refine z_g5 (f := f) (v := .int (f 0)) 0 hx hb hts hown hK hZ hk hf (by decide) q39 rfl dX4_fact_62 ?_
    exact z_iret hx hb hr hlk hK hZ hS ⟨rfl, rfl⟩ dX4_fact_65
def s_X4_part (f : Nat → Int32) (w : Nat) : Int32 := match w with
  | 8 => f 1
  | 9 => f 2
  | 10 => f 3 + f 4
  | _ => f 5
theorem hdX4_part : yX4_part.cls = RX4 ∧ yX4_part.cls ≠ "java/lang/invoke/MethodHandle" ∧ yX4_part.cls ≠ "java/lang/invoke/VarHandle" ∧ (parseMethodDescriptor yX4_part.desc).map (fun d => d.parameters.length) = some 1 := by decide +kernel
set_option maxHeartbeats 4000000 in
set_option maxRecDepth 100000 in
theorem c_X4_part (l : Launch) (G : zG) (μ : zM) (n : Nat) (f : Nat → Int32) (hk : zk n = 5) (hf : μ n = f) (w : Nat) (hw0 : 8 ≤ w) (hw : w ≤ 11) : zMet l G yX4_part cX4_part 2 (some .int) 0 0 [.ref (G.1 + n), .int (nI w)] μ (zQi G (s_X4_part f w) μ) := by
  refine z_start (lv := [(0, .ref (G.1 + n)), (1, .int (nI w))]) (by decide) (Nat.le_of_ble_eq_true rfl) rfl ?_
  intro p e s m args below meth c ls hx hb hml hr hlk hts hown hK hZ hS hl
  have hown : s.vm.findClass RX4 = some m.cls := hown
  refine lv_iload_n hx hb dX4_part_0 rfl (lv_at hl 1 rfl) ?_
  have hcs : w = 8 ∨ w = 9 ∨ w = 10 ∨ w = 11 := by omega
  rcases hcs with rfl | rfl | rfl | rfl
  · refine lv_tableIn (off := 27) (tgt := 28) hx hb dX4_part_1 (by decide) (by decide) rfl (by decide) ?_
    refine lv_aload_n hx hb dX4_part_28 rfl (lv_at hl 0 rfl) ?_
    refine z_g5 (f := f) (v := .int (f 1)) 1 hx hb hts hown hK hZ hk hf (by decide) q40 rfl dX4_part_29 ?_
    exact z_iret hx hb hr hlk hK hZ hS ⟨rfl, rfl⟩ dX4_part_32
  · refine lv_tableIn (off := 32) (tgt := 33) hx hb dX4_part_1 (by decide) (by decide) rfl (by decide) ?_
    refine lv_aload_n hx hb dX4_part_33 rfl (lv_at hl 0 rfl) ?_
    refine z_g5 (f := f) (v := .int (f 2)) 2 hx hb hts hown hK hZ hk hf (by decide) q42 rfl dX4_part_34 ?_
    exact z_iret hx hb hr hlk hK hZ hS ⟨rfl, rfl⟩ dX4_part_37
  · refine lv_tableIn (off := 37) (tgt := 38) hx hb dX4_part_1 (by decide) (by decide) rfl (by decide) ?_
    refine lv_aload_n hx hb dX4_part_38 rfl (lv_at hl 0 rfl) ?_
    refine z_g5 (f := f) (v := .int (f 3)) 3 hx hb hts hown hK hZ hk hf (by decide) q43 rfl dX4_part_39 ?_
    refine lv_aload_n hx hb dX4_part_42 rfl (lv_at hl 0 rfl) ?_
    refine z_g5 (f := f) (v := .int (f 4)) 4 hx hb hts hown hK hZ hk hf (by decide) q44 rfl dX4_part_43 ?_
    refine lv_iadd hx hb dX4_part_46 ?_
    exact z_iret hx hb hr hlk hK hZ hS ⟨rfl, rfl⟩ dX4_part_47
  · refine lv_tableOut (tgt := 48) hx hb dX4_part_1 (by decide) (by decide) ?_
    refine lv_aload_n hx hb dX4_part_48 rfl (lv_at hl 0 rfl) ?_
    refine z_g5 (f := f) (v := .int (f 5)) 5 hx hb hts hown hK hZ hk hf (by decide) q45 rfl dX4_part_49 ?_
    exact z_iret hx hb hr hlk hK hZ hS ⟨rfl, rfl⟩ dX4_part_52
def w_X5_start (a b : Int32) : Nat → Int32 := fun k => match k with
  | 0 => a
  | 1 => b
  | 3 => b
  | _ => 0
theorem zr_swap {μ : zM} {n m : Nat} {f g : Nat → Int32} (h : m ≠ n) : zr (zr μ n f) m g = zr (zr μ m g) n f := by
  funext j
  by_cases h1 : j = n
  · subst h1; rw [zr_ne (Ne.symm h), zr_same, zr_same]
  · by_cases h2 : j = m
    · subst h2; rw [zr_same, zr_ne h1, zr_same]
    · rw [zr_ne h2, zr_ne h1, zr_ne h1, zr_ne h2]
theorem zW.swap {G : zG} {μ : zM} {H : Heap} {n m : Nat} {f g : Nat → Int32} (h : m ≠ n) (hZ : zW G (zr (zr μ n f) m g) H) : zW G (zr (zr μ m g) n f) H := by
  rw [← zr_swap h]; exact hZ
theorem hdX5_start : yX5_start.cls = RX5 ∧ yX5_start.cls ≠ "java/lang/invoke/MethodHandle" ∧ yX5_start.cls ≠ "java/lang/invoke/VarHandle" ∧ (parseMethodDescriptor yX5_start.desc).map (fun d => d.parameters.length) = some 2 := by decide +kernel
set_option maxHeartbeats 4000000 in
set_option maxRecDepth 100000 in
theorem c_X5_start (l : Launch) (G : zG) (μ : zM) (n : Nat) (f : Nat → Int32) (hk : zk n = 4) (hf : μ n = f) (hk1 : zk (n + 1) = 5) (a b : Int32) : zMet l G yX5_start cX5_start 3 none 1 21 [.ref (G.1 + n), .int a, .int b] μ (zQv G (zr (zr μ n (w_X5_start a b)) (n + 1) (w_X4_start 0))) := by
  refine z_start (lv := [(0, .ref (G.1 + n)), (1, .int a), (2, .int b)]) (by decide) (Nat.le_of_ble_eq_true rfl) rfl ?_
  intro p e s m args below meth c ls hx hb hml hr hlk hts hown hK hZ hS hl
  have hown : s.vm.findClass RX5 = some m.cls := hown
  refine lv_aload_n hx hb dX5_start_0 rfl (lv_at hl 0 rfl) ?_
  refine lv_iload_n hx hb dX5_start_1 rfl (lv_at hl 1 rfl) ?_
  refine z_p4 (f := f) (μ1 := (zr μ n (zu f 0 a))) 0 hx hb hts hown hK hZ hS hk hf (by decide) q59 rfl pfd_I rfl rfl dX5_start_2 (fun H locs hZ hS => ?_)
  refine lv_aload_n hx hb dX5_start_5 rfl (lv_at hl 0 rfl) ?_
  refine lv_iload_n hx hb dX5_start_6 rfl (lv_at hl 2 rfl) ?_
  refine z_p4 (f := (zu f 0 a)) (μ1 := (zr μ n (zu (zu f 0 a) 1 b))) 1 hx hb hts hown hK hZ hS hk zr_same (by decide) q62 rfl pfd_I rfl zr_zr dX5_start_7 (fun H locs hZ hS => ?_)
  refine lv_aload_n hx hb dX5_start_10 rfl (lv_at hl 0 rfl) ?_
  refine lv_iconst (v := 0) hx hb dX5_start_11 (by decide) ?_
  refine z_p4 (f := (zu (zu f 0 a) 1 b)) (μ1 := (zr μ n (zu (zu (zu f 0 a) 1 b) 2 0))) 2 hx hb hts hown hK hZ hS hk zr_same (by decide) q65 rfl pfd_I rfl zr_zr dX5_start_12 (fun H locs hZ hS => ?_)
  refine lv_aload_n hx hb dX5_start_15 rfl (lv_at hl 0 rfl) ?_
  refine lv_iload_n hx hb dX5_start_16 rfl (lv_at hl 2 rfl) ?_
  refine z_p4 (f := (zu (zu (zu f 0 a) 1 b) 2 0)) (μ1 := (zr μ n (zu (zu (zu (zu f 0 a) 1 b) 2 0) 3 b))) 3 hx hb hts hown hK hZ hS hk zr_same (by decide) q68 rfl pfd_I rfl zr_zr dX5_start_17 (fun H locs hZ hS => ?_)
  refine lv_aload_n hx hb dX5_start_20 rfl (lv_at hl 0 rfl) ?_
  refine lv_iconst (v := 0) hx hb dX5_start_21 (by decide) ?_
  refine z_p4 (f := (zu (zu (zu (zu f 0 a) 1 b) 2 0) 3 b)) (μ1 := (zr μ n (zu (zu (zu (zu (zu f 0 a) 1 b) 2 0) 3 b) 4 0))) 4 hx hb hts hown hK hZ hS hk zr_same (by decide) q71 rfl pfd_I rfl zr_zr dX5_start_22 (fun H locs hZ hS => ?_)
  refine lv_aload_n hx hb dX5_start_25 rfl (lv_at hl 0 rfl) ?_
  refine lv_iconst (v := 0) hx hb dX5_start_26 (by decide) ?_
  refine z_p4 (f := (zu (zu (zu (zu (zu f 0 a) 1 b) 2 0) 3 b) 4 0)) (μ1 := (zr μ n (zu (zu (zu (zu (zu (zu f 0 a) 1 b) 2 0) 3 b) 4 0) 5 0))) 5 hx hb hts hown hK hZ hS hk zr_same (by decide) q74 rfl pfd_I rfl zr_zr dX5_start_27 (fun H locs hZ hS => ?_)
  refine lv_aload_n hx hb dX5_start_30 rfl (lv_at hl 0 rfl) ?_
  refine z_g4 (f := (zu (zu (zu (zu (zu (zu f 0 a) 1 b) 2 0) 3 b) 4 0) 5 0)) (v := .ref (G.1 + (n + 1))) 6 hx hb hts hown hK hZ hk zr_same (by decide) q77 rfl dX5_start_31 ?_
  refine lv_iconst (v := 0) hx hb dX5_start_34 (by decide) ?_
  refine z_cVv (As := [.int 0]) (rest := []) hx hb hml hown hts hl hK hZ hS (c_X4_start l G (zr μ n (zu (zu (zu (zu (zu (zu f 0 a) 1 b) 2 0) 3 b) 4 0) 5 0)) (n + 1) ((zr μ n (zu (zu (zu (zu (zu (zu f 0 a) 1 b) 2 0) 3 b) 4 0) 5 0)) (n + 1)) hk1 rfl 0) (z_G q457 q371 q372 q4 q373) hdX4_start ⟨Nat.le_of_ble_eq_true rfl, Nat.le_of_ble_eq_true rfl⟩ hk1 (by decide) rfl rfl rfl rfl (Nat.le_of_ble_eq_true rfl) dX5_start_35 ⟨(Nat.zero_le _), (Nat.zero_le _)⟩ (fun H locs hZ hS => ?_)
  have hZ := zW.swap (by omega : n + 1 ≠ n) hZ
  have hZ := hZ.re (g := w_X5_start a b) hk (zE4_eq rfl)
  have hZ := zW.swap (by omega : n ≠ n + 1) hZ
  exact z_vret hx hb hr hlk hK hZ hS rfl dX5_start_38
theorem hdX5_copyFrom : yX5_copyFrom.cls = RX5 ∧ yX5_copyFrom.cls ≠ "java/lang/invoke/MethodHandle" ∧ yX5_copyFrom.cls ≠ "java/lang/invoke/VarHandle" ∧ (parseMethodDescriptor yX5_copyFrom.desc).map (fun d => d.parameters.length) = some 1 := by decide +kernel
set_option maxHeartbeats 4000000 in
set_option maxRecDepth 100000 in
theorem c_X5_copyFrom (l : Launch) (G : zG) (μ : zM) (n : Nat) (f : Nat → Int32) (hk : zk n = 4) (hf : μ n = f) (hk1 : zk (n + 1) = 5) (o2 : Nat) (f2 : Nat → Int32) (hkm : zk o2 = 4) (hfm : μ o2 = f2) (hkm1 : zk (o2 + 1) = 5) (g1 g2 : Nat → Int32) (hg1 : μ (n + 1) = g1) (hg2 : μ (o2 + 1) = g2) (hne : o2 ≠ n) (hne1 : o2 + 1 ≠ n) (hne2 : o2 ≠ n + 1) : zMet l G yX5_copyFrom cX5_copyFrom 2 none 1 21 [.ref (G.1 + n), .ref (G.1 + o2)] μ (zQv G (zr (zr μ n f2) (n + 1) g2)) := by
  refine z_start (lv := [(0, .ref (G.1 + n)), (1, .ref (G.1 + o2))]) (by decide) (Nat.le_of_ble_eq_true rfl) rfl ?_
  intro p e s m args below meth c ls hx hb hml hr hlk hts hown hK hZ hS hl
  have hown : s.vm.findClass RX5 = some m.cls := hown
  refine lv_aload_n hx hb dX5_copyFrom_0 rfl (lv_at hl 0 rfl) ?_
  refine lv_aload_n hx hb dX5_copyFrom_1 rfl (lv_at hl 1 rfl) ?_
  refine z_g4 (f := f2) (v := .int (f2 0)) 0 hx hb hts hown hK hZ hkm hfm (by decide) q59 rfl dX5_copyFrom_2 ?_
  refine z_p4 (f := f) (μ1 := (zr μ n (zu f 0 (f2 0)))) 0 hx hb hts hown hK hZ hS hk hf (by decide) q59 rfl pfd_I rfl rfl dX5_copyFrom_5 (fun H locs hZ hS => ?_)
  refine lv_aload_n hx hb dX5_copyFrom_8 rfl (lv_at hl 0 rfl) ?_
  refine lv_aload_n hx hb dX5_copyFrom_9 rfl (lv_at hl 1 rfl) ?_
  refine z_g4 (f := f2) (v := .int (f2 1)) 1 hx hb hts hown hK hZ hkm (zr_at hfm (by omega)) (by decide) q62 rfl dX5_copyFrom_10 ?_
  refine z_p4 (f := (zu f 0 (f2 0))) (μ1 := (zr μ n (zu (zu f 0 (f2 0)) 1 (f2 1)))) 1 hx hb hts hown hK hZ hS hk zr_same (by decide) q62 rfl pfd_I rfl zr_zr dX5_copyFrom_13 (fun H locs hZ hS => ?_)
  refine lv_aload_n hx hb dX5_copyFrom_16 rfl (lv_at hl 0 rfl) ?_
  refine lv_aload_n hx hb dX5_copyFrom_17 rfl (lv_at hl 1 rfl) ?_
  refine z_g4 (f := f2) (v := .int (f2 2)) 2 hx hb hts hown hK hZ hkm (zr_at hfm (by omega)) (by decide) q65 rfl dX5_copyFrom_18 ?_
  refine z_p4 (f := (zu (zu f 0 (f2 0)) 1 (f2 1))) (μ1 := (zr μ n (zu (zu (zu f 0 (f2 0)) 1 (f2 1)) 2 (f2 2)))) 2 hx hb hts hown hK hZ hS hk zr_same (by decide) q65 rfl pfd_I rfl zr_zr dX5_copyFrom_21 (fun H locs hZ hS => ?_)
  refine lv_aload_n hx hb dX5_copyFrom_24 rfl (lv_at hl 0 rfl) ?_
  refine lv_aload_n hx hb dX5_copyFrom_25 rfl (lv_at hl 1 rfl) ?_
  refine z_g4 (f := f2) (v := .int (f2 3)) 3 hx hb hts hown hK hZ hkm (zr_at hfm (by omega)) (by decide) q68 rfl dX5_copyFrom_26 ?_
  refine z_p4 (f := (zu (zu (zu f 0 (f2 0)) 1 (f2 1)) 2 (f2 2))) (μ1 := (zr μ n (zu (zu (zu (zu f 0 (f2 0)) 1 (f2 1)) 2 (f2 2)) 3 (f2 3)))) 3 hx hb hts hown hK hZ hS hk zr_same (by decide) q68 rfl pfd_I rfl zr_zr dX5_copyFrom_29 (fun H locs hZ hS => ?_)
  refine lv_aload_n hx hb dX5_copyFrom_32 rfl (lv_at hl 0 rfl) ?_
  refine lv_aload_n hx hb dX5_copyFrom_33 rfl (lv_at hl 1 rfl) ?_
  refine z_g4 (f := f2) (v := .int (f2 4)) 4 hx hb hts hown hK hZ hkm (zr_at hfm (by omega)) (by decide) q71 rfl dX5_copyFrom_34 ?_
  refine z_p4 (f := (zu (zu (zu (zu f 0 (f2 0)) 1 (f2 1)) 2 (f2 2)) 3 (f2 3))) (μ1 := (zr μ n (zu (zu (zu (zu (zu f 0 (f2 0)) 1 (f2 1)) 2 (f2 2)) 3 (f2 3)) 4 (f2 4)))) 4 hx hb hts hown hK hZ hS hk zr_same (by decide) q71 rfl pfd_I rfl zr_zr dX5_copyFrom_37 (fun H locs hZ hS => ?_)
  refine lv_aload_n hx hb dX5_copyFrom_40 rfl (lv_at hl 0 rfl) ?_
  refine lv_aload_n hx hb dX5_copyFrom_41 rfl (lv_at hl 1 rfl) ?_
  refine z_g4 (f := f2) (v := .int (f2 5)) 5 hx hb hts hown hK hZ hkm (zr_at hfm (by omega)) (by decide) q74 rfl dX5_copyFrom_42 ?_
  refine z_p4 (f := (zu (zu (zu (zu (zu f 0 (f2 0)) 1 (f2 1)) 2 (f2 2)) 3 (f2 3)) 4 (f2 4))) (μ1 := (zr μ n (zu (zu (zu (zu (zu (zu f 0 (f2 0)) 1 (f2 1)) 2 (f2 2)) 3 (f2 3)) 4 (f2 4)) 5 (f2 5)))) 5 hx hb hts hown hK hZ hS hk zr_same (by decide) q74 rfl pfd_I rfl zr_zr dX5_copyFrom_45 (fun H locs hZ hS => ?_)
  refine lv_aload_n hx hb dX5_copyFrom_48 rfl (lv_at hl 0 rfl) ?_
  refine z_g4 (f := (zu (zu (zu (zu (zu (zu f 0 (f2 0)) 1 (f2 1)) 2 (f2 2)) 3 (f2 3)) 4 (f2 4)) 5 (f2 5))) (v := .ref (G.1 + (n + 1))) 6 hx hb hts hown hK hZ hk zr_same (by decide) q77 rfl dX5_copyFrom_49 ?_
  refine lv_aload_n hx hb dX5_copyFrom_52 rfl (lv_at hl 1 rfl) ?_
  refine z_g4 (f := f2) (v := .ref (G.1 + (o2 + 1))) 6 hx hb hts hown hK hZ hkm (zr_at hfm (by omega)) (by decide) q77 rfl dX5_copyFrom_53 ?_
  refine z_cVv (As := [.ref (G.1 + (o2 + 1))]) (rest := []) hx hb hml hown hts hl hK hZ hS (c_X4_copyFrom l G (zr μ n (zu (zu (zu (zu (zu (zu f 0 (f2 0)) 1 (f2 1)) 2 (f2 2)) 3 (f2 3)) 4 (f2 4)) 5 (f2 5))) (n + 1) g1 hk1 (zr_at hg1 (by omega)) (o2 + 1) g2 hkm1 (zr_at hg2 (by omega)) (by omega)) (z_G q269 q270 q271 q4 q272) hdX4_copyFrom ⟨Nat.le_of_ble_eq_true rfl, Nat.le_of_ble_eq_true rfl⟩ hk1 (by decide) rfl rfl rfl rfl (Nat.le_of_ble_eq_true rfl) dX5_copyFrom_56 ⟨(Nat.zero_le _), (Nat.zero_le _)⟩ (fun H locs hZ hS => ?_)
  have hZ := zW.swap (by omega : n + 1 ≠ n) hZ
  have hZ := hZ.re (g := f2) hk (zE4_eq rfl)
  have hZ := zW.swap (by omega : n ≠ n + 1) hZ
  exact z_vret hx hb hr hlk hK hZ hS rfl dX5_copyFrom_59
end
section
theorem hB1 : zB 1 := Or.inl rfl
theorem zk_set1 {B i : Nat} (h : zB B) (hi : i < 6) : zk (B + (3 + 2 * i) + 1) = 5 := by
  have e1 : B + (3 + 2 * i) + 1 = B + (4 + 2 * i) := by omega
  rw [e1]; exact zk_set h hi
section ZC2
variable {p : Program} {l : Launch} {e : Env} {R : Room} {s : State} {m : MethodId} {args : Array Value} {below : List Frame} {meth : Method} {c : Code} {H : Heap} {locs : List Loc} {cells slots : Nat} {Q : State → Prop}
variable {cc : ByteArray} {pc : Nat} {ls : Array Slot} {rest : List Value} {G : zG} {μ : zM} {H0 : Heap}
theorem z_cVr {own C : String} {T : u_T} {N ci kd n idx nL nA nm fr lo : Nat} {y : MethodName} {cm : ByteArray} {ret : Option FieldType} {As : List Value} {st0 : List Value} {a0 : Nat} {μ1 : zM} {lv : List (Nat × Value)}
    (hx : p.tables.exec = Jvm.exec) (hb : c.code = cc) (hml : c.maxLocals = nL) (hown : s.vm.findClass own = some m.cls) (hts : ∀ w ∈ zall, w.before args s = true) (hl : lv_has ls nL lv) (hK : zKU G s) (hZ : zW G μ H) (hS : va_S (zA G) H0 H locs)
    (hM : zMet l G y cm nm ret fr lo (.ref (G.1 + n) :: As) μ (zQq G (some a0) μ1)) (hG : GoodIn zall (wsV own idx C y (ws_ y cm nm ret)))
    (hd : y.cls = C ∧ y.cls ≠ "java/lang/invoke/MethodHandle" ∧ y.cls ≠ "java/lang/invoke/VarHandle" ∧ (parseMethodDescriptor y.desc).map (fun d => d.parameters.length) = some nA) (hR : fr + 1 ≤ R.frames ∧ 8 + (nm + 11) + lo ≤ R.locals)
    (hn : zk n = kd) (hk9 : kd < 9) {fs : List Value} (he : zE G kd n (μ n) = .inr (ci, fs)) (hc : vwCl[ci]? = some (C, T, N)) (hA : As.length = nA) (hst : st0 = As.reverse ++ .ref (G.1 + n) :: rest) (hW : (rest.map fun v => v.category).sum ≤ 8) (hdg : decode cc pc = .ok (.invokevirtual idx, 3)) (hcs : cells ≤ R.cells ∧ slots ≤ R.slots)
    (kk : ∀ (H1 : Heap) (locs1 : List Loc), zW G μ1 H1 → va_S (zA G) H0 H1 locs1 → W p l e R s m args below meth c H1 locs1 cells slots Q (F0 m (pc + 3) ls (.ref a0 :: rest))) : W p l e R s m args below meth c H locs cells slots Q (F0 m pc ls st0) :=
  z_cVq hx hb hml hown hts hl hK hZ hS hM hG hd hR hn hk9 he hc hA hst hW hdg hcs kk
theorem z_cVn {own C : String} {T : u_T} {N ci kd n idx nL nA nm fr lo : Nat} {y : MethodName} {cm : ByteArray} {ret : Option FieldType} {As : List Value} {st0 : List Value}  {μ1 : zM} {lv : List (Nat × Value)}
    (hx : p.tables.exec = Jvm.exec) (hb : c.code = cc) (hml : c.maxLocals = nL) (hown : s.vm.findClass own = some m.cls) (hts : ∀ w ∈ zall, w.before args s = true) (hl : lv_has ls nL lv) (hK : zKU G s) (hZ : zW G μ H) (hS : va_S (zA G) H0 H locs)
    (hM : zMet l G y cm nm ret fr lo (.ref (G.1 + n) :: As) μ (zQq G none μ1)) (hG : GoodIn zall (wsV own idx C y (ws_ y cm nm ret)))
    (hd : y.cls = C ∧ y.cls ≠ "java/lang/invoke/MethodHandle" ∧ y.cls ≠ "java/lang/invoke/VarHandle" ∧ (parseMethodDescriptor y.desc).map (fun d => d.parameters.length) = some nA) (hR : fr + 1 ≤ R.frames ∧ 8 + (nm + 11) + lo ≤ R.locals)
    (hn : zk n = kd) (hk9 : kd < 9) {fs : List Value} (he : zE G kd n (μ n) = .inr (ci, fs)) (hc : vwCl[ci]? = some (C, T, N)) (hA : As.length = nA) (hst : st0 = As.reverse ++ .ref (G.1 + n) :: rest) (hW : (rest.map fun v => v.category).sum ≤ 8) (hdg : decode cc pc = .ok (.invokevirtual idx, 3)) (hcs : cells ≤ R.cells ∧ slots ≤ R.slots)
    (kk : ∀ (H1 : Heap) (locs1 : List Loc), zW G μ1 H1 → va_S (zA G) H0 H1 locs1 → W p l e R s m args below meth c H1 locs1 cells slots Q (F0 m (pc + 3) ls (.null :: rest))) : W p l e R s m args below meth c H locs cells slots Q (F0 m pc ls st0) :=
  z_cVq hx hb hml hown hts hl hK hZ hS hM hG hd hR hn hk9 he hc hA hst hW hdg hcs kk
end ZC2
theorem hdX1_tenancyAt : yX1_tenancyAt.cls = RX1 ∧ yX1_tenancyAt.cls ≠ "java/lang/invoke/MethodHandle" ∧ yX1_tenancyAt.cls ≠ "java/lang/invoke/VarHandle" ∧ (parseMethodDescriptor yX1_tenancyAt.desc).map (fun d => d.parameters.length) = some 1 := by decide +kernel
set_option maxHeartbeats 4000000 in
set_option maxRecDepth 100000 in
theorem c_X1_tenancyAt_ok (l : Launch) (G : zG) (μ : zM) (B : Nat) (hB : zB B) (fb : Nat → Int32) (hfb : μ B = fb) (T i : Nat) (hT : fb 3 = nI T) (hT6 : T ≤ 6) (hi : i < T) : zMet l G yX1_tenancyAt cX1_tenancyAt 2 (some (.object "TenancyDeposits$Tenancy")) 0 0 [.ref (G.1 + B), .int (nI i)] μ (zQq G (some (G.1 + (B + (3 + 2 * i)))) μ) := by
  refine z_start (lv := [(0, .ref (G.1 + B)), (1, .int (nI i))]) (by decide) (Nat.le_of_ble_eq_true rfl) rfl ?_
  intro p e s m args below meth c ls hx hb hml hr hlk hts hown hK hZ hS hl
  have hown : s.vm.findClass RX1 = some m.cls := hown
  refine lv_iload_n hx hb dX1_tenancyAt_0 rfl (lv_at hl 1 rfl) ?_
  refine lv_if_lt (tgt := 21) hx hb dX1_tenancyAt_1 (by decide) (fun c_1 => ?_) (fun c_1 => ?_)
  · exact absurd c_1 (nI_pos (by omega))
  · refine lv_iload_n hx hb dX1_tenancyAt_4 rfl (lv_at hl 1 rfl) ?_
    refine lv_aload_n hx hb dX1_tenancyAt_5 rfl (lv_at hl 0 rfl) ?_
    refine z_g1 (f := fb) (v := .int (nI T)) 3 hx hb hts hown hK hZ (zk_book hB) hfb (by decide) q152 (congrArg (fun z => some (Value.int z)) hT) dX1_tenancyAt_6 ?_
    refine lv_icmp_ge (tgt := 21) hx hb dX1_tenancyAt_9 (by decide) (fun c_2 => ?_) (fun c_2 => ?_)
    · exact absurd c_2 (nI_ge hi (by omega))
    · refine lv_iload_n hx hb dX1_tenancyAt_12 rfl (lv_at hl 1 rfl) ?_
      refine lv_aload_n hx hb dX1_tenancyAt_13 rfl (lv_at hl 0 rfl) ?_
      refine z_g1 (f := fb) (v := .ref (G.1 + (B + 1))) 5 hx hb hts hown hK hZ (zk_book hB) hfb (by decide) q156 rfl dX1_tenancyAt_14 ?_
      refine z_talen hx hb hK hZ (zk_ta hB) dX1_tenancyAt_17 ?_
      refine lv_icmp_lt (tgt := 23) hx hb dX1_tenancyAt_18 (by decide) (fun c_3 => ?_) (fun c_3 => ?_)
      · refine lv_aload_n hx hb dX1_tenancyAt_23 rfl (lv_at hl 0 rfl) ?_
        refine z_g1 (f := fb) (v := .ref (G.1 + (B + 1))) 5 hx hb hts hown hK hZ (zk_book hB) hfb (by decide) q156 rfl dX1_tenancyAt_24 ?_
        refine lv_iload_n hx hb dX1_tenancyAt_27 rfl (lv_at hl 1 rfl) ?_
        refine z_taload hx hb hK hZ (zk_ta hB) (vp_in_nI (by omega) (by decide)) dX1_tenancyAt_28 ?_
        rw [nI_clamp (by omega : i < 2 ^ 31)]
        exact z_aret hx hb hr (Or.inl ⟨_, rfl⟩) hlk hK hZ hS ⟨rfl, rfl⟩ rfl dX1_tenancyAt_29
      · exact absurd (show nI i < nI 6 from nI_lt (by omega) (by decide)) c_3
set_option maxHeartbeats 4000000 in
set_option maxRecDepth 100000 in
theorem c_X1_tenancyAt_no (l : Launch) (G : zG) (μ : zM) (B : Nat) (hB : zB B) (fb : Nat → Int32) (hfb : μ B = fb) (T : Nat) (hT : fb 3 = nI T) (x : Int32) (hxx : x < 0 ∨ nI T ≤ x) : zMet l G yX1_tenancyAt cX1_tenancyAt 2 (some (.object "TenancyDeposits$Tenancy")) 0 0 [.ref (G.1 + B), .int x] μ (zQq G none μ) := by
  refine z_start (lv := [(0, .ref (G.1 + B)), (1, .int x)]) (by decide) (Nat.le_of_ble_eq_true rfl) rfl ?_
  intro p e s m args below meth c ls hx hb hml hr hlk hts hown hK hZ hS hl
  have hown : s.vm.findClass RX1 = some m.cls := hown
  refine lv_iload_n hx hb dX1_tenancyAt_0 rfl (lv_at hl 1 rfl) ?_
  refine lv_if_lt (tgt := 21) hx hb dX1_tenancyAt_1 (by decide) (fun c_1 => ?_) (fun c_1 => ?_)
  · refine lv_null hx hb dX1_tenancyAt_21 ?_
    exact z_aret hx hb hr (Or.inl ⟨_, rfl⟩) hlk hK hZ hS ⟨rfl, rfl⟩ rfl dX1_tenancyAt_22
  · refine lv_iload_n hx hb dX1_tenancyAt_4 rfl (lv_at hl 1 rfl) ?_
    refine lv_aload_n hx hb dX1_tenancyAt_5 rfl (lv_at hl 0 rfl) ?_
    refine z_g1 (f := fb) (v := .int (nI T)) 3 hx hb hts hown hK hZ (zk_book hB) hfb (by decide) q152 (congrArg (fun z => some (Value.int z)) hT) dX1_tenancyAt_6 ?_
    refine lv_icmp_ge (tgt := 21) hx hb dX1_tenancyAt_9 (by decide) (fun c_2 => ?_) (fun c_2 => ?_)
    · refine lv_null hx hb dX1_tenancyAt_21 ?_
      exact z_aret hx hb hr (Or.inl ⟨_, rfl⟩) hlk hK hZ hS ⟨rfl, rfl⟩ rfl dX1_tenancyAt_22
    · exact absurd (hxx.resolve_left c_1) c_2
theorem hdX1_itemAt : yX1_itemAt.cls = RX1 ∧ yX1_itemAt.cls ≠ "java/lang/invoke/MethodHandle" ∧ yX1_itemAt.cls ≠ "java/lang/invoke/VarHandle" ∧ (parseMethodDescriptor yX1_itemAt.desc).map (fun d => d.parameters.length) = some 1 := by decide +kernel
set_option maxHeartbeats 4000000 in
set_option maxRecDepth 100000 in
theorem c_X1_itemAt_ok (l : Launch) (G : zG) (μ : zM) (B : Nat) (hB : zB B) (fb : Nat → Int32) (hfb : μ B = fb) (I i : Nat) (hT : fb 4 = nI I) (hT6 : I ≤ 24) (hi : i < I) : zMet l G yX1_itemAt cX1_itemAt 2 (some (.object "TenancyDeposits$Item")) 0 0 [.ref (G.1 + B), .int (nI i)] μ (zQq G (some (G.1 + (B + (15 + i)))) μ) := by
  refine z_start (lv := [(0, .ref (G.1 + B)), (1, .int (nI i))]) (by decide) (Nat.le_of_ble_eq_true rfl) rfl ?_
  intro p e s m args below meth c ls hx hb hml hr hlk hts hown hK hZ hS hl
  have hown : s.vm.findClass RX1 = some m.cls := hown
  refine lv_iload_n hx hb dX1_itemAt_0 rfl (lv_at hl 1 rfl) ?_
  refine lv_if_lt (tgt := 21) hx hb dX1_itemAt_1 (by decide) (fun c_1 => ?_) (fun c_1 => ?_)
  · exact absurd c_1 (nI_pos (by omega))
  · refine lv_iload_n hx hb dX1_itemAt_4 rfl (lv_at hl 1 rfl) ?_
    refine lv_aload_n hx hb dX1_itemAt_5 rfl (lv_at hl 0 rfl) ?_
    refine z_g1 (f := fb) (v := .int (nI I)) 4 hx hb hts hown hK hZ (zk_book hB) hfb (by decide) q154 (congrArg (fun z => some (Value.int z)) hT) dX1_itemAt_6 ?_
    refine lv_icmp_ge (tgt := 21) hx hb dX1_itemAt_9 (by decide) (fun c_2 => ?_) (fun c_2 => ?_)
    · exact absurd c_2 (nI_ge hi (by omega))
    · refine lv_iload_n hx hb dX1_itemAt_12 rfl (lv_at hl 1 rfl) ?_
      refine lv_aload_n hx hb dX1_itemAt_13 rfl (lv_at hl 0 rfl) ?_
      refine z_g1 (f := fb) (v := .ref (G.1 + (B + 2))) 6 hx hb hts hown hK hZ (zk_book hB) hfb (by decide) q157 rfl dX1_itemAt_14 ?_
      refine z_ialen hx hb hK hZ (zk_ia hB) dX1_itemAt_17 ?_
      refine lv_icmp_lt (tgt := 23) hx hb dX1_itemAt_18 (by decide) (fun c_3 => ?_) (fun c_3 => ?_)
      · refine lv_aload_n hx hb dX1_itemAt_23 rfl (lv_at hl 0 rfl) ?_
        refine z_g1 (f := fb) (v := .ref (G.1 + (B + 2))) 6 hx hb hts hown hK hZ (zk_book hB) hfb (by decide) q157 rfl dX1_itemAt_24 ?_
        refine lv_iload_n hx hb dX1_itemAt_27 rfl (lv_at hl 1 rfl) ?_
        refine z_iaload hx hb hK hZ (zk_ia hB) (vp_in_nI (by omega) (by decide)) dX1_itemAt_28 ?_
        rw [nI_clamp (by omega : i < 2 ^ 31)]
        exact z_aret hx hb hr (Or.inl ⟨_, rfl⟩) hlk hK hZ hS ⟨rfl, rfl⟩ rfl dX1_itemAt_29
      · exact absurd (show nI i < nI 24 from nI_lt (by omega) (by decide)) c_3
set_option maxHeartbeats 4000000 in
set_option maxRecDepth 100000 in
theorem c_X1_itemAt_no (l : Launch) (G : zG) (μ : zM) (B : Nat) (hB : zB B) (fb : Nat → Int32) (hfb : μ B = fb) (I : Nat) (hT : fb 4 = nI I) (x : Int32) (hxx : x < 0 ∨ nI I ≤ x) : zMet l G yX1_itemAt cX1_itemAt 2 (some (.object "TenancyDeposits$Item")) 0 0 [.ref (G.1 + B), .int x] μ (zQq G none μ) := by
  refine z_start (lv := [(0, .ref (G.1 + B)), (1, .int x)]) (by decide) (Nat.le_of_ble_eq_true rfl) rfl ?_
  intro p e s m args below meth c ls hx hb hml hr hlk hts hown hK hZ hS hl
  have hown : s.vm.findClass RX1 = some m.cls := hown
  refine lv_iload_n hx hb dX1_itemAt_0 rfl (lv_at hl 1 rfl) ?_
  refine lv_if_lt (tgt := 21) hx hb dX1_itemAt_1 (by decide) (fun c_1 => ?_) (fun c_1 => ?_)
  · refine lv_null hx hb dX1_itemAt_21 ?_
    exact z_aret hx hb hr (Or.inl ⟨_, rfl⟩) hlk hK hZ hS ⟨rfl, rfl⟩ rfl dX1_itemAt_22
  · refine lv_iload_n hx hb dX1_itemAt_4 rfl (lv_at hl 1 rfl) ?_
    refine lv_aload_n hx hb dX1_itemAt_5 rfl (lv_at hl 0 rfl) ?_
    refine z_g1 (f := fb) (v := .int (nI I)) 4 hx hb hts hown hK hZ (zk_book hB) hfb (by decide) q154 (congrArg (fun z => some (Value.int z)) hT) dX1_itemAt_6 ?_
    refine lv_icmp_ge (tgt := 21) hx hb dX1_itemAt_9 (by decide) (fun c_2 => ?_) (fun c_2 => ?_)
    · refine lv_null hx hb dX1_itemAt_21 ?_
      exact z_aret hx hb hr (Or.inl ⟨_, rfl⟩) hlk hK hZ hS ⟨rfl, rfl⟩ rfl dX1_itemAt_22
    · exact absurd (hxx.resolve_left c_1) c_2
def s_X1_daysOf (f : Nat → Int32) (g : Nat → Int32) : Int32 := if (g 2) = 0 then ((f 0) - (g 1))
  else ((g 3) - (g 1))
theorem hdX1_daysOf : yX1_daysOf.cls = RX1 ∧ yX1_daysOf.cls ≠ "java/lang/invoke/MethodHandle" ∧ yX1_daysOf.cls ≠ "java/lang/invoke/VarHandle" ∧ (parseMethodDescriptor yX1_daysOf.desc).map (fun d => d.parameters.length) = some 1 := by decide +kernel
set_option maxHeartbeats 4000000 in
set_option maxRecDepth 100000 in
theorem c_X1_daysOf (l : Launch) (G : zG) (μ : zM) (n : Nat) (f : Nat → Int32) (hk : zk n = 1) (hf : μ n = f) (o2 : Nat) (g : Nat → Int32) (hko2 : zk o2 = 4) (hfo2 : μ o2 = g) : zMet l G yX1_daysOf cX1_daysOf 3 (some .int) 0 0 [.ref (G.1 + n), .ref (G.1 + o2)] μ (zQi G (s_X1_daysOf f g) μ) := by
  refine z_start (lv := [(0, .ref (G.1 + n)), (1, .ref (G.1 + o2))]) (by decide) (Nat.le_of_ble_eq_true rfl) rfl ?_
  intro p e s m args below meth c ls hx hb hml hr hlk hts hown hK hZ hS hl
  have hown : s.vm.findClass RX1 = some m.cls := hown
  refine lv_aload_n hx hb dX1_daysOf_0 rfl (lv_at hl 1 rfl) ?_
  refine z_g4 (f := g) (v := .int (g 2)) 2 hx hb hts hown hK hZ hko2 hfo2 (by decide) q67 rfl dX1_daysOf_1 ?_
  refine lv_if_ne (tgt := 14) hx hb dX1_daysOf_4 (by decide) (fun c_1 => ?_) (fun c_1 => ?_)
  · refine lv_aload_n hx hb dX1_daysOf_14 rfl (lv_at hl 1 rfl) ?_
    refine z_g4 (f := g) (v := .int (g 3)) 3 hx hb hts hown hK hZ hko2 hfo2 (by decide) q70 rfl dX1_daysOf_15 ?_
    refine lv_istore_n (lv' := [(2, .int (g 3)), (0, .ref (G.1 + n)), (1, .ref (G.1 + o2))]) hx hb dX1_daysOf_18 rfl hl (by decide) rfl (fun ls hl => ?_)
    refine lv_iload_n hx hb dX1_daysOf_19 rfl (lv_at hl 0 rfl) ?_
    refine lv_aload_n hx hb dX1_daysOf_20 rfl (lv_at hl 2 rfl) ?_
    refine z_g4 (f := g) (v := .int (g 1)) 1 hx hb hts hown hK hZ hko2 hfo2 (by decide) q64 rfl dX1_daysOf_21 ?_
    refine lv_isub hx hb dX1_daysOf_24 ?_
    exact z_iret hx hb hr hlk hK hZ hS ⟨by rw [s_X1_daysOf, if_neg c_1], rfl⟩ dX1_daysOf_25
  · refine lv_aload_n hx hb dX1_daysOf_7 rfl (lv_at hl 0 rfl) ?_
    refine z_g1 (f := f) (v := .int (f 0)) 0 hx hb hts hown hK hZ hk hf (by decide) q146 rfl dX1_daysOf_8 ?_
    refine lv_goto (tgt := 18) hx hb dX1_daysOf_11 (by decide) ?_
    refine lv_istore_n (lv' := [(2, .int (f 0)), (0, .ref (G.1 + n)), (1, .ref (G.1 + o2))]) hx hb dX1_daysOf_18 rfl hl (by decide) rfl (fun ls hl => ?_)
    refine lv_iload_n hx hb dX1_daysOf_19 rfl (lv_at hl 0 rfl) ?_
    refine lv_aload_n hx hb dX1_daysOf_20 rfl (lv_at hl 2 rfl) ?_
    refine z_g4 (f := g) (v := .int (g 1)) 1 hx hb hts hown hK hZ hko2 hfo2 (by decide) q64 rfl dX1_daysOf_21 ?_
    refine lv_isub hx hb dX1_daysOf_24 ?_
    exact z_iret hx hb hr hlk hK hZ hS ⟨by rw [s_X1_daysOf, if_pos c_1], rfl⟩ dX1_daysOf_25
def s_X1_interestOf (f : Nat → Int32) (g : Nat → Int32) : Int32 := if (g 2) = 3 then (g 5)
  else (FP.f2i (FP.fdiv (FP.fmul (FP.fmul (FP.i2f (g 0)) (Int32.toUInt32 (f 2))) (FP.i2f ((f 0) - (g 1)))) 1136033792))
theorem hdX1_interestOf : yX1_interestOf.cls = RX1 ∧ yX1_interestOf.cls ≠ "java/lang/invoke/MethodHandle" ∧ yX1_interestOf.cls ≠ "java/lang/invoke/VarHandle" ∧ (parseMethodDescriptor yX1_interestOf.desc).map (fun d => d.parameters.length) = some 1 := by decide +kernel
set_option maxHeartbeats 4000000 in
set_option maxRecDepth 100000 in
theorem c_X1_interestOf (l : Launch) (G : zG) (μ : zM) (n : Nat) (f : Nat → Int32) (hk : zk n = 1) (hf : μ n = f) (o2 : Nat) (g : Nat → Int32) (hko2 : zk o2 = 4) (hfo2 : μ o2 = g) (hr8 : fK 125 (Int32.toUInt32 (f 2))) : zMet l G yX1_interestOf cX1_interestOf 3 (some .int) 0 0 [.ref (G.1 + n), .ref (G.1 + o2)] μ (zQi G (s_X1_interestOf f g) μ) := by
  refine z_start (lv := [(0, .ref (G.1 + n)), (1, .ref (G.1 + o2))]) (by decide) (Nat.le_of_ble_eq_true rfl) rfl ?_
  intro p e s m args below meth c ls hx hb hml hr hlk hts hown hK hZ hS hl
  have hown : s.vm.findClass RX1 = some m.cls := hown
  refine lv_aload_n hx hb dX1_interestOf_0 rfl (lv_at hl 1 rfl) ?_
  refine z_g4 (f := g) (v := .int (g 2)) 2 hx hb hts hown hK hZ hko2 hfo2 (by decide) q67 rfl dX1_interestOf_1 ?_
  refine lv_iconst (v := 3) hx hb dX1_interestOf_4 (by decide) ?_
  refine lv_icmp_ne (tgt := 13) hx hb dX1_interestOf_5 (by decide) (fun c_1 => ?_) (fun c_1 => ?_)
  · refine lv_aload_n hx hb dX1_interestOf_13 rfl (lv_at hl 0 rfl) ?_
    refine z_g1 (f := f) (v := .int (f 0)) 0 hx hb hts hown hK hZ hk hf (by decide) q146 rfl dX1_interestOf_14 ?_
    refine lv_aload_n hx hb dX1_interestOf_17 rfl (lv_at hl 1 rfl) ?_
    refine z_g4 (f := g) (v := .int (g 1)) 1 hx hb hts hown hK hZ hko2 hfo2 (by decide) q64 rfl dX1_interestOf_18 ?_
    refine lv_isub hx hb dX1_interestOf_21 ?_
    refine lv_istore_n (lv' := [(2, .int ((f 0) - (g 1))), (0, .ref (G.1 + n)), (1, .ref (G.1 + o2))]) hx hb dX1_interestOf_22 rfl hl (by decide) rfl (fun ls hl => ?_)
    refine lv_aload_n hx hb dX1_interestOf_23 rfl (lv_at hl 2 rfl) ?_
    refine z_g4 (f := g) (v := .int (g 0)) 0 hx hb hts hown hK hZ hko2 hfo2 (by decide) q60 rfl dX1_interestOf_24 ?_
    refine lv_i2f hx hb dX1_interestOf_27 ?_
    refine lv_aload_n hx hb dX1_interestOf_28 rfl (lv_at hl 1 rfl) ?_
    refine z_g1 (f := f) (v := .float (Int32.toUInt32 (f 2))) 2 hx hb hts hown hK hZ hk hf (by decide) q150 rfl dX1_interestOf_29 ?_
    refine lv_fmul hx hb dX1_interestOf_32 ((fk_mul (fk_i2f _) hr8 (by decide) (by decide)).n (by decide)) ?_
    refine lv_iload_n hx hb dX1_interestOf_33 rfl (lv_at hl 0 rfl) ?_
    refine lv_i2f hx hb dX1_interestOf_34 ?_
    refine lv_fmul hx hb dX1_interestOf_35 ((fk_mul (fk_mul (fk_i2f _) hr8 (by decide) (by decide)) (fk_i2f _) (by decide) (by decide)).n (by decide)) ?_
    refine lv_ldcf hx hb hown (hts _ q336) dX1_interestOf_36 ?_
    refine lv_fdiv hx hb dX1_interestOf_38 ((fk_div (fk_mul (fk_mul (fk_i2f _) hr8 (by decide) (by decide)) (fk_i2f _) (by decide) (by decide)) fk_365.1 fk_365.2 (by decide) (by decide)).n (by decide)) ?_
    refine lv_f2i hx hb dX1_interestOf_39 ?_
    exact z_iret hx hb hr hlk hK hZ hS ⟨by rw [s_X1_interestOf, if_neg c_1], rfl⟩ dX1_interestOf_40
  · refine lv_aload_n hx hb dX1_interestOf_8 rfl (lv_at hl 1 rfl) ?_
    refine z_g4 (f := g) (v := .int (g 5)) 5 hx hb hts hown hK hZ hko2 hfo2 (by decide) q75 rfl dX1_interestOf_9 ?_
    exact z_iret hx hb hr hlk hK hZ hS ⟨by rw [s_X1_interestOf, if_pos c_1], rfl⟩ dX1_interestOf_12
theorem hdX1_daysOfItem : yX1_daysOfItem.cls = RX1 ∧ yX1_daysOfItem.cls ≠ "java/lang/invoke/MethodHandle" ∧ yX1_daysOfItem.cls ≠ "java/lang/invoke/VarHandle" ∧ (parseMethodDescriptor yX1_daysOfItem.desc).map (fun d => d.parameters.length) = some 1 := by decide +kernel
set_option maxHeartbeats 4000000 in
set_option maxRecDepth 100000 in
theorem c_X1_daysOfItem (l : Launch) (G : zG) (μ : zM) (fb : Nat → Int32) (hfb : μ 1 = fb) (n : Nat) (f : Nat → Int32) (hk : zk n = 6) (hf : μ n = f) (T h : Nat) (hT : fb 3 = nI T) (hT6 : T ≤ 6) (hh : h < T) (he : f 0 = nI h) (g : Nat → Int32) (hg : μ (1 + (3 + 2 * h)) = g) : zMet l G yX1_daysOfItem cX1_daysOfItem 3 (some .int) 1 22 [.ref (G.1 + 1), .ref (G.1 + n)] μ (zQi G (s_X1_daysOf fb g) μ) := by
  refine z_start (lv := [(0, .ref (G.1 + 1)), (1, .ref (G.1 + n))]) (by decide) (Nat.le_of_ble_eq_true rfl) rfl ?_
  intro p e s m args below meth c ls hx hb hml hr hlk hts hown hK hZ hS hl
  have hown : s.vm.findClass RX1 = some m.cls := hown
  refine lv_aload_n hx hb dX1_daysOfItem_0 rfl (lv_at hl 0 rfl) ?_
  refine lv_aload_n hx hb dX1_daysOfItem_1 rfl (lv_at hl 1 rfl) ?_
  refine z_g6 (f := f) (v := .int (nI h)) 0 hx hb hts hown hK hZ hk hf (by decide) q100 (congrArg (fun z => some (Value.int z)) he) dX1_daysOfItem_2 ?_
  refine z_cVr (As := [.int (nI h)]) (rest := []) hx hb hml hown hts hl hK hZ hS (c_X1_tenancyAt_ok l G μ 1 hB1 fb hfb T h hT hT6 hh) (z_G q261 q262 q263 q2 q264) hdX1_tenancyAt ⟨Nat.le_of_ble_eq_true rfl, Nat.le_of_ble_eq_true rfl⟩ (zk_book hB1) (by decide) rfl rfl rfl rfl (Nat.le_of_ble_eq_true rfl) dX1_daysOfItem_5 ⟨(Nat.zero_le _), (Nat.zero_le _)⟩ (fun H locs hZ hS => ?_)
  refine lv_astore_n (lv' := [(2, .ref (G.1 + (1 + (3 + 2 * h)))), (0, .ref (G.1 + 1)), (1, .ref (G.1 + n))]) hx hb dX1_daysOfItem_8 rfl hl (by decide) rfl (fun ls hl => ?_)
  refine lv_aload_n hx hb dX1_daysOfItem_9 rfl (lv_at hl 0 rfl) ?_
  refine lv_ifnonnull (tgt := 17) hx hb dX1_daysOfItem_10 (by decide) ?_
  refine lv_aload_n hx hb dX1_daysOfItem_17 rfl (lv_at hl 1 rfl) ?_
  refine lv_aload_n hx hb dX1_daysOfItem_18 rfl (lv_at hl 0 rfl) ?_
  refine z_cVi (As := [.ref (G.1 + (1 + (3 + 2 * h)))]) (rest := []) hx hb hml hown hts hl hK hZ hS (c_X1_daysOf l G μ 1 fb (zk_book hB1) hfb (1 + (3 + 2 * h)) g (zk_ten hB1 (by omega)) hg) (z_G q399 q329 q330 q2 q331) hdX1_daysOf ⟨Nat.le_of_ble_eq_true rfl, Nat.le_of_ble_eq_true rfl⟩ (zk_book hB1) (by decide) rfl rfl rfl rfl (Nat.le_of_ble_eq_true rfl) dX1_daysOfItem_19 ⟨(Nat.zero_le _), (Nat.zero_le _)⟩ (fun H locs hZ hS => ?_)
  exact z_iret hx hb hr hlk hK hZ hS ⟨rfl, rfl⟩ dX1_daysOfItem_22
theorem hdX1_stateOf : yX1_stateOf.cls = RX1 ∧ yX1_stateOf.cls ≠ "java/lang/invoke/MethodHandle" ∧ yX1_stateOf.cls ≠ "java/lang/invoke/VarHandle" ∧ (parseMethodDescriptor yX1_stateOf.desc).map (fun d => d.parameters.length) = some 1 := by decide +kernel
set_option maxHeartbeats 4000000 in
set_option maxRecDepth 100000 in
theorem c_X1_stateOf (l : Launch) (G : zG) (μ : zM) (fb : Nat → Int32) (hfb : μ 1 = fb) (n : Nat) (f : Nat → Int32) (hk : zk n = 6) (hf : μ n = f) (T h : Nat) (hT : fb 3 = nI T) (hT6 : T ≤ 6) (hh : h < T) (he : f 0 = nI h) (g : Nat → Int32) (hg : μ (1 + (3 + 2 * h)) = g) : zMet l G yX1_stateOf cX1_stateOf 3 (some .int) 1 21 [.ref (G.1 + 1), .ref (G.1 + n)] μ (zQi G (g 2) μ) := by
  refine z_start (lv := [(0, .ref (G.1 + 1)), (1, .ref (G.1 + n))]) (by decide) (Nat.le_of_ble_eq_true rfl) rfl ?_
  intro p e s m args below meth c ls hx hb hml hr hlk hts hown hK hZ hS hl
  have hown : s.vm.findClass RX1 = some m.cls := hown
  refine lv_aload_n hx hb dX1_stateOf_0 rfl (lv_at hl 0 rfl) ?_
  refine lv_aload_n hx hb dX1_stateOf_1 rfl (lv_at hl 1 rfl) ?_
  refine z_g6 (f := f) (v := .int (nI h)) 0 hx hb hts hown hK hZ hk hf (by decide) q100 (congrArg (fun z => some (Value.int z)) he) dX1_stateOf_2 ?_
  refine z_cVr (As := [.int (nI h)]) (rest := []) hx hb hml hown hts hl hK hZ hS (c_X1_tenancyAt_ok l G μ 1 hB1 fb hfb T h hT hT6 hh) (z_G q261 q262 q263 q2 q264) hdX1_tenancyAt ⟨Nat.le_of_ble_eq_true rfl, Nat.le_of_ble_eq_true rfl⟩ (zk_book hB1) (by decide) rfl rfl rfl rfl (Nat.le_of_ble_eq_true rfl) dX1_stateOf_5 ⟨(Nat.zero_le _), (Nat.zero_le _)⟩ (fun H locs hZ hS => ?_)
  refine lv_astore_n (lv' := [(2, .ref (G.1 + (1 + (3 + 2 * h)))), (0, .ref (G.1 + 1)), (1, .ref (G.1 + n))]) hx hb dX1_stateOf_8 rfl hl (by decide) rfl (fun ls hl => ?_)
  refine lv_aload_n hx hb dX1_stateOf_9 rfl (lv_at hl 0 rfl) ?_
  refine lv_ifnonnull (tgt := 17) hx hb dX1_stateOf_10 (by decide) ?_
  refine lv_aload_n hx hb dX1_stateOf_17 rfl (lv_at hl 0 rfl) ?_
  refine z_g4 (f := g) (v := .int (g 2)) 2 hx hb hts hown hK hZ (zk_ten hB1 (by omega)) hg (by decide) q67 rfl dX1_stateOf_18 ?_
  exact z_iret hx hb hr hlk hK hZ hS ⟨rfl, rfl⟩ dX1_stateOf_21
def s_X1_can (f g : Nat → Int32) : Int32 := if g 2 = 2 then (if f 7 ≤ 0 then 0 else 1) else 0
theorem hdX1_canBeAnswered : yX1_canBeAnswered.cls = RX1 ∧ yX1_canBeAnswered.cls ≠ "java/lang/invoke/MethodHandle" ∧ yX1_canBeAnswered.cls ≠ "java/lang/invoke/VarHandle" ∧ (parseMethodDescriptor yX1_canBeAnswered.desc).map (fun d => d.parameters.length) = some 1 := by decide +kernel
set_option maxHeartbeats 4000000 in
set_option maxRecDepth 100000 in
theorem c_X1_canBeAnswered (l : Launch) (G : zG) (μ : zM) (fb : Nat → Int32) (hfb : μ 1 = fb) (n : Nat) (f : Nat → Int32) (hk : zk n = 6) (hf : μ n = f) (T h : Nat) (hT : fb 3 = nI T) (hT6 : T ≤ 6) (hh : h < T) (he : f 0 = nI h) (g : Nat → Int32) (hg : μ (1 + (3 + 2 * h)) = g) : zMet l G yX1_canBeAnswered cX1_canBeAnswered 2 (some .boolean) 2 43 [.ref (G.1 + 1), .ref (G.1 + n)] μ (zQi G (s_X1_can f g) μ) := by
  refine z_start (lv := [(0, .ref (G.1 + 1)), (1, .ref (G.1 + n))]) (by decide) (Nat.le_of_ble_eq_true rfl) rfl ?_
  intro p e s m args below meth c ls hx hb hml hr hlk hts hown hK hZ hS hl
  have hown : s.vm.findClass RX1 = some m.cls := hown
  refine lv_aload_n hx hb dX1_canBeAnswered_0 rfl (lv_at hl 0 rfl) ?_
  refine lv_aload_n hx hb dX1_canBeAnswered_1 rfl (lv_at hl 1 rfl) ?_
  refine z_cVi (As := [.ref (G.1 + n)]) (rest := []) hx hb hml hown hts hl hK hZ hS (c_X1_stateOf l G μ fb hfb n f hk hf T h hT hT6 hh he g hg) (z_G q527 q412 q413 q2 q414) hdX1_stateOf ⟨Nat.le_of_ble_eq_true rfl, Nat.le_of_ble_eq_true rfl⟩ (zk_book hB1) (by decide) rfl rfl rfl rfl (Nat.le_of_ble_eq_true rfl) dX1_canBeAnswered_2 ⟨(Nat.zero_le _), (Nat.zero_le _)⟩ (fun H locs hZ hS => ?_)
  refine lv_iconst (v := 2) hx hb dX1_canBeAnswered_5 (by decide) ?_
  refine lv_icmp_ne (tgt := 20) hx hb dX1_canBeAnswered_6 (by decide) (fun c_1 => ?_) (fun c_1 => ?_)
  · refine lv_iconst (v := 0) hx hb dX1_canBeAnswered_20 (by decide) ?_
    exact z_zret hx hb hr hlk rfl hK hZ hS ⟨by rw [s_X1_can, if_neg c_1], rfl⟩ dX1_canBeAnswered_21
  · refine lv_aload_n hx hb dX1_canBeAnswered_9 rfl (lv_at hl 1 rfl) ?_
    refine z_g6 (f := f) (v := .int (f 7)) 7 hx hb hts hown hK hZ hk hf (by decide) q115 rfl dX1_canBeAnswered_10 ?_
    refine lv_if_le (tgt := 20) hx hb dX1_canBeAnswered_13 (by decide) (fun c_2 => ?_) (fun c_2 => ?_)
    · refine lv_iconst (v := 0) hx hb dX1_canBeAnswered_20 (by decide) ?_
      exact z_zret hx hb hr hlk rfl hK hZ hS ⟨by rw [s_X1_can, if_pos c_1, if_pos c_2], rfl⟩ dX1_canBeAnswered_21
    · refine lv_iconst (v := 1) hx hb dX1_canBeAnswered_16 (by decide) ?_
      refine lv_goto (tgt := 21) hx hb dX1_canBeAnswered_17 (by decide) ?_
      exact z_zret hx hb hr hlk rfl hK hZ hS ⟨by rw [s_X1_can, if_pos c_1, if_neg c_2], rfl⟩ dX1_canBeAnswered_21
def s_share (f : Nat → Int32) (w : Nat) : Int32 := if f 8 = 2 then
    (match w with | 0 => 1 | 1 => (if f 7 ≤ 0 then 0 else 1) | 2 => f 7 | 3 => f 6 | 4 => 1 | 5 => f 7 | 6 => s_X3_award f | _ => 0)
  else (match w with | 0 => 1 | 1 => (if f 7 ≤ 0 then 0 else 1) | 2 => f 7 | 3 => f 6 | _ => 0)
theorem hdX1_shareOf : yX1_shareOf.cls = RX1 ∧ yX1_shareOf.cls ≠ "java/lang/invoke/MethodHandle" ∧ yX1_shareOf.cls ≠ "java/lang/invoke/VarHandle" ∧ (parseMethodDescriptor yX1_shareOf.desc).map (fun d => d.parameters.length) = some 2 := by decide +kernel
set_option maxHeartbeats 4000000 in
set_option maxRecDepth 100000 in
theorem c_X1_shareOf (l : Launch) (G : zG) (μ : zM) (o1 : Nat) (hko : zk o1 = 1) (n : Nat) (f : Nat → Int32) (hk : zk n = 6) (hf : μ n = f) (w : Nat) (hw : w ≤ 6) : zMet l G yX1_shareOf cX1_shareOf 4 (some .int) 2 41 [.ref (G.1 + o1), .ref (G.1 + n), .int (nI w)] μ (zQi G (s_share f w) μ) := by
  refine z_start (lv := [(0, .ref (G.1 + o1)), (1, .ref (G.1 + n)), (2, .int (nI w))]) (by decide) (Nat.le_of_ble_eq_true rfl) rfl ?_
  intro p e s m args below meth c ls hx hb hml hr hlk hts hown hK hZ hS hl
  have hown : s.vm.findClass RX1 = some m.cls := hown
  refine lv_aload_n hx hb dX1_shareOf_0 rfl (lv_at hl 1 rfl) ?_
  refine z_g6 (f := f) (v := .int (f 8)) 8 hx hb hts hown hK hZ hk hf (by decide) q118 rfl dX1_shareOf_1 ?_
  refine lv_iconst (v := 2) hx hb dX1_shareOf_4 (by decide) ?_
  refine lv_icmp_ne (tgt := 12) hx hb dX1_shareOf_5 (by decide) (fun c_1 => ?_) (fun c_1 => ?_)
  · refine lv_iconst (v := 0) hx hb dX1_shareOf_12 (by decide) ?_
    refine lv_istore_n (lv' := [(3, .int 0), (0, .ref (G.1 + o1)), (1, .ref (G.1 + n)), (2, .int (nI w))]) hx hb dX1_shareOf_13 rfl hl (by decide) rfl (fun ls hl => ?_)
    refine lv_iload_n hx hb dX1_shareOf_14 rfl (lv_at hl 3 rfl) ?_
    have hcs : w = 0 ∨ w = 1 ∨ w = 2 ∨ w = 3 ∨ w = 4 ∨ w = 5 ∨ w = 6 := by omega
    rcases hcs with rfl | rfl | rfl | rfl | rfl | rfl | rfl
    · refine lv_tableIn (off := 41) (tgt := 56) hx hb dX1_shareOf_15 (by decide) (by decide) rfl (by decide) ?_
      refine lv_iconst (v := 1) hx hb dX1_shareOf_56 (by decide) ?_
      exact z_iret hx hb hr hlk hK hZ hS ⟨(if_neg c_1).symm, rfl⟩ dX1_shareOf_57
    · refine lv_tableIn (off := 43) (tgt := 58) hx hb dX1_shareOf_15 (by decide) (by decide) rfl (by decide) ?_
      refine lv_aload_n hx hb dX1_shareOf_58 rfl (lv_at hl 2 rfl) ?_
      refine z_g6 (f := f) (v := .int (f 7)) 7 hx hb hts hown hK hZ hk hf (by decide) q115 rfl dX1_shareOf_59 ?_
      refine lv_if_le (tgt := 69) hx hb dX1_shareOf_62 (by decide) (fun c_2 => ?_) (fun c_2 => ?_)
      · refine lv_iconst (v := 0) hx hb dX1_shareOf_69 (by decide) ?_
        exact z_iret hx hb hr hlk hK hZ hS ⟨((if_neg c_1).trans (if_pos c_2)).symm, rfl⟩ dX1_shareOf_70
      · refine lv_iconst (v := 1) hx hb dX1_shareOf_65 (by decide) ?_
        refine lv_goto (tgt := 70) hx hb dX1_shareOf_66 (by decide) ?_
        exact z_iret hx hb hr hlk hK hZ hS ⟨((if_neg c_1).trans (if_neg c_2)).symm, rfl⟩ dX1_shareOf_70
    · refine lv_tableIn (off := 56) (tgt := 71) hx hb dX1_shareOf_15 (by decide) (by decide) rfl (by decide) ?_
      refine lv_aload_n hx hb dX1_shareOf_71 rfl (lv_at hl 2 rfl) ?_
      refine z_g6 (f := f) (v := .int (f 7)) 7 hx hb hts hown hK hZ hk hf (by decide) q115 rfl dX1_shareOf_72 ?_
      exact z_iret hx hb hr hlk hK hZ hS ⟨(if_neg c_1).symm, rfl⟩ dX1_shareOf_75
    · refine lv_tableIn (off := 61) (tgt := 76) hx hb dX1_shareOf_15 (by decide) (by decide) rfl (by decide) ?_
      refine lv_aload_n hx hb dX1_shareOf_76 rfl (lv_at hl 2 rfl) ?_
      refine z_g6 (f := f) (v := .int (f 6)) 6 hx hb hts hown hK hZ hk hf (by decide) q112 rfl dX1_shareOf_77 ?_
      exact z_iret hx hb hr hlk hK hZ hS ⟨(if_neg c_1).symm, rfl⟩ dX1_shareOf_80
    · refine lv_tableIn (off := 66) (tgt := 81) hx hb dX1_shareOf_15 (by decide) (by decide) rfl (by decide) ?_
      refine lv_iload_n hx hb dX1_shareOf_81 rfl (lv_at hl 0 rfl) ?_
      refine lv_if_eq (tgt := 89) hx hb dX1_shareOf_82 (by decide) (fun c_3 => ?_) (fun c_3 => ?_)
      · refine lv_iconst (v := 0) hx hb dX1_shareOf_89 (by decide) ?_
        exact z_iret hx hb hr hlk hK hZ hS ⟨(if_neg c_1).symm, rfl⟩ dX1_shareOf_90
      · exact absurd rfl c_3
    · refine lv_tableIn (off := 76) (tgt := 91) hx hb dX1_shareOf_15 (by decide) (by decide) rfl (by decide) ?_
      refine lv_iload_n hx hb dX1_shareOf_91 rfl (lv_at hl 0 rfl) ?_
      refine lv_if_eq (tgt := 102) hx hb dX1_shareOf_92 (by decide) (fun c_4 => ?_) (fun c_4 => ?_)
      · refine lv_iconst (v := 0) hx hb dX1_shareOf_102 (by decide) ?_
        exact z_iret hx hb hr hlk hK hZ hS ⟨(if_neg c_1).symm, rfl⟩ dX1_shareOf_103
      · exact absurd rfl c_4
    · refine lv_tableIn (off := 89) (tgt := 104) hx hb dX1_shareOf_15 (by decide) (by decide) rfl (by decide) ?_
      refine lv_iload_n hx hb dX1_shareOf_104 rfl (lv_at hl 0 rfl) ?_
      refine lv_if_eq (tgt := 115) hx hb dX1_shareOf_105 (by decide) (fun c_5 => ?_) (fun c_5 => ?_)
      · refine lv_iconst (v := 0) hx hb dX1_shareOf_115 (by decide) ?_
        exact z_iret hx hb hr hlk hK hZ hS ⟨(if_neg c_1).symm, rfl⟩ dX1_shareOf_116
      · exact absurd rfl c_5
  · refine lv_iconst (v := 1) hx hb dX1_shareOf_8 (by decide) ?_
    refine lv_goto (tgt := 13) hx hb dX1_shareOf_9 (by decide) ?_
    refine lv_istore_n (lv' := [(3, .int 1), (0, .ref (G.1 + o1)), (1, .ref (G.1 + n)), (2, .int (nI w))]) hx hb dX1_shareOf_13 rfl hl (by decide) rfl (fun ls hl => ?_)
    refine lv_iload_n hx hb dX1_shareOf_14 rfl (lv_at hl 3 rfl) ?_
    have hcs : w = 0 ∨ w = 1 ∨ w = 2 ∨ w = 3 ∨ w = 4 ∨ w = 5 ∨ w = 6 := by omega
    rcases hcs with rfl | rfl | rfl | rfl | rfl | rfl | rfl
    · refine lv_tableIn (off := 41) (tgt := 56) hx hb dX1_shareOf_15 (by decide) (by decide) rfl (by decide) ?_
      refine lv_iconst (v := 1) hx hb dX1_shareOf_56 (by decide) ?_
      exact z_iret hx hb hr hlk hK hZ hS ⟨(if_pos c_1).symm, rfl⟩ dX1_shareOf_57
    · refine lv_tableIn (off := 43) (tgt := 58) hx hb dX1_shareOf_15 (by decide) (by decide) rfl (by decide) ?_
      refine lv_aload_n hx hb dX1_shareOf_58 rfl (lv_at hl 2 rfl) ?_
      refine z_g6 (f := f) (v := .int (f 7)) 7 hx hb hts hown hK hZ hk hf (by decide) q115 rfl dX1_shareOf_59 ?_
      refine lv_if_le (tgt := 69) hx hb dX1_shareOf_62 (by decide) (fun c_6 => ?_) (fun c_6 => ?_)
      · refine lv_iconst (v := 0) hx hb dX1_shareOf_69 (by decide) ?_
        exact z_iret hx hb hr hlk hK hZ hS ⟨((if_pos c_1).trans (if_pos c_6)).symm, rfl⟩ dX1_shareOf_70
      · refine lv_iconst (v := 1) hx hb dX1_shareOf_65 (by decide) ?_
        refine lv_goto (tgt := 70) hx hb dX1_shareOf_66 (by decide) ?_
        exact z_iret hx hb hr hlk hK hZ hS ⟨((if_pos c_1).trans (if_neg c_6)).symm, rfl⟩ dX1_shareOf_70
    · refine lv_tableIn (off := 56) (tgt := 71) hx hb dX1_shareOf_15 (by decide) (by decide) rfl (by decide) ?_
      refine lv_aload_n hx hb dX1_shareOf_71 rfl (lv_at hl 2 rfl) ?_
      refine z_g6 (f := f) (v := .int (f 7)) 7 hx hb hts hown hK hZ hk hf (by decide) q115 rfl dX1_shareOf_72 ?_
      exact z_iret hx hb hr hlk hK hZ hS ⟨(if_pos c_1).symm, rfl⟩ dX1_shareOf_75
    · refine lv_tableIn (off := 61) (tgt := 76) hx hb dX1_shareOf_15 (by decide) (by decide) rfl (by decide) ?_
      refine lv_aload_n hx hb dX1_shareOf_76 rfl (lv_at hl 2 rfl) ?_
      refine z_g6 (f := f) (v := .int (f 6)) 6 hx hb hts hown hK hZ hk hf (by decide) q112 rfl dX1_shareOf_77 ?_
      exact z_iret hx hb hr hlk hK hZ hS ⟨(if_pos c_1).symm, rfl⟩ dX1_shareOf_80
    · refine lv_tableIn (off := 66) (tgt := 81) hx hb dX1_shareOf_15 (by decide) (by decide) rfl (by decide) ?_
      refine lv_iload_n hx hb dX1_shareOf_81 rfl (lv_at hl 0 rfl) ?_
      refine lv_if_eq (tgt := 89) hx hb dX1_shareOf_82 (by decide) (fun c_7 => ?_) (fun c_7 => ?_)
      · exact absurd c_7 (by decide)
      · refine lv_iconst (v := 1) hx hb dX1_shareOf_85 (by decide) ?_
        refine lv_goto (tgt := 90) hx hb dX1_shareOf_86 (by decide) ?_
        exact z_iret hx hb hr hlk hK hZ hS ⟨(if_pos c_1).symm, rfl⟩ dX1_shareOf_90
    · refine lv_tableIn (off := 76) (tgt := 91) hx hb dX1_shareOf_15 (by decide) (by decide) rfl (by decide) ?_
      refine lv_iload_n hx hb dX1_shareOf_91 rfl (lv_at hl 0 rfl) ?_
      refine lv_if_eq (tgt := 102) hx hb dX1_shareOf_92 (by decide) (fun c_8 => ?_) (fun c_8 => ?_)
      · exact absurd c_8 (by decide)
      · refine lv_aload_n hx hb dX1_shareOf_95 rfl (lv_at hl 2 rfl) ?_
        refine z_g6 (f := f) (v := .int (f 7)) 7 hx hb hts hown hK hZ hk hf (by decide) q115 rfl dX1_shareOf_96 ?_
        refine lv_goto (tgt := 103) hx hb dX1_shareOf_99 (by decide) ?_
        exact z_iret hx hb hr hlk hK hZ hS ⟨(if_pos c_1).symm, rfl⟩ dX1_shareOf_103
    · refine lv_tableIn (off := 89) (tgt := 104) hx hb dX1_shareOf_15 (by decide) (by decide) rfl (by decide) ?_
      refine lv_iload_n hx hb dX1_shareOf_104 rfl (lv_at hl 0 rfl) ?_
      refine lv_if_eq (tgt := 115) hx hb dX1_shareOf_105 (by decide) (fun c_9 => ?_) (fun c_9 => ?_)
      · exact absurd c_9 (by decide)
      · refine lv_aload_n hx hb dX1_shareOf_108 rfl (lv_at hl 2 rfl) ?_
        refine z_cVi (As := []) (rest := []) hx hb hml hown hts hl hK hZ hS (c_X3_award l G μ n f hk hf ) (z_G q345 q346 q347 q5 q348) hdX3_award ⟨Nat.le_of_ble_eq_true rfl, Nat.le_of_ble_eq_true rfl⟩ hk (by decide) rfl rfl rfl rfl (Nat.le_of_ble_eq_true rfl) dX1_shareOf_109 ⟨(Nat.zero_le _), (Nat.zero_le _)⟩ (fun H locs hZ hS => ?_)
        refine lv_goto (tgt := 116) hx hb dX1_shareOf_112 (by decide) ?_
        exact z_iret hx hb hr hlk hK hZ hS ⟨(if_pos c_1).symm, rfl⟩ dX1_shareOf_116
def s_tot (μ : zM) (t w : Nat) : Nat → Int32
  | 0 => 0
  | j + 1 => if μ (1 + (15 + j)) 0 = nI t then s_tot μ t w j + s_share (μ (1 + (15 + j))) w else s_tot μ t w j
theorem hdX1_total : yX1_total.cls = RX1 ∧ yX1_total.cls ≠ "java/lang/invoke/MethodHandle" ∧ yX1_total.cls ≠ "java/lang/invoke/VarHandle" ∧ (parseMethodDescriptor yX1_total.desc).map (fun d => d.parameters.length) = some 2 := by decide +kernel
set_option maxHeartbeats 4000000 in
set_option maxRecDepth 100000 in
theorem c_X1_total (l : Launch) (G : zG) (μ : zM) (fb : Nat → Int32) (hfb : μ 1 = fb) (I : Nat) (hI : fb 4 = nI I) (hI24 : I ≤ 24) (t w : Nat) (hw : w ≤ 6) : zMet l G yX1_total cX1_total 6 (some .int) 3 64 [.ref (G.1 + 1), .int (nI t), .int (nI w)] μ (zQi G (s_tot μ t w I) μ) := by
  refine z_start (lv := [(0, .ref (G.1 + 1)), (1, .int (nI t)), (2, .int (nI w))]) (by decide) (Nat.le_of_ble_eq_true rfl) rfl ?_
  intro p e s m args below meth c ls hx hb hml hr hlk hts hown hK hZ hS hl
  have hown : s.vm.findClass RX1 = some m.cls := hown
  have loop : ∀ (k j : Nat), j + k = I → ∀ (H : Heap) (locs : List Loc) (ls : Array Slot), zW G μ H → va_S (zA G) s.heap H locs → lv_has ls 6 [(0, .ref (G.1 + 1)), (1, .int (nI t)), (2, .int (nI w)), (3, .int (s_tot μ t w j)), (4, .int (nI j))] → W p l e { frames := 3, cells := 0, slots := 0, locals := 64 } s m args below meth c H locs 0 0 (MQ below (zQi G (s_tot μ t w I) μ) args s 0 0 (zA G)) (F0 m 5 ls []) := by
    intro k
    induction k with
    | zero =>
      intro j hj H locs ls hZ hS hl
      have hj : I = j := by omega
      subst hj
      refine lv_iload hx hb dX1_total_5 (lv_at hl 4 rfl) ?_
      refine lv_aload_n hx hb dX1_total_7 rfl (lv_at hl 0 rfl) ?_
      refine z_g1 (f := fb) (v := .int (nI I)) 4 hx hb hts hown hK hZ (zk_book hB1) hfb (by decide) q154 (congrArg (fun z => some (Value.int z)) hI) dX1_total_8 ?_
      refine lv_icmp_ge (tgt := 52) hx hb dX1_total_11 (by decide) (fun c_1 => ?_) (fun c_1 => ?_)
      · refine lv_iload_n hx hb dX1_total_52 rfl (lv_at hl 3 rfl) ?_
        exact z_iret hx hb hr hlk hK hZ hS ⟨rfl, rfl⟩ dX1_total_53
      · exact absurd (nI_le (Nat.le_refl _) (by omega)) c_1
    | succ k ih =>
      intro j hj H locs ls hZ hS hl
      refine lv_iload hx hb dX1_total_5 (lv_at hl 4 rfl) ?_
      refine lv_aload_n hx hb dX1_total_7 rfl (lv_at hl 0 rfl) ?_
      refine z_g1 (f := fb) (v := .int (nI I)) 4 hx hb hts hown hK hZ (zk_book hB1) hfb (by decide) q154 (congrArg (fun z => some (Value.int z)) hI) dX1_total_8 ?_
      refine lv_icmp_ge (tgt := 52) hx hb dX1_total_11 (by decide) (fun c_2 => ?_) (fun c_2 => ?_)
      · exact absurd c_2 (nI_ge (by omega) (by omega))
      · refine lv_aload_n hx hb dX1_total_14 rfl (lv_at hl 0 rfl) ?_
        refine lv_iload hx hb dX1_total_15 (lv_at hl 4 rfl) ?_
        refine z_cVr (As := [.int (nI j)]) (rest := []) hx hb hml hown hts hl hK hZ hS (c_X1_itemAt_ok l G μ 1 hB1 fb hfb I j hI hI24 (by omega)) (z_G q273 q274 q275 q2 q276) hdX1_itemAt ⟨Nat.le_of_ble_eq_true rfl, Nat.le_of_ble_eq_true rfl⟩ (zk_book hB1) (by decide) rfl rfl rfl rfl (Nat.le_of_ble_eq_true rfl) dX1_total_17 ⟨(Nat.zero_le _), (Nat.zero_le _)⟩ (fun H locs hZ hS => ?_)
        refine lv_astore (lv' := [(5, .ref (G.1 + (1 + (15 + j)))), (0, .ref (G.1 + 1)), (1, .int (nI t)), (2, .int (nI w)), (3, .int (s_tot μ t w j)), (4, .int (nI j))]) hx hb dX1_total_20 hl (by decide) rfl (fun ls hl => ?_)
        refine lv_aload hx hb dX1_total_22 (lv_at hl 0 rfl) ?_
        refine lv_ifnull hx hb dX1_total_24 ?_
        refine lv_aload hx hb dX1_total_27 (lv_at hl 0 rfl) ?_
        refine z_g6 (f := (μ (1 + (15 + j)))) (v := .int ((μ (1 + (15 + j))) 0)) 0 hx hb hts hown hK hZ (zk_item hB1 (by omega)) rfl (by decide) q100 rfl dX1_total_29 ?_
        refine lv_iload_n hx hb dX1_total_32 rfl (lv_at hl 2 rfl) ?_
        refine lv_icmp_ne (tgt := 46) hx hb dX1_total_33 (by decide) (fun c_3 => ?_) (fun c_3 => ?_)
        · refine lv_iinc (v := (nI (j + 1))) (lv' := [(4, .int (nI (j + 1))), (5, .ref (G.1 + (1 + (15 + j)))), (0, .ref (G.1 + 1)), (1, .int (nI t)), (2, .int (nI w)), (3, .int (s_tot μ t w j))]) hx hb dX1_total_46 hl (k := 5) rfl (nI_1 _) (by decide) rfl (fun ls hl => ?_)
          refine lv_goto (tgt := 5) hx hb dX1_total_49 (by decide) ?_
          rw [show s_tot μ t w j = s_tot μ t w (j + 1) from (if_neg c_3).symm] at hl
          exact ih (j + 1) (by omega) _ _ _ hZ hS (lv_sub hl [2, 3, 4, 5, 0] rfl)
        · refine lv_iload_n hx hb dX1_total_36 rfl (lv_at hl 4 rfl) ?_
          refine lv_aload_n hx hb dX1_total_37 rfl (lv_at hl 1 rfl) ?_
          refine lv_aload hx hb dX1_total_38 (lv_at hl 0 rfl) ?_
          refine lv_iload_n hx hb dX1_total_40 rfl (lv_at hl 3 rfl) ?_
          refine z_cVi (As := [.ref (G.1 + (1 + (15 + j))), .int (nI w)]) (rest := [.int (s_tot μ t w j)]) hx hb hml hown hts hl hK hZ hS (c_X1_shareOf l G μ 1 (zk_book hB1) (1 + (15 + j)) (μ (1 + (15 + j))) (zk_item hB1 (by omega)) rfl w (by omega)) (z_G q341 q342 q343 q2 q344) hdX1_shareOf ⟨Nat.le_of_ble_eq_true rfl, Nat.le_of_ble_eq_true rfl⟩ (zk_book hB1) (by decide) rfl rfl rfl rfl (Nat.le_of_ble_eq_true rfl) dX1_total_41 ⟨(Nat.zero_le _), (Nat.zero_le _)⟩ (fun H locs hZ hS => ?_)
          refine lv_iadd hx hb dX1_total_44 ?_
          refine lv_istore_n (lv' := [(3, .int ((s_tot μ t w j) + (s_share (μ (1 + (15 + j))) w))), (5, .ref (G.1 + (1 + (15 + j)))), (0, .ref (G.1 + 1)), (1, .int (nI t)), (2, .int (nI w)), (4, .int (nI j))]) hx hb dX1_total_45 rfl hl (by decide) rfl (fun ls hl => ?_)
          refine lv_iinc (v := (nI (j + 1))) (lv' := [(4, .int (nI (j + 1))), (3, .int ((s_tot μ t w j) + (s_share (μ (1 + (15 + j))) w))), (5, .ref (G.1 + (1 + (15 + j)))), (0, .ref (G.1 + 1)), (1, .int (nI t)), (2, .int (nI w))]) hx hb dX1_total_46 hl (k := 5) rfl (nI_1 _) (by decide) rfl (fun ls hl => ?_)
          refine lv_goto (tgt := 5) hx hb dX1_total_49 (by decide) ?_
          rw [show s_tot μ t w j + s_share (μ (1 + (15 + j))) w = s_tot μ t w (j + 1) from (if_pos c_3).symm] at hl
          exact ih (j + 1) (by omega) _ _ _ hZ hS (lv_sub hl [3, 4, 5, 1, 0] rfl)
  refine lv_iconst (v := 0) hx hb dX1_total_0 (by decide) ?_
  refine lv_istore_n (lv' := [(3, .int 0), (0, .ref (G.1 + 1)), (1, .int (nI t)), (2, .int (nI w))]) hx hb dX1_total_1 rfl hl (by decide) rfl (fun ls hl => ?_)
  refine lv_iconst (v := 0) hx hb dX1_total_2 (by decide) ?_
  refine lv_istore (lv' := [(4, .int 0), (3, .int 0), (0, .ref (G.1 + 1)), (1, .int (nI t)), (2, .int (nI w))]) hx hb dX1_total_3 hl (by decide) rfl (fun ls hl => ?_)
  exact loop I 0 (by omega) _ _ _ hZ hS (lv_sub hl [2, 3, 4, 1, 0] rfl)
def s_tin (μ : zM) (q : Nat) : Nat → Nat
  | 0 => 0
  | i + 1 => if μ (1 + (3 + 2 * i)) 2 = nI q then s_tin μ q i + 1 else s_tin μ q i
theorem hdX1_tenanciesIn : yX1_tenanciesIn.cls = RX1 ∧ yX1_tenanciesIn.cls ≠ "java/lang/invoke/MethodHandle" ∧ yX1_tenanciesIn.cls ≠ "java/lang/invoke/VarHandle" ∧ (parseMethodDescriptor yX1_tenanciesIn.desc).map (fun d => d.parameters.length) = some 1 := by decide +kernel
set_option maxHeartbeats 4000000 in
set_option maxRecDepth 100000 in
theorem c_X1_tenanciesIn (l : Launch) (G : zG) (μ : zM) (fb : Nat → Int32) (hfb : μ 1 = fb) (T : Nat) (hT : fb 3 = nI T) (hT6 : T ≤ 6) (q : Nat) : zMet l G yX1_tenanciesIn cX1_tenanciesIn 5 (some .int) 1 21 [.ref (G.1 + 1), .int (nI q)] μ (zQi G (nI (s_tin μ q T)) μ) := by
  refine z_start (lv := [(0, .ref (G.1 + 1)), (1, .int (nI q))]) (by decide) (Nat.le_of_ble_eq_true rfl) rfl ?_
  intro p e s m args below meth c ls hx hb hml hr hlk hts hown hK hZ hS hl
  have hown : s.vm.findClass RX1 = some m.cls := hown
  have loop : ∀ (k j : Nat), j + k = T → ∀ (H : Heap) (locs : List Loc) (ls : Array Slot), zW G μ H → va_S (zA G) s.heap H locs → lv_has ls 5 [(0, .ref (G.1 + 1)), (1, .int (nI q)), (2, .int (nI (s_tin μ q j))), (3, .int (nI j))] → W p l e { frames := 1, cells := 0, slots := 0, locals := 21 } s m args below meth c H locs 0 0 (MQ below (zQi G (nI (s_tin μ q T)) μ) args s 0 0 (zA G)) (F0 m 4 ls []) := by
    intro k
    induction k with
    | zero =>
      intro j hj H locs ls hZ hS hl
      have hj : T = j := by omega
      subst hj
      refine lv_iload_n hx hb dX1_tenanciesIn_4 rfl (lv_at hl 3 rfl) ?_
      refine lv_aload_n hx hb dX1_tenanciesIn_5 rfl (lv_at hl 0 rfl) ?_
      refine z_g1 (f := fb) (v := .int (nI T)) 3 hx hb hts hown hK hZ (zk_book hB1) hfb (by decide) q152 (congrArg (fun z => some (Value.int z)) hT) dX1_tenanciesIn_6 ?_
      refine lv_icmp_ge (tgt := 42) hx hb dX1_tenanciesIn_9 (by decide) (fun c_1 => ?_) (fun c_1 => ?_)
      · refine lv_iload_n hx hb dX1_tenanciesIn_42 rfl (lv_at hl 2 rfl) ?_
        exact z_iret hx hb hr hlk hK hZ hS ⟨rfl, rfl⟩ dX1_tenanciesIn_43
      · exact absurd (nI_le (Nat.le_refl _) (by omega)) c_1
    | succ k ih =>
      intro j hj H locs ls hZ hS hl
      refine lv_iload_n hx hb dX1_tenanciesIn_4 rfl (lv_at hl 3 rfl) ?_
      refine lv_aload_n hx hb dX1_tenanciesIn_5 rfl (lv_at hl 0 rfl) ?_
      refine z_g1 (f := fb) (v := .int (nI T)) 3 hx hb hts hown hK hZ (zk_book hB1) hfb (by decide) q152 (congrArg (fun z => some (Value.int z)) hT) dX1_tenanciesIn_6 ?_
      refine lv_icmp_ge (tgt := 42) hx hb dX1_tenanciesIn_9 (by decide) (fun c_2 => ?_) (fun c_2 => ?_)
      · exact absurd c_2 (nI_ge (by omega) (by omega))
      · refine lv_aload_n hx hb dX1_tenanciesIn_12 rfl (lv_at hl 0 rfl) ?_
        refine lv_iload_n hx hb dX1_tenanciesIn_13 rfl (lv_at hl 3 rfl) ?_
        refine z_cVr (As := [.int (nI j)]) (rest := []) hx hb hml hown hts hl hK hZ hS (c_X1_tenancyAt_ok l G μ 1 hB1 fb hfb T j hT hT6 (by omega)) (z_G q261 q262 q263 q2 q264) hdX1_tenancyAt ⟨Nat.le_of_ble_eq_true rfl, Nat.le_of_ble_eq_true rfl⟩ (zk_book hB1) (by decide) rfl rfl rfl rfl (Nat.le_of_ble_eq_true rfl) dX1_tenanciesIn_14 ⟨(Nat.zero_le _), (Nat.zero_le _)⟩ (fun H locs hZ hS => ?_)
        refine lv_astore (lv' := [(4, .ref (G.1 + (1 + (3 + 2 * j)))), (0, .ref (G.1 + 1)), (1, .int (nI q)), (2, .int (nI (s_tin μ q j))), (3, .int (nI j))]) hx hb dX1_tenanciesIn_17 hl (by decide) rfl (fun ls hl => ?_)
        refine lv_aload hx hb dX1_tenanciesIn_19 (lv_at hl 0 rfl) ?_
        refine lv_ifnull hx hb dX1_tenanciesIn_21 ?_
        refine lv_aload hx hb dX1_tenanciesIn_24 (lv_at hl 0 rfl) ?_
        refine z_g4 (f := (μ (1 + (3 + 2 * j)))) (v := .int ((μ (1 + (3 + 2 * j))) 2)) 2 hx hb hts hown hK hZ (zk_ten hB1 (by omega)) rfl (by decide) q67 rfl dX1_tenanciesIn_26 ?_
        refine lv_iload_n hx hb dX1_tenanciesIn_29 rfl (lv_at hl 2 rfl) ?_
        refine lv_icmp_ne (tgt := 36) hx hb dX1_tenanciesIn_30 (by decide) (fun c_3 => ?_) (fun c_3 => ?_)
        · refine lv_iinc (v := (nI (j + 1))) (lv' := [(3, .int (nI (j + 1))), (4, .ref (G.1 + (1 + (3 + 2 * j)))), (0, .ref (G.1 + 1)), (1, .int (nI q)), (2, .int (nI (s_tin μ q j)))]) hx hb dX1_tenanciesIn_36 hl (k := 4) rfl (nI_1 _) (by decide) rfl (fun ls hl => ?_)
          refine lv_goto (tgt := 4) hx hb dX1_tenanciesIn_39 (by decide) ?_
          rw [show s_tin μ q j = s_tin μ q (j + 1) from (if_neg c_3).symm] at hl
          exact ih (j + 1) (by omega) _ _ _ hZ hS (lv_sub hl [2, 3, 4, 0] rfl)
        · refine lv_iinc (v := (nI ((s_tin μ q j) + 1))) (lv' := [(2, .int (nI ((s_tin μ q j) + 1))), (4, .ref (G.1 + (1 + (3 + 2 * j)))), (0, .ref (G.1 + 1)), (1, .int (nI q)), (3, .int (nI j))]) hx hb dX1_tenanciesIn_33 hl (k := 3) rfl (nI_1 _) (by decide) rfl (fun ls hl => ?_)
          refine lv_iinc (v := (nI (j + 1))) (lv' := [(3, .int (nI (j + 1))), (2, .int (nI ((s_tin μ q j) + 1))), (4, .ref (G.1 + (1 + (3 + 2 * j)))), (0, .ref (G.1 + 1)), (1, .int (nI q))]) hx hb dX1_tenanciesIn_36 hl (k := 4) rfl (nI_1 _) (by decide) rfl (fun ls hl => ?_)
          refine lv_goto (tgt := 4) hx hb dX1_tenanciesIn_39 (by decide) ?_
          rw [show s_tin μ q j + 1 = s_tin μ q (j + 1) from (if_pos c_3).symm] at hl
          exact ih (j + 1) (by omega) _ _ _ hZ hS (lv_sub hl [3, 4, 1, 0] rfl)
  refine lv_iconst (v := 0) hx hb dX1_tenanciesIn_0 (by decide) ?_
  refine lv_istore_n (lv' := [(2, .int 0), (0, .ref (G.1 + 1)), (1, .int (nI q))]) hx hb dX1_tenanciesIn_1 rfl hl (by decide) rfl (fun ls hl => ?_)
  refine lv_iconst (v := 0) hx hb dX1_tenanciesIn_2 (by decide) ?_
  refine lv_istore_n (lv' := [(3, .int 0), (2, .int 0), (0, .ref (G.1 + 1)), (1, .int (nI q))]) hx hb dX1_tenanciesIn_3 rfl hl (by decide) rfl (fun ls hl => ?_)
  exact loop T 0 (by omega) _ _ _ hZ hS (lv_sub hl [2, 3, 1, 0] rfl)
theorem s_tot_zr {μ : zM} {q t w : Nat} {r : Nat → Int32} (hq : ∀ j, j < 24 → q ≠ 1 + (15 + j)) : ∀ {I : Nat}, I ≤ 24 → s_tot (zr μ q r) t w I = s_tot μ t w I
  | 0, _ => rfl
  | j + 1, h => by
    have hj : zr μ q r (1 + (15 + j)) = μ (1 + (15 + j)) := zr_ne (Ne.symm (hq j (by omega)))
    show (if zr μ q r (1 + (15 + j)) 0 = nI t then s_tot (zr μ q r) t w j + s_share (zr μ q r (1 + (15 + j))) w else s_tot (zr μ q r) t w j) = (if μ (1 + (15 + j)) 0 = nI t then s_tot μ t w j + s_share (μ (1 + (15 + j))) w else s_tot μ t w j)
    rw [hj, s_tot_zr hq (Nat.le_of_succ_le h)]
def s_lf (μ : zM) (fb : Nat → Int32) (t I : Nat) : Int32 := FP.f2i (FP.fdiv (FP.fmul (FP.i2f (fb 1)) (FP.i2f (s_tot μ t 5 I - s_tot μ t 6 I))) (FP.i2f (s_tot μ t 5 I)))
def s_pot (fb g : Nat → Int32) : Int32 := g 0 + s_X1_interestOf fb g
def s_fee (μ : zM) (fb g : Nat → Int32) (t I : Nat) : Nat → Int32 := if s_tot μ t 5 I ≤ 0 then w_X4_start (s_pot fb g) else w_X4_takeFee (w_X4_start (s_pot fb g)) (s_lf μ fb t I) (fb 1 - s_lf μ fb t I)
def s_pay (μ : zM) (t : Nat) (r : Nat → Int32) : Nat → Nat → Int32
  | 0 => r
  | j + 1 => if μ (1 + (15 + j)) 0 = nI t then w_X4_payLandlord (s_pay μ t r j) (s_X3_award (μ (1 + (15 + j)))) else s_pay μ t r j
def s_settle (μ : zM) (fb g : Nat → Int32) (t I : Nat) : Nat → Int32 := w_X4_payLandlord (s_pay μ t (s_fee μ fb g t I) I) (g 4)
theorem hdX1_settle : yX1_settle.cls = RX1 ∧ yX1_settle.cls ≠ "java/lang/invoke/MethodHandle" ∧ yX1_settle.cls ≠ "java/lang/invoke/VarHandle" ∧ (parseMethodDescriptor yX1_settle.desc).map (fun d => d.parameters.length) = some 3 := by decide +kernel
set_option maxHeartbeats 4000000 in
set_option maxRecDepth 100000 in
theorem c_X1_settle (l : Launch) (G : zG) (μ : zM) (fb : Nat → Int32) (hfb : μ 1 = fb) (I : Nat) (hI : fb 4 = nI I) (hI24 : I ≤ 24) (t n : Nat) (g : Nat → Int32) (hkn : zk n = 4) (hg : μ n = g) (q : Nat) (hkq : zk q = 5) (hq1 : q ≠ 1) (hqn : q ≠ n) (hqi : ∀ j, j < 24 → q ≠ 1 + (15 + j)) (hr8 : fK 125 (Int32.toUInt32 (fb 2))) : zMet l G yX1_settle cX1_settle 7 none 4 89 [.ref (G.1 + 1), .int (nI t), .ref (G.1 + n), .ref (G.1 + q)] μ (zQv G (zr μ q (s_settle μ fb g t I))) := by
  refine z_start (lv := [(0, .ref (G.1 + 1)), (1, .int (nI t)), (2, .ref (G.1 + n)), (3, .ref (G.1 + q))]) (by decide) (Nat.le_of_ble_eq_true rfl) rfl ?_
  intro p e s m args below meth c ls hx hb hml hr hlk hts hown hK hZ hS hl
  have hown : s.vm.findClass RX1 = some m.cls := hown
  have loop : ∀ (k j : Nat), j + k = I → ∀ (H : Heap) (locs : List Loc) (ls : Array Slot), zW G (zr μ q (s_pay μ t (s_fee μ fb g t I) j)) H → va_S (zA G) s.heap H locs → lv_has ls 7 [(0, .ref (G.1 + 1)), (1, .int (nI t)), (2, .ref (G.1 + n)), (3, .ref (G.1 + q)), (5, .int (nI j))] → W p l e { frames := 4, cells := 0, slots := 0, locals := 89 } s m args below meth c H locs 0 0 (MQ below (zQv G (zr μ q (s_settle μ fb g t I))) args s 0 0 (zA G)) (F0 m 71 ls []) := by
    intro k
    induction k with
    | zero =>
      intro j hj H locs ls hZ hS hl
      have hj : I = j := by omega
      subst hj
      refine lv_iload hx hb dX1_settle_71 (lv_at hl 4 rfl) ?_
      refine lv_aload_n hx hb dX1_settle_73 rfl (lv_at hl 0 rfl) ?_
      refine z_g1 (f := fb) (v := .int (nI I)) 4 hx hb hts hown hK hZ (zk_book hB1) (zr_at hfb (Ne.symm hq1)) (by decide) q154 (congrArg (fun z => some (Value.int z)) hI) dX1_settle_74 ?_
      refine lv_icmp_ge (tgt := 117) hx hb dX1_settle_77 (by decide) (fun c_1 => ?_) (fun c_1 => ?_)
      · refine lv_aload_n hx hb dX1_settle_117 rfl (lv_at hl 3 rfl) ?_
        refine lv_aload_n hx hb dX1_settle_118 rfl (lv_at hl 2 rfl) ?_
        refine z_g4 (f := g) (v := .int (g 4)) 4 hx hb hts hown hK hZ hkn (zr_at hg (Ne.symm hqn)) (by decide) q73 rfl dX1_settle_119 ?_
        refine z_cVv (As := [.int (g 4)]) (rest := []) hx hb hml hown hts hl hK hZ hS (c_X4_payLandlord l G (zr μ q (s_pay μ t (s_fee μ fb g t I) I)) q (s_pay μ t (s_fee μ fb g t I) I) hkq zr_same (g 4)) (z_G q386 q387 q388 q4 q389) hdX4_payLandlord ⟨Nat.le_of_ble_eq_true rfl, Nat.le_of_ble_eq_true rfl⟩ hkq (by decide) rfl rfl rfl rfl (Nat.le_of_ble_eq_true rfl) dX1_settle_122 ⟨(Nat.zero_le _), (Nat.zero_le _)⟩ (fun H locs hZ hS => ?_)
        rw [zr_zr] at hZ
        exact z_vret hx hb hr hlk hK hZ hS rfl dX1_settle_125
      · exact absurd (nI_le (Nat.le_refl _) (by omega)) c_1
    | succ k ih =>
      intro j hj H locs ls hZ hS hl
      refine lv_iload hx hb dX1_settle_71 (lv_at hl 4 rfl) ?_
      refine lv_aload_n hx hb dX1_settle_73 rfl (lv_at hl 0 rfl) ?_
      refine z_g1 (f := fb) (v := .int (nI I)) 4 hx hb hts hown hK hZ (zk_book hB1) (zr_at hfb (Ne.symm hq1)) (by decide) q154 (congrArg (fun z => some (Value.int z)) hI) dX1_settle_74 ?_
      refine lv_icmp_ge (tgt := 117) hx hb dX1_settle_77 (by decide) (fun c_2 => ?_) (fun c_2 => ?_)
      · exact absurd c_2 (nI_ge (by omega) (by omega))
      · refine lv_aload_n hx hb dX1_settle_80 rfl (lv_at hl 0 rfl) ?_
        refine lv_iload hx hb dX1_settle_81 (lv_at hl 4 rfl) ?_
        refine z_cVr (As := [.int (nI j)]) (rest := []) hx hb hml hown hts hl hK hZ hS (c_X1_itemAt_ok l G (zr μ q (s_pay μ t (s_fee μ fb g t I) j)) 1 hB1 fb (zr_at hfb (Ne.symm hq1)) I j hI hI24 (by omega)) (z_G q273 q274 q275 q2 q276) hdX1_itemAt ⟨Nat.le_of_ble_eq_true rfl, Nat.le_of_ble_eq_true rfl⟩ (zk_book hB1) (by decide) rfl rfl rfl rfl (Nat.le_of_ble_eq_true rfl) dX1_settle_83 ⟨(Nat.zero_le _), (Nat.zero_le _)⟩ (fun H locs hZ hS => ?_)
        refine lv_astore (lv' := [(6, .ref (G.1 + (1 + (15 + j)))), (0, .ref (G.1 + 1)), (1, .int (nI t)), (2, .ref (G.1 + n)), (3, .ref (G.1 + q)), (5, .int (nI j))]) hx hb dX1_settle_86 hl (by decide) rfl (fun ls hl => ?_)
        refine lv_aload hx hb dX1_settle_88 (lv_at hl 0 rfl) ?_
        refine lv_ifnull hx hb dX1_settle_90 ?_
        refine lv_aload hx hb dX1_settle_93 (lv_at hl 0 rfl) ?_
        refine z_g6 (f := (μ (1 + (15 + j)))) (v := .int ((μ (1 + (15 + j))) 0)) 0 hx hb hts hown hK hZ (zk_item hB1 (by omega)) (zr_ne (Ne.symm (hqi j (by omega)))) (by decide) q100 rfl dX1_settle_95 ?_
        refine lv_iload_n hx hb dX1_settle_98 rfl (lv_at hl 2 rfl) ?_
        refine lv_icmp_ne (tgt := 111) hx hb dX1_settle_99 (by decide) (fun c_3 => ?_) (fun c_3 => ?_)
        · refine lv_iinc (v := (nI (j + 1))) (lv' := [(5, .int (nI (j + 1))), (6, .ref (G.1 + (1 + (15 + j)))), (0, .ref (G.1 + 1)), (1, .int (nI t)), (2, .ref (G.1 + n)), (3, .ref (G.1 + q))]) hx hb dX1_settle_111 hl (k := 5) rfl (nI_1 _) (by decide) rfl (fun ls hl => ?_)
          refine lv_goto (tgt := 71) hx hb dX1_settle_114 (by decide) ?_
          rw [show (s_pay μ t (s_fee μ fb g t I) j) = s_pay μ t (s_fee μ fb g t I) (j + 1) from (if_neg c_3).symm] at hZ
          exact ih (j + 1) (by omega) _ _ _ hZ hS (lv_sub hl [2, 3, 4, 5, 0] rfl)
        · refine lv_aload_n hx hb dX1_settle_102 rfl (lv_at hl 4 rfl) ?_
          refine lv_aload hx hb dX1_settle_103 (lv_at hl 0 rfl) ?_
          refine z_cVi (As := []) (rest := [.ref (G.1 + q)]) hx hb hml hown hts hl hK hZ hS (c_X3_award l G (zr μ q (s_pay μ t (s_fee μ fb g t I) j)) (1 + (15 + j)) (μ (1 + (15 + j))) (zk_item hB1 (by omega)) (zr_ne (Ne.symm (hqi j (by omega)))) ) (z_G q345 q346 q347 q5 q348) hdX3_award ⟨Nat.le_of_ble_eq_true rfl, Nat.le_of_ble_eq_true rfl⟩ (zk_item hB1 (by omega)) (by decide) rfl rfl rfl rfl (Nat.le_of_ble_eq_true rfl) dX1_settle_105 ⟨(Nat.zero_le _), (Nat.zero_le _)⟩ (fun H locs hZ hS => ?_)
          refine z_cVv (As := [.int (s_X3_award (μ (1 + (15 + j))))]) (rest := []) hx hb hml hown hts hl hK hZ hS (c_X4_payLandlord l G (zr μ q (s_pay μ t (s_fee μ fb g t I) j)) q (s_pay μ t (s_fee μ fb g t I) j) hkq zr_same (s_X3_award (μ (1 + (15 + j))))) (z_G q386 q387 q388 q4 q389) hdX4_payLandlord ⟨Nat.le_of_ble_eq_true rfl, Nat.le_of_ble_eq_true rfl⟩ hkq (by decide) rfl rfl rfl rfl (Nat.le_of_ble_eq_true rfl) dX1_settle_108 ⟨(Nat.zero_le _), (Nat.zero_le _)⟩ (fun H locs hZ hS => ?_)
          rw [zr_zr] at hZ
          refine lv_iinc (v := (nI (j + 1))) (lv' := [(5, .int (nI (j + 1))), (6, .ref (G.1 + (1 + (15 + j)))), (0, .ref (G.1 + 1)), (1, .int (nI t)), (2, .ref (G.1 + n)), (3, .ref (G.1 + q))]) hx hb dX1_settle_111 hl (k := 5) rfl (nI_1 _) (by decide) rfl (fun ls hl => ?_)
          refine lv_goto (tgt := 71) hx hb dX1_settle_114 (by decide) ?_
          rw [show (w_X4_payLandlord (s_pay μ t (s_fee μ fb g t I) j) (s_X3_award (μ (1 + (15 + j))))) = s_pay μ t (s_fee μ fb g t I) (j + 1) from (if_pos c_3).symm] at hZ
          exact ih (j + 1) (by omega) _ _ _ hZ hS (lv_sub hl [2, 3, 4, 5, 0] rfl)
  refine lv_aload_n hx hb dX1_settle_0 rfl (lv_at hl 3 rfl) ?_
  refine lv_aload_n hx hb dX1_settle_1 rfl (lv_at hl 2 rfl) ?_
  refine z_g4 (f := g) (v := .int (g 0)) 0 hx hb hts hown hK hZ hkn hg (by decide) q60 rfl dX1_settle_2 ?_
  refine lv_aload_n hx hb dX1_settle_5 rfl (lv_at hl 0 rfl) ?_
  refine lv_aload_n hx hb dX1_settle_6 rfl (lv_at hl 2 rfl) ?_
  refine z_cVi (As := [.ref (G.1 + n)]) (rest := [.int (g 0), .ref (G.1 + q)]) hx hb hml hown hts hl hK hZ hS (c_X1_interestOf l G μ 1 fb (zk_book hB1) hfb n g hkn hg hr8) (z_G q369 q333 q334 q2 q335) hdX1_interestOf ⟨Nat.le_of_ble_eq_true rfl, Nat.le_of_ble_eq_true rfl⟩ (zk_book hB1) (by decide) rfl rfl rfl rfl (Nat.le_of_ble_eq_true rfl) dX1_settle_7 ⟨(Nat.zero_le _), (Nat.zero_le _)⟩ (fun H locs hZ hS => ?_)
  refine lv_iadd hx hb dX1_settle_10 ?_
  refine z_cVv (As := [.int ((g 0) + (s_X1_interestOf fb g))]) (rest := []) hx hb hml hown hts hl hK hZ hS (c_X4_start l G μ q (μ q) hkq rfl ((g 0) + (s_X1_interestOf fb g))) (z_G q370 q371 q372 q4 q373) hdX4_start ⟨Nat.le_of_ble_eq_true rfl, Nat.le_of_ble_eq_true rfl⟩ hkq (by decide) rfl rfl rfl rfl (Nat.le_of_ble_eq_true rfl) dX1_settle_11 ⟨(Nat.zero_le _), (Nat.zero_le _)⟩ (fun H locs hZ hS => ?_)
  refine lv_aload_n hx hb dX1_settle_14 rfl (lv_at hl 0 rfl) ?_
  refine lv_iload_n hx hb dX1_settle_15 rfl (lv_at hl 1 rfl) ?_
  refine lv_iconst (v := 5) hx hb dX1_settle_16 (by decide) ?_
  refine z_cVi (As := [.int (nI t), .int 5]) (rest := []) hx hb hml hown hts hl hK hZ hS (c_X1_total l G (zr μ q (w_X4_start ((g 0) + (s_X1_interestOf fb g)))) fb (zr_at hfb (Ne.symm hq1)) I hI hI24 t 5 (by omega)) (z_G q374 q338 q339 q2 q340) hdX1_total ⟨Nat.le_of_ble_eq_true rfl, Nat.le_of_ble_eq_true rfl⟩ (zk_book hB1) (by decide) rfl rfl rfl rfl (Nat.le_of_ble_eq_true rfl) dX1_settle_17 ⟨(Nat.zero_le _), (Nat.zero_le _)⟩ (fun H locs hZ hS => ?_)
  rw [s_tot_zr hqi hI24]
  refine lv_istore (lv' := [(4, .int (s_tot μ t 5 I)), (0, .ref (G.1 + 1)), (1, .int (nI t)), (2, .ref (G.1 + n)), (3, .ref (G.1 + q))]) hx hb dX1_settle_20 hl (by decide) rfl (fun ls hl => ?_)
  refine lv_iload hx hb dX1_settle_22 (lv_at hl 0 rfl) ?_
  refine lv_if_le (tgt := 68) hx hb dX1_settle_24 (by decide) (fun c_4 => ?_) (fun c_4 => ?_)
  · refine lv_iconst (v := 0) hx hb dX1_settle_68 (by decide) ?_
    refine lv_istore (lv' := [(5, .int 0), (4, .int (s_tot μ t 5 I)), (0, .ref (G.1 + 1)), (1, .int (nI t)), (2, .ref (G.1 + n)), (3, .ref (G.1 + q))]) hx hb dX1_settle_69 hl (by decide) rfl (fun ls hl => ?_)
    rw [show (w_X4_start ((g 0) + (s_X1_interestOf fb g))) = s_fee μ fb g t I from (if_pos c_4).symm] at hZ
    exact loop I 0 (by omega) _ _ _ hZ hS (lv_sub hl [2, 3, 4, 5, 0] rfl)
  · refine lv_iload hx hb dX1_settle_27 (lv_at hl 0 rfl) ?_
    refine lv_aload_n hx hb dX1_settle_29 rfl (lv_at hl 1 rfl) ?_
    refine lv_iload_n hx hb dX1_settle_30 rfl (lv_at hl 2 rfl) ?_
    refine lv_bipush (v := 6) hx hb dX1_settle_31 (by decide) ?_
    refine z_cVi (As := [.int (nI t), .int 6]) (rest := [.int (s_tot μ t 5 I)]) hx hb hml hown hts hl hK hZ hS (c_X1_total l G (zr μ q (w_X4_start ((g 0) + (s_X1_interestOf fb g)))) fb (zr_at hfb (Ne.symm hq1)) I hI hI24 t 6 (by omega)) (z_G q374 q338 q339 q2 q340) hdX1_total ⟨Nat.le_of_ble_eq_true rfl, Nat.le_of_ble_eq_true rfl⟩ (zk_book hB1) (by decide) rfl rfl rfl rfl (Nat.le_of_ble_eq_true rfl) dX1_settle_33 ⟨(Nat.zero_le _), (Nat.zero_le _)⟩ (fun H locs hZ hS => ?_)
    rw [s_tot_zr hqi hI24]
    refine lv_isub hx hb dX1_settle_36 ?_
    refine lv_istore (lv' := [(5, .int ((s_tot μ t 5 I) - (s_tot μ t 6 I))), (4, .int (s_tot μ t 5 I)), (0, .ref (G.1 + 1)), (1, .int (nI t)), (2, .ref (G.1 + n)), (3, .ref (G.1 + q))]) hx hb dX1_settle_37 hl (by decide) rfl (fun ls hl => ?_)
    refine lv_aload_n hx hb dX1_settle_39 rfl (lv_at hl 2 rfl) ?_
    refine z_g1 (f := fb) (v := .int (fb 1)) 1 hx hb hts hown hK hZ (zk_book hB1) (zr_at hfb (Ne.symm hq1)) (by decide) q148 rfl dX1_settle_40 ?_
    refine lv_i2f hx hb dX1_settle_43 ?_
    refine lv_iload hx hb dX1_settle_44 (lv_at hl 0 rfl) ?_
    refine lv_i2f hx hb dX1_settle_46 ?_
    refine lv_fmul hx hb dX1_settle_47 ((fk_mul (fk_i2f _) (fk_i2f _) (by decide) (by decide)).n (by decide)) ?_
    refine lv_iload hx hb dX1_settle_48 (lv_at hl 1 rfl) ?_
    refine lv_i2f hx hb dX1_settle_50 ?_
    refine lv_fdiv hx hb dX1_settle_51 ((fk_divi (fk_mul (fk_i2f _) (fk_i2f _) (by decide) (by decide)) (by decide) (z_ne1 c_4)).n (by decide)) ?_
    refine lv_f2i hx hb dX1_settle_52 ?_
    refine lv_istore (lv' := [(6, .int (FP.f2i (FP.fdiv (FP.fmul (FP.i2f (fb 1)) (FP.i2f ((s_tot μ t 5 I) - (s_tot μ t 6 I)))) (FP.i2f (s_tot μ t 5 I))))), (5, .int ((s_tot μ t 5 I) - (s_tot μ t 6 I))), (4, .int (s_tot μ t 5 I)), (0, .ref (G.1 + 1)), (1, .int (nI t)), (2, .ref (G.1 + n)), (3, .ref (G.1 + q))]) hx hb dX1_settle_53 hl (by decide) rfl (fun ls hl => ?_)
    refine lv_aload_n hx hb dX1_settle_55 rfl (lv_at hl 6 rfl) ?_
    refine lv_iload hx hb dX1_settle_56 (lv_at hl 0 rfl) ?_
    refine lv_aload_n hx hb dX1_settle_58 rfl (lv_at hl 3 rfl) ?_
    refine z_g1 (f := fb) (v := .int (fb 1)) 1 hx hb hts hown hK hZ (zk_book hB1) (zr_at hfb (Ne.symm hq1)) (by decide) q148 rfl dX1_settle_59 ?_
    refine lv_iload hx hb dX1_settle_62 (lv_at hl 0 rfl) ?_
    refine lv_isub hx hb dX1_settle_64 ?_
    refine z_cVv (As := [.int (FP.f2i (FP.fdiv (FP.fmul (FP.i2f (fb 1)) (FP.i2f ((s_tot μ t 5 I) - (s_tot μ t 6 I)))) (FP.i2f (s_tot μ t 5 I)))), .int ((fb 1) - (FP.f2i (FP.fdiv (FP.fmul (FP.i2f (fb 1)) (FP.i2f ((s_tot μ t 5 I) - (s_tot μ t 6 I)))) (FP.i2f (s_tot μ t 5 I)))))]) (rest := []) hx hb hml hown hts hl hK hZ hS (c_X4_takeFee l G (zr μ q (w_X4_start ((g 0) + (s_X1_interestOf fb g)))) q (w_X4_start ((g 0) + (s_X1_interestOf fb g))) hkq zr_same (FP.f2i (FP.fdiv (FP.fmul (FP.i2f (fb 1)) (FP.i2f ((s_tot μ t 5 I) - (s_tot μ t 6 I)))) (FP.i2f (s_tot μ t 5 I)))) ((fb 1) - (FP.f2i (FP.fdiv (FP.fmul (FP.i2f (fb 1)) (FP.i2f ((s_tot μ t 5 I) - (s_tot μ t 6 I)))) (FP.i2f (s_tot μ t 5 I)))))) (z_G q375 q376 q377 q4 q378) hdX4_takeFee ⟨Nat.le_of_ble_eq_true rfl, Nat.le_of_ble_eq_true rfl⟩ hkq (by decide) rfl rfl rfl rfl (Nat.le_of_ble_eq_true rfl) dX1_settle_65 ⟨(Nat.zero_le _), (Nat.zero_le _)⟩ (fun H locs hZ hS => ?_)
    rw [zr_zr] at hZ
    refine lv_iconst (v := 0) hx hb dX1_settle_68 (by decide) ?_
    refine lv_istore (lv' := [(5, .int 0), (6, .int (FP.f2i (FP.fdiv (FP.fmul (FP.i2f (fb 1)) (FP.i2f ((s_tot μ t 5 I) - (s_tot μ t 6 I)))) (FP.i2f (s_tot μ t 5 I))))), (4, .int (s_tot μ t 5 I)), (0, .ref (G.1 + 1)), (1, .int (nI t)), (2, .ref (G.1 + n)), (3, .ref (G.1 + q))]) hx hb dX1_settle_69 hl (by decide) rfl (fun ls hl => ?_)
    rw [show (w_X4_takeFee (w_X4_start ((g 0) + (s_X1_interestOf fb g))) (FP.f2i (FP.fdiv (FP.fmul (FP.i2f (fb 1)) (FP.i2f ((s_tot μ t 5 I) - (s_tot μ t 6 I)))) (FP.i2f (s_tot μ t 5 I)))) ((fb 1) - (FP.f2i (FP.fdiv (FP.fmul (FP.i2f (fb 1)) (FP.i2f ((s_tot μ t 5 I) - (s_tot μ t 6 I)))) (FP.i2f (s_tot μ t 5 I)))))) = s_fee μ fb g t I from (if_neg c_4).symm] at hZ
    exact loop I 0 (by omega) _ _ _ hZ hS (lv_sub hl [3, 4, 5, 6, 0] rfl)
def m_exp (μ : zM) (t : Nat) (d : Int32) : Nat → zM
  | 0 => μ
  | j + 1 => if μ (1 + (15 + j)) 0 = nI t then zr (m_exp μ t d j) (1 + (15 + j)) (w_X3_tellEnd (μ (1 + (15 + j))) d (s_X3_fairAfter (μ (1 + (15 + j))) d)) else m_exp μ t d j
theorem m_exp_ne {μ : zM} {t : Nat} {d : Int32} {n : Nat} : ∀ {j : Nat}, (∀ i, i < j → n ≠ 1 + (15 + i)) → m_exp μ t d j n = μ n
  | 0, _ => rfl
  | j + 1, h => by
    have ih := m_exp_ne (μ := μ) (t := t) (d := d) (n := n) (j := j) (fun i hi => h i (by omega))
    show (if μ (1 + (15 + j)) 0 = nI t then zr (m_exp μ t d j) (1 + (15 + j)) (w_X3_tellEnd (μ (1 + (15 + j))) d (s_X3_fairAfter (μ (1 + (15 + j))) d)) else m_exp μ t d j) n = μ n
    split
    · rw [zr_ne (h j (by omega))]; exact ih
    · exact ih
theorem hdX1_expectFairConditions : yX1_expectFairConditions.cls = RX1 ∧ yX1_expectFairConditions.cls ≠ "java/lang/invoke/MethodHandle" ∧ yX1_expectFairConditions.cls ≠ "java/lang/invoke/VarHandle" ∧ (parseMethodDescriptor yX1_expectFairConditions.desc).map (fun d => d.parameters.length) = some 1 := by decide +kernel
set_option maxHeartbeats 4000000 in
set_option maxRecDepth 100000 in
theorem c_X1_expectFairConditions (l : Launch) (G : zG) (μ : zM) (fb : Nat → Int32) (hfb : μ 1 = fb) (T : Nat) (hT : fb 3 = nI T) (hT6 : T ≤ 6) (I : Nat) (hI : fb 4 = nI I) (hI24 : I ≤ 24) (t : Nat) (ht : t < T) (g : Nat → Int32) (hg : μ (1 + (3 + 2 * t)) = g) : zMet l G yX1_expectFairConditions cX1_expectFairConditions 5 none 5 101 [.ref (G.1 + 1), .int (nI t)] μ (zQv G (m_exp μ t (s_X1_daysOf fb g) I)) := by
  refine z_start (lv := [(0, .ref (G.1 + 1)), (1, .int (nI t))]) (by decide) (Nat.le_of_ble_eq_true rfl) rfl ?_
  intro p e s m args below meth c ls hx hb hml hr hlk hts hown hK hZ hS hl
  have hown : s.vm.findClass RX1 = some m.cls := hown
  have loop : ∀ (k j : Nat), j + k = I → ∀ (H : Heap) (locs : List Loc) (ls : Array Slot), zW G (m_exp μ t (s_X1_daysOf fb g) j) H → va_S (zA G) s.heap H locs → lv_has ls 5 [(0, .ref (G.1 + 1)), (1, .int (nI t)), (2, .int (nI j))] → W p l e { frames := 5, cells := 0, slots := 0, locals := 101 } s m args below meth c H locs 0 0 (MQ below (zQv G (m_exp μ t (s_X1_daysOf fb g) I)) args s 0 0 (zA G)) (F0 m 2 ls []) := by
    intro k
    induction k with
    | zero =>
      intro j hj H locs ls hZ hS hl
      have hj : I = j := by omega
      subst hj
      refine lv_iload_n hx hb dX1_expectFairConditions_2 rfl (lv_at hl 2 rfl) ?_
      refine lv_aload_n hx hb dX1_expectFairConditions_3 rfl (lv_at hl 0 rfl) ?_
      refine z_g1 (f := fb) (v := .int (nI I)) 4 hx hb hts hown hK hZ (zk_book hB1) ((m_exp_ne (fun i hi => by omega)).trans hfb) (by decide) q154 (congrArg (fun z => some (Value.int z)) hI) dX1_expectFairConditions_4 ?_
      refine lv_icmp_ge (tgt := 53) hx hb dX1_expectFairConditions_7 (by decide) (fun c_1 => ?_) (fun c_1 => ?_)
      · exact z_vret hx hb hr hlk hK hZ hS rfl dX1_expectFairConditions_53
      · exact absurd (nI_le (Nat.le_refl _) (by omega)) c_1
    | succ k ih =>
      intro j hj H locs ls hZ hS hl
      refine lv_iload_n hx hb dX1_expectFairConditions_2 rfl (lv_at hl 2 rfl) ?_
      refine lv_aload_n hx hb dX1_expectFairConditions_3 rfl (lv_at hl 0 rfl) ?_
      refine z_g1 (f := fb) (v := .int (nI I)) 4 hx hb hts hown hK hZ (zk_book hB1) ((m_exp_ne (fun i hi => by omega)).trans hfb) (by decide) q154 (congrArg (fun z => some (Value.int z)) hI) dX1_expectFairConditions_4 ?_
      refine lv_icmp_ge (tgt := 53) hx hb dX1_expectFairConditions_7 (by decide) (fun c_2 => ?_) (fun c_2 => ?_)
      · exact absurd c_2 (nI_ge (by omega) (by omega))
      · refine lv_aload_n hx hb dX1_expectFairConditions_10 rfl (lv_at hl 0 rfl) ?_
        refine lv_iload_n hx hb dX1_expectFairConditions_11 rfl (lv_at hl 2 rfl) ?_
        refine z_cVr (As := [.int (nI j)]) (rest := []) hx hb hml hown hts hl hK hZ hS (c_X1_itemAt_ok l G (m_exp μ t (s_X1_daysOf fb g) j) 1 hB1 fb ((m_exp_ne (fun i hi => by omega)).trans hfb) I j hI hI24 (by omega)) (z_G q273 q274 q275 q2 q276) hdX1_itemAt ⟨Nat.le_of_ble_eq_true rfl, Nat.le_of_ble_eq_true rfl⟩ (zk_book hB1) (by decide) rfl rfl rfl rfl (Nat.le_of_ble_eq_true rfl) dX1_expectFairConditions_12 ⟨(Nat.zero_le _), (Nat.zero_le _)⟩ (fun H locs hZ hS => ?_)
        refine lv_astore_n (lv' := [(3, .ref (G.1 + (1 + (15 + j)))), (0, .ref (G.1 + 1)), (1, .int (nI t)), (2, .int (nI j))]) hx hb dX1_expectFairConditions_15 rfl hl (by decide) rfl (fun ls hl => ?_)
        refine lv_aload_n hx hb dX1_expectFairConditions_16 rfl (lv_at hl 0 rfl) ?_
        refine lv_ifnull hx hb dX1_expectFairConditions_17 ?_
        refine lv_aload_n hx hb dX1_expectFairConditions_20 rfl (lv_at hl 0 rfl) ?_
        refine z_g6 (f := (μ (1 + (15 + j)))) (v := .int ((μ (1 + (15 + j))) 0)) 0 hx hb hts hown hK hZ (zk_item hB1 (by omega)) (m_exp_ne (fun i hi => by omega)) (by decide) q100 rfl dX1_expectFairConditions_21 ?_
        refine lv_iload_n hx hb dX1_expectFairConditions_24 rfl (lv_at hl 2 rfl) ?_
        refine lv_icmp_ne (tgt := 47) hx hb dX1_expectFairConditions_25 (by decide) (fun c_3 => ?_) (fun c_3 => ?_)
        · refine lv_iinc (v := (nI (j + 1))) (lv' := [(2, .int (nI (j + 1))), (3, .ref (G.1 + (1 + (15 + j)))), (0, .ref (G.1 + 1)), (1, .int (nI t))]) hx hb dX1_expectFairConditions_47 hl (k := 3) rfl (nI_1 _) (by decide) rfl (fun ls hl => ?_)
          refine lv_goto (tgt := 2) hx hb dX1_expectFairConditions_50 (by decide) ?_
          rw [show (m_exp μ t (s_X1_daysOf fb g) j) = m_exp μ t (s_X1_daysOf fb g) (j + 1) from (if_neg c_3).symm] at hZ
          exact ih (j + 1) (by omega) _ _ _ hZ hS (lv_sub hl [2, 3, 0] rfl)
        · refine lv_aload_n hx hb dX1_expectFairConditions_28 rfl (lv_at hl 1 rfl) ?_
          refine lv_aload_n hx hb dX1_expectFairConditions_29 rfl (lv_at hl 0 rfl) ?_
          refine z_cVi (As := [.ref (G.1 + (1 + (15 + j)))]) (rest := []) hx hb hml hown hts hl hK hZ hS (c_X1_daysOfItem l G (m_exp μ t (s_X1_daysOf fb g) j) fb ((m_exp_ne (fun i hi => by omega)).trans hfb) (1 + (15 + j)) (μ (1 + (15 + j))) (zk_item hB1 (by omega)) (m_exp_ne (fun i hi => by omega)) T t hT hT6 ht c_3 g ((m_exp_ne (fun i hi => by omega)).trans hg)) (z_G q484 q396 q397 q2 q398) hdX1_daysOfItem ⟨Nat.le_of_ble_eq_true rfl, Nat.le_of_ble_eq_true rfl⟩ (zk_book hB1) (by decide) rfl rfl rfl rfl (Nat.le_of_ble_eq_true rfl) dX1_expectFairConditions_30 ⟨(Nat.zero_le _), (Nat.zero_le _)⟩ (fun H locs hZ hS => ?_)
          refine lv_istore (lv' := [(4, .int (s_X1_daysOf fb g)), (3, .ref (G.1 + (1 + (15 + j)))), (0, .ref (G.1 + 1)), (1, .int (nI t)), (2, .int (nI j))]) hx hb dX1_expectFairConditions_33 hl (by decide) rfl (fun ls hl => ?_)
          refine lv_aload_n hx hb dX1_expectFairConditions_35 rfl (lv_at hl 1 rfl) ?_
          refine lv_iload hx hb dX1_expectFairConditions_36 (lv_at hl 0 rfl) ?_
          refine lv_aload_n hx hb dX1_expectFairConditions_38 rfl (lv_at hl 1 rfl) ?_
          refine lv_iload hx hb dX1_expectFairConditions_39 (lv_at hl 0 rfl) ?_
          refine z_cVi (As := [.int (s_X1_daysOf fb g)]) (rest := [.int (s_X1_daysOf fb g), .ref (G.1 + (1 + (15 + j)))]) hx hb hml hown hts hl hK hZ hS (c_X3_fairAfter l G (m_exp μ t (s_X1_daysOf fb g) j) (1 + (15 + j)) (μ (1 + (15 + j))) (zk_item hB1 (by omega)) (m_exp_ne (fun i hi => by omega)) (s_X1_daysOf fb g)) (z_G q485 q401 q402 q5 q403) hdX3_fairAfter ⟨Nat.le_of_ble_eq_true rfl, Nat.le_of_ble_eq_true rfl⟩ (zk_item hB1 (by omega)) (by decide) rfl rfl rfl rfl (Nat.le_of_ble_eq_true rfl) dX1_expectFairConditions_41 ⟨(Nat.zero_le _), (Nat.zero_le _)⟩ (fun H locs hZ hS => ?_)
          refine z_cVv (As := [.int (s_X1_daysOf fb g), .int (s_X3_fairAfter (μ (1 + (15 + j))) (s_X1_daysOf fb g))]) (rest := []) hx hb hml hown hts hl hK hZ hS (c_X3_tellEnd l G (m_exp μ t (s_X1_daysOf fb g) j) (1 + (15 + j)) (μ (1 + (15 + j))) (zk_item hB1 (by omega)) (m_exp_ne (fun i hi => by omega)) (s_X1_daysOf fb g) (s_X3_fairAfter (μ (1 + (15 + j))) (s_X1_daysOf fb g))) (z_G q486 q487 q488 q5 q489) hdX3_tellEnd ⟨Nat.le_of_ble_eq_true rfl, Nat.le_of_ble_eq_true rfl⟩ (zk_item hB1 (by omega)) (by decide) rfl rfl rfl rfl (Nat.le_of_ble_eq_true rfl) dX1_expectFairConditions_44 ⟨(Nat.zero_le _), (Nat.zero_le _)⟩ (fun H locs hZ hS => ?_)
          refine lv_iinc (v := (nI (j + 1))) (lv' := [(2, .int (nI (j + 1))), (4, .int (s_X1_daysOf fb g)), (3, .ref (G.1 + (1 + (15 + j)))), (0, .ref (G.1 + 1)), (1, .int (nI t))]) hx hb dX1_expectFairConditions_47 hl (k := 4) rfl (nI_1 _) (by decide) rfl (fun ls hl => ?_)
          refine lv_goto (tgt := 2) hx hb dX1_expectFairConditions_50 (by decide) ?_
          rw [show (zr (m_exp μ t (s_X1_daysOf fb g) j) (1 + (15 + j)) (w_X3_tellEnd (μ (1 + (15 + j))) (s_X1_daysOf fb g) (s_X3_fairAfter (μ (1 + (15 + j))) (s_X1_daysOf fb g)))) = m_exp μ t (s_X1_daysOf fb g) (j + 1) from (if_pos c_3).symm] at hZ
          exact ih (j + 1) (by omega) _ _ _ hZ hS (lv_sub hl [3, 4, 0] rfl)
  refine lv_iconst (v := 0) hx hb dX1_expectFairConditions_0 (by decide) ?_
  refine lv_istore_n (lv' := [(2, .int 0), (0, .ref (G.1 + 1)), (1, .int (nI t))]) hx hb dX1_expectFairConditions_1 rfl hl (by decide) rfl (fun ls hl => ?_)
  exact loop I 0 (by omega) _ _ _ hZ hS (lv_sub hl [1, 2, 0] rfl)
def m_addT (μ : zM) (fb : Nat → Int32) (T : Nat) (a : Int32) : zM := zr (zr (zr μ 1 (zu fb 3 (nI (T + 1)))) (1 + (3 + 2 * T)) (w_X5_start a (fb 0))) (1 + (3 + 2 * T) + 1) (w_X4_start 0)
def m_newI (μ : zM) (fb : Nat → Int32) (I : Nat) (a b x y z : Int32) : zM := zr (zr μ 1 (zu fb 4 (nI (I + 1)))) (1 + (15 + I)) (w_X3_start a b x y z)
theorem hdX1_addTenancy : yX1_addTenancy.cls = RX1 ∧ yX1_addTenancy.cls ≠ "java/lang/invoke/MethodHandle" ∧ yX1_addTenancy.cls ≠ "java/lang/invoke/VarHandle" ∧ (parseMethodDescriptor yX1_addTenancy.desc).map (fun d => d.parameters.length) = some 1 := by decide +kernel
set_option maxHeartbeats 4000000 in
set_option maxRecDepth 100000 in
theorem c_X1_addTenancy (l : Launch) (G : zG) (μ : zM) (fb : Nat → Int32) (hfb : μ 1 = fb) (T : Nat) (hT : fb 3 = nI T) (hT6 : T < 6) (a : Int32) : zMet l G yX1_addTenancy cX1_addTenancy 4 (some .int) 2 43 [.ref (G.1 + 1), .int a] μ (zQi G (nI T) (m_addT μ fb T a)) := by
  refine z_start (lv := [(0, .ref (G.1 + 1)), (1, .int a)]) (by decide) (Nat.le_of_ble_eq_true rfl) rfl ?_
  intro p e s m args below meth c ls hx hb hml hr hlk hts hown hK hZ hS hl
  have hown : s.vm.findClass RX1 = some m.cls := hown
  refine lv_aload_n hx hb dX1_addTenancy_0 rfl (lv_at hl 0 rfl) ?_
  refine z_g1 (f := fb) (v := .int (nI T)) 3 hx hb hts hown hK hZ (zk_book hB1) hfb (by decide) q152 (congrArg (fun z => some (Value.int z)) hT) dX1_addTenancy_1 ?_
  refine lv_istore_n (lv' := [(2, .int (nI T)), (0, .ref (G.1 + 1)), (1, .int a)]) hx hb dX1_addTenancy_4 rfl hl (by decide) rfl (fun ls hl => ?_)
  refine lv_aload_n hx hb dX1_addTenancy_5 rfl (lv_at hl 1 rfl) ?_
  refine lv_dup hx hb dX1_addTenancy_6 rfl ?_
  refine z_g1 (f := fb) (v := .int (nI T)) 3 hx hb hts hown hK hZ (zk_book hB1) hfb (by decide) q152 (congrArg (fun z => some (Value.int z)) hT) dX1_addTenancy_7 ?_
  refine lv_iconst (v := 1) hx hb dX1_addTenancy_10 (by decide) ?_
  refine lv_iadd hx hb dX1_addTenancy_11 ?_
  rw [nI_1]
  refine z_p1 (f := fb) (μ1 := (zr μ 1 (zu fb 3 (nI (T + 1))))) 3 hx hb hts hown hK hZ hS (zk_book hB1) hfb (by decide) q152 rfl pfd_I rfl rfl dX1_addTenancy_12 (fun H locs hZ hS => ?_)
  refine lv_aload_n hx hb dX1_addTenancy_15 rfl (lv_at hl 1 rfl) ?_
  refine lv_iload_n hx hb dX1_addTenancy_16 rfl (lv_at hl 0 rfl) ?_
  refine z_cVr (As := [.int (nI T)]) (rest := []) hx hb hml hown hts hl hK hZ hS (c_X1_tenancyAt_ok l G (zr μ 1 (zu fb 3 (nI (T + 1)))) 1 hB1 (zu fb 3 (nI (T + 1))) zr_same (T + 1) T rfl (by omega) (by omega)) (z_G q261 q262 q263 q2 q264) hdX1_tenancyAt ⟨Nat.le_of_ble_eq_true rfl, Nat.le_of_ble_eq_true rfl⟩ (zk_book hB1) (by decide) rfl rfl rfl rfl (Nat.le_of_ble_eq_true rfl) dX1_addTenancy_17 ⟨(Nat.zero_le _), (Nat.zero_le _)⟩ (fun H locs hZ hS => ?_)
  refine lv_astore_n (lv' := [(3, .ref (G.1 + (1 + (3 + 2 * T)))), (2, .int (nI T)), (0, .ref (G.1 + 1)), (1, .int a)]) hx hb dX1_addTenancy_20 rfl hl (by decide) rfl (fun ls hl => ?_)
  refine lv_aload_n hx hb dX1_addTenancy_21 rfl (lv_at hl 0 rfl) ?_
  refine lv_ifnull hx hb dX1_addTenancy_22 ?_
  refine lv_aload_n hx hb dX1_addTenancy_25 rfl (lv_at hl 0 rfl) ?_
  refine lv_iload_n hx hb dX1_addTenancy_26 rfl (lv_at hl 3 rfl) ?_
  refine lv_aload_n hx hb dX1_addTenancy_27 rfl (lv_at hl 2 rfl) ?_
  refine z_g1 (f := (zu fb 3 (nI (T + 1)))) (v := .int (fb 0)) 0 hx hb hts hown hK hZ (zk_book hB1) zr_same (by decide) q146 rfl dX1_addTenancy_28 ?_
  refine z_cVv (As := [.int a, .int (fb 0)]) (rest := []) hx hb hml hown hts hl hK hZ hS (c_X5_start l G (zr μ 1 (zu fb 3 (nI (T + 1)))) (1 + (3 + 2 * T)) (μ (1 + (3 + 2 * T))) (zk_ten hB1 (by omega)) (zr_at rfl (by omega)) (zk_set1 hB1 (by omega)) a (fb 0)) (z_G q453 q454 q455 q3 q456) hdX5_start ⟨Nat.le_of_ble_eq_true rfl, Nat.le_of_ble_eq_true rfl⟩ (zk_ten hB1 (by omega)) (by decide) rfl rfl rfl rfl (Nat.le_of_ble_eq_true rfl) dX1_addTenancy_31 ⟨(Nat.zero_le _), (Nat.zero_le _)⟩ (fun H locs hZ hS => ?_)
  refine lv_iload_n hx hb dX1_addTenancy_34 rfl (lv_at hl 1 rfl) ?_
  exact z_iret hx hb hr hlk hK hZ hS ⟨rfl, rfl⟩ dX1_addTenancy_35
theorem hdX1_newItem : yX1_newItem.cls = RX1 ∧ yX1_newItem.cls ≠ "java/lang/invoke/MethodHandle" ∧ yX1_newItem.cls ≠ "java/lang/invoke/VarHandle" ∧ (parseMethodDescriptor yX1_newItem.desc).map (fun d => d.parameters.length) = some 5 := by decide +kernel
set_option maxHeartbeats 4000000 in
set_option maxRecDepth 100000 in
theorem c_X1_newItem (l : Launch) (G : zG) (μ : zM) (fb : Nat → Int32) (hfb : μ 1 = fb) (I : Nat) (hI : fb 4 = nI I) (hI24 : I < 24) (a b x y z : Int32) : zMet l G yX1_newItem cX1_newItem 8 (some .int) 1 25 [.ref (G.1 + 1), .int a, .int b, .int x, .int y, .int z] μ (zQi G (nI I) (m_newI μ fb I a b x y z)) := by
  refine z_start (lv := [(0, .ref (G.1 + 1)), (1, .int a), (2, .int b), (3, .int x), (4, .int y), (5, .int z)]) (by decide) (Nat.le_of_ble_eq_true rfl) rfl ?_
  intro p e s m args below meth c ls hx hb hml hr hlk hts hown hK hZ hS hl
  have hown : s.vm.findClass RX1 = some m.cls := hown
  refine lv_aload_n hx hb dX1_newItem_0 rfl (lv_at hl 0 rfl) ?_
  refine z_g1 (f := fb) (v := .int (nI I)) 4 hx hb hts hown hK hZ (zk_book hB1) hfb (by decide) q154 (congrArg (fun z => some (Value.int z)) hI) dX1_newItem_1 ?_
  refine lv_istore (lv' := [(6, .int (nI I)), (0, .ref (G.1 + 1)), (1, .int a), (2, .int b), (3, .int x), (4, .int y), (5, .int z)]) hx hb dX1_newItem_4 hl (by decide) rfl (fun ls hl => ?_)
  refine lv_aload_n hx hb dX1_newItem_6 rfl (lv_at hl 1 rfl) ?_
  refine lv_dup hx hb dX1_newItem_7 rfl ?_
  refine z_g1 (f := fb) (v := .int (nI I)) 4 hx hb hts hown hK hZ (zk_book hB1) hfb (by decide) q154 (congrArg (fun z => some (Value.int z)) hI) dX1_newItem_8 ?_
  refine lv_iconst (v := 1) hx hb dX1_newItem_11 (by decide) ?_
  refine lv_iadd hx hb dX1_newItem_12 ?_
  rw [nI_1]
  refine z_p1 (f := fb) (μ1 := (zr μ 1 (zu fb 4 (nI (I + 1))))) 4 hx hb hts hown hK hZ hS (zk_book hB1) hfb (by decide) q154 rfl pfd_I rfl rfl dX1_newItem_13 (fun H locs hZ hS => ?_)
  refine lv_aload_n hx hb dX1_newItem_16 rfl (lv_at hl 1 rfl) ?_
  refine lv_iload hx hb dX1_newItem_17 (lv_at hl 0 rfl) ?_
  refine z_cVr (As := [.int (nI I)]) (rest := []) hx hb hml hown hts hl hK hZ hS (c_X1_itemAt_ok l G (zr μ 1 (zu fb 4 (nI (I + 1)))) 1 hB1 (zu fb 4 (nI (I + 1))) zr_same (I + 1) I rfl (by omega) (by omega)) (z_G q273 q274 q275 q2 q276) hdX1_itemAt ⟨Nat.le_of_ble_eq_true rfl, Nat.le_of_ble_eq_true rfl⟩ (zk_book hB1) (by decide) rfl rfl rfl rfl (Nat.le_of_ble_eq_true rfl) dX1_newItem_19 ⟨(Nat.zero_le _), (Nat.zero_le _)⟩ (fun H locs hZ hS => ?_)
  refine lv_astore (lv' := [(7, .ref (G.1 + (1 + (15 + I)))), (6, .int (nI I)), (0, .ref (G.1 + 1)), (1, .int a), (2, .int b), (3, .int x), (4, .int y), (5, .int z)]) hx hb dX1_newItem_22 hl (by decide) rfl (fun ls hl => ?_)
  refine lv_aload hx hb dX1_newItem_24 (lv_at hl 0 rfl) ?_
  refine lv_ifnull hx hb dX1_newItem_26 ?_
  refine lv_aload hx hb dX1_newItem_29 (lv_at hl 0 rfl) ?_
  refine lv_iload_n hx hb dX1_newItem_31 rfl (lv_at hl 3 rfl) ?_
  refine lv_iload_n hx hb dX1_newItem_32 rfl (lv_at hl 4 rfl) ?_
  refine lv_iload_n hx hb dX1_newItem_33 rfl (lv_at hl 5 rfl) ?_
  refine lv_iload hx hb dX1_newItem_34 (lv_at hl 6 rfl) ?_
  refine lv_iload hx hb dX1_newItem_36 (lv_at hl 7 rfl) ?_
  refine z_cVv (As := [.int a, .int b, .int x, .int y, .int z]) (rest := []) hx hb hml hown hts hl hK hZ hS (c_X3_start l G (zr μ 1 (zu fb 4 (nI (I + 1)))) (1 + (15 + I)) (μ (1 + (15 + I))) (zk_item hB1 (by omega)) (zr_at rfl (by omega)) a b x y z) (z_G q467 q468 q469 q5 q470) hdX3_start ⟨Nat.le_of_ble_eq_true rfl, Nat.le_of_ble_eq_true rfl⟩ (zk_item hB1 (by omega)) (by decide) rfl rfl rfl rfl (Nat.le_of_ble_eq_true rfl) dX1_newItem_38 ⟨(Nat.zero_le _), (Nat.zero_le _)⟩ (fun H locs hZ hS => ?_)
  refine lv_iload hx hb dX1_newItem_41 (lv_at hl 1 rfl) ?_
  exact z_iret hx hb hr hlk hK hZ hS ⟨rfl, rfl⟩ dX1_newItem_43
end
section
abbrev zlive (T I r : Nat) : Prop := r = 0 ∨ (3 ≤ r ∧ r < 3 + 2 * T) ∨ (15 ≤ r ∧ r < 15 + I)
/-- the book at S copied onto the one at D: its own row, T tenancies (each with its settlement), I items -/
def bc (μ : zM) (D S T I : Nat) : zM := fun n => if D ≤ n ∧ n < D + 39 ∧ zlive T I (n - D) then μ (S + (n - D)) else μ n
theorem bc_out {μ : zM} {D S T I n : Nat} (h : n < D ∨ D + 39 ≤ n) : bc μ D S T I n = μ n := if_neg (by omega)
theorem bc_live {μ : zM} {D S T I r : Nat} (hr : r < 39) (h : zlive T I r) : bc μ D S T I (D + r) = μ (S + r) := by
  have e1 : D + r - D = r := by omega
  unfold bc
  rw [e1]
  exact if_pos ⟨by omega, by omega, h⟩
theorem bc_dead {μ : zM} {D S T I r : Nat} (h : ¬ zlive T I r) : bc μ D S T I (D + r) = μ (D + r) := by
  have e1 : D + r - D = r := by omega
  unfold bc
  rw [e1]
  exact if_neg (fun q => h q.2.2)
theorem bc_00 {μ : zM} {D S : Nat} {f : Nat → Int32} (h : μ S = f) : zr μ D f = bc μ D S 0 0 := by
  funext n
  by_cases hn : n = D
  · subst hn
    rw [zr_same]
    exact ((bc_live (μ := μ) (D := n) (S := S) (T := 0) (I := 0) (r := 0) (by omega) (Or.inl rfl)).trans h).symm
  · rw [zr_ne hn]
    exact (if_neg (by rintro ⟨h1, h2, h3⟩; omega)).symm
theorem bc_ten {μ : zM} {D S j : Nat} (hj : j < 6) : zr (zr (bc μ D S j 0) (D + (3 + 2 * j)) (μ (S + (3 + 2 * j)))) (D + (3 + 2 * j) + 1) (μ (S + (3 + 2 * j) + 1)) = bc μ D S (j + 1) 0 := by
  funext n
  by_cases h1 : n = D + (3 + 2 * j) + 1
  · subst h1
    rw [zr_same]
    exact (bc_live (μ := μ) (D := D) (S := S) (T := j + 1) (I := 0) (r := 3 + 2 * j + 1) (by omega) (by omega)).symm
  · rw [zr_ne h1]
    by_cases h2 : n = D + (3 + 2 * j)
    · subst h2
      rw [zr_same]
      exact (bc_live (μ := μ) (D := D) (S := S) (T := j + 1) (I := 0) (r := 3 + 2 * j) (by omega) (by omega)).symm
    · rw [zr_ne h2]
      unfold bc
      by_cases h3 : D ≤ n ∧ n < D + 39 ∧ zlive j 0 (n - D)
      · rw [if_pos h3, if_pos (by omega)]
      · rw [if_neg h3, if_neg (by omega)]
theorem bc_item {μ : zM} {D S T j : Nat} (hj : j < 24) : zr (bc μ D S T j) (D + (15 + j)) (μ (S + (15 + j))) = bc μ D S T (j + 1) := by
  funext n
  by_cases h2 : n = D + (15 + j)
  · subst h2
    rw [zr_same]
    exact (bc_live (μ := μ) (D := D) (S := S) (T := T) (I := j + 1) (r := 15 + j) (by omega) (by omega)).symm
  · rw [zr_ne h2]
    unfold bc
    by_cases h3 : D ≤ n ∧ n < D + 39 ∧ zlive T j (n - D)
    · rw [if_pos h3, if_pos (by omega)]
    · rw [if_neg h3, if_neg (by omega)]
theorem zB_far {D S : Nat} (hD : zB D) (hS : zB S) (h : D ≠ S) : D + 39 ≤ S ∨ S + 39 ≤ D := by
  unfold zB at hD hS
  omega
theorem hdX1_copyFrom : yX1_copyFrom.cls = RX1 ∧ yX1_copyFrom.cls ≠ "java/lang/invoke/MethodHandle" ∧ yX1_copyFrom.cls ≠ "java/lang/invoke/VarHandle" ∧ (parseMethodDescriptor yX1_copyFrom.desc).map (fun d => d.parameters.length) = some 1 := by decide +kernel
set_option maxHeartbeats 4000000 in
set_option maxRecDepth 100000 in
theorem c_X1_copyFrom (l : Launch) (G : zG) (μ : zM) (D S : Nat) (hD : zB D) (hBS : zB S) (hDS : D ≠ S) (fd fs : Nat → Int32) (hfd : μ D = fd) (hfs : μ S = fs) (T I : Nat) (hT : fs 3 = nI T) (hI : fs 4 = nI I) (hT6 : T ≤ 6) (hI24 : I ≤ 24) : zMet l G yX1_copyFrom cX1_copyFrom 5 none 2 42 [.ref (G.1 + D), .ref (G.1 + S)] μ (zQv G (bc μ D S T I)) := by
  refine z_start (lv := [(0, .ref (G.1 + D)), (1, .ref (G.1 + S))]) (by decide) (Nat.le_of_ble_eq_true rfl) rfl ?_
  intro p e s m args below meth c ls hx hb hml hr hlk hts hown hK hZ hS hl
  have hown : s.vm.findClass RX1 = some m.cls := hown
  have hfar := zB_far hD hBS hDS
  have loop2 : ∀ (k j : Nat), j + k = I → ∀ (H : Heap) (locs : List Loc) (ls : Array Slot), zW G (bc μ D S T j) H → va_S (zA G) s.heap H locs → lv_has ls 5 [(0, .ref (G.1 + D)), (1, .ref (G.1 + S)), (2, .int (nI j))] → W p l e { frames := 2, cells := 0, slots := 0, locals := 42 } s m args below meth c H locs 0 0 (MQ below (zQv G (bc μ D S T I)) args s 0 0 (zA G)) (F0 m 86 ls []) := by
    intro k
    induction k with
    | zero =>
      intro j hj H locs ls hZ hS hl
      have hj : I = j := by omega
      subst hj
      refine lv_iload_n hx hb dX1_copyFrom_86 rfl (lv_at hl 2 rfl) ?_
      refine lv_aload_n hx hb dX1_copyFrom_87 rfl (lv_at hl 0 rfl) ?_
      refine z_g1 (f := fs) (v := .int (nI I)) 4 hx hb hts hown hK hZ (zk_book hD) ((bc_live (r := 0) (by omega) (Or.inl rfl)).trans hfs) (by decide) q154 (congrArg (fun z => some (Value.int z)) hI) dX1_copyFrom_88 ?_
      refine lv_icmp_ge (tgt := 128) hx hb dX1_copyFrom_91 (by decide) (fun c_1 => ?_) (fun c_1 => ?_)
      · exact z_vret hx hb hr hlk hK hZ hS rfl dX1_copyFrom_128
      · exact absurd (nI_le (Nat.le_refl _) (by omega)) c_1
    | succ k ih =>
      intro j hj H locs ls hZ hS hl
      refine lv_iload_n hx hb dX1_copyFrom_86 rfl (lv_at hl 2 rfl) ?_
      refine lv_aload_n hx hb dX1_copyFrom_87 rfl (lv_at hl 0 rfl) ?_
      refine z_g1 (f := fs) (v := .int (nI I)) 4 hx hb hts hown hK hZ (zk_book hD) ((bc_live (r := 0) (by omega) (Or.inl rfl)).trans hfs) (by decide) q154 (congrArg (fun z => some (Value.int z)) hI) dX1_copyFrom_88 ?_
      refine lv_icmp_ge (tgt := 128) hx hb dX1_copyFrom_91 (by decide) (fun c_2 => ?_) (fun c_2 => ?_)
      · exact absurd c_2 (nI_ge (by omega) (by omega))
      · refine lv_aload_n hx hb dX1_copyFrom_94 rfl (lv_at hl 0 rfl) ?_
        refine lv_iload_n hx hb dX1_copyFrom_95 rfl (lv_at hl 2 rfl) ?_
        refine z_cVr (As := [.int (nI j)]) (rest := []) hx hb hml hown hts hl hK hZ hS (c_X1_itemAt_ok l G (bc μ D S T j) D hD fs ((bc_live (r := 0) (by omega) (Or.inl rfl)).trans hfs) I j hI hI24 (by omega)) (z_G q273 q274 q275 q2 q276) hdX1_itemAt ⟨Nat.le_of_ble_eq_true rfl, Nat.le_of_ble_eq_true rfl⟩ (zk_book hD) (by decide) rfl rfl rfl rfl (Nat.le_of_ble_eq_true rfl) dX1_copyFrom_96 ⟨(Nat.zero_le _), (Nat.zero_le _)⟩ (fun H locs hZ hS => ?_)
        refine lv_astore_n (lv' := [(3, .ref (G.1 + (D + (15 + j)))), (0, .ref (G.1 + D)), (1, .ref (G.1 + S)), (2, .int (nI j))]) hx hb dX1_copyFrom_99 rfl hl (by decide) rfl (fun ls hl => ?_)
        refine lv_aload_n hx hb dX1_copyFrom_100 rfl (lv_at hl 2 rfl) ?_
        refine lv_iload_n hx hb dX1_copyFrom_101 rfl (lv_at hl 3 rfl) ?_
        refine z_cVr (As := [.int (nI j)]) (rest := []) hx hb hml hown hts hl hK hZ hS (c_X1_itemAt_ok l G (bc μ D S T j) S hBS fs ((bc_out (by omega)).trans hfs) I j hI hI24 (by omega)) (z_G q273 q274 q275 q2 q276) hdX1_itemAt ⟨Nat.le_of_ble_eq_true rfl, Nat.le_of_ble_eq_true rfl⟩ (zk_book hBS) (by decide) rfl rfl rfl rfl (Nat.le_of_ble_eq_true rfl) dX1_copyFrom_102 ⟨(Nat.zero_le _), (Nat.zero_le _)⟩ (fun H locs hZ hS => ?_)
        refine lv_astore (lv' := [(4, .ref (G.1 + (S + (15 + j)))), (3, .ref (G.1 + (D + (15 + j)))), (0, .ref (G.1 + D)), (1, .ref (G.1 + S)), (2, .int (nI j))]) hx hb dX1_copyFrom_105 hl (by decide) rfl (fun ls hl => ?_)
        refine lv_aload_n hx hb dX1_copyFrom_107 rfl (lv_at hl 1 rfl) ?_
        refine lv_ifnull hx hb dX1_copyFrom_108 ?_
        refine lv_aload hx hb dX1_copyFrom_111 (lv_at hl 0 rfl) ?_
        refine lv_ifnull hx hb dX1_copyFrom_113 ?_
        refine lv_aload_n hx hb dX1_copyFrom_116 rfl (lv_at hl 1 rfl) ?_
        refine lv_aload hx hb dX1_copyFrom_117 (lv_at hl 0 rfl) ?_
        refine z_cVv (As := [.ref (G.1 + (S + (15 + j)))]) (rest := []) hx hb hml hown hts hl hK hZ hS (c_X3_copyFrom l G (bc μ D S T j) (D + (15 + j)) (μ (D + (15 + j))) (zk_item hD (by omega)) (bc_dead (by omega)) (S + (15 + j)) (μ (S + (15 + j))) (zk_item hBS (by omega)) (bc_out (by omega)) (by omega)) (z_G q277 q278 q279 q5 q280) hdX3_copyFrom ⟨Nat.le_of_ble_eq_true rfl, Nat.le_of_ble_eq_true rfl⟩ (zk_item hD (by omega)) (by decide) rfl rfl rfl rfl (Nat.le_of_ble_eq_true rfl) dX1_copyFrom_119 ⟨(Nat.zero_le _), (Nat.zero_le _)⟩ (fun H locs hZ hS => ?_)
        refine lv_iinc (v := (nI (j + 1))) (lv' := [(2, .int (nI (j + 1))), (4, .ref (G.1 + (S + (15 + j)))), (3, .ref (G.1 + (D + (15 + j)))), (0, .ref (G.1 + D)), (1, .ref (G.1 + S))]) hx hb dX1_copyFrom_122 hl (k := 4) rfl (nI_1 _) (by decide) rfl (fun ls hl => ?_)
        refine lv_goto (tgt := 86) hx hb dX1_copyFrom_125 (by decide) ?_
        rw [bc_item (by omega)] at hZ
        exact ih (j + 1) (by omega) _ _ _ hZ hS (lv_sub hl [3, 4, 0] rfl)
  have loop1 : ∀ (k j : Nat), j + k = T → ∀ (H : Heap) (locs : List Loc) (ls : Array Slot), zW G (bc μ D S j 0) H → va_S (zA G) s.heap H locs → lv_has ls 5 [(0, .ref (G.1 + D)), (1, .ref (G.1 + S)), (2, .int (nI j))] → W p l e { frames := 2, cells := 0, slots := 0, locals := 42 } s m args below meth c H locs 0 0 (MQ below (zQv G (bc μ D S T I)) args s 0 0 (zA G)) (F0 m 42 ls []) := by
    intro k
    induction k with
    | zero =>
      intro j hj H locs ls hZ hS hl
      have hj : T = j := by omega
      subst hj
      refine lv_iload_n hx hb dX1_copyFrom_42 rfl (lv_at hl 2 rfl) ?_
      refine lv_aload_n hx hb dX1_copyFrom_43 rfl (lv_at hl 0 rfl) ?_
      refine z_g1 (f := fs) (v := .int (nI T)) 3 hx hb hts hown hK hZ (zk_book hD) ((bc_live (r := 0) (by omega) (Or.inl rfl)).trans hfs) (by decide) q152 (congrArg (fun z => some (Value.int z)) hT) dX1_copyFrom_44 ?_
      refine lv_icmp_ge (tgt := 84) hx hb dX1_copyFrom_47 (by decide) (fun c_3 => ?_) (fun c_3 => ?_)
      · refine lv_iconst (v := 0) hx hb dX1_copyFrom_84 (by decide) ?_
        refine lv_istore_n (lv' := [(2, .int 0), (0, .ref (G.1 + D)), (1, .ref (G.1 + S))]) hx hb dX1_copyFrom_85 rfl hl (by decide) rfl (fun ls hl => ?_)
        exact loop2 I 0 (by omega) _ _ _ hZ hS (lv_sub hl [1, 2, 0] rfl)
      · exact absurd (nI_le (Nat.le_refl _) (by omega)) c_3
    | succ k ih =>
      intro j hj H locs ls hZ hS hl
      refine lv_iload_n hx hb dX1_copyFrom_42 rfl (lv_at hl 2 rfl) ?_
      refine lv_aload_n hx hb dX1_copyFrom_43 rfl (lv_at hl 0 rfl) ?_
      refine z_g1 (f := fs) (v := .int (nI T)) 3 hx hb hts hown hK hZ (zk_book hD) ((bc_live (r := 0) (by omega) (Or.inl rfl)).trans hfs) (by decide) q152 (congrArg (fun z => some (Value.int z)) hT) dX1_copyFrom_44 ?_
      refine lv_icmp_ge (tgt := 84) hx hb dX1_copyFrom_47 (by decide) (fun c_4 => ?_) (fun c_4 => ?_)
      · exact absurd c_4 (nI_ge (by omega) (by omega))
      · refine lv_aload_n hx hb dX1_copyFrom_50 rfl (lv_at hl 0 rfl) ?_
        refine lv_iload_n hx hb dX1_copyFrom_51 rfl (lv_at hl 2 rfl) ?_
        refine z_cVr (As := [.int (nI j)]) (rest := []) hx hb hml hown hts hl hK hZ hS (c_X1_tenancyAt_ok l G (bc μ D S j 0) D hD fs ((bc_live (r := 0) (by omega) (Or.inl rfl)).trans hfs) T j hT hT6 (by omega)) (z_G q261 q262 q263 q2 q264) hdX1_tenancyAt ⟨Nat.le_of_ble_eq_true rfl, Nat.le_of_ble_eq_true rfl⟩ (zk_book hD) (by decide) rfl rfl rfl rfl (Nat.le_of_ble_eq_true rfl) dX1_copyFrom_52 ⟨(Nat.zero_le _), (Nat.zero_le _)⟩ (fun H locs hZ hS => ?_)
        refine lv_astore_n (lv' := [(3, .ref (G.1 + (D + (3 + 2 * j)))), (0, .ref (G.1 + D)), (1, .ref (G.1 + S)), (2, .int (nI j))]) hx hb dX1_copyFrom_55 rfl hl (by decide) rfl (fun ls hl => ?_)
        refine lv_aload_n hx hb dX1_copyFrom_56 rfl (lv_at hl 2 rfl) ?_
        refine lv_iload_n hx hb dX1_copyFrom_57 rfl (lv_at hl 3 rfl) ?_
        refine z_cVr (As := [.int (nI j)]) (rest := []) hx hb hml hown hts hl hK hZ hS (c_X1_tenancyAt_ok l G (bc μ D S j 0) S hBS fs ((bc_out (by omega)).trans hfs) T j hT hT6 (by omega)) (z_G q261 q262 q263 q2 q264) hdX1_tenancyAt ⟨Nat.le_of_ble_eq_true rfl, Nat.le_of_ble_eq_true rfl⟩ (zk_book hBS) (by decide) rfl rfl rfl rfl (Nat.le_of_ble_eq_true rfl) dX1_copyFrom_58 ⟨(Nat.zero_le _), (Nat.zero_le _)⟩ (fun H locs hZ hS => ?_)
        refine lv_astore (lv' := [(4, .ref (G.1 + (S + (3 + 2 * j)))), (3, .ref (G.1 + (D + (3 + 2 * j)))), (0, .ref (G.1 + D)), (1, .ref (G.1 + S)), (2, .int (nI j))]) hx hb dX1_copyFrom_61 hl (by decide) rfl (fun ls hl => ?_)
        refine lv_aload_n hx hb dX1_copyFrom_63 rfl (lv_at hl 1 rfl) ?_
        refine lv_ifnull hx hb dX1_copyFrom_64 ?_
        refine lv_aload hx hb dX1_copyFrom_67 (lv_at hl 0 rfl) ?_
        refine lv_ifnull hx hb dX1_copyFrom_69 ?_
        refine lv_aload_n hx hb dX1_copyFrom_72 rfl (lv_at hl 1 rfl) ?_
        refine lv_aload hx hb dX1_copyFrom_73 (lv_at hl 0 rfl) ?_
        refine z_cVv (As := [.ref (G.1 + (S + (3 + 2 * j)))]) (rest := []) hx hb hml hown hts hl hK hZ hS (c_X5_copyFrom l G (bc μ D S j 0) (D + (3 + 2 * j)) (μ (D + (3 + 2 * j))) (zk_ten hD (by omega)) (bc_dead (by omega)) (zk_set1 hD (by omega)) (S + (3 + 2 * j)) (μ (S + (3 + 2 * j))) (zk_ten hBS (by omega)) (bc_out (by omega)) (zk_set1 hBS (by omega)) (μ (D + (3 + 2 * j) + 1)) (μ (S + (3 + 2 * j) + 1)) (bc_dead (r := 3 + 2 * j + 1) (by omega)) (bc_out (by omega)) (by omega) (by omega) (by omega)) (z_G q265 q266 q267 q3 q268) hdX5_copyFrom ⟨Nat.le_of_ble_eq_true rfl, Nat.le_of_ble_eq_true rfl⟩ (zk_ten hD (by omega)) (by decide) rfl rfl rfl rfl (Nat.le_of_ble_eq_true rfl) dX1_copyFrom_75 ⟨(Nat.zero_le _), (Nat.zero_le _)⟩ (fun H locs hZ hS => ?_)
        refine lv_iinc (v := (nI (j + 1))) (lv' := [(2, .int (nI (j + 1))), (4, .ref (G.1 + (S + (3 + 2 * j)))), (3, .ref (G.1 + (D + (3 + 2 * j)))), (0, .ref (G.1 + D)), (1, .ref (G.1 + S))]) hx hb dX1_copyFrom_78 hl (k := 4) rfl (nI_1 _) (by decide) rfl (fun ls hl => ?_)
        refine lv_goto (tgt := 42) hx hb dX1_copyFrom_81 (by decide) ?_
        rw [bc_ten (by omega)] at hZ
        exact ih (j + 1) (by omega) _ _ _ hZ hS (lv_sub hl [3, 4, 0] rfl)
  refine lv_aload_n hx hb dX1_copyFrom_0 rfl (lv_at hl 0 rfl) ?_
  refine lv_aload_n hx hb dX1_copyFrom_1 rfl (lv_at hl 1 rfl) ?_
  refine z_g1 (f := fs) (v := .int (fs 0)) 0 hx hb hts hown hK hZ (zk_book hBS) hfs (by decide) q146 rfl dX1_copyFrom_2 ?_
  refine z_p1 (f := fd) (μ1 := (zr μ D (zu fd 0 (fs 0)))) 0 hx hb hts hown hK hZ hS (zk_book hD) hfd (by decide) q146 rfl pfd_I rfl rfl dX1_copyFrom_5 (fun H locs hZ hS => ?_)
  refine lv_aload_n hx hb dX1_copyFrom_8 rfl (lv_at hl 0 rfl) ?_
  refine lv_aload_n hx hb dX1_copyFrom_9 rfl (lv_at hl 1 rfl) ?_
  refine z_g1 (f := fs) (v := .int (fs 1)) 1 hx hb hts hown hK hZ (zk_book hBS) (zr_at hfs hDS.symm) (by decide) q148 rfl dX1_copyFrom_10 ?_
  refine z_p1 (f := (zu fd 0 (fs 0))) (μ1 := (zr μ D (zu (zu fd 0 (fs 0)) 1 (fs 1)))) 1 hx hb hts hown hK hZ hS (zk_book hD) zr_same (by decide) q148 rfl pfd_I rfl zr_zr dX1_copyFrom_13 (fun H locs hZ hS => ?_)
  refine lv_aload_n hx hb dX1_copyFrom_16 rfl (lv_at hl 0 rfl) ?_
  refine lv_aload_n hx hb dX1_copyFrom_17 rfl (lv_at hl 1 rfl) ?_
  refine z_g1 (f := fs) (v := .float (Int32.toUInt32 (fs 2))) 2 hx hb hts hown hK hZ (zk_book hBS) (zr_at hfs hDS.symm) (by decide) q150 rfl dX1_copyFrom_18 ?_
  refine z_p1f (f := (zu (zu fd 0 (fs 0)) 1 (fs 1))) (μ1 := (zr μ D (zu (zu (zu fd 0 (fs 0)) 1 (fs 1)) 2 (UInt32.toInt32 (Int32.toUInt32 (fs 2)))))) 2 hx hb hts hown hK hZ hS (zk_book hD) zr_same (by decide) q150 rfl pfd_F rfl zr_zr dX1_copyFrom_21 (fun H locs hZ hS => ?_)
  refine lv_aload_n hx hb dX1_copyFrom_24 rfl (lv_at hl 0 rfl) ?_
  refine lv_aload_n hx hb dX1_copyFrom_25 rfl (lv_at hl 1 rfl) ?_
  refine z_g1 (f := fs) (v := .int (nI T)) 3 hx hb hts hown hK hZ (zk_book hBS) (zr_at hfs hDS.symm) (by decide) q152 (congrArg (fun z => some (Value.int z)) hT) dX1_copyFrom_26 ?_
  refine z_p1 (f := (zu (zu (zu fd 0 (fs 0)) 1 (fs 1)) 2 (UInt32.toInt32 (Int32.toUInt32 (fs 2))))) (μ1 := (zr μ D (zu (zu (zu (zu fd 0 (fs 0)) 1 (fs 1)) 2 (UInt32.toInt32 (Int32.toUInt32 (fs 2)))) 3 (nI T)))) 3 hx hb hts hown hK hZ hS (zk_book hD) zr_same (by decide) q152 rfl pfd_I rfl zr_zr dX1_copyFrom_29 (fun H locs hZ hS => ?_)
  refine lv_aload_n hx hb dX1_copyFrom_32 rfl (lv_at hl 0 rfl) ?_
  refine lv_aload_n hx hb dX1_copyFrom_33 rfl (lv_at hl 1 rfl) ?_
  refine z_g1 (f := fs) (v := .int (nI I)) 4 hx hb hts hown hK hZ (zk_book hBS) (zr_at hfs hDS.symm) (by decide) q154 (congrArg (fun z => some (Value.int z)) hI) dX1_copyFrom_34 ?_
  refine z_p1 (f := (zu (zu (zu (zu fd 0 (fs 0)) 1 (fs 1)) 2 (UInt32.toInt32 (Int32.toUInt32 (fs 2)))) 3 (nI T))) (μ1 := (zr μ D (zu (zu (zu (zu (zu fd 0 (fs 0)) 1 (fs 1)) 2 (UInt32.toInt32 (Int32.toUInt32 (fs 2)))) 3 (nI T)) 4 (nI I)))) 4 hx hb hts hown hK hZ hS (zk_book hD) zr_same (by decide) q154 rfl pfd_I rfl zr_zr dX1_copyFrom_37 (fun H locs hZ hS => ?_)
  refine lv_iconst (v := 0) hx hb dX1_copyFrom_40 (by decide) ?_
  refine lv_istore_n (lv' := [(2, .int 0), (0, .ref (G.1 + D)), (1, .ref (G.1 + S))]) hx hb dX1_copyFrom_41 rfl hl (by decide) rfl (fun ls hl => ?_)
  have hZ := hZ.re (g := fs) (zk_book hD) (zE1_eq (by rw [← hT, ← hI]; rfl))
  rw [bc_00 hfs] at hZ
  exact loop1 T 0 (by omega) _ _ _ hZ hS (lv_sub hl [1, 2, 0] rfl)
theorem z_mod4 {o k : Nat} (h : o + k < 2 ^ 31) : nI o + nI k - (nI o + nI k) / 4 * 4 = nI ((o + k) % 4) := by
  rw [nI_add]
  exact pk_rem (d := 4) h (by decide) (by decide)
theorem z_sub1 {n : Nat} (h : 0 < n) : nI n - 1 = nI (n - 1) := pk_sub (b := 1) h
theorem zB_h {p : Nat} (h : p < 4) : zB (81 + 39 * p) := by unfold zB; omega
def hr7 (a b : Nat) : Nat → Int32 := fun k => match k with
  | 1 => nI a
  | 2 => nI b
  | _ => 0
def h_o (o z : Nat) : Nat := if z < 4 then o else (o + 1) % 4
def h_p (o z : Nat) : Nat := if z < 4 then (o + z) % 4 else ((o + 1) % 4 + 3) % 4
def h_z (z : Nat) : Nat := if z < 4 then z + 1 else 4
theorem h_o4 {o z : Nat} (h : o < 4) : h_o o z < 4 := by unfold h_o; split <;> omega
theorem h_p4 (o z : Nat) : h_p o z < 4 := by unfold h_p; split <;> omega
theorem h_z4 (z : Nat) : h_z z ≤ 4 := by unfold h_z; split <;> omega
/-- the history behind a push of the book -/
def zp (μ : zM) (o z T I : Nat) : zM := zr (bc μ (81 + 39 * h_p o z) 1 T I) 79 (hr7 (h_o o z) (h_z z))
theorem zp_ne {μ : zM} {o z T I n : Nat} (h : n < 79 ∨ 237 ≤ n) : zp μ o z T I n = μ n := by
  have hp := h_p4 o z
  unfold zp
  rw [zr_ne (by omega), bc_out (by omega)]
theorem bc_zr {μ : zM} {D T I : Nat} {r : Nat → Int32} (hD : 80 ≤ D) : bc (zr μ 79 r) D 1 T I = zr (bc μ D 1 T I) 79 r := by
  funext n
  by_cases hn : n = 79
  · subst hn
    rw [zr_same, bc_out (by omega), zr_same]
  · rw [zr_ne hn]
    unfold bc
    by_cases h3 : D ≤ n ∧ n < D + 39 ∧ zlive T I (n - D)
    · rw [if_pos h3, if_pos h3, zr_ne (by omega)]
    · rw [if_neg h3, if_neg h3, zr_ne hn]
theorem zE7_eq {G : zG} {n : Nat} {f g : Nat → Int32} (h : zF7 G f = zF7 G g) : zE G 7 n f = zE G 7 n g := congrArg (fun z => (Sum.inr (2, z) : va_E)) h
theorem zk79 : zk 79 = 7 := by decide
theorem hdX2_stateAt : yX2_stateAt.cls = RX2 ∧ yX2_stateAt.cls ≠ "java/lang/invoke/MethodHandle" ∧ yX2_stateAt.cls ≠ "java/lang/invoke/VarHandle" ∧ (parseMethodDescriptor yX2_stateAt.desc).map (fun d => d.parameters.length) = some 1 := by decide +kernel
set_option maxHeartbeats 4000000 in
set_option maxRecDepth 100000 in
theorem c_X2_stateAt (l : Launch) (G : zG) (μ : zM) (hh : Nat → Int32) (hfh : μ 79 = hh) (o : Nat) (ho : hh 1 = nI o) (ho4 : o < 4) (k : Nat) (hk4 : k ≤ 4) : zMet l G yX2_stateAt cX2_stateAt 3 (some (.object "TenancyDeposits$Book")) 0 0 [.ref (G.1 + 79), .int (nI k)] μ (zQq G (some (G.1 + (81 + 39 * ((o + k) % 4)))) μ) := by
  refine z_start (lv := [(0, .ref (G.1 + 79)), (1, .int (nI k))]) (by decide) (Nat.le_of_ble_eq_true rfl) rfl ?_
  intro p e s m args below meth c ls hx hb hml hr hlk hts hown hK hZ hS hl
  have hown : s.vm.findClass RX2 = some m.cls := hown
  refine lv_aload_n hx hb dX2_stateAt_0 rfl (lv_at hl 0 rfl) ?_
  refine z_g7 (f := hh) (v := .int (nI o)) 1 hx hb hts hown hK hZ zk79 hfh (by decide) q183 (congrArg (fun z => some (Value.int z)) ho) dX2_stateAt_1 ?_
  refine lv_iload_n hx hb dX2_stateAt_4 rfl (lv_at hl 1 rfl) ?_
  refine lv_iadd hx hb dX2_stateAt_5 ?_
  refine lv_iconst (v := 4) hx hb dX2_stateAt_6 (by decide) ?_
  refine lv_irem hx hb dX2_stateAt_7 (by decide) ?_
  rw [z_mod4 (by omega)]
  refine lv_istore_n (lv' := [(2, .int (nI ((o + k) % 4))), (0, .ref (G.1 + 79)), (1, .int (nI k))]) hx hb dX2_stateAt_8 rfl hl (by decide) rfl (fun ls hl => ?_)
  refine lv_iload_n hx hb dX2_stateAt_9 rfl (lv_at hl 0 rfl) ?_
  refine lv_if_lt (tgt := 31) hx hb dX2_stateAt_10 (by decide) (fun c_1 => ?_) (fun c_1 => ?_)
  · exact absurd c_1 (nI_pos (by omega))
  · refine lv_iload_n hx hb dX2_stateAt_13 rfl (lv_at hl 0 rfl) ?_
    refine lv_aload_n hx hb dX2_stateAt_14 rfl (lv_at hl 1 rfl) ?_
    refine z_g7 (f := hh) (v := .ref (G.1 + 80)) 0 hx hb hts hown hK hZ zk79 hfh (by decide) q182 rfl dX2_stateAt_15 ?_
    refine z_balen hx hb hK hZ dX2_stateAt_18 ?_
    refine lv_icmp_ge (tgt := 31) hx hb dX2_stateAt_19 (by decide) (fun c_2 => ?_) (fun c_2 => ?_)
    · exact absurd (show nI 4 ≤ nI ((o + k) % 4) from c_2) (nI_ge (Nat.mod_lt _ (by decide)) (by decide))
    · refine lv_aload_n hx hb dX2_stateAt_22 rfl (lv_at hl 1 rfl) ?_
      refine z_g7 (f := hh) (v := .ref (G.1 + 80)) 0 hx hb hts hown hK hZ zk79 hfh (by decide) q182 rfl dX2_stateAt_23 ?_
      refine lv_iload_n hx hb dX2_stateAt_26 rfl (lv_at hl 0 rfl) ?_
      refine z_baload hx hb hK hZ (vp_in_nI (Nat.mod_lt _ (by decide)) (by decide)) dX2_stateAt_27 ?_
      rw [nI_clamp (by omega : ((o + k) % 4) < 2 ^ 31)]
      refine lv_goto (tgt := 32) hx hb dX2_stateAt_28 (by decide) ?_
      exact z_aret hx hb hr (Or.inl ⟨_, rfl⟩) hlk hK hZ hS ⟨rfl, rfl⟩ rfl dX2_stateAt_32
theorem hdX2_latest : yX2_latest.cls = RX2 ∧ yX2_latest.cls ≠ "java/lang/invoke/MethodHandle" ∧ yX2_latest.cls ≠ "java/lang/invoke/VarHandle" ∧ (parseMethodDescriptor yX2_latest.desc).map (fun d => d.parameters.length) = some 0 := by decide +kernel
set_option maxHeartbeats 4000000 in
set_option maxRecDepth 100000 in
theorem c_X2_latest (l : Launch) (G : zG) (μ : zM) (hh : Nat → Int32) (hfh : μ 79 = hh) (o : Nat) (ho : hh 1 = nI o) (ho4 : o < 4) (z : Nat) (hz : hh 2 = nI z) (hz0 : 0 < z) (hz4 : z ≤ 4) : zMet l G yX2_latest cX2_latest 1 (some (.object "TenancyDeposits$Book")) 1 22 [.ref (G.1 + 79)] μ (zQq G (some (G.1 + (81 + 39 * ((o + (z - 1)) % 4)))) μ) := by
  refine z_start (lv := [(0, .ref (G.1 + 79))]) (by decide) (Nat.le_of_ble_eq_true rfl) rfl ?_
  intro p e s m args below meth c ls hx hb hml hr hlk hts hown hK hZ hS hl
  have hown : s.vm.findClass RX2 = some m.cls := hown
  refine lv_aload_n hx hb dX2_latest_0 rfl (lv_at hl 0 rfl) ?_
  refine z_g7 (f := hh) (v := .int (nI z)) 2 hx hb hts hown hK hZ zk79 hfh (by decide) q184 (congrArg (fun z => some (Value.int z)) hz) dX2_latest_1 ?_
  refine lv_if_le (tgt := 20) hx hb dX2_latest_4 (by decide) (fun c_1 => ?_) (fun c_1 => ?_)
  · exact absurd c_1 (nI_nle hz0 (by omega))
  · refine lv_aload_n hx hb dX2_latest_7 rfl (lv_at hl 0 rfl) ?_
    refine lv_aload_n hx hb dX2_latest_8 rfl (lv_at hl 0 rfl) ?_
    refine z_g7 (f := hh) (v := .int (nI z)) 2 hx hb hts hown hK hZ zk79 hfh (by decide) q184 (congrArg (fun z => some (Value.int z)) hz) dX2_latest_9 ?_
    refine lv_iconst (v := 1) hx hb dX2_latest_12 (by decide) ?_
    refine lv_isub hx hb dX2_latest_13 ?_
    rw [z_sub1 hz0]
    refine z_cVr (As := [.int (nI (z - 1))]) (rest := []) hx hb hml hown hts hl hK hZ hS (c_X2_stateAt l G μ hh hfh o ho ho4 (z - 1) (by omega)) (z_G q253 q254 q255 q6 q256) hdX2_stateAt ⟨Nat.le_of_ble_eq_true rfl, Nat.le_of_ble_eq_true rfl⟩ zk79 (by decide) rfl rfl rfl rfl (Nat.le_of_ble_eq_true rfl) dX2_latest_14 ⟨(Nat.zero_le _), (Nat.zero_le _)⟩ (fun H locs hZ hS => ?_)
    refine lv_goto (tgt := 21) hx hb dX2_latest_17 (by decide) ?_
    exact z_aret hx hb hr (Or.inl ⟨_, rfl⟩) hlk hK hZ hS ⟨rfl, rfl⟩ rfl dX2_latest_21
set_option maxHeartbeats 4000000 in
set_option maxRecDepth 100000 in
theorem c_X2_latest_no (l : Launch) (G : zG) (μ : zM) (hh : Nat → Int32) (hfh : μ 79 = hh) (hz : hh 2 = nI 0) : zMet l G yX2_latest cX2_latest 1 (some (.object "TenancyDeposits$Book")) 0 0 [.ref (G.1 + 79)] μ (zQq G none μ) := by
  refine z_start (lv := [(0, .ref (G.1 + 79))]) (by decide) (Nat.le_of_ble_eq_true rfl) rfl ?_
  intro p e s m args below meth c ls hx hb hml hr hlk hts hown hK hZ hS hl
  have hown : s.vm.findClass RX2 = some m.cls := hown
  refine lv_aload_n hx hb dX2_latest_0 rfl (lv_at hl 0 rfl) ?_
  refine z_g7 (f := hh) (v := .int (nI 0)) 2 hx hb hts hown hK hZ zk79 hfh (by decide) q184 (congrArg (fun z => some (Value.int z)) hz) dX2_latest_1 ?_
  refine lv_if_le (tgt := 20) hx hb dX2_latest_4 (by decide) (fun c_1 => ?_) (fun c_1 => ?_)
  · refine lv_null hx hb dX2_latest_20 ?_
    exact z_aret hx hb hr (Or.inl ⟨_, rfl⟩) hlk hK hZ hS ⟨rfl, rfl⟩ rfl dX2_latest_21
  · exact absurd (show nI 0 ≤ nI 0 from nI_le (Nat.le_refl _) (by decide)) c_1
theorem hdX2_push : yX2_push.cls = RX2 ∧ yX2_push.cls ≠ "java/lang/invoke/MethodHandle" ∧ yX2_push.cls ≠ "java/lang/invoke/VarHandle" ∧ (parseMethodDescriptor yX2_push.desc).map (fun d => d.parameters.length) = some 1 := by decide +kernel
set_option maxHeartbeats 4000000 in
set_option maxRecDepth 100000 in
theorem c_X2_push_a (l : Launch) (G : zG) (μ : zM) (hh : Nat → Int32) (hfh : μ 79 = hh) (o : Nat) (ho : hh 1 = nI o) (ho4 : o < 4) (z : Nat) (hz : hh 2 = nI z) (hz4 : z < 4) (fb : Nat → Int32) (hfb : μ 1 = fb) (T I : Nat) (hT : fb 3 = nI T) (hI : fb 4 = nI I) (hT6 : T ≤ 6) (hI24 : I ≤ 24) : zMet l G yX2_push cX2_push 3 none 3 66 [.ref (G.1 + 79), .ref (G.1 + 1)] μ (zQv G (zr (bc μ (81 + 39 * ((o + z) % 4)) 1 T I) 79 (hr7 o (z + 1)))) := by
  refine z_start (lv := [(0, .ref (G.1 + 79)), (1, .ref (G.1 + 1))]) (by decide) (Nat.le_of_ble_eq_true rfl) rfl ?_
  intro p e s m args below meth c ls hx hb hml hr hlk hts hown hK hZ hS hl
  have hown : s.vm.findClass RX2 = some m.cls := hown
  refine lv_aload_n hx hb dX2_push_0 rfl (lv_at hl 0 rfl) ?_
  refine z_g7 (f := hh) (v := .int (nI z)) 2 hx hb hts hown hK hZ zk79 hfh (by decide) q184 (congrArg (fun z => some (Value.int z)) hz) dX2_push_1 ?_
  refine lv_iconst (v := 4) hx hb dX2_push_4 (by decide) ?_
  refine lv_icmp_lt (tgt := 30) hx hb dX2_push_5 (by decide) (fun c_1 => ?_) (fun c_1 => ?_)
  · refine lv_aload_n hx hb dX2_push_30 rfl (lv_at hl 0 rfl) ?_
    refine lv_aload_n hx hb dX2_push_31 rfl (lv_at hl 0 rfl) ?_
    refine z_g7 (f := hh) (v := .int (nI z)) 2 hx hb hts hown hK hZ zk79 hfh (by decide) q184 (congrArg (fun z => some (Value.int z)) hz) dX2_push_32 ?_
    refine z_cVr (As := [.int (nI z)]) (rest := []) hx hb hml hown hts hl hK hZ hS (c_X2_stateAt l G μ hh hfh o ho ho4 z (by omega)) (z_G q253 q254 q255 q6 q256) hdX2_stateAt ⟨Nat.le_of_ble_eq_true rfl, Nat.le_of_ble_eq_true rfl⟩ zk79 (by decide) rfl rfl rfl rfl (Nat.le_of_ble_eq_true rfl) dX2_push_35 ⟨(Nat.zero_le _), (Nat.zero_le _)⟩ (fun H locs hZ hS => ?_)
    refine lv_astore_n (lv' := [(2, .ref (G.1 + (81 + 39 * ((o + z) % 4)))), (0, .ref (G.1 + 79)), (1, .ref (G.1 + 1))]) hx hb dX2_push_38 rfl hl (by decide) rfl (fun ls hl => ?_)
    refine lv_aload_n hx hb dX2_push_39 rfl (lv_at hl 0 rfl) ?_
    refine lv_ifnull hx hb dX2_push_40 ?_
    refine lv_aload_n hx hb dX2_push_43 rfl (lv_at hl 0 rfl) ?_
    refine lv_aload_n hx hb dX2_push_44 rfl (lv_at hl 2 rfl) ?_
    refine z_cVv (As := [.ref (G.1 + 1)]) (rest := []) hx hb hml hown hts hl hK hZ hS (c_X1_copyFrom l G μ (81 + 39 * ((o + z) % 4)) 1 (zB_h (by omega)) hB1 (by omega) (μ (81 + 39 * ((o + z) % 4))) fb rfl hfb T I hT hI hT6 hI24) (z_G q293 q258 q259 q2 q260) hdX1_copyFrom ⟨Nat.le_of_ble_eq_true rfl, Nat.le_of_ble_eq_true rfl⟩ (zk_book (zB_h (Nat.mod_lt _ (by decide)))) (by decide) rfl rfl rfl rfl (Nat.le_of_ble_eq_true rfl) dX2_push_45 ⟨(Nat.zero_le _), (Nat.zero_le _)⟩ (fun H locs hZ hS => ?_)
    refine lv_aload_n hx hb dX2_push_48 rfl (lv_at hl 1 rfl) ?_
    refine lv_dup hx hb dX2_push_49 rfl ?_
    refine z_g7 (f := hh) (v := .int (nI z)) 2 hx hb hts hown hK hZ zk79 ((bc_out (by omega)).trans hfh) (by decide) q184 (congrArg (fun z => some (Value.int z)) hz) dX2_push_50 ?_
    refine lv_iconst (v := 1) hx hb dX2_push_53 (by decide) ?_
    refine lv_iadd hx hb dX2_push_54 ?_
    rw [nI_1]
    refine z_p7 (f := hh) (μ1 := (zr (bc μ (81 + 39 * ((o + z) % 4)) 1 T I) 79 (zu hh 2 (nI (z + 1))))) 2 hx hb hts hown hK hZ hS zk79 ((bc_out (by omega)).trans hfh) (by decide) q184 rfl pfd_I rfl rfl dX2_push_55 (fun H locs hZ hS => ?_)
    have hZ := hZ.re (g := hr7 o (z + 1)) zk79 (zE7_eq (by rw [show zF7 G (zu hh 2 (nI (z + 1))) = [.ref (G.1 + 80), .int (hh 1), .int (nI (z + 1))] from rfl, ho]; rfl))
    exact z_vret hx hb hr hlk hK hZ hS rfl dX2_push_58
  · exact absurd (show nI z < nI 4 from nI_lt hz4 (by decide)) c_1
set_option maxHeartbeats 4000000 in
set_option maxRecDepth 100000 in
theorem c_X2_push_b (l : Launch) (G : zG) (μ : zM) (hh : Nat → Int32) (hfh : μ 79 = hh) (o : Nat) (ho : hh 1 = nI o) (ho4 : o < 4) (hz : hh 2 = nI 4) (fb : Nat → Int32) (hfb : μ 1 = fb) (T I : Nat) (hT : fb 3 = nI T) (hI : fb 4 = nI I) (hT6 : T ≤ 6) (hI24 : I ≤ 24) : zMet l G yX2_push cX2_push 3 none 3 66 [.ref (G.1 + 79), .ref (G.1 + 1)] μ (zQv G (zr (bc μ (81 + 39 * (((o + 1) % 4 + 3) % 4)) 1 T I) 79 (hr7 ((o + 1) % 4) 4))) := by
  refine z_start (lv := [(0, .ref (G.1 + 79)), (1, .ref (G.1 + 1))]) (by decide) (Nat.le_of_ble_eq_true rfl) rfl ?_
  intro p e s m args below meth c ls hx hb hml hr hlk hts hown hK hZ hS hl
  have hown : s.vm.findClass RX2 = some m.cls := hown
  refine lv_aload_n hx hb dX2_push_0 rfl (lv_at hl 0 rfl) ?_
  refine z_g7 (f := hh) (v := .int (nI 4)) 2 hx hb hts hown hK hZ zk79 hfh (by decide) q184 (congrArg (fun z => some (Value.int z)) hz) dX2_push_1 ?_
  refine lv_iconst (v := 4) hx hb dX2_push_4 (by decide) ?_
  refine lv_icmp_lt (tgt := 30) hx hb dX2_push_5 (by decide) (fun c_1 => ?_) (fun c_1 => ?_)
  · exact absurd c_1 (by decide)
  · refine lv_aload_n hx hb dX2_push_8 rfl (lv_at hl 0 rfl) ?_
    refine lv_aload_n hx hb dX2_push_9 rfl (lv_at hl 0 rfl) ?_
    refine z_g7 (f := hh) (v := .int (nI o)) 1 hx hb hts hown hK hZ zk79 hfh (by decide) q183 (congrArg (fun z => some (Value.int z)) ho) dX2_push_10 ?_
    refine lv_iconst (v := 1) hx hb dX2_push_13 (by decide) ?_
    refine lv_iadd hx hb dX2_push_14 ?_
    rw [nI_1]
    refine lv_iconst (v := 4) hx hb dX2_push_15 (by decide) ?_
    refine lv_irem hx hb dX2_push_16 (by decide) ?_
    rw [show nI (o + 1) - nI (o + 1) / 4 * 4 = nI ((o + 1) % 4) from pk_rem (d := 4) (by omega) (by decide) (by decide)]
    refine z_p7 (f := hh) (μ1 := (zr μ 79 (zu hh 1 (nI ((o + 1) % 4))))) 1 hx hb hts hown hK hZ hS zk79 hfh (by decide) q183 rfl pfd_I rfl rfl dX2_push_17 (fun H locs hZ hS => ?_)
    refine lv_aload_n hx hb dX2_push_20 rfl (lv_at hl 0 rfl) ?_
    refine lv_dup hx hb dX2_push_21 rfl ?_
    refine z_g7 (f := (zu hh 1 (nI ((o + 1) % 4)))) (v := .int (nI 4)) 2 hx hb hts hown hK hZ zk79 zr_same (by decide) q184 (congrArg (fun z => some (Value.int z)) hz) dX2_push_22 ?_
    refine lv_iconst (v := 1) hx hb dX2_push_25 (by decide) ?_
    refine lv_isub hx hb dX2_push_26 ?_
    rw [show nI 4 - 1 = nI 3 from rfl]
    refine z_p7 (f := (zu hh 1 (nI ((o + 1) % 4)))) (μ1 := (zr μ 79 (zu (zu hh 1 (nI ((o + 1) % 4))) 2 (nI 3)))) 2 hx hb hts hown hK hZ hS zk79 zr_same (by decide) q184 rfl pfd_I rfl zr_zr dX2_push_27 (fun H locs hZ hS => ?_)
    refine lv_aload_n hx hb dX2_push_30 rfl (lv_at hl 0 rfl) ?_
    refine lv_aload_n hx hb dX2_push_31 rfl (lv_at hl 0 rfl) ?_
    refine z_g7 (f := (zu (zu hh 1 (nI ((o + 1) % 4))) 2 (nI 3))) (v := .int (nI 3)) 2 hx hb hts hown hK hZ zk79 zr_same (by decide) q184 rfl dX2_push_32 ?_
    refine z_cVr (As := [.int (nI 3)]) (rest := []) hx hb hml hown hts hl hK hZ hS (c_X2_stateAt l G (zr μ 79 (zu (zu hh 1 (nI ((o + 1) % 4))) 2 (nI 3))) (zu (zu hh 1 (nI ((o + 1) % 4))) 2 (nI 3)) zr_same ((o + 1) % 4) rfl (by omega) 3 (by omega)) (z_G q253 q254 q255 q6 q256) hdX2_stateAt ⟨Nat.le_of_ble_eq_true rfl, Nat.le_of_ble_eq_true rfl⟩ zk79 (by decide) rfl rfl rfl rfl (Nat.le_of_ble_eq_true rfl) dX2_push_35 ⟨(Nat.zero_le _), (Nat.zero_le _)⟩ (fun H locs hZ hS => ?_)
    refine lv_astore_n (lv' := [(2, .ref (G.1 + (81 + 39 * ((((o + 1) % 4) + 3) % 4)))), (0, .ref (G.1 + 79)), (1, .ref (G.1 + 1))]) hx hb dX2_push_38 rfl hl (by decide) rfl (fun ls hl => ?_)
    refine lv_aload_n hx hb dX2_push_39 rfl (lv_at hl 0 rfl) ?_
    refine lv_ifnull hx hb dX2_push_40 ?_
    refine lv_aload_n hx hb dX2_push_43 rfl (lv_at hl 0 rfl) ?_
    refine lv_aload_n hx hb dX2_push_44 rfl (lv_at hl 2 rfl) ?_
    refine z_cVv (As := [.ref (G.1 + 1)]) (rest := []) hx hb hml hown hts hl hK hZ hS (c_X1_copyFrom l G (zr μ 79 (zu (zu hh 1 (nI ((o + 1) % 4))) 2 (nI 3))) (81 + 39 * ((((o + 1) % 4) + 3) % 4)) 1 (zB_h (by omega)) hB1 (by omega) (μ (81 + 39 * ((((o + 1) % 4) + 3) % 4))) fb (zr_at rfl (by omega)) (zr_at hfb (by decide)) T I hT hI hT6 hI24) (z_G q293 q258 q259 q2 q260) hdX1_copyFrom ⟨Nat.le_of_ble_eq_true rfl, Nat.le_of_ble_eq_true rfl⟩ (zk_book (zB_h (Nat.mod_lt _ (by decide)))) (by decide) rfl rfl rfl rfl (Nat.le_of_ble_eq_true rfl) dX2_push_45 ⟨(Nat.zero_le _), (Nat.zero_le _)⟩ (fun H locs hZ hS => ?_)
    refine lv_aload_n hx hb dX2_push_48 rfl (lv_at hl 1 rfl) ?_
    refine lv_dup hx hb dX2_push_49 rfl ?_
    refine z_g7 (f := (zu (zu hh 1 (nI ((o + 1) % 4))) 2 (nI 3))) (v := .int (nI 3)) 2 hx hb hts hown hK hZ zk79 ((bc_out (by omega)).trans zr_same) (by decide) q184 rfl dX2_push_50 ?_
    refine lv_iconst (v := 1) hx hb dX2_push_53 (by decide) ?_
    refine lv_iadd hx hb dX2_push_54 ?_
    rw [nI_1]
    rw [show nI (3 + 1) = nI 4 from rfl]
    refine z_p7 (f := (zu (zu hh 1 (nI ((o + 1) % 4))) 2 (nI 3))) (μ1 := (zr (bc (zr μ 79 (zu (zu hh 1 (nI ((o + 1) % 4))) 2 (nI 3))) (81 + 39 * ((((o + 1) % 4) + 3) % 4)) 1 T I) 79 (zu (zu (zu hh 1 (nI ((o + 1) % 4))) 2 (nI 3)) 2 (nI 4)))) 2 hx hb hts hown hK hZ hS zk79 ((bc_out (by omega)).trans zr_same) (by decide) q184 rfl pfd_I rfl rfl dX2_push_55 (fun H locs hZ hS => ?_)
    rw [bc_zr (by omega), zr_zr] at hZ
    have hZ := hZ.re (g := hr7 ((o + 1) % 4) 4) zk79 (zE7_eq rfl)
    exact z_vret hx hb hr hlk hK hZ hS rfl dX2_push_58
theorem c_X2_push (l : Launch) (G : zG) (μ : zM) (hh : Nat → Int32) (hfh : μ 79 = hh) (o : Nat) (ho : hh 1 = nI o) (ho4 : o < 4) (z : Nat) (hz : hh 2 = nI z) (hz4 : z ≤ 4) (fb : Nat → Int32) (hfb : μ 1 = fb) (T I : Nat) (hT : fb 3 = nI T) (hI : fb 4 = nI I) (hT6 : T ≤ 6) (hI24 : I ≤ 24) : zMet l G yX2_push cX2_push 3 none 3 66 [.ref (G.1 + 79), .ref (G.1 + 1)] μ (zQv G (zp μ o z T I)) := by
  by_cases h : z < 4
  · have := c_X2_push_a l G μ hh hfh o ho ho4 z hz h fb hfb T I hT hI hT6 hI24
    have e1 : zp μ o z T I = zr (bc μ (81 + 39 * ((o + z) % 4)) 1 T I) 79 (hr7 o (z + 1)) := by unfold zp h_p h_o h_z; rw [if_pos h, if_pos h, if_pos h]
    rw [e1]; exact this
  · have h4 : z = 4 := by omega
    subst h4
    have := c_X2_push_b l G μ hh hfh o ho ho4 hz fb hfb T I hT hI hT6 hI24
    have e1 : zp μ o 4 T I = zr (bc μ (81 + 39 * (((o + 1) % 4 + 3) % 4)) 1 T I) 79 (hr7 ((o + 1) % 4) 4) := by unfold zp h_p h_o h_z; rw [if_neg h, if_neg h, if_neg h]
    rw [e1]; exact this
end
section
def s_out (x a b : Int32) : Int32 := if x < a then 1 else if x ≤ b then 0 else 1
theorem s_out0 {x a b : Int32} (h : s_out x a b = 0) : ¬ x < a ∧ x ≤ b := by
  unfold s_out at h
  by_cases h1 : x < a
  · rw [if_pos h1] at h; exact absurd h (by decide)
  · rw [if_neg h1] at h
    by_cases h2 : x ≤ b
    · exact ⟨h1, h2⟩
    · rw [if_neg h2] at h; exact absurd h (by decide)
theorem s_outI {x : Int32} (h : s_out x 0 1045220557 = 0) : x = nI x.toNatClampNeg ∧ x.toNatClampNeg ≤ 1045220557 := by
  obtain ⟨h1, h2⟩ := s_out0 h
  obtain ⟨j, hj, rfl⟩ := nI_of2 (M := 1045220557) (n := 1045220557) (by decide) h1 h2
  rw [nI_clamp (by omega)]
  exact ⟨rfl, hj⟩
theorem s_outw {w : Nat} (h : w ≤ 5) : s_out (nI w) 0 5 = 0 := by
  unfold s_out
  rw [if_neg (nI_pos (by omega))]
  exact if_pos (show nI w ≤ nI 5 from nI_le h (by decide))
theorem hdX6_outside : yX6_outside.cls = RX6 ∧ yX6_outside.cls ≠ "java/lang/invoke/MethodHandle" ∧ yX6_outside.cls ≠ "java/lang/invoke/VarHandle" ∧ (parseMethodDescriptor yX6_outside.desc).map (fun d => d.parameters.length) = some 3 := by decide +kernel
set_option maxHeartbeats 4000000 in
set_option maxRecDepth 100000 in
theorem c_X6_outside (l : Launch) (G : zG) (μ : zM) (x a b : Int32) : zMet l G yX6_outside cX6_outside 3 (some .boolean) 0 0 [.int x, .int a, .int b] μ (zQi G (s_out x a b) μ) := by
  refine z_start (lv := [(0, .int x), (1, .int a), (2, .int b)]) (by decide) (Nat.le_of_ble_eq_true rfl) rfl ?_
  intro p e s m args below meth c ls hx hb hml hr hlk hts hown hK hZ hS hl
  have hown : s.vm.findClass RX6 = some m.cls := hown
  refine lv_iload_n hx hb dX6_outside_0 rfl (lv_at hl 0 rfl) ?_
  refine lv_iload_n hx hb dX6_outside_1 rfl (lv_at hl 1 rfl) ?_
  refine lv_icmp_lt (tgt := 10) hx hb dX6_outside_2 (by decide) (fun c_1 => ?_) (fun c_1 => ?_)
  · refine lv_iconst (v := 1) hx hb dX6_outside_10 (by decide) ?_
    refine lv_goto (tgt := 15) hx hb dX6_outside_11 (by decide) ?_
    exact z_zret hx hb hr hlk rfl hK hZ hS ⟨by rw [s_out, if_pos c_1], rfl⟩ dX6_outside_15
  · refine lv_iload_n hx hb dX6_outside_5 rfl (lv_at hl 0 rfl) ?_
    refine lv_iload_n hx hb dX6_outside_6 rfl (lv_at hl 2 rfl) ?_
    refine lv_icmp_le (tgt := 14) hx hb dX6_outside_7 (by decide) (fun c_2 => ?_) (fun c_2 => ?_)
    · refine lv_iconst (v := 0) hx hb dX6_outside_14 (by decide) ?_
      exact z_zret hx hb hr hlk rfl hK hZ hS ⟨by rw [s_out, if_neg c_1, if_pos c_2], rfl⟩ dX6_outside_15
    · refine lv_iconst (v := 1) hx hb dX6_outside_10 (by decide) ?_
      refine lv_goto (tgt := 15) hx hb dX6_outside_11 (by decide) ?_
      exact z_zret hx hb hr hlk rfl hK hZ hS ⟨by rw [s_out, if_neg c_1, if_neg c_2], rfl⟩ dX6_outside_15
def s_ex (b : Nat) : Nat := if nI (b / 2 ^ 23) ≤ 0 then 1 else b / 2 ^ 23
def s_sg (b : Nat) : Nat := if nI (b / 2 ^ 23) ≤ 0 then b % 2 ^ 23 else b % 2 ^ 23 + 8388608
def s_flo (b : Nat) : Nat → UInt32
  | 0 => FP.i2f (nI (s_sg b))
  | j + 1 => FP.fdiv (s_flo b j) FP.fconst2
def s_rate (x : Int32) : UInt32 := s_flo x.toNatClampNeg (150 - s_ex x.toNatClampNeg)
theorem fk_c2 : 128 * 2 ^ 23 ≤ FP.fconst2.toNat % 2 ^ 31 ∧ fK 255 FP.fconst2 := by unfold fK; decide
theorem fk_flo (b j : Nat) : fK 160 (s_flo b j) := by
  induction j with
  | zero => exact fk_i2f _
  | succ j ih => exact (fk_div (K := 160) (L := 128) ih fk_c2.1 fk_c2.2 (by decide) (by decide)).up (by decide)
theorem s_ex_le {b : Nat} (h : b ≤ 1045220557) : s_ex b ≤ 124 := by unfold s_ex; split <;> omega
theorem hdX6_floatOf : yX6_floatOf.cls = RX6 ∧ yX6_floatOf.cls ≠ "java/lang/invoke/MethodHandle" ∧ yX6_floatOf.cls ≠ "java/lang/invoke/VarHandle" ∧ (parseMethodDescriptor yX6_floatOf.desc).map (fun d => d.parameters.length) = some 1 := by decide +kernel
set_option maxHeartbeats 4000000 in
set_option maxRecDepth 100000 in
theorem c_X6_floatOf0 (l : Launch) (G : zG) (μ : zM) (b : Nat) (hb8 : b ≤ 1045220557) : zMet l G yX6_floatOf cX6_floatOf 5 (some .float) 0 0 [.int (nI b)] μ (zQf G (s_flo b (150 - s_ex b)) μ) := by
  refine z_start (lv := [(0, .int (nI b))]) (by decide) (Nat.le_of_ble_eq_true rfl) rfl ?_
  intro p e s m args below meth c ls hx hb hml hr hlk hts hown hK hZ hS hl
  have hown : s.vm.findClass RX6 = some m.cls := hown
  have hex := s_ex_le hb8
  have loop : ∀ (k j : Nat), j + k = 150 - s_ex b → ∀ (H : Heap) (locs : List Loc) (ls : Array Slot), zW G μ H → va_S (zA G) s.heap H locs → lv_has ls 5 [(3, .float (s_flo b j)), (4, .int (nI (s_ex b + j)))] → W p l e { frames := 0, cells := 0, slots := 0, locals := 0 } s m args below meth c H locs 0 0 (MQ below (zQf G (s_flo b (150 - s_ex b)) μ) args s 0 0 (zA G)) (F0 m 30 ls []) := by
    intro k
    induction k with
    | zero =>
      intro j hj H locs ls hZ hS hl
      have hj : 150 - s_ex b = j := by omega
      subst hj
      refine lv_iload hx hb dX6_floatOf_30 (lv_at hl 1 rfl) ?_
      refine lv_sipush (v := 150) hx hb dX6_floatOf_32 (by decide) ?_
      refine lv_icmp_ge (tgt := 48) hx hb dX6_floatOf_35 (by decide) (fun c_1 => ?_) (fun c_1 => ?_)
      · refine lv_fload_n hx hb dX6_floatOf_48 rfl (lv_at hl 0 rfl) ?_
        exact z_fret hx hb hr hlk hK hZ hS ⟨rfl, rfl⟩ dX6_floatOf_49
      · exact absurd (show nI 150 ≤ nI (s_ex b + (150 - s_ex b)) from nI_le (by omega) (by omega)) c_1
    | succ k ih =>
      intro j hj H locs ls hZ hS hl
      refine lv_iload hx hb dX6_floatOf_30 (lv_at hl 1 rfl) ?_
      refine lv_sipush (v := 150) hx hb dX6_floatOf_32 (by decide) ?_
      refine lv_icmp_ge (tgt := 48) hx hb dX6_floatOf_35 (by decide) (fun c_2 => ?_) (fun c_2 => ?_)
      · exact absurd (show nI 150 ≤ nI (s_ex b + j) from c_2) (nI_ge (by omega) (by omega))
      · refine lv_fload_n hx hb dX6_floatOf_38 rfl (lv_at hl 0 rfl) ?_
        refine lv_fconst2 hx hb dX6_floatOf_39 ?_
        refine lv_fdiv hx hb dX6_floatOf_40 ((fk_div (fk_flo b j) fk_c2.1 fk_c2.2 (by decide) (by decide)).n (by decide)) ?_
        refine lv_fstore_n (lv' := [(3, .float (FP.fdiv (s_flo b j) FP.fconst2)), (4, .int (nI (s_ex b + j)))]) hx hb dX6_floatOf_41 rfl hl (by decide) rfl (fun ls hl => ?_)
        refine lv_iinc (v := (nI ((s_ex b + j) + 1))) (lv' := [(4, .int (nI ((s_ex b + j) + 1))), (3, .float (FP.fdiv (s_flo b j) FP.fconst2))]) hx hb dX6_floatOf_42 hl (k := 1) rfl (nI_1 _) (by decide) rfl (fun ls hl => ?_)
        refine lv_goto (tgt := 30) hx hb dX6_floatOf_45 (by decide) ?_
        exact ih (j + 1) (by omega) _ _ _ hZ hS (lv_sub hl [1, 0] rfl)
  refine lv_iload_n hx hb dX6_floatOf_0 rfl (lv_at hl 0 rfl) ?_
  refine lv_bipush (v := 23) hx hb dX6_floatOf_1 (by decide) ?_
  refine lv_ishr hx hb dX6_floatOf_3 ?_
  rw [pk_shrN (by omega) (23 &&& 31) 23 (by decide)]
  refine lv_istore_n (lv' := [(1, .int (nI (b / 2 ^ 23))), (0, .int (nI b))]) hx hb dX6_floatOf_4 rfl hl (by decide) rfl (fun ls hl => ?_)
  refine lv_iload_n hx hb dX6_floatOf_5 rfl (lv_at hl 1 rfl) ?_
  refine lv_ldc hx hb hown (hts _ q547) dX6_floatOf_6 ?_
  refine lv_iand hx hb dX6_floatOf_8 ?_
  rw [pk_andN (by omega) 23 (by decide)]
  refine lv_istore_n (lv' := [(2, .int (nI (b % 2 ^ 23))), (1, .int (nI (b / 2 ^ 23))), (0, .int (nI b))]) hx hb dX6_floatOf_9 rfl hl (by decide) rfl (fun ls hl => ?_)
  refine lv_iload_n hx hb dX6_floatOf_10 rfl (lv_at hl 1 rfl) ?_
  refine lv_if_le (tgt := 22) hx hb dX6_floatOf_11 (by decide) (fun c_3 => ?_) (fun c_3 => ?_)
  · refine lv_iconst (v := 1) hx hb dX6_floatOf_22 (by decide) ?_
    refine lv_istore_n (lv' := [(1, .int 1), (2, .int (nI (b % 2 ^ 23))), (0, .int (nI b))]) hx hb dX6_floatOf_23 rfl hl (by decide) rfl (fun ls hl => ?_)
    refine lv_iload_n hx hb dX6_floatOf_24 rfl (lv_at hl 1 rfl) ?_
    refine lv_i2f hx hb dX6_floatOf_25 ?_
    refine lv_fstore_n (lv' := [(3, .float (FP.i2f (nI (b % 2 ^ 23)))), (1, .int 1), (2, .int (nI (b % 2 ^ 23))), (0, .int (nI b))]) hx hb dX6_floatOf_26 rfl hl (by decide) rfl (fun ls hl => ?_)
    refine lv_iload_n hx hb dX6_floatOf_27 rfl (lv_at hl 1 rfl) ?_
    refine lv_istore (lv' := [(4, .int 1), (3, .float (FP.i2f (nI (b % 2 ^ 23)))), (1, .int 1), (2, .int (nI (b % 2 ^ 23))), (0, .int (nI b))]) hx hb dX6_floatOf_28 hl (by decide) rfl (fun ls hl => ?_)
    rw [show b % 2 ^ 23 = s_sg b from (if_pos c_3).symm, show (1 : Int32) = nI (s_ex b + 0) from congrArg nI (if_pos c_3).symm] at hl
    exact loop (150 - s_ex b) 0 (by omega) _ _ _ hZ hS (lv_sub hl [1, 0] rfl)
  · refine lv_iload_n hx hb dX6_floatOf_14 rfl (lv_at hl 0 rfl) ?_
    refine lv_ldc hx hb hown (hts _ q548) dX6_floatOf_15 ?_
    refine lv_iadd hx hb dX6_floatOf_17 ?_
    rw [show nI (b % 2 ^ 23) + 8388608 = nI (b % 2 ^ 23 + 8388608) from nI_add _ _]
    refine lv_istore_n (lv' := [(2, .int (nI (b % 2 ^ 23 + 8388608))), (1, .int (nI (b / 2 ^ 23))), (0, .int (nI b))]) hx hb dX6_floatOf_18 rfl hl (by decide) rfl (fun ls hl => ?_)
    refine lv_goto (tgt := 24) hx hb dX6_floatOf_19 (by decide) ?_
    refine lv_iload_n hx hb dX6_floatOf_24 rfl (lv_at hl 0 rfl) ?_
    refine lv_i2f hx hb dX6_floatOf_25 ?_
    refine lv_fstore_n (lv' := [(3, .float (FP.i2f (nI (b % 2 ^ 23 + 8388608)))), (2, .int (nI (b % 2 ^ 23 + 8388608))), (1, .int (nI (b / 2 ^ 23))), (0, .int (nI b))]) hx hb dX6_floatOf_26 rfl hl (by decide) rfl (fun ls hl => ?_)
    refine lv_iload_n hx hb dX6_floatOf_27 rfl (lv_at hl 2 rfl) ?_
    refine lv_istore (lv' := [(4, .int (nI (b / 2 ^ 23))), (3, .float (FP.i2f (nI (b % 2 ^ 23 + 8388608)))), (2, .int (nI (b % 2 ^ 23 + 8388608))), (1, .int (nI (b / 2 ^ 23))), (0, .int (nI b))]) hx hb dX6_floatOf_28 hl (by decide) rfl (fun ls hl => ?_)
    rw [show b % 2 ^ 23 + 8388608 = s_sg b from (if_neg c_3).symm, show b / 2 ^ 23 = s_ex b from (if_neg c_3).symm] at hl
    exact loop (150 - s_ex b) 0 (by omega) _ _ _ hZ hS (lv_sub hl [1, 0] rfl)
theorem c_X6_floatOf (l : Launch) (G : zG) (μ : zM) (x : Int32) (h : s_out x 0 1045220557 = 0) : zMet l G yX6_floatOf cX6_floatOf 5 (some .float) 0 0 [.int x] μ (zQf G (s_rate x) μ) := by
  obtain ⟨h1, h2⟩ := s_outI h
  have := c_X6_floatOf0 l G μ x.toNatClampNeg h2
  rw [← h1] at this
  exact this
theorem zk0 : zk 0 = 0 := by decide
theorem zk242 : zk 242 = 5 := by decide
theorem hB40 : zB 40 := Or.inr (Or.inl rfl)
def s_cls (μ : zM) (w : Nat) : Nat → Int32
  | 0 => 0
  | i + 1 => if μ (1 + (3 + 2 * i)) 2 = 3 then s_cls μ w i + s_X4_part (μ (1 + (3 + 2 * i) + 1)) w else s_cls μ w i
theorem hdX6_closedSum : yX6_closedSum.cls = RX6 ∧ yX6_closedSum.cls ≠ "java/lang/invoke/MethodHandle" ∧ yX6_closedSum.cls ≠ "java/lang/invoke/VarHandle" ∧ (parseMethodDescriptor yX6_closedSum.desc).map (fun d => d.parameters.length) = some 1 := by decide +kernel
set_option maxHeartbeats 4000000 in
set_option maxRecDepth 100000 in
theorem c_X6_closedSum (l : Launch) (G : zG) (μ : zM) (fb : Nat → Int32) (hfb : μ 1 = fb) (T : Nat) (hT : fb 3 = nI T) (hT6 : T ≤ 6) (w : Nat) (hw8 : 8 ≤ w) (hw : w ≤ 11) : zMet l G yX6_closedSum cX6_closedSum 5 (some .int) 1 21 [.ref (G.1 + 0), .int (nI w)] μ (zQi G (s_cls μ w T) μ) := by
  refine z_start (lv := [(0, .ref (G.1 + 0)), (1, .int (nI w))]) (by decide) (Nat.le_of_ble_eq_true rfl) rfl ?_
  intro p e s m args below meth c ls hx hb hml hr hlk hts hown hK hZ hS hl
  have hown : s.vm.findClass RX6 = some m.cls := hown
  have loop : ∀ (k j : Nat), j + k = T → ∀ (H : Heap) (locs : List Loc) (ls : Array Slot), zW G μ H → va_S (zA G) s.heap H locs → lv_has ls 5 [(0, .ref (G.1 + 0)), (1, .int (nI w)), (2, .int (s_cls μ w j)), (3, .int (nI j))] → W p l e { frames := 1, cells := 0, slots := 0, locals := 21 } s m args below meth c H locs 0 0 (MQ below (zQi G (s_cls μ w T) μ) args s 0 0 (zA G)) (F0 m 4 ls []) := by
    intro k
    induction k with
    | zero =>
      intro j hj H locs ls hZ hS hl
      have hj : T = j := by omega
      subst hj
      refine lv_iload_n hx hb dX6_closedSum_4 rfl (lv_at hl 3 rfl) ?_
      refine lv_aload_n hx hb dX6_closedSum_5 rfl (lv_at hl 0 rfl) ?_
      refine z_g0 (f := (μ 0)) (v := .ref (G.1 + 1)) 0 hx hb hts hown hK hZ zk0 rfl (by decide) q226 rfl dX6_closedSum_6 ?_
      refine z_g1 (f := fb) (v := .int (nI T)) 3 hx hb hts hown hK hZ (zk_book hB1) hfb (by decide) q153 (congrArg (fun z => some (Value.int z)) hT) dX6_closedSum_9 ?_
      refine lv_icmp_ge (tgt := 57) hx hb dX6_closedSum_12 (by decide) (fun c_1 => ?_) (fun c_1 => ?_)
      · refine lv_iload_n hx hb dX6_closedSum_57 rfl (lv_at hl 2 rfl) ?_
        exact z_iret hx hb hr hlk hK hZ hS ⟨rfl, rfl⟩ dX6_closedSum_58
      · exact absurd (nI_le (Nat.le_refl _) (by omega)) c_1
    | succ k ih =>
      intro j hj H locs ls hZ hS hl
      refine lv_iload_n hx hb dX6_closedSum_4 rfl (lv_at hl 3 rfl) ?_
      refine lv_aload_n hx hb dX6_closedSum_5 rfl (lv_at hl 0 rfl) ?_
      refine z_g0 (f := (μ 0)) (v := .ref (G.1 + 1)) 0 hx hb hts hown hK hZ zk0 rfl (by decide) q226 rfl dX6_closedSum_6 ?_
      refine z_g1 (f := fb) (v := .int (nI T)) 3 hx hb hts hown hK hZ (zk_book hB1) hfb (by decide) q153 (congrArg (fun z => some (Value.int z)) hT) dX6_closedSum_9 ?_
      refine lv_icmp_ge (tgt := 57) hx hb dX6_closedSum_12 (by decide) (fun c_2 => ?_) (fun c_2 => ?_)
      · exact absurd c_2 (nI_ge (by omega) (by omega))
      · refine lv_aload_n hx hb dX6_closedSum_15 rfl (lv_at hl 0 rfl) ?_
        refine z_g0 (f := (μ 0)) (v := .ref (G.1 + 1)) 0 hx hb hts hown hK hZ zk0 rfl (by decide) q226 rfl dX6_closedSum_16 ?_
        refine lv_iload_n hx hb dX6_closedSum_19 rfl (lv_at hl 3 rfl) ?_
        refine z_cVr (As := [.int (nI j)]) (rest := []) hx hb hml hown hts hl hK hZ hS (c_X1_tenancyAt_ok l G μ 1 hB1 fb hfb T j hT hT6 (by omega)) (z_G q306 q262 q263 q2 q264) hdX1_tenancyAt ⟨Nat.le_of_ble_eq_true rfl, Nat.le_of_ble_eq_true rfl⟩ (zk_book hB1) (by decide) rfl rfl rfl rfl (Nat.le_of_ble_eq_true rfl) dX6_closedSum_20 ⟨(Nat.zero_le _), (Nat.zero_le _)⟩ (fun H locs hZ hS => ?_)
        refine lv_astore (lv' := [(4, .ref (G.1 + (1 + (3 + 2 * j)))), (0, .ref (G.1 + 0)), (1, .int (nI w)), (2, .int (s_cls μ w j)), (3, .int (nI j))]) hx hb dX6_closedSum_23 hl (by decide) rfl (fun ls hl => ?_)
        refine lv_aload hx hb dX6_closedSum_25 (lv_at hl 0 rfl) ?_
        refine lv_ifnull hx hb dX6_closedSum_27 ?_
        refine lv_aload hx hb dX6_closedSum_30 (lv_at hl 0 rfl) ?_
        refine z_g4 (f := (μ (1 + (3 + 2 * j)))) (v := .int ((μ (1 + (3 + 2 * j))) 2)) 2 hx hb hts hown hK hZ (zk_ten hB1 (by omega)) rfl (by decide) q66 rfl dX6_closedSum_32 ?_
        refine lv_iconst (v := 3) hx hb dX6_closedSum_35 (by decide) ?_
        refine lv_icmp_ne (tgt := 51) hx hb dX6_closedSum_36 (by decide) (fun c_3 => ?_) (fun c_3 => ?_)
        · refine lv_iinc (v := (nI (j + 1))) (lv' := [(3, .int (nI (j + 1))), (4, .ref (G.1 + (1 + (3 + 2 * j)))), (0, .ref (G.1 + 0)), (1, .int (nI w)), (2, .int (s_cls μ w j))]) hx hb dX6_closedSum_51 hl (k := 4) rfl (nI_1 _) (by decide) rfl (fun ls hl => ?_)
          refine lv_goto (tgt := 4) hx hb dX6_closedSum_54 (by decide) ?_
          rw [show s_cls μ w j = s_cls μ w (j + 1) from (if_neg c_3).symm] at hl
          exact ih (j + 1) (by omega) _ _ _ hZ hS (lv_sub hl [2, 3, 4, 0] rfl)
        · refine lv_iload_n hx hb dX6_closedSum_39 rfl (lv_at hl 3 rfl) ?_
          refine lv_aload hx hb dX6_closedSum_40 (lv_at hl 0 rfl) ?_
          refine z_g4 (f := (μ (1 + (3 + 2 * j)))) (v := .ref (G.1 + ((1 + (3 + 2 * j)) + 1))) 6 hx hb hts hown hK hZ (zk_ten hB1 (by omega)) rfl (by decide) q78 rfl dX6_closedSum_42 ?_
          refine lv_iload_n hx hb dX6_closedSum_45 rfl (lv_at hl 2 rfl) ?_
          refine z_cVi (As := [.int (nI w)]) (rest := [.int (s_cls μ w j)]) hx hb hml hown hts hl hK hZ hS (c_X4_part l G μ ((1 + (3 + 2 * j)) + 1) (μ ((1 + (3 + 2 * j)) + 1)) (zk_set1 hB1 (by omega)) rfl w (by omega) (by omega)) (z_G q307 q308 q309 q4 q310) hdX4_part ⟨Nat.le_of_ble_eq_true rfl, Nat.le_of_ble_eq_true rfl⟩ (zk_set1 hB1 (by omega)) (by decide) rfl rfl rfl rfl (Nat.le_of_ble_eq_true rfl) dX6_closedSum_46 ⟨(Nat.zero_le _), (Nat.zero_le _)⟩ (fun H locs hZ hS => ?_)
          refine lv_iadd hx hb dX6_closedSum_49 ?_
          refine lv_istore_n (lv' := [(2, .int ((s_cls μ w j) + (s_X4_part (μ ((1 + (3 + 2 * j)) + 1)) w))), (4, .ref (G.1 + (1 + (3 + 2 * j)))), (0, .ref (G.1 + 0)), (1, .int (nI w)), (3, .int (nI j))]) hx hb dX6_closedSum_50 rfl hl (by decide) rfl (fun ls hl => ?_)
          refine lv_iinc (v := (nI (j + 1))) (lv' := [(3, .int (nI (j + 1))), (2, .int ((s_cls μ w j) + (s_X4_part (μ ((1 + (3 + 2 * j)) + 1)) w))), (4, .ref (G.1 + (1 + (3 + 2 * j)))), (0, .ref (G.1 + 0)), (1, .int (nI w))]) hx hb dX6_closedSum_51 hl (k := 4) rfl (nI_1 _) (by decide) rfl (fun ls hl => ?_)
          refine lv_goto (tgt := 4) hx hb dX6_closedSum_54 (by decide) ?_
          rw [show s_cls μ w j + s_X4_part (μ (1 + (3 + 2 * j) + 1)) w = s_cls μ w (j + 1) from (if_pos c_3).symm] at hl
          exact ih (j + 1) (by omega) _ _ _ hZ hS (lv_sub hl [3, 4, 1, 0] rfl)
  refine lv_iconst (v := 0) hx hb dX6_closedSum_0 (by decide) ?_
  refine lv_istore_n (lv' := [(2, .int 0), (0, .ref (G.1 + 0)), (1, .int (nI w))]) hx hb dX6_closedSum_1 rfl hl (by decide) rfl (fun ls hl => ?_)
  refine lv_iconst (v := 0) hx hb dX6_closedSum_2 (by decide) ?_
  refine lv_istore_n (lv' := [(3, .int 0), (2, .int 0), (0, .ref (G.1 + 0)), (1, .int (nI w))]) hx hb dX6_closedSum_3 rfl hl (by decide) rfl (fun ls hl => ?_)
  exact loop T 0 (by omega) _ _ _ hZ hS (lv_sub hl [2, 3, 1, 0] rfl)
def s_cf (f fb g : Nat → Int32) (w : Nat) : Int32 := if g 2 = 0 then -5 else match w with | 4 => f 5 | 5 => s_X3_damageAfter f (s_X1_daysOf fb g) (f 5) | _ => f 6
theorem hdX6_conditionFact : yX6_conditionFact.cls = RX6 ∧ yX6_conditionFact.cls ≠ "java/lang/invoke/MethodHandle" ∧ yX6_conditionFact.cls ≠ "java/lang/invoke/VarHandle" ∧ (parseMethodDescriptor yX6_conditionFact.desc).map (fun d => d.parameters.length) = some 2 := by decide +kernel
set_option maxHeartbeats 4000000 in
set_option maxRecDepth 100000 in
theorem c_X6_conditionFact (l : Launch) (G : zG) (μ : zM) (fb : Nat → Int32) (hfb : μ 1 = fb) (T h : Nat) (hT : fb 3 = nI T) (hT6 : T ≤ 6) (hh0 : h < T) (n : Nat) (f : Nat → Int32) (hk : zk n = 6) (hf : μ n = f) (he : f 0 = nI h) (g : Nat → Int32) (hg : μ (1 + (3 + 2 * h)) = g) (w : Nat) (hw4 : 4 ≤ w) (hw6 : w ≤ 6) : zMet l G yX6_conditionFact cX6_conditionFact 3 (some .int) 3 56 [.ref (G.1 + 0), .ref (G.1 + n), .int (nI w)] μ (zQi G (s_cf f fb g w) μ) := by
  refine z_start (lv := [(0, .ref (G.1 + 0)), (1, .ref (G.1 + n)), (2, .int (nI w))]) (by decide) (Nat.le_of_ble_eq_true rfl) rfl ?_
  intro p e s m args below meth c ls hx hb hml hr hlk hts hown hK hZ hS hl
  have hown : s.vm.findClass RX6 = some m.cls := hown
  have hcs : w = 4 ∨ w = 5 ∨ w = 6 := by omega
  rcases hcs with rfl | rfl | rfl
  · refine lv_aload_n hx hb dX6_conditionFact_0 rfl (lv_at hl 0 rfl) ?_
    refine z_g0 (f := (μ 0)) (v := .ref (G.1 + 1)) 0 hx hb hts hown hK hZ zk0 rfl (by decide) q226 rfl dX6_conditionFact_1 ?_
    refine lv_aload_n hx hb dX6_conditionFact_4 rfl (lv_at hl 1 rfl) ?_
    refine z_cVi (As := [.ref (G.1 + n)]) (rest := []) hx hb hml hown hts hl hK hZ hS (c_X1_stateOf l G μ fb hfb n f hk hf T h hT hT6 hh0 he g hg) (z_G q411 q412 q413 q2 q414) hdX1_stateOf ⟨Nat.le_of_ble_eq_true rfl, Nat.le_of_ble_eq_true rfl⟩ (zk_book hB1) (by decide) rfl rfl rfl rfl (Nat.le_of_ble_eq_true rfl) dX6_conditionFact_5 ⟨(Nat.zero_le _), (Nat.zero_le _)⟩ (fun H locs hZ hS => ?_)
    refine lv_if_ne (tgt := 14) hx hb dX6_conditionFact_8 (by decide) (fun c_1 => ?_) (fun c_1 => ?_)
    · refine lv_iload_n hx hb dX6_conditionFact_14 rfl (lv_at hl 2 rfl) ?_
      refine lv_iconst (v := 4) hx hb dX6_conditionFact_15 (by decide) ?_
      refine lv_icmp_ne (tgt := 24) hx hb dX6_conditionFact_16 (by decide) (fun c_2 => ?_) (fun c_2 => ?_)
      · exact absurd rfl c_2
      · refine lv_aload_n hx hb dX6_conditionFact_19 rfl (lv_at hl 1 rfl) ?_
        refine z_g6 (f := f) (v := .int (f 5)) 5 hx hb hts hown hK hZ hk hf (by decide) q109 rfl dX6_conditionFact_20 ?_
        exact z_iret hx hb hr hlk hK hZ hS ⟨(if_neg c_1).symm, rfl⟩ dX6_conditionFact_23
    · refine lv_bipush (v := (-5)) hx hb dX6_conditionFact_11 (by decide) ?_
      exact z_iret hx hb hr hlk hK hZ hS ⟨(if_pos c_1).symm, rfl⟩ dX6_conditionFact_13
  · refine lv_aload_n hx hb dX6_conditionFact_0 rfl (lv_at hl 0 rfl) ?_
    refine z_g0 (f := (μ 0)) (v := .ref (G.1 + 1)) 0 hx hb hts hown hK hZ zk0 rfl (by decide) q226 rfl dX6_conditionFact_1 ?_
    refine lv_aload_n hx hb dX6_conditionFact_4 rfl (lv_at hl 1 rfl) ?_
    refine z_cVi (As := [.ref (G.1 + n)]) (rest := []) hx hb hml hown hts hl hK hZ hS (c_X1_stateOf l G μ fb hfb n f hk hf T h hT hT6 hh0 he g hg) (z_G q411 q412 q413 q2 q414) hdX1_stateOf ⟨Nat.le_of_ble_eq_true rfl, Nat.le_of_ble_eq_true rfl⟩ (zk_book hB1) (by decide) rfl rfl rfl rfl (Nat.le_of_ble_eq_true rfl) dX6_conditionFact_5 ⟨(Nat.zero_le _), (Nat.zero_le _)⟩ (fun H locs hZ hS => ?_)
    refine lv_if_ne (tgt := 14) hx hb dX6_conditionFact_8 (by decide) (fun c_3 => ?_) (fun c_3 => ?_)
    · refine lv_iload_n hx hb dX6_conditionFact_14 rfl (lv_at hl 2 rfl) ?_
      refine lv_iconst (v := 4) hx hb dX6_conditionFact_15 (by decide) ?_
      refine lv_icmp_ne (tgt := 24) hx hb dX6_conditionFact_16 (by decide) (fun c_4 => ?_) (fun c_4 => ?_)
      · refine lv_iload_n hx hb dX6_conditionFact_24 rfl (lv_at hl 2 rfl) ?_
        refine lv_iconst (v := 5) hx hb dX6_conditionFact_25 (by decide) ?_
        refine lv_icmp_ne (tgt := 46) hx hb dX6_conditionFact_26 (by decide) (fun c_5 => ?_) (fun c_5 => ?_)
        · exact absurd rfl c_5
        · refine lv_aload_n hx hb dX6_conditionFact_29 rfl (lv_at hl 1 rfl) ?_
          refine lv_aload_n hx hb dX6_conditionFact_30 rfl (lv_at hl 0 rfl) ?_
          refine z_g0 (f := (μ 0)) (v := .ref (G.1 + 1)) 0 hx hb hts hown hK hZ zk0 rfl (by decide) q226 rfl dX6_conditionFact_31 ?_
          refine lv_aload_n hx hb dX6_conditionFact_34 rfl (lv_at hl 1 rfl) ?_
          refine z_cVi (As := [.ref (G.1 + n)]) (rest := [.ref (G.1 + n)]) hx hb hml hown hts hl hK hZ hS (c_X1_daysOfItem l G μ fb hfb n f hk hf T h hT hT6 hh0 he g hg) (z_G q395 q396 q397 q2 q398) hdX1_daysOfItem ⟨Nat.le_of_ble_eq_true rfl, Nat.le_of_ble_eq_true rfl⟩ (zk_book hB1) (by decide) rfl rfl rfl rfl (Nat.le_of_ble_eq_true rfl) dX6_conditionFact_35 ⟨(Nat.zero_le _), (Nat.zero_le _)⟩ (fun H locs hZ hS => ?_)
          refine lv_aload_n hx hb dX6_conditionFact_38 rfl (lv_at hl 1 rfl) ?_
          refine z_g6 (f := f) (v := .int (f 5)) 5 hx hb hts hown hK hZ hk hf (by decide) q109 rfl dX6_conditionFact_39 ?_
          refine z_cVi (As := [.int (s_X1_daysOf fb g), .int (f 5)]) (rest := []) hx hb hml hown hts hl hK hZ hS (c_X3_damageAfter l G μ n f hk hf (s_X1_daysOf fb g) (f 5)) (z_G q415 q416 q417 q5 q418) hdX3_damageAfter ⟨Nat.le_of_ble_eq_true rfl, Nat.le_of_ble_eq_true rfl⟩ hk (by decide) rfl rfl rfl rfl (Nat.le_of_ble_eq_true rfl) dX6_conditionFact_42 ⟨(Nat.zero_le _), (Nat.zero_le _)⟩ (fun H locs hZ hS => ?_)
          exact z_iret hx hb hr hlk hK hZ hS ⟨(if_neg c_3).symm, rfl⟩ dX6_conditionFact_45
      · exact absurd c_4 (by decide)
    · refine lv_bipush (v := (-5)) hx hb dX6_conditionFact_11 (by decide) ?_
      exact z_iret hx hb hr hlk hK hZ hS ⟨(if_pos c_3).symm, rfl⟩ dX6_conditionFact_13
  · refine lv_aload_n hx hb dX6_conditionFact_0 rfl (lv_at hl 0 rfl) ?_
    refine z_g0 (f := (μ 0)) (v := .ref (G.1 + 1)) 0 hx hb hts hown hK hZ zk0 rfl (by decide) q226 rfl dX6_conditionFact_1 ?_
    refine lv_aload_n hx hb dX6_conditionFact_4 rfl (lv_at hl 1 rfl) ?_
    refine z_cVi (As := [.ref (G.1 + n)]) (rest := []) hx hb hml hown hts hl hK hZ hS (c_X1_stateOf l G μ fb hfb n f hk hf T h hT hT6 hh0 he g hg) (z_G q411 q412 q413 q2 q414) hdX1_stateOf ⟨Nat.le_of_ble_eq_true rfl, Nat.le_of_ble_eq_true rfl⟩ (zk_book hB1) (by decide) rfl rfl rfl rfl (Nat.le_of_ble_eq_true rfl) dX6_conditionFact_5 ⟨(Nat.zero_le _), (Nat.zero_le _)⟩ (fun H locs hZ hS => ?_)
    refine lv_if_ne (tgt := 14) hx hb dX6_conditionFact_8 (by decide) (fun c_6 => ?_) (fun c_6 => ?_)
    · refine lv_iload_n hx hb dX6_conditionFact_14 rfl (lv_at hl 2 rfl) ?_
      refine lv_iconst (v := 4) hx hb dX6_conditionFact_15 (by decide) ?_
      refine lv_icmp_ne (tgt := 24) hx hb dX6_conditionFact_16 (by decide) (fun c_7 => ?_) (fun c_7 => ?_)
      · refine lv_iload_n hx hb dX6_conditionFact_24 rfl (lv_at hl 2 rfl) ?_
        refine lv_iconst (v := 5) hx hb dX6_conditionFact_25 (by decide) ?_
        refine lv_icmp_ne (tgt := 46) hx hb dX6_conditionFact_26 (by decide) (fun c_8 => ?_) (fun c_8 => ?_)
        · refine lv_aload_n hx hb dX6_conditionFact_46 rfl (lv_at hl 1 rfl) ?_
          refine z_g6 (f := f) (v := .int (f 6)) 6 hx hb hts hown hK hZ hk hf (by decide) q111 rfl dX6_conditionFact_47 ?_
          exact z_iret hx hb hr hlk hK hZ hS ⟨(if_neg c_6).symm, rfl⟩ dX6_conditionFact_50
        · exact absurd c_8 (by decide)
      · exact absurd c_7 (by decide)
    · refine lv_bipush (v := (-5)) hx hb dX6_conditionFact_11 (by decide) ?_
      exact z_iret hx hb hr hlk hK hZ hS ⟨(if_pos c_6).symm, rfl⟩ dX6_conditionFact_13
end
section
theorem hdX6_rate : yX6_rate.cls = RX6 ∧ yX6_rate.cls ≠ "java/lang/invoke/MethodHandle" ∧ yX6_rate.cls ≠ "java/lang/invoke/VarHandle" ∧ (parseMethodDescriptor yX6_rate.desc).map (fun d => d.parameters.length) = some 0 := by decide +kernel
set_option maxHeartbeats 4000000 in
set_option maxRecDepth 100000 in
theorem c_X6_rate (l : Launch) (G : zG) (μ : zM) (fb : Nat → Int32) (hfb : μ 1 = fb) : zMet l G yX6_rate cX6_rate 1 (some .float) 0 0 [.ref (G.1 + 0)] μ (zQf G (Int32.toUInt32 (fb 2)) μ) := by
  refine z_start (lv := [(0, .ref (G.1 + 0))]) (by decide) (Nat.le_of_ble_eq_true rfl) rfl ?_
  intro p e s m args below meth c ls hx hb hml hr hlk hts hown hK hZ hS hl
  have hown : s.vm.findClass RX6 = some m.cls := hown
  refine lv_aload_n hx hb dX6_rate_0 rfl (lv_at hl 0 rfl) ?_
  refine z_g0 (f := (μ 0)) (v := .ref (G.1 + 1)) 0 hx hb hts hown hK hZ zk0 rfl (by decide) q226 rfl dX6_rate_1 ?_
  refine z_g1 (f := fb) (v := .float (Int32.toUInt32 (fb 2))) 2 hx hb hts hown hK hZ (zk_book hB1) hfb (by decide) q151 rfl dX6_rate_4 ?_
  exact z_fret hx hb hr hlk hK hZ hS ⟨rfl, rfl⟩ dX6_rate_7
def s_cnt (μ : zM) (fb : Nat → Int32) (T I z w : Nat) : Int32 := match w with
  | 0 => fb 0
  | 1 => nI T
  | 2 => nI (s_tin μ 0 T)
  | 3 => nI (s_tin μ 1 T)
  | 4 => nI (s_tin μ 2 T)
  | 5 => nI (s_tin μ 3 T)
  | 6 => nI I
  | 7 => fb 1
  | 8 => s_cls μ 8 T
  | 9 => s_cls μ 9 T
  | 10 => s_cls μ 10 T
  | 11 => s_cls μ 11 T
  | _ => nI z
theorem hdX6_count : yX6_count.cls = RX6 ∧ yX6_count.cls ≠ "java/lang/invoke/MethodHandle" ∧ yX6_count.cls ≠ "java/lang/invoke/VarHandle" ∧ (parseMethodDescriptor yX6_count.desc).map (fun d => d.parameters.length) = some 1 := by decide +kernel
set_option maxHeartbeats 4000000 in
set_option maxRecDepth 100000 in
theorem c_X6_count (l : Launch) (G : zG) (μ : zM) (fb hh : Nat → Int32) (hfb : μ 1 = fb) (hfh : μ 79 = hh) (T I o z : Nat) (hT : fb 3 = nI T) (hI : fb 4 = nI I) (hT6 : T ≤ 6) (hI24 : I ≤ 24) (ho : hh 1 = nI o) (hz : hh 2 = nI z) (ho4 : o < 4) (hz4 : z ≤ 4) (w : Nat) (hw : w ≤ 12) : zMet l G yX6_count cX6_count 2 (some .int) 2 45 [.ref (G.1 + 0), .int (nI w)] μ (zQi G (s_cnt μ fb T I z w) μ) := by
  refine z_start (lv := [(0, .ref (G.1 + 0)), (1, .int (nI w))]) (by decide) (Nat.le_of_ble_eq_true rfl) rfl ?_
  intro p e s m args below meth c ls hx hb hml hr hlk hts hown hK hZ hS hl
  have hown : s.vm.findClass RX6 = some m.cls := hown
  refine lv_iload_n hx hb dX6_count_0 rfl (lv_at hl 1 rfl) ?_
  have hcs : w = 0 ∨ w = 1 ∨ w = 2 ∨ w = 3 ∨ w = 4 ∨ w = 5 ∨ w = 6 ∨ w = 7 ∨ w = 8 ∨ w = 9 ∨ w = 10 ∨ w = 11 ∨ w = 12 := by omega
  rcases hcs with rfl | rfl | rfl | rfl | rfl | rfl | rfl | rfl | rfl | rfl | rfl | rfl | rfl
  · refine lv_tableIn (off := 71) (tgt := 72) hx hb dX6_count_1 (by decide) (by decide) rfl (by decide) ?_
    refine lv_aload_n hx hb dX6_count_72 rfl (lv_at hl 0 rfl) ?_
    refine z_g0 (f := (μ 0)) (v := .ref (G.1 + 1)) 0 hx hb hts hown hK hZ zk0 rfl (by decide) q226 rfl dX6_count_73 ?_
    refine z_g1 (f := fb) (v := .int (fb 0)) 0 hx hb hts hown hK hZ (zk_book hB1) hfb (by decide) q147 rfl dX6_count_76 ?_
    exact z_iret hx hb hr hlk hK hZ hS ⟨rfl, rfl⟩ dX6_count_79
  · refine lv_tableIn (off := 79) (tgt := 80) hx hb dX6_count_1 (by decide) (by decide) rfl (by decide) ?_
    refine lv_aload_n hx hb dX6_count_80 rfl (lv_at hl 0 rfl) ?_
    refine z_g0 (f := (μ 0)) (v := .ref (G.1 + 1)) 0 hx hb hts hown hK hZ zk0 rfl (by decide) q226 rfl dX6_count_81 ?_
    refine z_g1 (f := fb) (v := .int (nI T)) 3 hx hb hts hown hK hZ (zk_book hB1) hfb (by decide) q153 (congrArg (fun z => some (Value.int z)) hT) dX6_count_84 ?_
    exact z_iret hx hb hr hlk hK hZ hS ⟨rfl, rfl⟩ dX6_count_87
  · refine lv_tableIn (off := 87) (tgt := 88) hx hb dX6_count_1 (by decide) (by decide) rfl (by decide) ?_
    refine lv_aload_n hx hb dX6_count_88 rfl (lv_at hl 0 rfl) ?_
    refine z_g0 (f := (μ 0)) (v := .ref (G.1 + 1)) 0 hx hb hts hown hK hZ zk0 rfl (by decide) q226 rfl dX6_count_89 ?_
    refine lv_iload_n hx hb dX6_count_92 rfl (lv_at hl 1 rfl) ?_
    refine lv_iconst (v := 2) hx hb dX6_count_93 (by decide) ?_
    refine lv_isub hx hb dX6_count_94 ?_
    rw [show nI 2 - 2 = nI 0 from rfl]
    refine z_cVi (As := [.int (nI 0)]) (rest := []) hx hb hml hown hts hl hK hZ hS (c_X1_tenanciesIn l G μ fb hfb T hT hT6 0) (z_G q298 q299 q300 q2 q301) hdX1_tenanciesIn ⟨Nat.le_of_ble_eq_true rfl, Nat.le_of_ble_eq_true rfl⟩ (zk_book hB1) (by decide) rfl rfl rfl rfl (Nat.le_of_ble_eq_true rfl) dX6_count_95 ⟨(Nat.zero_le _), (Nat.zero_le _)⟩ (fun H locs hZ hS => ?_)
    exact z_iret hx hb hr hlk hK hZ hS ⟨rfl, rfl⟩ dX6_count_98
  · refine lv_tableIn (off := 87) (tgt := 88) hx hb dX6_count_1 (by decide) (by decide) rfl (by decide) ?_
    refine lv_aload_n hx hb dX6_count_88 rfl (lv_at hl 0 rfl) ?_
    refine z_g0 (f := (μ 0)) (v := .ref (G.1 + 1)) 0 hx hb hts hown hK hZ zk0 rfl (by decide) q226 rfl dX6_count_89 ?_
    refine lv_iload_n hx hb dX6_count_92 rfl (lv_at hl 1 rfl) ?_
    refine lv_iconst (v := 2) hx hb dX6_count_93 (by decide) ?_
    refine lv_isub hx hb dX6_count_94 ?_
    rw [show nI 3 - 2 = nI 1 from rfl]
    refine z_cVi (As := [.int (nI 1)]) (rest := []) hx hb hml hown hts hl hK hZ hS (c_X1_tenanciesIn l G μ fb hfb T hT hT6 1) (z_G q298 q299 q300 q2 q301) hdX1_tenanciesIn ⟨Nat.le_of_ble_eq_true rfl, Nat.le_of_ble_eq_true rfl⟩ (zk_book hB1) (by decide) rfl rfl rfl rfl (Nat.le_of_ble_eq_true rfl) dX6_count_95 ⟨(Nat.zero_le _), (Nat.zero_le _)⟩ (fun H locs hZ hS => ?_)
    exact z_iret hx hb hr hlk hK hZ hS ⟨rfl, rfl⟩ dX6_count_98
  · refine lv_tableIn (off := 87) (tgt := 88) hx hb dX6_count_1 (by decide) (by decide) rfl (by decide) ?_
    refine lv_aload_n hx hb dX6_count_88 rfl (lv_at hl 0 rfl) ?_
    refine z_g0 (f := (μ 0)) (v := .ref (G.1 + 1)) 0 hx hb hts hown hK hZ zk0 rfl (by decide) q226 rfl dX6_count_89 ?_
    refine lv_iload_n hx hb dX6_count_92 rfl (lv_at hl 1 rfl) ?_
    refine lv_iconst (v := 2) hx hb dX6_count_93 (by decide) ?_
    refine lv_isub hx hb dX6_count_94 ?_
    rw [show nI 4 - 2 = nI 2 from rfl]
    refine z_cVi (As := [.int (nI 2)]) (rest := []) hx hb hml hown hts hl hK hZ hS (c_X1_tenanciesIn l G μ fb hfb T hT hT6 2) (z_G q298 q299 q300 q2 q301) hdX1_tenanciesIn ⟨Nat.le_of_ble_eq_true rfl, Nat.le_of_ble_eq_true rfl⟩ (zk_book hB1) (by decide) rfl rfl rfl rfl (Nat.le_of_ble_eq_true rfl) dX6_count_95 ⟨(Nat.zero_le _), (Nat.zero_le _)⟩ (fun H locs hZ hS => ?_)
    exact z_iret hx hb hr hlk hK hZ hS ⟨rfl, rfl⟩ dX6_count_98
  · refine lv_tableIn (off := 87) (tgt := 88) hx hb dX6_count_1 (by decide) (by decide) rfl (by decide) ?_
    refine lv_aload_n hx hb dX6_count_88 rfl (lv_at hl 0 rfl) ?_
    refine z_g0 (f := (μ 0)) (v := .ref (G.1 + 1)) 0 hx hb hts hown hK hZ zk0 rfl (by decide) q226 rfl dX6_count_89 ?_
    refine lv_iload_n hx hb dX6_count_92 rfl (lv_at hl 1 rfl) ?_
    refine lv_iconst (v := 2) hx hb dX6_count_93 (by decide) ?_
    refine lv_isub hx hb dX6_count_94 ?_
    rw [show nI 5 - 2 = nI 3 from rfl]
    refine z_cVi (As := [.int (nI 3)]) (rest := []) hx hb hml hown hts hl hK hZ hS (c_X1_tenanciesIn l G μ fb hfb T hT hT6 3) (z_G q298 q299 q300 q2 q301) hdX1_tenanciesIn ⟨Nat.le_of_ble_eq_true rfl, Nat.le_of_ble_eq_true rfl⟩ (zk_book hB1) (by decide) rfl rfl rfl rfl (Nat.le_of_ble_eq_true rfl) dX6_count_95 ⟨(Nat.zero_le _), (Nat.zero_le _)⟩ (fun H locs hZ hS => ?_)
    exact z_iret hx hb hr hlk hK hZ hS ⟨rfl, rfl⟩ dX6_count_98
  · refine lv_tableIn (off := 98) (tgt := 99) hx hb dX6_count_1 (by decide) (by decide) rfl (by decide) ?_
    refine lv_aload_n hx hb dX6_count_99 rfl (lv_at hl 0 rfl) ?_
    refine z_g0 (f := (μ 0)) (v := .ref (G.1 + 1)) 0 hx hb hts hown hK hZ zk0 rfl (by decide) q226 rfl dX6_count_100 ?_
    refine z_g1 (f := fb) (v := .int (nI I)) 4 hx hb hts hown hK hZ (zk_book hB1) hfb (by decide) q155 (congrArg (fun z => some (Value.int z)) hI) dX6_count_103 ?_
    exact z_iret hx hb hr hlk hK hZ hS ⟨rfl, rfl⟩ dX6_count_106
  · refine lv_tableIn (off := 106) (tgt := 107) hx hb dX6_count_1 (by decide) (by decide) rfl (by decide) ?_
    refine lv_aload_n hx hb dX6_count_107 rfl (lv_at hl 0 rfl) ?_
    refine z_g0 (f := (μ 0)) (v := .ref (G.1 + 1)) 0 hx hb hts hown hK hZ zk0 rfl (by decide) q226 rfl dX6_count_108 ?_
    refine z_g1 (f := fb) (v := .int (fb 1)) 1 hx hb hts hown hK hZ (zk_book hB1) hfb (by decide) q149 rfl dX6_count_111 ?_
    exact z_iret hx hb hr hlk hK hZ hS ⟨rfl, rfl⟩ dX6_count_114
  · refine lv_tableIn (off := 114) (tgt := 115) hx hb dX6_count_1 (by decide) (by decide) rfl (by decide) ?_
    refine lv_aload_n hx hb dX6_count_115 rfl (lv_at hl 0 rfl) ?_
    refine lv_iload_n hx hb dX6_count_116 rfl (lv_at hl 1 rfl) ?_
    refine z_cVi (As := [.int (nI 8)]) (rest := []) hx hb hml hown hts hl hK hZ hS (c_X6_closedSum l G μ fb hfb T hT hT6 8 (by omega) (by omega)) (z_G q302 q304 qs0 q1 q305) hdX6_closedSum ⟨Nat.le_of_ble_eq_true rfl, Nat.le_of_ble_eq_true rfl⟩ zk0 (by decide) rfl rfl rfl rfl (Nat.le_of_ble_eq_true rfl) dX6_count_117 ⟨(Nat.zero_le _), (Nat.zero_le _)⟩ (fun H locs hZ hS => ?_)
    exact z_iret hx hb hr hlk hK hZ hS ⟨rfl, rfl⟩ dX6_count_120
  · refine lv_tableIn (off := 114) (tgt := 115) hx hb dX6_count_1 (by decide) (by decide) rfl (by decide) ?_
    refine lv_aload_n hx hb dX6_count_115 rfl (lv_at hl 0 rfl) ?_
    refine lv_iload_n hx hb dX6_count_116 rfl (lv_at hl 1 rfl) ?_
    refine z_cVi (As := [.int (nI 9)]) (rest := []) hx hb hml hown hts hl hK hZ hS (c_X6_closedSum l G μ fb hfb T hT hT6 9 (by omega) (by omega)) (z_G q302 q304 qs0 q1 q305) hdX6_closedSum ⟨Nat.le_of_ble_eq_true rfl, Nat.le_of_ble_eq_true rfl⟩ zk0 (by decide) rfl rfl rfl rfl (Nat.le_of_ble_eq_true rfl) dX6_count_117 ⟨(Nat.zero_le _), (Nat.zero_le _)⟩ (fun H locs hZ hS => ?_)
    exact z_iret hx hb hr hlk hK hZ hS ⟨rfl, rfl⟩ dX6_count_120
  · refine lv_tableIn (off := 114) (tgt := 115) hx hb dX6_count_1 (by decide) (by decide) rfl (by decide) ?_
    refine lv_aload_n hx hb dX6_count_115 rfl (lv_at hl 0 rfl) ?_
    refine lv_iload_n hx hb dX6_count_116 rfl (lv_at hl 1 rfl) ?_
    refine z_cVi (As := [.int (nI 10)]) (rest := []) hx hb hml hown hts hl hK hZ hS (c_X6_closedSum l G μ fb hfb T hT hT6 10 (by omega) (by omega)) (z_G q302 q304 qs0 q1 q305) hdX6_closedSum ⟨Nat.le_of_ble_eq_true rfl, Nat.le_of_ble_eq_true rfl⟩ zk0 (by decide) rfl rfl rfl rfl (Nat.le_of_ble_eq_true rfl) dX6_count_117 ⟨(Nat.zero_le _), (Nat.zero_le _)⟩ (fun H locs hZ hS => ?_)
    exact z_iret hx hb hr hlk hK hZ hS ⟨rfl, rfl⟩ dX6_count_120
  · refine lv_tableIn (off := 114) (tgt := 115) hx hb dX6_count_1 (by decide) (by decide) rfl (by decide) ?_
    refine lv_aload_n hx hb dX6_count_115 rfl (lv_at hl 0 rfl) ?_
    refine lv_iload_n hx hb dX6_count_116 rfl (lv_at hl 1 rfl) ?_
    refine z_cVi (As := [.int (nI 11)]) (rest := []) hx hb hml hown hts hl hK hZ hS (c_X6_closedSum l G μ fb hfb T hT hT6 11 (by omega) (by omega)) (z_G q302 q304 qs0 q1 q305) hdX6_closedSum ⟨Nat.le_of_ble_eq_true rfl, Nat.le_of_ble_eq_true rfl⟩ zk0 (by decide) rfl rfl rfl rfl (Nat.le_of_ble_eq_true rfl) dX6_count_117 ⟨(Nat.zero_le _), (Nat.zero_le _)⟩ (fun H locs hZ hS => ?_)
    exact z_iret hx hb hr hlk hK hZ hS ⟨rfl, rfl⟩ dX6_count_120
  · refine lv_tableIn (off := 120) (tgt := 121) hx hb dX6_count_1 (by decide) (by decide) rfl (by decide) ?_
    refine lv_aload_n hx hb dX6_count_121 rfl (lv_at hl 0 rfl) ?_
    refine z_g0 (f := (μ 0)) (v := .ref (G.1 + 79)) 2 hx hb hts hown hK hZ zk0 rfl (by decide) q228 rfl dX6_count_122 ?_
    refine z_g7 (f := hh) (v := .int (nI z)) 2 hx hb hts hown hK hZ zk79 hfh (by decide) q185 (congrArg (fun z => some (Value.int z)) hz) dX6_count_125 ?_
    exact z_iret hx hb hr hlk hK hZ hS ⟨rfl, rfl⟩ dX6_count_128
def s_ten (μ : zM) (fb g : Nat → Int32) (t I w : Nat) : Int32 := match w with
  | 0 => g 0
  | 1 => g 1
  | 2 => g 2
  | 3 => s_X1_daysOf fb g
  | 4 => s_X1_interestOf fb g
  | 5 => s_tot μ t 0 I
  | 6 => g 4
  | 7 => s_tot μ t 2 I
  | 8 => s_tot μ t 3 I
  | _ => s_tot μ t 4 I
theorem hdX6_tenancy : yX6_tenancy.cls = RX6 ∧ yX6_tenancy.cls ≠ "java/lang/invoke/MethodHandle" ∧ yX6_tenancy.cls ≠ "java/lang/invoke/VarHandle" ∧ (parseMethodDescriptor yX6_tenancy.desc).map (fun d => d.parameters.length) = some 2 := by decide +kernel
set_option maxHeartbeats 4000000 in
set_option maxRecDepth 100000 in
theorem c_X6_tenancy (l : Launch) (G : zG) (μ : zM) (fb : Nat → Int32) (hfb : μ 1 = fb) (T I : Nat) (hT : fb 3 = nI T) (hI : fb 4 = nI I) (hT6 : T ≤ 6) (hI24 : I ≤ 24) (t : Nat) (ht : t < T) (g : Nat → Int32) (hg : μ (1 + (3 + 2 * t)) = g) (hr8 : fK 125 (Int32.toUInt32 (fb 2))) (w : Nat) (hw : w ≤ 9) : zMet l G yX6_tenancy cX6_tenancy 4 (some .int) 4 89 [.ref (G.1 + 0), .int (nI t), .int (nI w)] μ (zQi G (s_ten μ fb g t I w) μ) := by
  refine z_start (lv := [(0, .ref (G.1 + 0)), (1, .int (nI t)), (2, .int (nI w))]) (by decide) (Nat.le_of_ble_eq_true rfl) rfl ?_
  intro p e s m args below meth c ls hx hb hml hr hlk hts hown hK hZ hS hl
  have hown : s.vm.findClass RX6 = some m.cls := hown
  refine lv_aload_n hx hb dX6_tenancy_0 rfl (lv_at hl 0 rfl) ?_
  refine z_g0 (f := (μ 0)) (v := .ref (G.1 + 1)) 0 hx hb hts hown hK hZ zk0 rfl (by decide) q226 rfl dX6_tenancy_1 ?_
  refine lv_iload_n hx hb dX6_tenancy_4 rfl (lv_at hl 1 rfl) ?_
  refine z_cVr (As := [.int (nI t)]) (rest := []) hx hb hml hown hts hl hK hZ hS (c_X1_tenancyAt_ok l G μ 1 hB1 fb hfb T t hT hT6 (by omega)) (z_G q306 q262 q263 q2 q264) hdX1_tenancyAt ⟨Nat.le_of_ble_eq_true rfl, Nat.le_of_ble_eq_true rfl⟩ (zk_book hB1) (by decide) rfl rfl rfl rfl (Nat.le_of_ble_eq_true rfl) dX6_tenancy_5 ⟨(Nat.zero_le _), (Nat.zero_le _)⟩ (fun H locs hZ hS => ?_)
  refine lv_astore_n (lv' := [(3, .ref (G.1 + (1 + (3 + 2 * t)))), (0, .ref (G.1 + 0)), (1, .int (nI t)), (2, .int (nI w))]) hx hb dX6_tenancy_8 rfl hl (by decide) rfl (fun ls hl => ?_)
  refine lv_aload_n hx hb dX6_tenancy_9 rfl (lv_at hl 0 rfl) ?_
  refine lv_ifnonnull (tgt := 15) hx hb dX6_tenancy_10 (by decide) ?_
  refine lv_iload_n hx hb dX6_tenancy_15 rfl (lv_at hl 3 rfl) ?_
  have hcs : w = 0 ∨ w = 1 ∨ w = 2 ∨ w = 3 ∨ w = 4 ∨ w = 5 ∨ w = 6 ∨ w = 7 ∨ w = 8 ∨ w = 9 := by omega
  rcases hcs with rfl | rfl | rfl | rfl | rfl | rfl | rfl | rfl | rfl | rfl
  · refine lv_tableIn (off := 56) (tgt := 72) hx hb dX6_tenancy_16 (by decide) (by decide) rfl (by decide) ?_
    refine lv_aload_n hx hb dX6_tenancy_72 rfl (lv_at hl 0 rfl) ?_
    refine z_g4 (f := g) (v := .int (g 0)) 0 hx hb hts hown hK hZ (zk_ten hB1 (by omega)) hg (by decide) q61 rfl dX6_tenancy_73 ?_
    exact z_iret hx hb hr hlk hK hZ hS ⟨rfl, rfl⟩ dX6_tenancy_76
  · refine lv_tableIn (off := 61) (tgt := 77) hx hb dX6_tenancy_16 (by decide) (by decide) rfl (by decide) ?_
    refine lv_aload_n hx hb dX6_tenancy_77 rfl (lv_at hl 0 rfl) ?_
    refine z_g4 (f := g) (v := .int (g 1)) 1 hx hb hts hown hK hZ (zk_ten hB1 (by omega)) hg (by decide) q63 rfl dX6_tenancy_78 ?_
    exact z_iret hx hb hr hlk hK hZ hS ⟨rfl, rfl⟩ dX6_tenancy_81
  · refine lv_tableIn (off := 66) (tgt := 82) hx hb dX6_tenancy_16 (by decide) (by decide) rfl (by decide) ?_
    refine lv_aload_n hx hb dX6_tenancy_82 rfl (lv_at hl 0 rfl) ?_
    refine z_g4 (f := g) (v := .int (g 2)) 2 hx hb hts hown hK hZ (zk_ten hB1 (by omega)) hg (by decide) q66 rfl dX6_tenancy_83 ?_
    exact z_iret hx hb hr hlk hK hZ hS ⟨rfl, rfl⟩ dX6_tenancy_86
  · refine lv_tableIn (off := 71) (tgt := 87) hx hb dX6_tenancy_16 (by decide) (by decide) rfl (by decide) ?_
    refine lv_aload_n hx hb dX6_tenancy_87 rfl (lv_at hl 1 rfl) ?_
    refine z_g0 (f := (μ 0)) (v := .ref (G.1 + 1)) 0 hx hb hts hown hK hZ zk0 rfl (by decide) q226 rfl dX6_tenancy_88 ?_
    refine lv_aload_n hx hb dX6_tenancy_91 rfl (lv_at hl 0 rfl) ?_
    refine z_cVi (As := [.ref (G.1 + (1 + (3 + 2 * t)))]) (rest := []) hx hb hml hown hts hl hK hZ hS (c_X1_daysOf l G μ 1 fb (zk_book hB1) hfb (1 + (3 + 2 * t)) g (zk_ten hB1 (by omega)) hg) (z_G q328 q329 q330 q2 q331) hdX1_daysOf ⟨Nat.le_of_ble_eq_true rfl, Nat.le_of_ble_eq_true rfl⟩ (zk_book hB1) (by decide) rfl rfl rfl rfl (Nat.le_of_ble_eq_true rfl) dX6_tenancy_92 ⟨(Nat.zero_le _), (Nat.zero_le _)⟩ (fun H locs hZ hS => ?_)
    exact z_iret hx hb hr hlk hK hZ hS ⟨rfl, rfl⟩ dX6_tenancy_95
  · refine lv_tableIn (off := 80) (tgt := 96) hx hb dX6_tenancy_16 (by decide) (by decide) rfl (by decide) ?_
    refine lv_aload_n hx hb dX6_tenancy_96 rfl (lv_at hl 1 rfl) ?_
    refine z_g0 (f := (μ 0)) (v := .ref (G.1 + 1)) 0 hx hb hts hown hK hZ zk0 rfl (by decide) q226 rfl dX6_tenancy_97 ?_
    refine lv_aload_n hx hb dX6_tenancy_100 rfl (lv_at hl 0 rfl) ?_
    refine z_cVi (As := [.ref (G.1 + (1 + (3 + 2 * t)))]) (rest := []) hx hb hml hown hts hl hK hZ hS (c_X1_interestOf l G μ 1 fb (zk_book hB1) hfb (1 + (3 + 2 * t)) g (zk_ten hB1 (by omega)) hg hr8) (z_G q332 q333 q334 q2 q335) hdX1_interestOf ⟨Nat.le_of_ble_eq_true rfl, Nat.le_of_ble_eq_true rfl⟩ (zk_book hB1) (by decide) rfl rfl rfl rfl (Nat.le_of_ble_eq_true rfl) dX6_tenancy_101 ⟨(Nat.zero_le _), (Nat.zero_le _)⟩ (fun H locs hZ hS => ?_)
    exact z_iret hx hb hr hlk hK hZ hS ⟨rfl, rfl⟩ dX6_tenancy_104
  · refine lv_tableIn (off := 89) (tgt := 105) hx hb dX6_tenancy_16 (by decide) (by decide) rfl (by decide) ?_
    refine lv_aload_n hx hb dX6_tenancy_105 rfl (lv_at hl 1 rfl) ?_
    refine z_g0 (f := (μ 0)) (v := .ref (G.1 + 1)) 0 hx hb hts hown hK hZ zk0 rfl (by decide) q226 rfl dX6_tenancy_106 ?_
    refine lv_iload_n hx hb dX6_tenancy_109 rfl (lv_at hl 2 rfl) ?_
    refine lv_iconst (v := 0) hx hb dX6_tenancy_110 (by decide) ?_
    refine z_cVi (As := [.int (nI t), .int 0]) (rest := []) hx hb hml hown hts hl hK hZ hS (c_X1_total l G μ fb hfb I hI hI24 t 0 (by omega)) (z_G q337 q338 q339 q2 q340) hdX1_total ⟨Nat.le_of_ble_eq_true rfl, Nat.le_of_ble_eq_true rfl⟩ (zk_book hB1) (by decide) rfl rfl rfl rfl (Nat.le_of_ble_eq_true rfl) dX6_tenancy_111 ⟨(Nat.zero_le _), (Nat.zero_le _)⟩ (fun H locs hZ hS => ?_)
    exact z_iret hx hb hr hlk hK hZ hS ⟨rfl, rfl⟩ dX6_tenancy_114
  · refine lv_tableIn (off := 99) (tgt := 115) hx hb dX6_tenancy_16 (by decide) (by decide) rfl (by decide) ?_
    refine lv_aload_n hx hb dX6_tenancy_115 rfl (lv_at hl 0 rfl) ?_
    refine z_g4 (f := g) (v := .int (g 4)) 4 hx hb hts hown hK hZ (zk_ten hB1 (by omega)) hg (by decide) q72 rfl dX6_tenancy_116 ?_
    exact z_iret hx hb hr hlk hK hZ hS ⟨rfl, rfl⟩ dX6_tenancy_119
  · refine lv_tableIn (off := 104) (tgt := 120) hx hb dX6_tenancy_16 (by decide) (by decide) rfl (by decide) ?_
    refine lv_aload_n hx hb dX6_tenancy_120 rfl (lv_at hl 1 rfl) ?_
    refine z_g0 (f := (μ 0)) (v := .ref (G.1 + 1)) 0 hx hb hts hown hK hZ zk0 rfl (by decide) q226 rfl dX6_tenancy_121 ?_
    refine lv_iload_n hx hb dX6_tenancy_124 rfl (lv_at hl 2 rfl) ?_
    refine lv_iconst (v := 2) hx hb dX6_tenancy_125 (by decide) ?_
    refine z_cVi (As := [.int (nI t), .int 2]) (rest := []) hx hb hml hown hts hl hK hZ hS (c_X1_total l G μ fb hfb I hI hI24 t 2 (by omega)) (z_G q337 q338 q339 q2 q340) hdX1_total ⟨Nat.le_of_ble_eq_true rfl, Nat.le_of_ble_eq_true rfl⟩ (zk_book hB1) (by decide) rfl rfl rfl rfl (Nat.le_of_ble_eq_true rfl) dX6_tenancy_126 ⟨(Nat.zero_le _), (Nat.zero_le _)⟩ (fun H locs hZ hS => ?_)
    exact z_iret hx hb hr hlk hK hZ hS ⟨rfl, rfl⟩ dX6_tenancy_129
  · refine lv_tableIn (off := 114) (tgt := 130) hx hb dX6_tenancy_16 (by decide) (by decide) rfl (by decide) ?_
    refine lv_aload_n hx hb dX6_tenancy_130 rfl (lv_at hl 1 rfl) ?_
    refine z_g0 (f := (μ 0)) (v := .ref (G.1 + 1)) 0 hx hb hts hown hK hZ zk0 rfl (by decide) q226 rfl dX6_tenancy_131 ?_
    refine lv_iload_n hx hb dX6_tenancy_134 rfl (lv_at hl 2 rfl) ?_
    refine lv_iconst (v := 3) hx hb dX6_tenancy_135 (by decide) ?_
    refine z_cVi (As := [.int (nI t), .int 3]) (rest := []) hx hb hml hown hts hl hK hZ hS (c_X1_total l G μ fb hfb I hI hI24 t 3 (by omega)) (z_G q337 q338 q339 q2 q340) hdX1_total ⟨Nat.le_of_ble_eq_true rfl, Nat.le_of_ble_eq_true rfl⟩ (zk_book hB1) (by decide) rfl rfl rfl rfl (Nat.le_of_ble_eq_true rfl) dX6_tenancy_136 ⟨(Nat.zero_le _), (Nat.zero_le _)⟩ (fun H locs hZ hS => ?_)
    exact z_iret hx hb hr hlk hK hZ hS ⟨rfl, rfl⟩ dX6_tenancy_139
  · refine lv_tableIn (off := 124) (tgt := 140) hx hb dX6_tenancy_16 (by decide) (by decide) rfl (by decide) ?_
    refine lv_aload_n hx hb dX6_tenancy_140 rfl (lv_at hl 1 rfl) ?_
    refine z_g0 (f := (μ 0)) (v := .ref (G.1 + 1)) 0 hx hb hts hown hK hZ zk0 rfl (by decide) q226 rfl dX6_tenancy_141 ?_
    refine lv_iload_n hx hb dX6_tenancy_144 rfl (lv_at hl 2 rfl) ?_
    refine lv_iconst (v := 4) hx hb dX6_tenancy_145 (by decide) ?_
    refine z_cVi (As := [.int (nI t), .int 4]) (rest := []) hx hb hml hown hts hl hK hZ hS (c_X1_total l G μ fb hfb I hI hI24 t 4 (by omega)) (z_G q337 q338 q339 q2 q340) hdX1_total ⟨Nat.le_of_ble_eq_true rfl, Nat.le_of_ble_eq_true rfl⟩ (zk_book hB1) (by decide) rfl rfl rfl rfl (Nat.le_of_ble_eq_true rfl) dX6_tenancy_146 ⟨(Nat.zero_le _), (Nat.zero_le _)⟩ (fun H locs hZ hS => ?_)
    exact z_iret hx hb hr hlk hK hZ hS ⟨rfl, rfl⟩ dX6_tenancy_149
def s_itm (f fb g : Nat → Int32) (w : Nat) : Int32 := match w with
  | 0 => f 0
  | 1 => f 1
  | 2 => f 4
  | 3 => s_X3_fairAfter f (s_X1_daysOf fb g)
  | 4 => s_cf f fb g 4
  | 5 => s_cf f fb g 5
  | 6 => s_cf f fb g 6
  | 7 => f 7
  | 8 => f 8
  | 9 => s_X3_award f
  | _ => s_X3_ageAfter f (s_X1_daysOf fb g)
theorem hdX6_item : yX6_item.cls = RX6 ∧ yX6_item.cls ≠ "java/lang/invoke/MethodHandle" ∧ yX6_item.cls ≠ "java/lang/invoke/VarHandle" ∧ (parseMethodDescriptor yX6_item.desc).map (fun d => d.parameters.length) = some 2 := by decide +kernel
set_option maxHeartbeats 4000000 in
set_option maxRecDepth 100000 in
theorem c_X6_item (l : Launch) (G : zG) (μ : zM) (fb : Nat → Int32) (hfb : μ 1 = fb) (T I : Nat) (hT : fb 3 = nI T) (hI : fb 4 = nI I) (hT6 : T ≤ 6) (hI24 : I ≤ 24) (j h : Nat) (hj : j < I) (hh0 : h < T) (f : Nat → Int32) (hf : μ (1 + (15 + j)) = f) (he : f 0 = nI h) (g : Nat → Int32) (hg : μ (1 + (3 + 2 * h)) = g) (w : Nat) (hw : w ≤ 10) : zMet l G yX6_item cX6_item 4 (some .int) 4 78 [.ref (G.1 + 0), .int (nI j), .int (nI w)] μ (zQi G (s_itm f fb g w) μ) := by
  refine z_start (lv := [(0, .ref (G.1 + 0)), (1, .int (nI j)), (2, .int (nI w))]) (by decide) (Nat.le_of_ble_eq_true rfl) rfl ?_
  intro p e s m args below meth c ls hx hb hml hr hlk hts hown hK hZ hS hl
  have hown : s.vm.findClass RX6 = some m.cls := hown
  refine lv_aload_n hx hb dX6_item_0 rfl (lv_at hl 0 rfl) ?_
  refine z_g0 (f := (μ 0)) (v := .ref (G.1 + 1)) 0 hx hb hts hown hK hZ zk0 rfl (by decide) q226 rfl dX6_item_1 ?_
  refine lv_iload_n hx hb dX6_item_4 rfl (lv_at hl 1 rfl) ?_
  refine z_cVr (As := [.int (nI j)]) (rest := []) hx hb hml hown hts hl hK hZ hS (c_X1_itemAt_ok l G μ 1 hB1 fb hfb I j hI hI24 (by omega)) (z_G q394 q274 q275 q2 q276) hdX1_itemAt ⟨Nat.le_of_ble_eq_true rfl, Nat.le_of_ble_eq_true rfl⟩ (zk_book hB1) (by decide) rfl rfl rfl rfl (Nat.le_of_ble_eq_true rfl) dX6_item_5 ⟨(Nat.zero_le _), (Nat.zero_le _)⟩ (fun H locs hZ hS => ?_)
  refine lv_astore_n (lv' := [(3, .ref (G.1 + (1 + (15 + j)))), (0, .ref (G.1 + 0)), (1, .int (nI j)), (2, .int (nI w))]) hx hb dX6_item_8 rfl hl (by decide) rfl (fun ls hl => ?_)
  refine lv_aload_n hx hb dX6_item_9 rfl (lv_at hl 0 rfl) ?_
  refine lv_ifnonnull (tgt := 15) hx hb dX6_item_10 (by decide) ?_
  refine lv_iload_n hx hb dX6_item_15 rfl (lv_at hl 3 rfl) ?_
  have hcs : w = 0 ∨ w = 1 ∨ w = 2 ∨ w = 3 ∨ w = 4 ∨ w = 5 ∨ w = 6 ∨ w = 7 ∨ w = 8 ∨ w = 9 ∨ w = 10 := by omega
  rcases hcs with rfl | rfl | rfl | rfl | rfl | rfl | rfl | rfl | rfl | rfl | rfl
  · refine lv_tableIn (off := 60) (tgt := 76) hx hb dX6_item_16 (by decide) (by decide) rfl (by decide) ?_
    refine lv_aload_n hx hb dX6_item_76 rfl (lv_at hl 0 rfl) ?_
    refine z_g6 (f := f) (v := .int (nI h)) 0 hx hb hts hown hK hZ (zk_item hB1 (by omega)) hf (by decide) q101 (congrArg (fun z => some (Value.int z)) he) dX6_item_77 ?_
    exact z_iret hx hb hr hlk hK hZ hS ⟨he.symm, rfl⟩ dX6_item_80
  · refine lv_tableIn (off := 65) (tgt := 81) hx hb dX6_item_16 (by decide) (by decide) rfl (by decide) ?_
    refine lv_aload_n hx hb dX6_item_81 rfl (lv_at hl 0 rfl) ?_
    refine z_g6 (f := f) (v := .int (f 1)) 1 hx hb hts hown hK hZ (zk_item hB1 (by omega)) hf (by decide) q103 rfl dX6_item_82 ?_
    exact z_iret hx hb hr hlk hK hZ hS ⟨rfl, rfl⟩ dX6_item_85
  · refine lv_tableIn (off := 70) (tgt := 86) hx hb dX6_item_16 (by decide) (by decide) rfl (by decide) ?_
    refine lv_aload_n hx hb dX6_item_86 rfl (lv_at hl 0 rfl) ?_
    refine z_g6 (f := f) (v := .int (f 4)) 4 hx hb hts hown hK hZ (zk_item hB1 (by omega)) hf (by decide) q107 rfl dX6_item_87 ?_
    exact z_iret hx hb hr hlk hK hZ hS ⟨rfl, rfl⟩ dX6_item_90
  · refine lv_tableIn (off := 75) (tgt := 91) hx hb dX6_item_16 (by decide) (by decide) rfl (by decide) ?_
    refine lv_aload_n hx hb dX6_item_91 rfl (lv_at hl 0 rfl) ?_
    refine lv_aload_n hx hb dX6_item_92 rfl (lv_at hl 1 rfl) ?_
    refine z_g0 (f := (μ 0)) (v := .ref (G.1 + 1)) 0 hx hb hts hown hK hZ zk0 rfl (by decide) q226 rfl dX6_item_93 ?_
    refine lv_aload_n hx hb dX6_item_96 rfl (lv_at hl 0 rfl) ?_
    refine z_cVi (As := [.ref (G.1 + (1 + (15 + j)))]) (rest := [.ref (G.1 + (1 + (15 + j)))]) hx hb hml hown hts hl hK hZ hS (c_X1_daysOfItem l G μ fb hfb (1 + (15 + j)) f (zk_item hB1 (by omega)) hf T h hT hT6 hh0 he g hg) (z_G q395 q396 q397 q2 q398) hdX1_daysOfItem ⟨Nat.le_of_ble_eq_true rfl, Nat.le_of_ble_eq_true rfl⟩ (zk_book hB1) (by decide) rfl rfl rfl rfl (Nat.le_of_ble_eq_true rfl) dX6_item_97 ⟨(Nat.zero_le _), (Nat.zero_le _)⟩ (fun H locs hZ hS => ?_)
    refine z_cVi (As := [.int (s_X1_daysOf fb g)]) (rest := []) hx hb hml hown hts hl hK hZ hS (c_X3_fairAfter l G μ (1 + (15 + j)) f (zk_item hB1 (by omega)) hf (s_X1_daysOf fb g)) (z_G q400 q401 q402 q5 q403) hdX3_fairAfter ⟨Nat.le_of_ble_eq_true rfl, Nat.le_of_ble_eq_true rfl⟩ (zk_item hB1 (by omega)) (by decide) rfl rfl rfl rfl (Nat.le_of_ble_eq_true rfl) dX6_item_100 ⟨(Nat.zero_le _), (Nat.zero_le _)⟩ (fun H locs hZ hS => ?_)
    exact z_iret hx hb hr hlk hK hZ hS ⟨rfl, rfl⟩ dX6_item_103
  · refine lv_tableIn (off := 88) (tgt := 104) hx hb dX6_item_16 (by decide) (by decide) rfl (by decide) ?_
    refine lv_aload_n hx hb dX6_item_104 rfl (lv_at hl 1 rfl) ?_
    refine lv_aload_n hx hb dX6_item_105 rfl (lv_at hl 0 rfl) ?_
    refine lv_iload_n hx hb dX6_item_106 rfl (lv_at hl 3 rfl) ?_
    refine z_cVi (As := [.ref (G.1 + (1 + (15 + j))), .int (nI 4)]) (rest := []) hx hb hml hown hts hl hK hZ hS (c_X6_conditionFact l G μ fb hfb T h hT hT6 hh0 (1 + (15 + j)) f (zk_item hB1 (by omega)) hf he g hg 4 (by omega) (by omega)) (z_G q407 q409 qs1 q1 q410) hdX6_conditionFact ⟨Nat.le_of_ble_eq_true rfl, Nat.le_of_ble_eq_true rfl⟩ zk0 (by decide) rfl rfl rfl rfl (Nat.le_of_ble_eq_true rfl) dX6_item_107 ⟨(Nat.zero_le _), (Nat.zero_le _)⟩ (fun H locs hZ hS => ?_)
    exact z_iret hx hb hr hlk hK hZ hS ⟨rfl, rfl⟩ dX6_item_110
  · refine lv_tableIn (off := 88) (tgt := 104) hx hb dX6_item_16 (by decide) (by decide) rfl (by decide) ?_
    refine lv_aload_n hx hb dX6_item_104 rfl (lv_at hl 1 rfl) ?_
    refine lv_aload_n hx hb dX6_item_105 rfl (lv_at hl 0 rfl) ?_
    refine lv_iload_n hx hb dX6_item_106 rfl (lv_at hl 3 rfl) ?_
    refine z_cVi (As := [.ref (G.1 + (1 + (15 + j))), .int (nI 5)]) (rest := []) hx hb hml hown hts hl hK hZ hS (c_X6_conditionFact l G μ fb hfb T h hT hT6 hh0 (1 + (15 + j)) f (zk_item hB1 (by omega)) hf he g hg 5 (by omega) (by omega)) (z_G q407 q409 qs1 q1 q410) hdX6_conditionFact ⟨Nat.le_of_ble_eq_true rfl, Nat.le_of_ble_eq_true rfl⟩ zk0 (by decide) rfl rfl rfl rfl (Nat.le_of_ble_eq_true rfl) dX6_item_107 ⟨(Nat.zero_le _), (Nat.zero_le _)⟩ (fun H locs hZ hS => ?_)
    exact z_iret hx hb hr hlk hK hZ hS ⟨rfl, rfl⟩ dX6_item_110
  · refine lv_tableIn (off := 88) (tgt := 104) hx hb dX6_item_16 (by decide) (by decide) rfl (by decide) ?_
    refine lv_aload_n hx hb dX6_item_104 rfl (lv_at hl 1 rfl) ?_
    refine lv_aload_n hx hb dX6_item_105 rfl (lv_at hl 0 rfl) ?_
    refine lv_iload_n hx hb dX6_item_106 rfl (lv_at hl 3 rfl) ?_
    refine z_cVi (As := [.ref (G.1 + (1 + (15 + j))), .int (nI 6)]) (rest := []) hx hb hml hown hts hl hK hZ hS (c_X6_conditionFact l G μ fb hfb T h hT hT6 hh0 (1 + (15 + j)) f (zk_item hB1 (by omega)) hf he g hg 6 (by omega) (by omega)) (z_G q407 q409 qs1 q1 q410) hdX6_conditionFact ⟨Nat.le_of_ble_eq_true rfl, Nat.le_of_ble_eq_true rfl⟩ zk0 (by decide) rfl rfl rfl rfl (Nat.le_of_ble_eq_true rfl) dX6_item_107 ⟨(Nat.zero_le _), (Nat.zero_le _)⟩ (fun H locs hZ hS => ?_)
    exact z_iret hx hb hr hlk hK hZ hS ⟨rfl, rfl⟩ dX6_item_110
  · refine lv_tableIn (off := 95) (tgt := 111) hx hb dX6_item_16 (by decide) (by decide) rfl (by decide) ?_
    refine lv_aload_n hx hb dX6_item_111 rfl (lv_at hl 0 rfl) ?_
    refine z_g6 (f := f) (v := .int (f 7)) 7 hx hb hts hown hK hZ (zk_item hB1 (by omega)) hf (by decide) q114 rfl dX6_item_112 ?_
    exact z_iret hx hb hr hlk hK hZ hS ⟨rfl, rfl⟩ dX6_item_115
  · refine lv_tableIn (off := 100) (tgt := 116) hx hb dX6_item_16 (by decide) (by decide) rfl (by decide) ?_
    refine lv_aload_n hx hb dX6_item_116 rfl (lv_at hl 0 rfl) ?_
    refine z_g6 (f := f) (v := .int (f 8)) 8 hx hb hts hown hK hZ (zk_item hB1 (by omega)) hf (by decide) q117 rfl dX6_item_117 ?_
    exact z_iret hx hb hr hlk hK hZ hS ⟨rfl, rfl⟩ dX6_item_120
  · refine lv_tableIn (off := 105) (tgt := 121) hx hb dX6_item_16 (by decide) (by decide) rfl (by decide) ?_
    refine lv_aload_n hx hb dX6_item_121 rfl (lv_at hl 0 rfl) ?_
    refine z_cVi (As := []) (rest := []) hx hb hml hown hts hl hK hZ hS (c_X3_award l G μ (1 + (15 + j)) f (zk_item hB1 (by omega)) hf ) (z_G q420 q346 q347 q5 q348) hdX3_award ⟨Nat.le_of_ble_eq_true rfl, Nat.le_of_ble_eq_true rfl⟩ (zk_item hB1 (by omega)) (by decide) rfl rfl rfl rfl (Nat.le_of_ble_eq_true rfl) dX6_item_122 ⟨(Nat.zero_le _), (Nat.zero_le _)⟩ (fun H locs hZ hS => ?_)
    exact z_iret hx hb hr hlk hK hZ hS ⟨rfl, rfl⟩ dX6_item_125
  · refine lv_tableIn (off := 110) (tgt := 126) hx hb dX6_item_16 (by decide) (by decide) rfl (by decide) ?_
    refine lv_aload_n hx hb dX6_item_126 rfl (lv_at hl 0 rfl) ?_
    refine lv_aload_n hx hb dX6_item_127 rfl (lv_at hl 1 rfl) ?_
    refine z_g0 (f := (μ 0)) (v := .ref (G.1 + 1)) 0 hx hb hts hown hK hZ zk0 rfl (by decide) q226 rfl dX6_item_128 ?_
    refine lv_aload_n hx hb dX6_item_131 rfl (lv_at hl 0 rfl) ?_
    refine z_cVi (As := [.ref (G.1 + (1 + (15 + j)))]) (rest := [.ref (G.1 + (1 + (15 + j)))]) hx hb hml hown hts hl hK hZ hS (c_X1_daysOfItem l G μ fb hfb (1 + (15 + j)) f (zk_item hB1 (by omega)) hf T h hT hT6 hh0 he g hg) (z_G q395 q396 q397 q2 q398) hdX1_daysOfItem ⟨Nat.le_of_ble_eq_true rfl, Nat.le_of_ble_eq_true rfl⟩ (zk_book hB1) (by decide) rfl rfl rfl rfl (Nat.le_of_ble_eq_true rfl) dX6_item_132 ⟨(Nat.zero_le _), (Nat.zero_le _)⟩ (fun H locs hZ hS => ?_)
    refine z_cVi (As := [.int (s_X1_daysOf fb g)]) (rest := []) hx hb hml hown hts hl hK hZ hS (c_X3_ageAfter l G μ (1 + (15 + j)) f (zk_item hB1 (by omega)) hf (s_X1_daysOf fb g)) (z_G q421 q422 q423 q5 q424) hdX3_ageAfter ⟨Nat.le_of_ble_eq_true rfl, Nat.le_of_ble_eq_true rfl⟩ (zk_item hB1 (by omega)) (by decide) rfl rfl rfl rfl (Nat.le_of_ble_eq_true rfl) dX6_item_135 ⟨(Nat.zero_le _), (Nat.zero_le _)⟩ (fun H locs hZ hS => ?_)
    exact z_iret hx hb hr hlk hK hZ hS ⟨rfl, rfl⟩ dX6_item_138
theorem hdX6_rest : yX6_rest.cls = RX6 ∧ yX6_rest.cls ≠ "java/lang/invoke/MethodHandle" ∧ yX6_rest.cls ≠ "java/lang/invoke/VarHandle" ∧ (parseMethodDescriptor yX6_rest.desc).map (fun d => d.parameters.length) = some 1 := by decide +kernel
set_option maxHeartbeats 4000000 in
set_option maxRecDepth 100000 in
theorem c_X6_rest (l : Launch) (G : zG) (μ : zM) (fb : Nat → Int32) (hfb : μ 1 = fb) (T I : Nat) (hT : fb 3 = nI T) (hI : fb 4 = nI I) (hT6 : T ≤ 6) (hI24 : I ≤ 24) (j h : Nat) (hj : j < I) (hh0 : h < T) (f : Nat → Int32) (hf : μ (1 + (15 + j)) = f) (he : f 0 = nI h) (g : Nat → Int32) (hg : μ (1 + (3 + 2 * h)) = g) : zMet l G yX6_rest cX6_rest 3 (some .float) 2 44 [.ref (G.1 + 0), .int (nI j)] μ (zQf G (s_X3_restAfter f (s_X1_daysOf fb g)) μ) := by
  refine z_start (lv := [(0, .ref (G.1 + 0)), (1, .int (nI j))]) (by decide) (Nat.le_of_ble_eq_true rfl) rfl ?_
  intro p e s m args below meth c ls hx hb hml hr hlk hts hown hK hZ hS hl
  have hown : s.vm.findClass RX6 = some m.cls := hown
  refine lv_aload_n hx hb dX6_rest_0 rfl (lv_at hl 0 rfl) ?_
  refine z_g0 (f := (μ 0)) (v := .ref (G.1 + 1)) 0 hx hb hts hown hK hZ zk0 rfl (by decide) q226 rfl dX6_rest_1 ?_
  refine lv_iload_n hx hb dX6_rest_4 rfl (lv_at hl 1 rfl) ?_
  refine z_cVr (As := [.int (nI j)]) (rest := []) hx hb hml hown hts hl hK hZ hS (c_X1_itemAt_ok l G μ 1 hB1 fb hfb I j hI hI24 (by omega)) (z_G q394 q274 q275 q2 q276) hdX1_itemAt ⟨Nat.le_of_ble_eq_true rfl, Nat.le_of_ble_eq_true rfl⟩ (zk_book hB1) (by decide) rfl rfl rfl rfl (Nat.le_of_ble_eq_true rfl) dX6_rest_5 ⟨(Nat.zero_le _), (Nat.zero_le _)⟩ (fun H locs hZ hS => ?_)
  refine lv_astore_n (lv' := [(2, .ref (G.1 + (1 + (15 + j)))), (0, .ref (G.1 + 0)), (1, .int (nI j))]) hx hb dX6_rest_8 rfl hl (by decide) rfl (fun ls hl => ?_)
  refine lv_aload_n hx hb dX6_rest_9 rfl (lv_at hl 0 rfl) ?_
  refine lv_ifnonnull (tgt := 16) hx hb dX6_rest_10 (by decide) ?_
  refine lv_aload_n hx hb dX6_rest_16 rfl (lv_at hl 0 rfl) ?_
  refine lv_aload_n hx hb dX6_rest_17 rfl (lv_at hl 1 rfl) ?_
  refine z_g0 (f := (μ 0)) (v := .ref (G.1 + 1)) 0 hx hb hts hown hK hZ zk0 rfl (by decide) q226 rfl dX6_rest_18 ?_
  refine lv_aload_n hx hb dX6_rest_21 rfl (lv_at hl 0 rfl) ?_
  refine z_cVi (As := [.ref (G.1 + (1 + (15 + j)))]) (rest := [.ref (G.1 + (1 + (15 + j)))]) hx hb hml hown hts hl hK hZ hS (c_X1_daysOfItem l G μ fb hfb (1 + (15 + j)) f (zk_item hB1 (by omega)) hf T h hT hT6 hh0 he g hg) (z_G q395 q396 q397 q2 q398) hdX1_daysOfItem ⟨Nat.le_of_ble_eq_true rfl, Nat.le_of_ble_eq_true rfl⟩ (zk_book hB1) (by decide) rfl rfl rfl rfl (Nat.le_of_ble_eq_true rfl) dX6_rest_22 ⟨(Nat.zero_le _), (Nat.zero_le _)⟩ (fun H locs hZ hS => ?_)
  refine z_cVf (As := [.int (s_X1_daysOf fb g)]) (rest := []) hx hb hml hown hts hl hK hZ hS (c_X3_restAfter l G μ (1 + (15 + j)) f (zk_item hB1 (by omega)) hf (s_X1_daysOf fb g)) (z_G q560 q497 q498 q5 q499) hdX3_restAfter ⟨Nat.le_of_ble_eq_true rfl, Nat.le_of_ble_eq_true rfl⟩ (zk_item hB1 (by omega)) (by decide) rfl rfl rfl rfl (Nat.le_of_ble_eq_true rfl) dX6_rest_25 ⟨(Nat.zero_le _), (Nat.zero_le _)⟩ (fun H locs hZ hS => ?_)
  exact z_fret hx hb hr hlk hK hZ hS ⟨rfl, rfl⟩ dX6_rest_28
set_option maxHeartbeats 4000000 in
set_option maxRecDepth 100000 in
theorem c_X6_rest_no (l : Launch) (G : zG) (μ : zM) (fb : Nat → Int32) (hfb : μ 1 = fb) (T I : Nat) (hT : fb 3 = nI T) (hI : fb 4 = nI I) (hT6 : T ≤ 6) (hI24 : I ≤ 24) (x : Int32) (hxx : x < 0 ∨ nI I ≤ x) : zMet l G yX6_rest cX6_rest 3 (some .float) 1 21 [.ref (G.1 + 0), .int x] μ (zQf G 2143289344 μ) := by
  refine z_start (lv := [(0, .ref (G.1 + 0)), (1, .int x)]) (by decide) (Nat.le_of_ble_eq_true rfl) rfl ?_
  intro p e s m args below meth c ls hx hb hml hr hlk hts hown hK hZ hS hl
  have hown : s.vm.findClass RX6 = some m.cls := hown
  refine lv_aload_n hx hb dX6_rest_0 rfl (lv_at hl 0 rfl) ?_
  refine z_g0 (f := (μ 0)) (v := .ref (G.1 + 1)) 0 hx hb hts hown hK hZ zk0 rfl (by decide) q226 rfl dX6_rest_1 ?_
  refine lv_iload_n hx hb dX6_rest_4 rfl (lv_at hl 1 rfl) ?_
  refine z_cVn (As := [.int x]) (rest := []) hx hb hml hown hts hl hK hZ hS (c_X1_itemAt_no l G μ 1 hB1 fb hfb I hI x hxx) (z_G q394 q274 q275 q2 q276) hdX1_itemAt ⟨Nat.le_of_ble_eq_true rfl, Nat.le_of_ble_eq_true rfl⟩ (zk_book hB1) (by decide) rfl rfl rfl rfl (Nat.le_of_ble_eq_true rfl) dX6_rest_5 ⟨(Nat.zero_le _), (Nat.zero_le _)⟩ (fun H locs hZ hS => ?_)
  refine lv_astore_nN (lv' := [(2, .null), (0, .ref (G.1 + 0)), (1, .int x)]) hx hb dX6_rest_8 rfl hl (by decide) rfl (fun ls hl => ?_)
  refine lv_aload_nN hx hb dX6_rest_9 rfl (lv_at hl 0 rfl) ?_
  refine lv_ifnonnullN hx hb dX6_rest_10 ?_
  refine lv_ldcf hx hb hown (hts _ q429) dX6_rest_13 ?_
  exact z_fret hx hb hr hlk hK hZ hS ⟨rfl, rfl⟩ dX6_rest_15
theorem hdX6_weight : yX6_weight.cls = RX6 ∧ yX6_weight.cls ≠ "java/lang/invoke/MethodHandle" ∧ yX6_weight.cls ≠ "java/lang/invoke/VarHandle" ∧ (parseMethodDescriptor yX6_weight.desc).map (fun d => d.parameters.length) = some 1 := by decide +kernel
set_option maxHeartbeats 4000000 in
set_option maxRecDepth 100000 in
theorem c_X6_weight (l : Launch) (G : zG) (μ : zM) (fb : Nat → Int32) (hfb : μ 1 = fb) (T I : Nat) (hT : fb 3 = nI T) (hI : fb 4 = nI I) (hT6 : T ≤ 6) (hI24 : I ≤ 24) (j : Nat) (hj : j < I) (f : Nat → Int32) (hf : μ (1 + (15 + j)) = f) : zMet l G yX6_weight cX6_weight 3 (some .float) 1 21 [.ref (G.1 + 0), .int (nI j)] μ (zQf G (s_X3_landlordWeight f) μ) := by
  refine z_start (lv := [(0, .ref (G.1 + 0)), (1, .int (nI j))]) (by decide) (Nat.le_of_ble_eq_true rfl) rfl ?_
  intro p e s m args below meth c ls hx hb hml hr hlk hts hown hK hZ hS hl
  have hown : s.vm.findClass RX6 = some m.cls := hown
  refine lv_aload_n hx hb dX6_weight_0 rfl (lv_at hl 0 rfl) ?_
  refine z_g0 (f := (μ 0)) (v := .ref (G.1 + 1)) 0 hx hb hts hown hK hZ zk0 rfl (by decide) q226 rfl dX6_weight_1 ?_
  refine lv_iload_n hx hb dX6_weight_4 rfl (lv_at hl 1 rfl) ?_
  refine z_cVr (As := [.int (nI j)]) (rest := []) hx hb hml hown hts hl hK hZ hS (c_X1_itemAt_ok l G μ 1 hB1 fb hfb I j hI hI24 (by omega)) (z_G q394 q274 q275 q2 q276) hdX1_itemAt ⟨Nat.le_of_ble_eq_true rfl, Nat.le_of_ble_eq_true rfl⟩ (zk_book hB1) (by decide) rfl rfl rfl rfl (Nat.le_of_ble_eq_true rfl) dX6_weight_5 ⟨(Nat.zero_le _), (Nat.zero_le _)⟩ (fun H locs hZ hS => ?_)
  refine lv_astore_n (lv' := [(2, .ref (G.1 + (1 + (15 + j)))), (0, .ref (G.1 + 0)), (1, .int (nI j))]) hx hb dX6_weight_8 rfl hl (by decide) rfl (fun ls hl => ?_)
  refine lv_aload_n hx hb dX6_weight_9 rfl (lv_at hl 0 rfl) ?_
  refine lv_ifnonnull (tgt := 16) hx hb dX6_weight_10 (by decide) ?_
  refine lv_aload_n hx hb dX6_weight_16 rfl (lv_at hl 0 rfl) ?_
  refine z_cVf (As := []) (rest := []) hx hb hml hown hts hl hK hZ hS (c_X3_landlordWeight l G μ (1 + (15 + j)) f (zk_item hB1 (by omega)) hf ) (z_G q430 q350 q351 q5 q352) hdX3_landlordWeight ⟨Nat.le_of_ble_eq_true rfl, Nat.le_of_ble_eq_true rfl⟩ (zk_item hB1 (by omega)) (by decide) rfl rfl rfl rfl (Nat.le_of_ble_eq_true rfl) dX6_weight_17 ⟨(Nat.zero_le _), (Nat.zero_le _)⟩ (fun H locs hZ hS => ?_)
  exact z_fret hx hb hr hlk hK hZ hS ⟨rfl, rfl⟩ dX6_weight_20
set_option maxHeartbeats 4000000 in
set_option maxRecDepth 100000 in
theorem c_X6_weight_no (l : Launch) (G : zG) (μ : zM) (fb : Nat → Int32) (hfb : μ 1 = fb) (T I : Nat) (hT : fb 3 = nI T) (hI : fb 4 = nI I) (hT6 : T ≤ 6) (hI24 : I ≤ 24) (x : Int32) (hxx : x < 0 ∨ nI I ≤ x) : zMet l G yX6_weight cX6_weight 3 (some .float) 1 21 [.ref (G.1 + 0), .int x] μ (zQf G 2143289344 μ) := by
  refine z_start (lv := [(0, .ref (G.1 + 0)), (1, .int x)]) (by decide) (Nat.le_of_ble_eq_true rfl) rfl ?_
  intro p e s m args below meth c ls hx hb hml hr hlk hts hown hK hZ hS hl
  have hown : s.vm.findClass RX6 = some m.cls := hown
  refine lv_aload_n hx hb dX6_weight_0 rfl (lv_at hl 0 rfl) ?_
  refine z_g0 (f := (μ 0)) (v := .ref (G.1 + 1)) 0 hx hb hts hown hK hZ zk0 rfl (by decide) q226 rfl dX6_weight_1 ?_
  refine lv_iload_n hx hb dX6_weight_4 rfl (lv_at hl 1 rfl) ?_
  refine z_cVn (As := [.int x]) (rest := []) hx hb hml hown hts hl hK hZ hS (c_X1_itemAt_no l G μ 1 hB1 fb hfb I hI x hxx) (z_G q394 q274 q275 q2 q276) hdX1_itemAt ⟨Nat.le_of_ble_eq_true rfl, Nat.le_of_ble_eq_true rfl⟩ (zk_book hB1) (by decide) rfl rfl rfl rfl (Nat.le_of_ble_eq_true rfl) dX6_weight_5 ⟨(Nat.zero_le _), (Nat.zero_le _)⟩ (fun H locs hZ hS => ?_)
  refine lv_astore_nN (lv' := [(2, .null), (0, .ref (G.1 + 0)), (1, .int x)]) hx hb dX6_weight_8 rfl hl (by decide) rfl (fun ls hl => ?_)
  refine lv_aload_nN hx hb dX6_weight_9 rfl (lv_at hl 0 rfl) ?_
  refine lv_ifnonnullN hx hb dX6_weight_10 ?_
  refine lv_ldcf hx hb hown (hts _ q429) dX6_weight_13 ?_
  exact z_fret hx hb hr hlk hK hZ hS ⟨rfl, rfl⟩ dX6_weight_15
def s_rsn (f : Nat → Int32) : Int32 := if f 7 = 0 then 0 else if f 8 = 2 then (if f 6 < f 7 then 3 else 2) else 1
theorem hdX6_reason : yX6_reason.cls = RX6 ∧ yX6_reason.cls ≠ "java/lang/invoke/MethodHandle" ∧ yX6_reason.cls ≠ "java/lang/invoke/VarHandle" ∧ (parseMethodDescriptor yX6_reason.desc).map (fun d => d.parameters.length) = some 1 := by decide +kernel
set_option maxHeartbeats 4000000 in
set_option maxRecDepth 100000 in
theorem c_X6_reason (l : Launch) (G : zG) (μ : zM) (fb : Nat → Int32) (hfb : μ 1 = fb) (T I : Nat) (hT : fb 3 = nI T) (hI : fb 4 = nI I) (hT6 : T ≤ 6) (hI24 : I ≤ 24) (j : Nat) (hj : j < I) (f : Nat → Int32) (hf : μ (1 + (15 + j)) = f) : zMet l G yX6_reason cX6_reason 3 (some .int) 1 21 [.ref (G.1 + 0), .int (nI j)] μ (zQi G (s_rsn f) μ) := by
  refine z_start (lv := [(0, .ref (G.1 + 0)), (1, .int (nI j))]) (by decide) (Nat.le_of_ble_eq_true rfl) rfl ?_
  intro p e s m args below meth c ls hx hb hml hr hlk hts hown hK hZ hS hl
  have hown : s.vm.findClass RX6 = some m.cls := hown
  refine lv_aload_n hx hb dX6_reason_0 rfl (lv_at hl 0 rfl) ?_
  refine z_g0 (f := (μ 0)) (v := .ref (G.1 + 1)) 0 hx hb hts hown hK hZ zk0 rfl (by decide) q226 rfl dX6_reason_1 ?_
  refine lv_iload_n hx hb dX6_reason_4 rfl (lv_at hl 1 rfl) ?_
  refine z_cVr (As := [.int (nI j)]) (rest := []) hx hb hml hown hts hl hK hZ hS (c_X1_itemAt_ok l G μ 1 hB1 fb hfb I j hI hI24 (by omega)) (z_G q394 q274 q275 q2 q276) hdX1_itemAt ⟨Nat.le_of_ble_eq_true rfl, Nat.le_of_ble_eq_true rfl⟩ (zk_book hB1) (by decide) rfl rfl rfl rfl (Nat.le_of_ble_eq_true rfl) dX6_reason_5 ⟨(Nat.zero_le _), (Nat.zero_le _)⟩ (fun H locs hZ hS => ?_)
  refine lv_astore_n (lv' := [(2, .ref (G.1 + (1 + (15 + j)))), (0, .ref (G.1 + 0)), (1, .int (nI j))]) hx hb dX6_reason_8 rfl hl (by decide) rfl (fun ls hl => ?_)
  refine lv_aload_n hx hb dX6_reason_9 rfl (lv_at hl 0 rfl) ?_
  refine lv_ifnonnull (tgt := 15) hx hb dX6_reason_10 (by decide) ?_
  refine lv_aload_n hx hb dX6_reason_15 rfl (lv_at hl 0 rfl) ?_
  refine z_g6 (f := f) (v := .int (f 7)) 7 hx hb hts hown hK hZ (zk_item hB1 (by omega)) hf (by decide) q114 rfl dX6_reason_16 ?_
  refine lv_if_ne (tgt := 24) hx hb dX6_reason_19 (by decide) (fun c_1 => ?_) (fun c_1 => ?_)
  · refine lv_aload_n hx hb dX6_reason_24 rfl (lv_at hl 0 rfl) ?_
    refine z_g6 (f := f) (v := .int (f 8)) 8 hx hb hts hown hK hZ (zk_item hB1 (by omega)) hf (by decide) q117 rfl dX6_reason_25 ?_
    refine lv_iconst (v := 2) hx hb dX6_reason_28 (by decide) ?_
    refine lv_icmp_eq (tgt := 34) hx hb dX6_reason_29 (by decide) (fun c_2 => ?_) (fun c_2 => ?_)
    · refine lv_aload_n hx hb dX6_reason_34 rfl (lv_at hl 0 rfl) ?_
      refine z_g6 (f := f) (v := .int (f 7)) 7 hx hb hts hown hK hZ (zk_item hB1 (by omega)) hf (by decide) q114 rfl dX6_reason_35 ?_
      refine lv_aload_n hx hb dX6_reason_38 rfl (lv_at hl 0 rfl) ?_
      refine z_g6 (f := f) (v := .int (f 6)) 6 hx hb hts hown hK hZ (zk_item hB1 (by omega)) hf (by decide) q111 rfl dX6_reason_39 ?_
      refine lv_icmp_gt (tgt := 49) hx hb dX6_reason_42 (by decide) (fun c_3 => ?_) (fun c_3 => ?_)
      · refine lv_iconst (v := 3) hx hb dX6_reason_49 (by decide) ?_
        exact z_iret hx hb hr hlk hK hZ hS ⟨by rw [s_rsn, if_neg c_1, if_pos c_2, if_pos c_3], rfl⟩ dX6_reason_50
      · refine lv_iconst (v := 2) hx hb dX6_reason_45 (by decide) ?_
        refine lv_goto (tgt := 50) hx hb dX6_reason_46 (by decide) ?_
        exact z_iret hx hb hr hlk hK hZ hS ⟨by rw [s_rsn, if_neg c_1, if_pos c_2, if_neg c_3], rfl⟩ dX6_reason_50
    · refine lv_iconst (v := 1) hx hb dX6_reason_32 (by decide) ?_
      exact z_iret hx hb hr hlk hK hZ hS ⟨by rw [s_rsn, if_neg c_1, if_neg c_2], rfl⟩ dX6_reason_33
  · refine lv_iconst (v := 0) hx hb dX6_reason_22 (by decide) ?_
    exact z_iret hx hb hr hlk hK hZ hS ⟨by rw [s_rsn, if_pos c_1], rfl⟩ dX6_reason_23
def s_oc (μ : zM) (fb g gs : Nat → Int32) (t I w : Nat) : Int32 := if g 2 = 0 then -4 else if g 2 = 3 then s_X4_fact gs w else s_X4_fact (s_settle μ fb g t I) w
def m_oc (μ : zM) (fb g : Nat → Int32) (t I : Nat) : zM := if g 2 = 0 then μ else if g 2 = 3 then μ else zr μ 242 (s_settle μ fb g t I)
theorem hdX6_outcome : yX6_outcome.cls = RX6 ∧ yX6_outcome.cls ≠ "java/lang/invoke/MethodHandle" ∧ yX6_outcome.cls ≠ "java/lang/invoke/VarHandle" ∧ (parseMethodDescriptor yX6_outcome.desc).map (fun d => d.parameters.length) = some 2 := by decide +kernel
set_option maxHeartbeats 4000000 in
set_option maxRecDepth 100000 in
theorem c_X6_outcome (l : Launch) (G : zG) (μ : zM) (fb : Nat → Int32) (hfb : μ 1 = fb) (T I : Nat) (hT : fb 3 = nI T) (hI : fb 4 = nI I) (hT6 : T ≤ 6) (hI24 : I ≤ 24) (t : Nat) (ht : t < T) (g : Nat → Int32) (hg : μ (1 + (3 + 2 * t)) = g) (gs : Nat → Int32) (hgs : μ (1 + (3 + 2 * t) + 1) = gs) (hr8 : fK 125 (Int32.toUInt32 (fb 2))) (w : Nat) (hw : w ≤ 5) : zMet l G yX6_outcome cX6_outcome 4 (some .int) 5 115 [.ref (G.1 + 0), .int (nI t), .int (nI w)] μ (zQi G (s_oc μ fb g gs t I w) (m_oc μ fb g t I)) := by
  refine z_start (lv := [(0, .ref (G.1 + 0)), (1, .int (nI t)), (2, .int (nI w))]) (by decide) (Nat.le_of_ble_eq_true rfl) rfl ?_
  intro p e s m args below meth c ls hx hb hml hr hlk hts hown hK hZ hS hl
  have hown : s.vm.findClass RX6 = some m.cls := hown
  refine lv_aload_n hx hb dX6_outcome_0 rfl (lv_at hl 0 rfl) ?_
  refine z_g0 (f := (μ 0)) (v := .ref (G.1 + 1)) 0 hx hb hts hown hK hZ zk0 rfl (by decide) q226 rfl dX6_outcome_1 ?_
  refine lv_iload_n hx hb dX6_outcome_4 rfl (lv_at hl 1 rfl) ?_
  refine z_cVr (As := [.int (nI t)]) (rest := []) hx hb hml hown hts hl hK hZ hS (c_X1_tenancyAt_ok l G μ 1 hB1 fb hfb T t hT hT6 (by omega)) (z_G q306 q262 q263 q2 q264) hdX1_tenancyAt ⟨Nat.le_of_ble_eq_true rfl, Nat.le_of_ble_eq_true rfl⟩ (zk_book hB1) (by decide) rfl rfl rfl rfl (Nat.le_of_ble_eq_true rfl) dX6_outcome_5 ⟨(Nat.zero_le _), (Nat.zero_le _)⟩ (fun H locs hZ hS => ?_)
  refine lv_astore_n (lv' := [(3, .ref (G.1 + (1 + (3 + 2 * t)))), (0, .ref (G.1 + 0)), (1, .int (nI t)), (2, .int (nI w))]) hx hb dX6_outcome_8 rfl hl (by decide) rfl (fun ls hl => ?_)
  refine lv_aload_n hx hb dX6_outcome_9 rfl (lv_at hl 0 rfl) ?_
  refine lv_ifnonnull (tgt := 15) hx hb dX6_outcome_10 (by decide) ?_
  refine lv_iload_n hx hb dX6_outcome_15 rfl (lv_at hl 3 rfl) ?_
  refine lv_iconst (v := 0) hx hb dX6_outcome_16 (by decide) ?_
  refine lv_iconst (v := 5) hx hb dX6_outcome_17 (by decide) ?_
  refine z_cSi (As := [.int (nI w), .int 0, .int 5]) (rest := []) hx hb hml hown hts hl hK hZ hS (c_X6_outside l G μ (nI w) 0 5) (z_GS q358 q359 q1 q360) hdX6_outside ⟨Nat.le_of_ble_eq_true rfl, Nat.le_of_ble_eq_true rfl⟩ rfl rfl (Nat.le_of_ble_eq_true rfl) dX6_outcome_18 ⟨(Nat.zero_le _), (Nat.zero_le _)⟩ (fun H locs hZ hS => ?_)
  refine lv_if_eq (tgt := 27) hx hb dX6_outcome_21 (by decide) (fun c_1 => ?_) (fun c_1 => ?_)
  · refine lv_aload_n hx hb dX6_outcome_27 rfl (lv_at hl 0 rfl) ?_
    refine z_g4 (f := g) (v := .int (g 2)) 2 hx hb hts hown hK hZ (zk_ten hB1 (by omega)) hg (by decide) q66 rfl dX6_outcome_28 ?_
    refine lv_if_ne (tgt := 37) hx hb dX6_outcome_31 (by decide) (fun c_2 => ?_) (fun c_2 => ?_)
    · refine lv_aload_n hx hb dX6_outcome_37 rfl (lv_at hl 0 rfl) ?_
      refine z_g4 (f := g) (v := .int (g 2)) 2 hx hb hts hown hK hZ (zk_ten hB1 (by omega)) hg (by decide) q66 rfl dX6_outcome_38 ?_
      refine lv_iconst (v := 3) hx hb dX6_outcome_41 (by decide) ?_
      refine lv_icmp_ne (tgt := 54) hx hb dX6_outcome_42 (by decide) (fun c_3 => ?_) (fun c_3 => ?_)
      · refine lv_aload_n hx hb dX6_outcome_54 rfl (lv_at hl 1 rfl) ?_
        refine z_g0 (f := (μ 0)) (v := .ref (G.1 + 1)) 0 hx hb hts hown hK hZ zk0 rfl (by decide) q226 rfl dX6_outcome_55 ?_
        refine lv_iload_n hx hb dX6_outcome_58 rfl (lv_at hl 2 rfl) ?_
        refine lv_aload_n hx hb dX6_outcome_59 rfl (lv_at hl 0 rfl) ?_
        refine lv_aload_n hx hb dX6_outcome_60 rfl (lv_at hl 1 rfl) ?_
        refine z_g0 (f := (μ 0)) (v := .ref (G.1 + 242)) 4 hx hb hts hown hK hZ zk0 rfl (by decide) q230 rfl dX6_outcome_61 ?_
        refine z_cVv (As := [.int (nI t), .ref (G.1 + (1 + (3 + 2 * t))), .ref (G.1 + 242)]) (rest := []) hx hb hml hown hts hl hK hZ hS (c_X1_settle l G μ fb hfb I hI hI24 t (1 + (3 + 2 * t)) g (zk_ten hB1 (by omega)) hg 242 zk242 (by omega) (by omega) (fun j hj => by omega) hr8) (z_G q365 q366 q367 q2 q368) hdX1_settle ⟨Nat.le_of_ble_eq_true rfl, Nat.le_of_ble_eq_true rfl⟩ (zk_book hB1) (by decide) rfl rfl rfl rfl (Nat.le_of_ble_eq_true rfl) dX6_outcome_64 ⟨(Nat.zero_le _), (Nat.zero_le _)⟩ (fun H locs hZ hS => ?_)
        refine lv_aload_n hx hb dX6_outcome_67 rfl (lv_at hl 1 rfl) ?_
        refine z_g0 (f := ((zr μ 242 (s_settle μ fb g t I)) 0)) (v := .ref (G.1 + 242)) 4 hx hb hts hown hK hZ zk0 rfl (by decide) q230 rfl dX6_outcome_68 ?_
        refine lv_iload_n hx hb dX6_outcome_71 rfl (lv_at hl 3 rfl) ?_
        refine z_cVi (As := [.int (nI w)]) (rest := []) hx hb hml hown hts hl hK hZ hS (c_X4_fact l G (zr μ 242 (s_settle μ fb g t I)) 242 (s_settle μ fb g t I) zk242 zr_same w (by omega) (by omega)) (z_G q361 q362 q363 q4 q364) hdX4_fact ⟨Nat.le_of_ble_eq_true rfl, Nat.le_of_ble_eq_true rfl⟩ zk242 (by decide) rfl rfl rfl rfl (Nat.le_of_ble_eq_true rfl) dX6_outcome_72 ⟨(Nat.zero_le _), (Nat.zero_le _)⟩ (fun H locs hZ hS => ?_)
        exact z_iret hx hb hr hlk hK hZ hS ⟨by rw [s_oc, if_neg c_2, if_neg c_3], by rw [m_oc, if_neg c_2, if_neg c_3]⟩ dX6_outcome_75
      · refine lv_aload_n hx hb dX6_outcome_45 rfl (lv_at hl 0 rfl) ?_
        refine z_g4 (f := g) (v := .ref (G.1 + ((1 + (3 + 2 * t)) + 1))) 6 hx hb hts hown hK hZ (zk_ten hB1 (by omega)) hg (by decide) q78 rfl dX6_outcome_46 ?_
        refine lv_iload_n hx hb dX6_outcome_49 rfl (lv_at hl 3 rfl) ?_
        refine z_cVi (As := [.int (nI w)]) (rest := []) hx hb hml hown hts hl hK hZ hS (c_X4_fact l G μ ((1 + (3 + 2 * t)) + 1) gs (zk_set1 hB1 (by omega)) hgs w (by omega) (by omega)) (z_G q361 q362 q363 q4 q364) hdX4_fact ⟨Nat.le_of_ble_eq_true rfl, Nat.le_of_ble_eq_true rfl⟩ (zk_set1 hB1 (by omega)) (by decide) rfl rfl rfl rfl (Nat.le_of_ble_eq_true rfl) dX6_outcome_50 ⟨(Nat.zero_le _), (Nat.zero_le _)⟩ (fun H locs hZ hS => ?_)
        exact z_iret hx hb hr hlk hK hZ hS ⟨by rw [s_oc, if_neg c_2, if_pos c_3], by rw [m_oc, if_neg c_2, if_pos c_3]⟩ dX6_outcome_53
    · refine lv_bipush (v := (-4)) hx hb dX6_outcome_34 (by decide) ?_
      exact z_iret hx hb hr hlk hK hZ hS ⟨by rw [s_oc, if_pos c_2], by rw [m_oc, if_pos c_2]⟩ dX6_outcome_36
  · exact absurd (s_outw hw) c_1
end
section
def p_setRate (μ : zM) (fb : Nat → Int32) (o z T I : Nat) (x : Int32) : Int32 × zM := if (s_out x 0 1045220557) = 0 then if (Op.cmpValue (FP.fcmp (s_rate x) (Int32.toUInt32 (fb 2))) CmpOp.l) = 0 then ((-5), μ)
    else (1, (zr (zp μ o z T I) 1 (zu fb 2 (UInt32.toInt32 (s_rate x)))))
  else ((-2), μ)
theorem hdX6_setRate : yX6_setRate.cls = RX6 ∧ yX6_setRate.cls ≠ "java/lang/invoke/MethodHandle" ∧ yX6_setRate.cls ≠ "java/lang/invoke/VarHandle" ∧ (parseMethodDescriptor yX6_setRate.desc).map (fun d => d.parameters.length) = some 1 := by decide +kernel
set_option maxHeartbeats 4000000 in
set_option maxRecDepth 100000 in
theorem c_X6_setRate (l : Launch) (G : zG) (μ : zM) (fb hh : Nat → Int32) (hfb : μ 1 = fb) (hfh : μ 79 = hh) (T I o z : Nat) (hT : fb 3 = nI T) (hI : fb 4 = nI I) (hT6 : T ≤ 6) (hI24 : I ≤ 24) (ho : hh 1 = nI o) (hz : hh 2 = nI z) (ho4 : o < 4) (hz4 : z ≤ 4) (x : Int32) : zMet l G yX6_setRate cX6_setRate 3 (some .int) 4 88 [.ref (G.1 + 0), .int x] μ (zQi G (p_setRate μ fb o z T I x).1 (p_setRate μ fb o z T I x).2) := by
  refine z_start (lv := [(0, .ref (G.1 + 0)), (1, .int x)]) (by decide) (Nat.le_of_ble_eq_true rfl) rfl ?_
  intro p e s m args below meth c ls hx hb hml hr hlk hts hown hK hZ hS hl
  have hown : s.vm.findClass RX6 = some m.cls := hown
  refine lv_iload_n hx hb dX6_setRate_0 rfl (lv_at hl 1 rfl) ?_
  refine lv_iconst (v := 0) hx hb dX6_setRate_1 (by decide) ?_
  refine lv_ldc hx hb hown (hts _ q543) dX6_setRate_2 ?_
  refine z_cSi (As := [.int x, .int 0, .int 1045220557]) (rest := []) hx hb hml hown hts hl hK hZ hS (c_X6_outside l G μ x 0 1045220557) (z_GS q358 q359 q1 q360) hdX6_outside ⟨Nat.le_of_ble_eq_true rfl, Nat.le_of_ble_eq_true rfl⟩ rfl rfl (Nat.le_of_ble_eq_true rfl) dX6_setRate_4 ⟨(Nat.zero_le _), (Nat.zero_le _)⟩ (fun H locs hZ hS => ?_)
  refine lv_if_eq (tgt := 13) hx hb dX6_setRate_7 (by decide) (fun c_1 => ?_) (fun c_1 => ?_)
  · refine lv_iload_n hx hb dX6_setRate_13 rfl (lv_at hl 1 rfl) ?_
    refine z_cSf (As := [.int x]) (rest := []) hx hb hml hown hts hl hK hZ hS (c_X6_floatOf l G μ x c_1) (z_GS q544 q545 q1 q546) hdX6_floatOf ⟨Nat.le_of_ble_eq_true rfl, Nat.le_of_ble_eq_true rfl⟩ rfl rfl (Nat.le_of_ble_eq_true rfl) dX6_setRate_14 ⟨(Nat.zero_le _), (Nat.zero_le _)⟩ (fun H locs hZ hS => ?_)
    refine lv_fstore_n (lv' := [(2, .float (s_rate x)), (0, .ref (G.1 + 0)), (1, .int x)]) hx hb dX6_setRate_17 rfl hl (by decide) rfl (fun ls hl => ?_)
    refine lv_fload_n hx hb dX6_setRate_18 rfl (lv_at hl 0 rfl) ?_
    refine lv_aload_n hx hb dX6_setRate_19 rfl (lv_at hl 1 rfl) ?_
    refine z_g0 (f := (μ 0)) (v := .ref (G.1 + 1)) 0 hx hb hts hown hK hZ zk0 rfl (by decide) q226 rfl dX6_setRate_20 ?_
    refine z_g1 (f := fb) (v := .float (Int32.toUInt32 (fb 2))) 2 hx hb hts hown hK hZ (zk_book hB1) hfb (by decide) q151 rfl dX6_setRate_23 ?_
    refine lv_fcmp hx hb dX6_setRate_26 ?_
    refine lv_if_ne (tgt := 33) hx hb dX6_setRate_27 (by decide) (fun c_2 => ?_) (fun c_2 => ?_)
    · refine lv_aload_n hx hb dX6_setRate_33 rfl (lv_at hl 1 rfl) ?_
      refine z_g0 (f := (μ 0)) (v := .ref (G.1 + 79)) 2 hx hb hts hown hK hZ zk0 rfl (by decide) q228 rfl dX6_setRate_34 ?_
      refine lv_aload_n hx hb dX6_setRate_37 rfl (lv_at hl 1 rfl) ?_
      refine z_g0 (f := (μ 0)) (v := .ref (G.1 + 1)) 0 hx hb hts hown hK hZ zk0 rfl (by decide) q226 rfl dX6_setRate_38 ?_
      refine z_cVv (As := [.ref (G.1 + 1)]) (rest := []) hx hb hml hown hts hl hK hZ hS (c_X2_push l G μ hh hfh o ho ho4 z hz hz4 fb hfb T I hT hI hT6 hI24) (z_G q289 q290 q291 q6 q292) hdX2_push ⟨Nat.le_of_ble_eq_true rfl, Nat.le_of_ble_eq_true rfl⟩ zk79 (by decide) rfl rfl rfl rfl (Nat.le_of_ble_eq_true rfl) dX6_setRate_41 ⟨(Nat.zero_le _), (Nat.zero_le _)⟩ (fun H locs hZ hS => ?_)
      refine lv_aload_n hx hb dX6_setRate_44 rfl (lv_at hl 1 rfl) ?_
      refine z_g0 (f := ((zp μ o z T I) 0)) (v := .ref (G.1 + 1)) 0 hx hb hts hown hK hZ zk0 rfl (by decide) q226 rfl dX6_setRate_45 ?_
      refine lv_fload_n hx hb dX6_setRate_48 rfl (lv_at hl 0 rfl) ?_
      refine z_p1f (f := fb) (μ1 := (zr (zp μ o z T I) 1 (zu fb 2 (UInt32.toInt32 (s_rate x))))) 2 hx hb hts hown hK hZ hS (zk_book hB1) ((zp_ne (by omega)).trans hfb) (by decide) q151 rfl pfd_F rfl rfl dX6_setRate_49 (fun H locs hZ hS => ?_)
      refine lv_iconst (v := 1) hx hb dX6_setRate_52 (by decide) ?_
      exact z_iret hx hb hr hlk hK hZ hS ⟨by rw [p_setRate, if_pos c_1, if_neg c_2], by rw [p_setRate, if_pos c_1, if_neg c_2]⟩ dX6_setRate_53
    · refine lv_bipush (v := (-5)) hx hb dX6_setRate_30 (by decide) ?_
      exact z_iret hx hb hr hlk hK hZ hS ⟨by rw [p_setRate, if_pos c_1, if_pos c_2], by rw [p_setRate, if_pos c_1, if_pos c_2]⟩ dX6_setRate_32
  · refine lv_bipush (v := (-2)) hx hb dX6_setRate_10 (by decide) ?_
    exact z_iret hx hb hr hlk hK hZ hS ⟨by rw [p_setRate, if_neg c_1], by rw [p_setRate, if_neg c_1]⟩ dX6_setRate_12
def p_setFee (μ : zM) (fb : Nat → Int32) (o z T I : Nat) (x : Int32) : Int32 × zM := if (s_out x 0 50000) = 0 then if (fb 1) = x then ((-5), μ)
    else ((fb 1), (zr (zp μ o z T I) 1 (zu fb 1 x)))
  else ((-2), μ)
theorem hdX6_setFee : yX6_setFee.cls = RX6 ∧ yX6_setFee.cls ≠ "java/lang/invoke/MethodHandle" ∧ yX6_setFee.cls ≠ "java/lang/invoke/VarHandle" ∧ (parseMethodDescriptor yX6_setFee.desc).map (fun d => d.parameters.length) = some 1 := by decide +kernel
set_option maxHeartbeats 4000000 in
set_option maxRecDepth 100000 in
theorem c_X6_setFee (l : Launch) (G : zG) (μ : zM) (fb hh : Nat → Int32) (hfb : μ 1 = fb) (hfh : μ 79 = hh) (T I o z : Nat) (hT : fb 3 = nI T) (hI : fb 4 = nI I) (hT6 : T ≤ 6) (hI24 : I ≤ 24) (ho : hh 1 = nI o) (hz : hh 2 = nI z) (ho4 : o < 4) (hz4 : z ≤ 4) (x : Int32) : zMet l G yX6_setFee cX6_setFee 3 (some .int) 4 88 [.ref (G.1 + 0), .int x] μ (zQi G (p_setFee μ fb o z T I x).1 (p_setFee μ fb o z T I x).2) := by
  refine z_start (lv := [(0, .ref (G.1 + 0)), (1, .int x)]) (by decide) (Nat.le_of_ble_eq_true rfl) rfl ?_
  intro p e s m args below meth c ls hx hb hml hr hlk hts hown hK hZ hS hl
  have hown : s.vm.findClass RX6 = some m.cls := hown
  refine lv_iload_n hx hb dX6_setFee_0 rfl (lv_at hl 1 rfl) ?_
  refine lv_iconst (v := 0) hx hb dX6_setFee_1 (by decide) ?_
  refine lv_ldc hx hb hown (hts _ q537) dX6_setFee_2 ?_
  refine z_cSi (As := [.int x, .int 0, .int 50000]) (rest := []) hx hb hml hown hts hl hK hZ hS (c_X6_outside l G μ x 0 50000) (z_GS q358 q359 q1 q360) hdX6_outside ⟨Nat.le_of_ble_eq_true rfl, Nat.le_of_ble_eq_true rfl⟩ rfl rfl (Nat.le_of_ble_eq_true rfl) dX6_setFee_4 ⟨(Nat.zero_le _), (Nat.zero_le _)⟩ (fun H locs hZ hS => ?_)
  refine lv_if_eq (tgt := 13) hx hb dX6_setFee_7 (by decide) (fun c_1 => ?_) (fun c_1 => ?_)
  · refine lv_aload_n hx hb dX6_setFee_13 rfl (lv_at hl 0 rfl) ?_
    refine z_g0 (f := (μ 0)) (v := .ref (G.1 + 1)) 0 hx hb hts hown hK hZ zk0 rfl (by decide) q226 rfl dX6_setFee_14 ?_
    refine z_g1 (f := fb) (v := .int (fb 1)) 1 hx hb hts hown hK hZ (zk_book hB1) hfb (by decide) q149 rfl dX6_setFee_17 ?_
    refine lv_istore_n (lv' := [(2, .int (fb 1)), (0, .ref (G.1 + 0)), (1, .int x)]) hx hb dX6_setFee_20 rfl hl (by decide) rfl (fun ls hl => ?_)
    refine lv_iload_n hx hb dX6_setFee_21 rfl (lv_at hl 0 rfl) ?_
    refine lv_iload_n hx hb dX6_setFee_22 rfl (lv_at hl 2 rfl) ?_
    refine lv_icmp_ne (tgt := 29) hx hb dX6_setFee_23 (by decide) (fun c_2 => ?_) (fun c_2 => ?_)
    · refine lv_aload_n hx hb dX6_setFee_29 rfl (lv_at hl 1 rfl) ?_
      refine z_g0 (f := (μ 0)) (v := .ref (G.1 + 79)) 2 hx hb hts hown hK hZ zk0 rfl (by decide) q228 rfl dX6_setFee_30 ?_
      refine lv_aload_n hx hb dX6_setFee_33 rfl (lv_at hl 1 rfl) ?_
      refine z_g0 (f := (μ 0)) (v := .ref (G.1 + 1)) 0 hx hb hts hown hK hZ zk0 rfl (by decide) q226 rfl dX6_setFee_34 ?_
      refine z_cVv (As := [.ref (G.1 + 1)]) (rest := []) hx hb hml hown hts hl hK hZ hS (c_X2_push l G μ hh hfh o ho ho4 z hz hz4 fb hfb T I hT hI hT6 hI24) (z_G q289 q290 q291 q6 q292) hdX2_push ⟨Nat.le_of_ble_eq_true rfl, Nat.le_of_ble_eq_true rfl⟩ zk79 (by decide) rfl rfl rfl rfl (Nat.le_of_ble_eq_true rfl) dX6_setFee_37 ⟨(Nat.zero_le _), (Nat.zero_le _)⟩ (fun H locs hZ hS => ?_)
      refine lv_aload_n hx hb dX6_setFee_40 rfl (lv_at hl 1 rfl) ?_
      refine z_g0 (f := ((zp μ o z T I) 0)) (v := .ref (G.1 + 1)) 0 hx hb hts hown hK hZ zk0 rfl (by decide) q226 rfl dX6_setFee_41 ?_
      refine lv_iload_n hx hb dX6_setFee_44 rfl (lv_at hl 2 rfl) ?_
      refine z_p1 (f := fb) (μ1 := (zr (zp μ o z T I) 1 (zu fb 1 x))) 1 hx hb hts hown hK hZ hS (zk_book hB1) ((zp_ne (by omega)).trans hfb) (by decide) q149 rfl pfd_I rfl rfl dX6_setFee_45 (fun H locs hZ hS => ?_)
      refine lv_iload_n hx hb dX6_setFee_48 rfl (lv_at hl 0 rfl) ?_
      exact z_iret hx hb hr hlk hK hZ hS ⟨by rw [p_setFee, if_pos c_1, if_neg c_2], by rw [p_setFee, if_pos c_1, if_neg c_2]⟩ dX6_setFee_49
    · refine lv_bipush (v := (-5)) hx hb dX6_setFee_26 (by decide) ?_
      exact z_iret hx hb hr hlk hK hZ hS ⟨by rw [p_setFee, if_pos c_1, if_pos c_2], by rw [p_setFee, if_pos c_1, if_pos c_2]⟩ dX6_setFee_28
  · refine lv_bipush (v := (-2)) hx hb dX6_setFee_10 (by decide) ?_
    exact z_iret hx hb hr hlk hK hZ hS ⟨by rw [p_setFee, if_neg c_1], by rw [p_setFee, if_neg c_1]⟩ dX6_setFee_12
def p_pass (μ : zM) (fb : Nat → Int32) (o z T I : Nat) (x : Int32) : Int32 × zM := if (s_out x 1 1000) = 0 then if ((fb 0) + x) ≤ 99999 then (((fb 0) + x), (zr (zp μ o z T I) 1 (zu fb 0 ((fb 0) + x))))
    else ((-3), μ)
  else ((-2), μ)
theorem hdX6_pass : yX6_pass.cls = RX6 ∧ yX6_pass.cls ≠ "java/lang/invoke/MethodHandle" ∧ yX6_pass.cls ≠ "java/lang/invoke/VarHandle" ∧ (parseMethodDescriptor yX6_pass.desc).map (fun d => d.parameters.length) = some 1 := by decide +kernel
set_option maxHeartbeats 4000000 in
set_option maxRecDepth 100000 in
theorem c_X6_pass (l : Launch) (G : zG) (μ : zM) (fb hh : Nat → Int32) (hfb : μ 1 = fb) (hfh : μ 79 = hh) (T I o z : Nat) (hT : fb 3 = nI T) (hI : fb 4 = nI I) (hT6 : T ≤ 6) (hI24 : I ≤ 24) (ho : hh 1 = nI o) (hz : hh 2 = nI z) (ho4 : o < 4) (hz4 : z ≤ 4) (x : Int32) : zMet l G yX6_pass cX6_pass 2 (some .int) 4 88 [.ref (G.1 + 0), .int x] μ (zQi G (p_pass μ fb o z T I x).1 (p_pass μ fb o z T I x).2) := by
  refine z_start (lv := [(0, .ref (G.1 + 0)), (1, .int x)]) (by decide) (Nat.le_of_ble_eq_true rfl) rfl ?_
  intro p e s m args below meth c ls hx hb hml hr hlk hts hown hK hZ hS hl
  have hown : s.vm.findClass RX6 = some m.cls := hown
  refine lv_iload_n hx hb dX6_pass_0 rfl (lv_at hl 1 rfl) ?_
  refine lv_iconst (v := 1) hx hb dX6_pass_1 (by decide) ?_
  refine lv_sipush (v := 1000) hx hb dX6_pass_2 (by decide) ?_
  refine z_cSi (As := [.int x, .int 1, .int 1000]) (rest := []) hx hb hml hown hts hl hK hZ hS (c_X6_outside l G μ x 1 1000) (z_GS q358 q359 q1 q360) hdX6_outside ⟨Nat.le_of_ble_eq_true rfl, Nat.le_of_ble_eq_true rfl⟩ rfl rfl (Nat.le_of_ble_eq_true rfl) dX6_pass_5 ⟨(Nat.zero_le _), (Nat.zero_le _)⟩ (fun H locs hZ hS => ?_)
  refine lv_if_eq (tgt := 14) hx hb dX6_pass_8 (by decide) (fun c_1 => ?_) (fun c_1 => ?_)
  · refine lv_aload_n hx hb dX6_pass_14 rfl (lv_at hl 0 rfl) ?_
    refine z_g0 (f := (μ 0)) (v := .ref (G.1 + 1)) 0 hx hb hts hown hK hZ zk0 rfl (by decide) q226 rfl dX6_pass_15 ?_
    refine z_g1 (f := fb) (v := .int (fb 0)) 0 hx hb hts hown hK hZ (zk_book hB1) hfb (by decide) q147 rfl dX6_pass_18 ?_
    refine lv_iload_n hx hb dX6_pass_21 rfl (lv_at hl 1 rfl) ?_
    refine lv_iadd hx hb dX6_pass_22 ?_
    refine lv_ldc hx hb hown (hts _ q475) dX6_pass_23 ?_
    refine lv_icmp_le (tgt := 31) hx hb dX6_pass_25 (by decide) (fun c_2 => ?_) (fun c_2 => ?_)
    · refine lv_aload_n hx hb dX6_pass_31 rfl (lv_at hl 0 rfl) ?_
      refine z_g0 (f := (μ 0)) (v := .ref (G.1 + 79)) 2 hx hb hts hown hK hZ zk0 rfl (by decide) q228 rfl dX6_pass_32 ?_
      refine lv_aload_n hx hb dX6_pass_35 rfl (lv_at hl 0 rfl) ?_
      refine z_g0 (f := (μ 0)) (v := .ref (G.1 + 1)) 0 hx hb hts hown hK hZ zk0 rfl (by decide) q226 rfl dX6_pass_36 ?_
      refine z_cVv (As := [.ref (G.1 + 1)]) (rest := []) hx hb hml hown hts hl hK hZ hS (c_X2_push l G μ hh hfh o ho ho4 z hz hz4 fb hfb T I hT hI hT6 hI24) (z_G q289 q290 q291 q6 q292) hdX2_push ⟨Nat.le_of_ble_eq_true rfl, Nat.le_of_ble_eq_true rfl⟩ zk79 (by decide) rfl rfl rfl rfl (Nat.le_of_ble_eq_true rfl) dX6_pass_39 ⟨(Nat.zero_le _), (Nat.zero_le _)⟩ (fun H locs hZ hS => ?_)
      refine lv_aload_n hx hb dX6_pass_42 rfl (lv_at hl 0 rfl) ?_
      refine z_g0 (f := ((zp μ o z T I) 0)) (v := .ref (G.1 + 1)) 0 hx hb hts hown hK hZ zk0 rfl (by decide) q226 rfl dX6_pass_43 ?_
      refine lv_dup hx hb dX6_pass_46 rfl ?_
      refine z_g1 (f := fb) (v := .int (fb 0)) 0 hx hb hts hown hK hZ (zk_book hB1) ((zp_ne (by omega)).trans hfb) (by decide) q147 rfl dX6_pass_47 ?_
      refine lv_iload_n hx hb dX6_pass_50 rfl (lv_at hl 1 rfl) ?_
      refine lv_iadd hx hb dX6_pass_51 ?_
      refine z_p1 (f := fb) (μ1 := (zr (zp μ o z T I) 1 (zu fb 0 ((fb 0) + x)))) 0 hx hb hts hown hK hZ hS (zk_book hB1) ((zp_ne (by omega)).trans hfb) (by decide) q147 rfl pfd_I rfl rfl dX6_pass_52 (fun H locs hZ hS => ?_)
      refine lv_aload_n hx hb dX6_pass_55 rfl (lv_at hl 0 rfl) ?_
      refine z_g0 (f := ((zr (zp μ o z T I) 1 (zu fb 0 ((fb 0) + x))) 0)) (v := .ref (G.1 + 1)) 0 hx hb hts hown hK hZ zk0 rfl (by decide) q226 rfl dX6_pass_56 ?_
      refine z_g1 (f := (zu fb 0 ((fb 0) + x))) (v := .int ((fb 0) + x)) 0 hx hb hts hown hK hZ (zk_book hB1) zr_same (by decide) q147 rfl dX6_pass_59 ?_
      exact z_iret hx hb hr hlk hK hZ hS ⟨by rw [p_pass, if_pos c_1, if_pos c_2], by rw [p_pass, if_pos c_1, if_pos c_2]⟩ dX6_pass_62
    · refine lv_bipush (v := (-3)) hx hb dX6_pass_28 (by decide) ?_
      exact z_iret hx hb hr hlk hK hZ hS ⟨by rw [p_pass, if_pos c_1, if_neg c_2], by rw [p_pass, if_pos c_1, if_neg c_2]⟩ dX6_pass_30
  · refine lv_bipush (v := (-2)) hx hb dX6_pass_11 (by decide) ?_
    exact z_iret hx hb hr hlk hK hZ hS ⟨by rw [p_pass, if_neg c_1], by rw [p_pass, if_neg c_1]⟩ dX6_pass_13
def p_begin (μ : zM) (fb : Nat → Int32) (o z T I : Nat) (x : Int32) : Int32 × zM := if (s_out x 1000 1000000) = 0 then if nI T < 6 then (nI T, (m_addT (zp μ o z T I) fb T x))
    else ((-3), μ)
  else ((-2), μ)
theorem hdX6_begin : yX6_begin.cls = RX6 ∧ yX6_begin.cls ≠ "java/lang/invoke/MethodHandle" ∧ yX6_begin.cls ≠ "java/lang/invoke/VarHandle" ∧ (parseMethodDescriptor yX6_begin.desc).map (fun d => d.parameters.length) = some 1 := by decide +kernel
set_option maxHeartbeats 4000000 in
set_option maxRecDepth 100000 in
theorem c_X6_begin (l : Launch) (G : zG) (μ : zM) (fb hh : Nat → Int32) (hfb : μ 1 = fb) (hfh : μ 79 = hh) (T I o z : Nat) (hT : fb 3 = nI T) (hI : fb 4 = nI I) (hT6 : T ≤ 6) (hI24 : I ≤ 24) (ho : hh 1 = nI o) (hz : hh 2 = nI z) (ho4 : o < 4) (hz4 : z ≤ 4) (x : Int32) : zMet l G yX6_begin cX6_begin 2 (some .int) 4 88 [.ref (G.1 + 0), .int x] μ (zQi G (p_begin μ fb o z T I x).1 (p_begin μ fb o z T I x).2) := by
  refine z_start (lv := [(0, .ref (G.1 + 0)), (1, .int x)]) (by decide) (Nat.le_of_ble_eq_true rfl) rfl ?_
  intro p e s m args below meth c ls hx hb hml hr hlk hts hown hK hZ hS hl
  have hown : s.vm.findClass RX6 = some m.cls := hown
  refine lv_iload_n hx hb dX6_begin_0 rfl (lv_at hl 1 rfl) ?_
  refine lv_sipush (v := 1000) hx hb dX6_begin_1 (by decide) ?_
  refine lv_ldc hx hb hown (hts _ q448) dX6_begin_4 ?_
  refine z_cSi (As := [.int x, .int 1000, .int 1000000]) (rest := []) hx hb hml hown hts hl hK hZ hS (c_X6_outside l G μ x 1000 1000000) (z_GS q358 q359 q1 q360) hdX6_outside ⟨Nat.le_of_ble_eq_true rfl, Nat.le_of_ble_eq_true rfl⟩ rfl rfl (Nat.le_of_ble_eq_true rfl) dX6_begin_6 ⟨(Nat.zero_le _), (Nat.zero_le _)⟩ (fun H locs hZ hS => ?_)
  refine lv_if_eq (tgt := 15) hx hb dX6_begin_9 (by decide) (fun c_1 => ?_) (fun c_1 => ?_)
  · refine lv_aload_n hx hb dX6_begin_15 rfl (lv_at hl 0 rfl) ?_
    refine z_g0 (f := (μ 0)) (v := .ref (G.1 + 1)) 0 hx hb hts hown hK hZ zk0 rfl (by decide) q226 rfl dX6_begin_16 ?_
    refine z_g1 (f := fb) (v := .int (nI T)) 3 hx hb hts hown hK hZ (zk_book hB1) hfb (by decide) q153 (congrArg (fun z => some (Value.int z)) hT) dX6_begin_19 ?_
    refine lv_bipush (v := 6) hx hb dX6_begin_22 (by decide) ?_
    refine lv_icmp_lt (tgt := 30) hx hb dX6_begin_24 (by decide) (fun c_2 => ?_) (fun c_2 => ?_)
    · refine lv_aload_n hx hb dX6_begin_30 rfl (lv_at hl 0 rfl) ?_
      refine z_g0 (f := (μ 0)) (v := .ref (G.1 + 79)) 2 hx hb hts hown hK hZ zk0 rfl (by decide) q228 rfl dX6_begin_31 ?_
      refine lv_aload_n hx hb dX6_begin_34 rfl (lv_at hl 0 rfl) ?_
      refine z_g0 (f := (μ 0)) (v := .ref (G.1 + 1)) 0 hx hb hts hown hK hZ zk0 rfl (by decide) q226 rfl dX6_begin_35 ?_
      refine z_cVv (As := [.ref (G.1 + 1)]) (rest := []) hx hb hml hown hts hl hK hZ hS (c_X2_push l G μ hh hfh o ho ho4 z hz hz4 fb hfb T I hT hI hT6 hI24) (z_G q289 q290 q291 q6 q292) hdX2_push ⟨Nat.le_of_ble_eq_true rfl, Nat.le_of_ble_eq_true rfl⟩ zk79 (by decide) rfl rfl rfl rfl (Nat.le_of_ble_eq_true rfl) dX6_begin_38 ⟨(Nat.zero_le _), (Nat.zero_le _)⟩ (fun H locs hZ hS => ?_)
      refine lv_aload_n hx hb dX6_begin_41 rfl (lv_at hl 0 rfl) ?_
      refine z_g0 (f := ((zp μ o z T I) 0)) (v := .ref (G.1 + 1)) 0 hx hb hts hown hK hZ zk0 rfl (by decide) q226 rfl dX6_begin_42 ?_
      refine lv_iload_n hx hb dX6_begin_45 rfl (lv_at hl 1 rfl) ?_
      refine z_cVi (As := [.int x]) (rest := []) hx hb hml hown hts hl hK hZ hS (c_X1_addTenancy l G (zp μ o z T I) fb ((zp_ne (by omega)).trans hfb) T hT ((nI_ltI (b := 6) (by omega) (by decide)).mp c_2) x) (z_G q449 q450 q451 q2 q452) hdX1_addTenancy ⟨Nat.le_of_ble_eq_true rfl, Nat.le_of_ble_eq_true rfl⟩ (zk_book hB1) (by decide) rfl rfl rfl rfl (Nat.le_of_ble_eq_true rfl) dX6_begin_46 ⟨(Nat.zero_le _), (Nat.zero_le _)⟩ (fun H locs hZ hS => ?_)
      exact z_iret hx hb hr hlk hK hZ hS ⟨by rw [p_begin, if_pos c_1, if_pos c_2], by rw [p_begin, if_pos c_1, if_pos c_2]⟩ dX6_begin_49
    · refine lv_bipush (v := (-3)) hx hb dX6_begin_27 (by decide) ?_
      exact z_iret hx hb hr hlk hK hZ hS ⟨by rw [p_begin, if_pos c_1, if_neg c_2], by rw [p_begin, if_pos c_1, if_neg c_2]⟩ dX6_begin_29
  · refine lv_bipush (v := (-2)) hx hb dX6_begin_12 (by decide) ?_
    exact z_iret hx hb hr hlk hK hZ hS ⟨by rw [p_begin, if_neg c_1], by rw [p_begin, if_neg c_1]⟩ dX6_begin_14
def p_addItem (μ : zM) (fb : Nat → Int32) (o z T I : Nat) (t : Nat) (g : Nat → Int32) (a b x y : Int32) : Int32 × zM := if (s_out a 100 500000) = 0 then if (s_out b 30 9999) = 0 then if (s_out x 0 9999) = 0 then if (s_out y 0 100) = 0 then if (g 2) = 0 then if (g 1) = (fb 0) then if nI I < 24 then (nI I, (m_newI (zp μ o z T I) fb I (nI t) a b x y))
              else ((-3), μ)
            else ((-4), μ)
          else ((-4), μ)
        else ((-2), μ)
      else ((-2), μ)
    else ((-2), μ)
  else ((-2), μ)
theorem hdX6_addItem : yX6_addItem.cls = RX6 ∧ yX6_addItem.cls ≠ "java/lang/invoke/MethodHandle" ∧ yX6_addItem.cls ≠ "java/lang/invoke/VarHandle" ∧ (parseMethodDescriptor yX6_addItem.desc).map (fun d => d.parameters.length) = some 5 := by decide +kernel
set_option maxHeartbeats 4000000 in
set_option maxRecDepth 100000 in
theorem c_X6_addItem (l : Launch) (G : zG) (μ : zM) (fb hh : Nat → Int32) (hfb : μ 1 = fb) (hfh : μ 79 = hh) (T I o z : Nat) (hT : fb 3 = nI T) (hI : fb 4 = nI I) (hT6 : T ≤ 6) (hI24 : I ≤ 24) (ho : hh 1 = nI o) (hz : hh 2 = nI z) (ho4 : o < 4) (hz4 : z ≤ 4) (t : Nat) (ht : t < T) (g : Nat → Int32) (hg : μ (1 + (3 + 2 * t)) = g) (a b x y : Int32) : zMet l G yX6_addItem cX6_addItem 7 (some .int) 4 88 [.ref (G.1 + 0), .int (nI t), .int a, .int b, .int x, .int y] μ (zQi G (p_addItem μ fb o z T I t g a b x y).1 (p_addItem μ fb o z T I t g a b x y).2) := by
  refine z_start (lv := [(0, .ref (G.1 + 0)), (1, .int (nI t)), (2, .int a), (3, .int b), (4, .int x), (5, .int y)]) (by decide) (Nat.le_of_ble_eq_true rfl) rfl ?_
  intro p e s m args below meth c ls hx hb hml hr hlk hts hown hK hZ hS hl
  have hown : s.vm.findClass RX6 = some m.cls := hown
  refine lv_aload_n hx hb dX6_addItem_0 rfl (lv_at hl 0 rfl) ?_
  refine z_g0 (f := (μ 0)) (v := .ref (G.1 + 1)) 0 hx hb hts hown hK hZ zk0 rfl (by decide) q226 rfl dX6_addItem_1 ?_
  refine lv_iload_n hx hb dX6_addItem_4 rfl (lv_at hl 1 rfl) ?_
  refine z_cVr (As := [.int (nI t)]) (rest := []) hx hb hml hown hts hl hK hZ hS (c_X1_tenancyAt_ok l G μ 1 hB1 fb hfb T t hT hT6 (by omega)) (z_G q306 q262 q263 q2 q264) hdX1_tenancyAt ⟨Nat.le_of_ble_eq_true rfl, Nat.le_of_ble_eq_true rfl⟩ (zk_book hB1) (by decide) rfl rfl rfl rfl (Nat.le_of_ble_eq_true rfl) dX6_addItem_5 ⟨(Nat.zero_le _), (Nat.zero_le _)⟩ (fun H locs hZ hS => ?_)
  refine lv_astore (lv' := [(6, .ref (G.1 + (1 + (3 + 2 * t)))), (0, .ref (G.1 + 0)), (1, .int (nI t)), (2, .int a), (3, .int b), (4, .int x), (5, .int y)]) hx hb dX6_addItem_8 hl (by decide) rfl (fun ls hl => ?_)
  refine lv_aload hx hb dX6_addItem_10 (lv_at hl 0 rfl) ?_
  refine lv_ifnonnull (tgt := 17) hx hb dX6_addItem_12 (by decide) ?_
  refine lv_iload_n hx hb dX6_addItem_17 rfl (lv_at hl 3 rfl) ?_
  refine lv_bipush (v := 100) hx hb dX6_addItem_18 (by decide) ?_
  refine lv_ldc hx hb hown (hts _ q462) dX6_addItem_20 ?_
  refine z_cSi (As := [.int a, .int 100, .int 500000]) (rest := []) hx hb hml hown hts hl hK hZ hS (c_X6_outside l G μ a 100 500000) (z_GS q358 q359 q1 q360) hdX6_outside ⟨Nat.le_of_ble_eq_true rfl, Nat.le_of_ble_eq_true rfl⟩ rfl rfl (Nat.le_of_ble_eq_true rfl) dX6_addItem_22 ⟨(Nat.zero_le _), (Nat.zero_le _)⟩ (fun H locs hZ hS => ?_)
  refine lv_if_ne (tgt := 63) hx hb dX6_addItem_25 (by decide) (fun c_1 => ?_) (fun c_1 => ?_)
  · refine lv_bipush (v := (-2)) hx hb dX6_addItem_63 (by decide) ?_
    exact z_iret hx hb hr hlk hK hZ hS ⟨by rw [p_addItem, if_neg c_1], by rw [p_addItem, if_neg c_1]⟩ dX6_addItem_65
  · refine lv_iload_n hx hb dX6_addItem_28 rfl (lv_at hl 4 rfl) ?_
    refine lv_bipush (v := 30) hx hb dX6_addItem_29 (by decide) ?_
    refine lv_sipush (v := 9999) hx hb dX6_addItem_31 (by decide) ?_
    refine z_cSi (As := [.int b, .int 30, .int 9999]) (rest := []) hx hb hml hown hts hl hK hZ hS (c_X6_outside l G μ b 30 9999) (z_GS q358 q359 q1 q360) hdX6_outside ⟨Nat.le_of_ble_eq_true rfl, Nat.le_of_ble_eq_true rfl⟩ rfl rfl (Nat.le_of_ble_eq_true rfl) dX6_addItem_34 ⟨(Nat.zero_le _), (Nat.zero_le _)⟩ (fun H locs hZ hS => ?_)
    refine lv_if_ne (tgt := 63) hx hb dX6_addItem_37 (by decide) (fun c_2 => ?_) (fun c_2 => ?_)
    · refine lv_bipush (v := (-2)) hx hb dX6_addItem_63 (by decide) ?_
      exact z_iret hx hb hr hlk hK hZ hS ⟨by rw [p_addItem, if_pos c_1, if_neg c_2], by rw [p_addItem, if_pos c_1, if_neg c_2]⟩ dX6_addItem_65
    · refine lv_iload hx hb dX6_addItem_40 (lv_at hl 5 rfl) ?_
      refine lv_iconst (v := 0) hx hb dX6_addItem_42 (by decide) ?_
      refine lv_sipush (v := 9999) hx hb dX6_addItem_43 (by decide) ?_
      refine z_cSi (As := [.int x, .int 0, .int 9999]) (rest := []) hx hb hml hown hts hl hK hZ hS (c_X6_outside l G μ x 0 9999) (z_GS q358 q359 q1 q360) hdX6_outside ⟨Nat.le_of_ble_eq_true rfl, Nat.le_of_ble_eq_true rfl⟩ rfl rfl (Nat.le_of_ble_eq_true rfl) dX6_addItem_46 ⟨(Nat.zero_le _), (Nat.zero_le _)⟩ (fun H locs hZ hS => ?_)
      refine lv_if_ne (tgt := 63) hx hb dX6_addItem_49 (by decide) (fun c_3 => ?_) (fun c_3 => ?_)
      · refine lv_bipush (v := (-2)) hx hb dX6_addItem_63 (by decide) ?_
        exact z_iret hx hb hr hlk hK hZ hS ⟨by rw [p_addItem, if_pos c_1, if_pos c_2, if_neg c_3], by rw [p_addItem, if_pos c_1, if_pos c_2, if_neg c_3]⟩ dX6_addItem_65
      · refine lv_iload hx hb dX6_addItem_52 (lv_at hl 6 rfl) ?_
        refine lv_iconst (v := 0) hx hb dX6_addItem_54 (by decide) ?_
        refine lv_bipush (v := 100) hx hb dX6_addItem_55 (by decide) ?_
        refine z_cSi (As := [.int y, .int 0, .int 100]) (rest := []) hx hb hml hown hts hl hK hZ hS (c_X6_outside l G μ y 0 100) (z_GS q358 q359 q1 q360) hdX6_outside ⟨Nat.le_of_ble_eq_true rfl, Nat.le_of_ble_eq_true rfl⟩ rfl rfl (Nat.le_of_ble_eq_true rfl) dX6_addItem_57 ⟨(Nat.zero_le _), (Nat.zero_le _)⟩ (fun H locs hZ hS => ?_)
        refine lv_if_eq (tgt := 66) hx hb dX6_addItem_60 (by decide) (fun c_4 => ?_) (fun c_4 => ?_)
        · refine lv_aload hx hb dX6_addItem_66 (lv_at hl 0 rfl) ?_
          refine z_g4 (f := g) (v := .int (g 2)) 2 hx hb hts hown hK hZ (zk_ten hB1 (by omega)) hg (by decide) q66 rfl dX6_addItem_68 ?_
          refine lv_if_ne (tgt := 89) hx hb dX6_addItem_71 (by decide) (fun c_5 => ?_) (fun c_5 => ?_)
          · refine lv_bipush (v := (-4)) hx hb dX6_addItem_89 (by decide) ?_
            exact z_iret hx hb hr hlk hK hZ hS ⟨by rw [p_addItem, if_pos c_1, if_pos c_2, if_pos c_3, if_pos c_4, if_neg c_5], by rw [p_addItem, if_pos c_1, if_pos c_2, if_pos c_3, if_pos c_4, if_neg c_5]⟩ dX6_addItem_91
          · refine lv_aload hx hb dX6_addItem_74 (lv_at hl 0 rfl) ?_
            refine z_g4 (f := g) (v := .int (g 1)) 1 hx hb hts hown hK hZ (zk_ten hB1 (by omega)) hg (by decide) q63 rfl dX6_addItem_76 ?_
            refine lv_aload_n hx hb dX6_addItem_79 rfl (lv_at hl 1 rfl) ?_
            refine z_g0 (f := (μ 0)) (v := .ref (G.1 + 1)) 0 hx hb hts hown hK hZ zk0 rfl (by decide) q226 rfl dX6_addItem_80 ?_
            refine z_g1 (f := fb) (v := .int (fb 0)) 0 hx hb hts hown hK hZ (zk_book hB1) hfb (by decide) q147 rfl dX6_addItem_83 ?_
            refine lv_icmp_eq (tgt := 92) hx hb dX6_addItem_86 (by decide) (fun c_6 => ?_) (fun c_6 => ?_)
            · refine lv_aload_n hx hb dX6_addItem_92 rfl (lv_at hl 1 rfl) ?_
              refine z_g0 (f := (μ 0)) (v := .ref (G.1 + 1)) 0 hx hb hts hown hK hZ zk0 rfl (by decide) q226 rfl dX6_addItem_93 ?_
              refine z_g1 (f := fb) (v := .int (nI I)) 4 hx hb hts hown hK hZ (zk_book hB1) hfb (by decide) q155 (congrArg (fun z => some (Value.int z)) hI) dX6_addItem_96 ?_
              refine lv_bipush (v := 24) hx hb dX6_addItem_99 (by decide) ?_
              refine lv_icmp_lt (tgt := 107) hx hb dX6_addItem_101 (by decide) (fun c_7 => ?_) (fun c_7 => ?_)
              · refine lv_aload_n hx hb dX6_addItem_107 rfl (lv_at hl 1 rfl) ?_
                refine z_g0 (f := (μ 0)) (v := .ref (G.1 + 79)) 2 hx hb hts hown hK hZ zk0 rfl (by decide) q228 rfl dX6_addItem_108 ?_
                refine lv_aload_n hx hb dX6_addItem_111 rfl (lv_at hl 1 rfl) ?_
                refine z_g0 (f := (μ 0)) (v := .ref (G.1 + 1)) 0 hx hb hts hown hK hZ zk0 rfl (by decide) q226 rfl dX6_addItem_112 ?_
                refine z_cVv (As := [.ref (G.1 + 1)]) (rest := []) hx hb hml hown hts hl hK hZ hS (c_X2_push l G μ hh hfh o ho ho4 z hz hz4 fb hfb T I hT hI hT6 hI24) (z_G q289 q290 q291 q6 q292) hdX2_push ⟨Nat.le_of_ble_eq_true rfl, Nat.le_of_ble_eq_true rfl⟩ zk79 (by decide) rfl rfl rfl rfl (Nat.le_of_ble_eq_true rfl) dX6_addItem_115 ⟨(Nat.zero_le _), (Nat.zero_le _)⟩ (fun H locs hZ hS => ?_)
                refine lv_aload_n hx hb dX6_addItem_118 rfl (lv_at hl 1 rfl) ?_
                refine z_g0 (f := ((zp μ o z T I) 0)) (v := .ref (G.1 + 1)) 0 hx hb hts hown hK hZ zk0 rfl (by decide) q226 rfl dX6_addItem_119 ?_
                refine lv_iload_n hx hb dX6_addItem_122 rfl (lv_at hl 2 rfl) ?_
                refine lv_iload_n hx hb dX6_addItem_123 rfl (lv_at hl 3 rfl) ?_
                refine lv_iload_n hx hb dX6_addItem_124 rfl (lv_at hl 4 rfl) ?_
                refine lv_iload hx hb dX6_addItem_125 (lv_at hl 5 rfl) ?_
                refine lv_iload hx hb dX6_addItem_127 (lv_at hl 6 rfl) ?_
                refine z_cVi (As := [.int (nI t), .int a, .int b, .int x, .int y]) (rest := []) hx hb hml hown hts hl hK hZ hS (c_X1_newItem l G (zp μ o z T I) fb ((zp_ne (by omega)).trans hfb) I hI ((nI_ltI (b := 24) (by omega) (by decide)).mp c_7) (nI t) a b x y) (z_G q463 q464 q465 q2 q466) hdX1_newItem ⟨Nat.le_of_ble_eq_true rfl, Nat.le_of_ble_eq_true rfl⟩ (zk_book hB1) (by decide) rfl rfl rfl rfl (Nat.le_of_ble_eq_true rfl) dX6_addItem_129 ⟨(Nat.zero_le _), (Nat.zero_le _)⟩ (fun H locs hZ hS => ?_)
                exact z_iret hx hb hr hlk hK hZ hS ⟨by rw [p_addItem, if_pos c_1, if_pos c_2, if_pos c_3, if_pos c_4, if_pos c_5, if_pos c_6, if_pos c_7], by rw [p_addItem, if_pos c_1, if_pos c_2, if_pos c_3, if_pos c_4, if_pos c_5, if_pos c_6, if_pos c_7]⟩ dX6_addItem_132
              · refine lv_bipush (v := (-3)) hx hb dX6_addItem_104 (by decide) ?_
                exact z_iret hx hb hr hlk hK hZ hS ⟨by rw [p_addItem, if_pos c_1, if_pos c_2, if_pos c_3, if_pos c_4, if_pos c_5, if_pos c_6, if_neg c_7], by rw [p_addItem, if_pos c_1, if_pos c_2, if_pos c_3, if_pos c_4, if_pos c_5, if_pos c_6, if_neg c_7]⟩ dX6_addItem_106
            · refine lv_bipush (v := (-4)) hx hb dX6_addItem_89 (by decide) ?_
              exact z_iret hx hb hr hlk hK hZ hS ⟨by rw [p_addItem, if_pos c_1, if_pos c_2, if_pos c_3, if_pos c_4, if_pos c_5, if_neg c_6], by rw [p_addItem, if_pos c_1, if_pos c_2, if_pos c_3, if_pos c_4, if_pos c_5, if_neg c_6]⟩ dX6_addItem_91
        · refine lv_bipush (v := (-2)) hx hb dX6_addItem_63 (by decide) ?_
          exact z_iret hx hb hr hlk hK hZ hS ⟨by rw [p_addItem, if_pos c_1, if_pos c_2, if_pos c_3, if_neg c_4], by rw [p_addItem, if_pos c_1, if_pos c_2, if_pos c_3, if_neg c_4]⟩ dX6_addItem_65
set_option maxHeartbeats 4000000 in
set_option maxRecDepth 100000 in
theorem c_X6_addItem_no (l : Launch) (G : zG) (μ : zM) (fb : Nat → Int32) (hfb : μ 1 = fb) (T I : Nat) (hT : fb 3 = nI T) (hI : fb 4 = nI I) (hT6 : T ≤ 6) (hI24 : I ≤ 24) (x : Int32) (hxx : x < 0 ∨ nI T ≤ x) (a : Int32) (b : Int32) (y : Int32) (w : Int32) : zMet l G yX6_addItem cX6_addItem 7 (some .int) 1 21 [.ref (G.1 + 0), .int x, .int a, .int b, .int y, .int w] μ (zQi G (-1) μ) := by
  refine z_start (lv := [(0, .ref (G.1 + 0)), (1, .int x), (2, .int a), (3, .int b), (4, .int y), (5, .int w)]) (by decide) (Nat.le_of_ble_eq_true rfl) rfl ?_
  intro p e s m args below meth c ls hx hb hml hr hlk hts hown hK hZ hS hl
  have hown : s.vm.findClass RX6 = some m.cls := hown
  refine lv_aload_n hx hb dX6_addItem_0 rfl (lv_at hl 0 rfl) ?_
  refine z_g0 (f := (μ 0)) (v := .ref (G.1 + 1)) 0 hx hb hts hown hK hZ zk0 rfl (by decide) q226 rfl dX6_addItem_1 ?_
  refine lv_iload_n hx hb dX6_addItem_4 rfl (lv_at hl 1 rfl) ?_
  refine z_cVn (As := [.int x]) (rest := []) hx hb hml hown hts hl hK hZ hS (c_X1_tenancyAt_no l G μ 1 hB1 fb hfb T hT x hxx) (z_G q306 q262 q263 q2 q264) hdX1_tenancyAt ⟨Nat.le_of_ble_eq_true rfl, Nat.le_of_ble_eq_true rfl⟩ (zk_book hB1) (by decide) rfl rfl rfl rfl (Nat.le_of_ble_eq_true rfl) dX6_addItem_5 ⟨(Nat.zero_le _), (Nat.zero_le _)⟩ (fun H locs hZ hS => ?_)
  refine lv_astoreN (lv' := [(6, .null), (0, .ref (G.1 + 0)), (1, .int x), (2, .int a), (3, .int b), (4, .int y), (5, .int w)]) hx hb dX6_addItem_8 hl (by decide) rfl (fun ls hl => ?_)
  refine lv_aloadN hx hb dX6_addItem_10 (lv_at hl 0 rfl) ?_
  refine lv_ifnonnullN hx hb dX6_addItem_12 ?_
  refine lv_iconst (v := (-1)) hx hb dX6_addItem_15 (by decide) ?_
  exact z_iret hx hb hr hlk hK hZ hS ⟨rfl, rfl⟩ dX6_addItem_16
def p_end (μ : zM) (fb : Nat → Int32) (o z T I : Nat) (t : Nat) (g : Nat → Int32) : Int32 × zM := if (g 2) = 0 then ((s_X1_daysOf fb (zu (zu g 2 1) 3 (fb 0))), (m_exp (zr (zp μ o z T I) (1 + (3 + 2 * t)) (zu (zu g 2 1) 3 (fb 0))) t (s_X1_daysOf fb (zu (zu g 2 1) 3 (fb 0))) I))
  else ((-4), μ)
theorem hdX6_end : yX6_end.cls = RX6 ∧ yX6_end.cls ≠ "java/lang/invoke/MethodHandle" ∧ yX6_end.cls ≠ "java/lang/invoke/VarHandle" ∧ (parseMethodDescriptor yX6_end.desc).map (fun d => d.parameters.length) = some 1 := by decide +kernel
set_option maxHeartbeats 4000000 in
set_option maxRecDepth 100000 in
theorem c_X6_end (l : Launch) (G : zG) (μ : zM) (fb hh : Nat → Int32) (hfb : μ 1 = fb) (hfh : μ 79 = hh) (T I o z : Nat) (hT : fb 3 = nI T) (hI : fb 4 = nI I) (hT6 : T ≤ 6) (hI24 : I ≤ 24) (ho : hh 1 = nI o) (hz : hh 2 = nI z) (ho4 : o < 4) (hz4 : z ≤ 4) (t : Nat) (ht : t < T) (g : Nat → Int32) (hg : μ (1 + (3 + 2 * t)) = g) : zMet l G yX6_end cX6_end 3 (some .int) 6 125 [.ref (G.1 + 0), .int (nI t)] μ (zQi G (p_end μ fb o z T I t g).1 (p_end μ fb o z T I t g).2) := by
  refine z_start (lv := [(0, .ref (G.1 + 0)), (1, .int (nI t))]) (by decide) (Nat.le_of_ble_eq_true rfl) rfl ?_
  intro p e s m args below meth c ls hx hb hml hr hlk hts hown hK hZ hS hl
  have hown : s.vm.findClass RX6 = some m.cls := hown
  refine lv_aload_n hx hb dX6_end_0 rfl (lv_at hl 0 rfl) ?_
  refine z_g0 (f := (μ 0)) (v := .ref (G.1 + 1)) 0 hx hb hts hown hK hZ zk0 rfl (by decide) q226 rfl dX6_end_1 ?_
  refine lv_iload_n hx hb dX6_end_4 rfl (lv_at hl 1 rfl) ?_
  refine z_cVr (As := [.int (nI t)]) (rest := []) hx hb hml hown hts hl hK hZ hS (c_X1_tenancyAt_ok l G μ 1 hB1 fb hfb T t hT hT6 (by omega)) (z_G q306 q262 q263 q2 q264) hdX1_tenancyAt ⟨Nat.le_of_ble_eq_true rfl, Nat.le_of_ble_eq_true rfl⟩ (zk_book hB1) (by decide) rfl rfl rfl rfl (Nat.le_of_ble_eq_true rfl) dX6_end_5 ⟨(Nat.zero_le _), (Nat.zero_le _)⟩ (fun H locs hZ hS => ?_)
  refine lv_astore_n (lv' := [(2, .ref (G.1 + (1 + (3 + 2 * t)))), (0, .ref (G.1 + 0)), (1, .int (nI t))]) hx hb dX6_end_8 rfl hl (by decide) rfl (fun ls hl => ?_)
  refine lv_aload_n hx hb dX6_end_9 rfl (lv_at hl 0 rfl) ?_
  refine lv_ifnonnull (tgt := 15) hx hb dX6_end_10 (by decide) ?_
  refine lv_aload_n hx hb dX6_end_15 rfl (lv_at hl 0 rfl) ?_
  refine z_g4 (f := g) (v := .int (g 2)) 2 hx hb hts hown hK hZ (zk_ten hB1 (by omega)) hg (by decide) q66 rfl dX6_end_16 ?_
  refine lv_if_eq (tgt := 25) hx hb dX6_end_19 (by decide) (fun c_1 => ?_) (fun c_1 => ?_)
  · refine lv_aload_n hx hb dX6_end_25 rfl (lv_at hl 1 rfl) ?_
    refine z_g0 (f := (μ 0)) (v := .ref (G.1 + 79)) 2 hx hb hts hown hK hZ zk0 rfl (by decide) q228 rfl dX6_end_26 ?_
    refine lv_aload_n hx hb dX6_end_29 rfl (lv_at hl 1 rfl) ?_
    refine z_g0 (f := (μ 0)) (v := .ref (G.1 + 1)) 0 hx hb hts hown hK hZ zk0 rfl (by decide) q226 rfl dX6_end_30 ?_
    refine z_cVv (As := [.ref (G.1 + 1)]) (rest := []) hx hb hml hown hts hl hK hZ hS (c_X2_push l G μ hh hfh o ho ho4 z hz hz4 fb hfb T I hT hI hT6 hI24) (z_G q289 q290 q291 q6 q292) hdX2_push ⟨Nat.le_of_ble_eq_true rfl, Nat.le_of_ble_eq_true rfl⟩ zk79 (by decide) rfl rfl rfl rfl (Nat.le_of_ble_eq_true rfl) dX6_end_33 ⟨(Nat.zero_le _), (Nat.zero_le _)⟩ (fun H locs hZ hS => ?_)
    refine lv_aload_n hx hb dX6_end_36 rfl (lv_at hl 0 rfl) ?_
    refine lv_iconst (v := 1) hx hb dX6_end_37 (by decide) ?_
    refine z_p4 (f := g) (μ1 := (zr (zp μ o z T I) (1 + (3 + 2 * t)) (zu g 2 1))) 2 hx hb hts hown hK hZ hS (zk_ten hB1 (by omega)) ((zp_ne (by omega)).trans hg) (by decide) q66 rfl pfd_I rfl rfl dX6_end_38 (fun H locs hZ hS => ?_)
    refine lv_aload_n hx hb dX6_end_41 rfl (lv_at hl 0 rfl) ?_
    refine lv_aload_n hx hb dX6_end_42 rfl (lv_at hl 1 rfl) ?_
    refine z_g0 (f := ((zr (zp μ o z T I) (1 + (3 + 2 * t)) (zu g 2 1)) 0)) (v := .ref (G.1 + 1)) 0 hx hb hts hown hK hZ zk0 rfl (by decide) q226 rfl dX6_end_43 ?_
    refine z_g1 (f := fb) (v := .int (fb 0)) 0 hx hb hts hown hK hZ (zk_book hB1) (zr_at ((zp_ne (by omega)).trans hfb) (by omega)) (by decide) q147 rfl dX6_end_46 ?_
    refine z_p4 (f := (zu g 2 1)) (μ1 := (zr (zp μ o z T I) (1 + (3 + 2 * t)) (zu (zu g 2 1) 3 (fb 0)))) 3 hx hb hts hown hK hZ hS (zk_ten hB1 (by omega)) zr_same (by decide) q69 rfl pfd_I rfl zr_zr dX6_end_49 (fun H locs hZ hS => ?_)
    refine lv_aload_n hx hb dX6_end_52 rfl (lv_at hl 1 rfl) ?_
    refine z_g0 (f := ((zr (zp μ o z T I) (1 + (3 + 2 * t)) (zu (zu g 2 1) 3 (fb 0))) 0)) (v := .ref (G.1 + 1)) 0 hx hb hts hown hK hZ zk0 rfl (by decide) q226 rfl dX6_end_53 ?_
    refine lv_iload_n hx hb dX6_end_56 rfl (lv_at hl 2 rfl) ?_
    refine z_cVv (As := [.int (nI t)]) (rest := []) hx hb hml hown hts hl hK hZ hS (c_X1_expectFairConditions l G (zr (zp μ o z T I) (1 + (3 + 2 * t)) (zu (zu g 2 1) 3 (fb 0))) fb (zr_at ((zp_ne (by omega)).trans hfb) (by omega)) T hT hT6 I hI hI24 t ht (zu (zu g 2 1) 3 (fb 0)) zr_same) (z_G q480 q481 q482 q2 q483) hdX1_expectFairConditions ⟨Nat.le_of_ble_eq_true rfl, Nat.le_of_ble_eq_true rfl⟩ (zk_book hB1) (by decide) rfl rfl rfl rfl (Nat.le_of_ble_eq_true rfl) dX6_end_57 ⟨(Nat.zero_le _), (Nat.zero_le _)⟩ (fun H locs hZ hS => ?_)
    refine lv_aload_n hx hb dX6_end_60 rfl (lv_at hl 1 rfl) ?_
    refine z_g0 (f := ((m_exp (zr (zp μ o z T I) (1 + (3 + 2 * t)) (zu (zu g 2 1) 3 (fb 0))) t (s_X1_daysOf fb (zu (zu g 2 1) 3 (fb 0))) I) 0)) (v := .ref (G.1 + 1)) 0 hx hb hts hown hK hZ zk0 rfl (by decide) q226 rfl dX6_end_61 ?_
    refine lv_aload_n hx hb dX6_end_64 rfl (lv_at hl 0 rfl) ?_
    refine z_cVi (As := [.ref (G.1 + (1 + (3 + 2 * t)))]) (rest := []) hx hb hml hown hts hl hK hZ hS (c_X1_daysOf l G (m_exp (zr (zp μ o z T I) (1 + (3 + 2 * t)) (zu (zu g 2 1) 3 (fb 0))) t (s_X1_daysOf fb (zu (zu g 2 1) 3 (fb 0))) I) 1 fb (zk_book hB1) ((m_exp_ne (fun i hi => by omega)).trans (zr_at ((zp_ne (by omega)).trans hfb) (by omega))) (1 + (3 + 2 * t)) (zu (zu g 2 1) 3 (fb 0)) (zk_ten hB1 (by omega)) ((m_exp_ne (fun i hi => by omega)).trans zr_same)) (z_G q328 q329 q330 q2 q331) hdX1_daysOf ⟨Nat.le_of_ble_eq_true rfl, Nat.le_of_ble_eq_true rfl⟩ (zk_book hB1) (by decide) rfl rfl rfl rfl (Nat.le_of_ble_eq_true rfl) dX6_end_65 ⟨(Nat.zero_le _), (Nat.zero_le _)⟩ (fun H locs hZ hS => ?_)
    exact z_iret hx hb hr hlk hK hZ hS ⟨by rw [p_end, if_pos c_1], by rw [p_end, if_pos c_1]⟩ dX6_end_68
  · refine lv_bipush (v := (-4)) hx hb dX6_end_22 (by decide) ?_
    exact z_iret hx hb hr hlk hK hZ hS ⟨by rw [p_end, if_neg c_1], by rw [p_end, if_neg c_1]⟩ dX6_end_24
set_option maxHeartbeats 4000000 in
set_option maxRecDepth 100000 in
theorem c_X6_end_no (l : Launch) (G : zG) (μ : zM) (fb : Nat → Int32) (hfb : μ 1 = fb) (T I : Nat) (hT : fb 3 = nI T) (hI : fb 4 = nI I) (hT6 : T ≤ 6) (hI24 : I ≤ 24) (x : Int32) (hxx : x < 0 ∨ nI T ≤ x) : zMet l G yX6_end cX6_end 3 (some .int) 1 21 [.ref (G.1 + 0), .int x] μ (zQi G (-1) μ) := by
  refine z_start (lv := [(0, .ref (G.1 + 0)), (1, .int x)]) (by decide) (Nat.le_of_ble_eq_true rfl) rfl ?_
  intro p e s m args below meth c ls hx hb hml hr hlk hts hown hK hZ hS hl
  have hown : s.vm.findClass RX6 = some m.cls := hown
  refine lv_aload_n hx hb dX6_end_0 rfl (lv_at hl 0 rfl) ?_
  refine z_g0 (f := (μ 0)) (v := .ref (G.1 + 1)) 0 hx hb hts hown hK hZ zk0 rfl (by decide) q226 rfl dX6_end_1 ?_
  refine lv_iload_n hx hb dX6_end_4 rfl (lv_at hl 1 rfl) ?_
  refine z_cVn (As := [.int x]) (rest := []) hx hb hml hown hts hl hK hZ hS (c_X1_tenancyAt_no l G μ 1 hB1 fb hfb T hT x hxx) (z_G q306 q262 q263 q2 q264) hdX1_tenancyAt ⟨Nat.le_of_ble_eq_true rfl, Nat.le_of_ble_eq_true rfl⟩ (zk_book hB1) (by decide) rfl rfl rfl rfl (Nat.le_of_ble_eq_true rfl) dX6_end_5 ⟨(Nat.zero_le _), (Nat.zero_le _)⟩ (fun H locs hZ hS => ?_)
  refine lv_astore_nN (lv' := [(2, .null), (0, .ref (G.1 + 0)), (1, .int x)]) hx hb dX6_end_8 rfl hl (by decide) rfl (fun ls hl => ?_)
  refine lv_aload_nN hx hb dX6_end_9 rfl (lv_at hl 0 rfl) ?_
  refine lv_ifnonnullN hx hb dX6_end_10 ?_
  refine lv_iconst (v := (-1)) hx hb dX6_end_13 (by decide) ?_
  exact z_iret hx hb hr hlk hK hZ hS ⟨rfl, rfl⟩ dX6_end_14
def p_inspect (μ : zM) (fb : Nat → Int32) (o z T I : Nat) (j : Nat) (f g : Nat → Int32) (x : Int32) : Int32 × zM := if (s_out x 0 100) = 0 then if (g 2) = 1 then if (f 5) = x then ((-5), μ)
      else (((w_X3_tellEnd f (s_X1_daysOf fb g) x) 6), (zr (zp μ o z T I) (1 + (15 + j)) (w_X3_tellEnd f (s_X1_daysOf fb g) x)))
    else ((-4), μ)
  else ((-2), μ)
theorem hdX6_inspect : yX6_inspect.cls = RX6 ∧ yX6_inspect.cls ≠ "java/lang/invoke/MethodHandle" ∧ yX6_inspect.cls ≠ "java/lang/invoke/VarHandle" ∧ (parseMethodDescriptor yX6_inspect.desc).map (fun d => d.parameters.length) = some 2 := by decide +kernel
set_option maxHeartbeats 4000000 in
set_option maxRecDepth 100000 in
theorem c_X6_inspect (l : Launch) (G : zG) (μ : zM) (fb hh : Nat → Int32) (hfb : μ 1 = fb) (hfh : μ 79 = hh) (T I o z : Nat) (hT : fb 3 = nI T) (hI : fb 4 = nI I) (hT6 : T ≤ 6) (hI24 : I ≤ 24) (ho : hh 1 = nI o) (hz : hh 2 = nI z) (ho4 : o < 4) (hz4 : z ≤ 4) (j h : Nat) (hj : j < I) (hh0 : h < T) (f : Nat → Int32) (hf : μ (1 + (15 + j)) = f) (he : f 0 = nI h) (g : Nat → Int32) (hg : μ (1 + (3 + 2 * h)) = g) (x : Int32) : zMet l G yX6_inspect cX6_inspect 4 (some .int) 5 101 [.ref (G.1 + 0), .int (nI j), .int x] μ (zQi G (p_inspect μ fb o z T I j f g x).1 (p_inspect μ fb o z T I j f g x).2) := by
  refine z_start (lv := [(0, .ref (G.1 + 0)), (1, .int (nI j)), (2, .int x)]) (by decide) (Nat.le_of_ble_eq_true rfl) rfl ?_
  intro p e s m args below meth c ls hx hb hml hr hlk hts hown hK hZ hS hl
  have hown : s.vm.findClass RX6 = some m.cls := hown
  refine lv_aload_n hx hb dX6_inspect_0 rfl (lv_at hl 0 rfl) ?_
  refine z_g0 (f := (μ 0)) (v := .ref (G.1 + 1)) 0 hx hb hts hown hK hZ zk0 rfl (by decide) q226 rfl dX6_inspect_1 ?_
  refine lv_iload_n hx hb dX6_inspect_4 rfl (lv_at hl 1 rfl) ?_
  refine z_cVr (As := [.int (nI j)]) (rest := []) hx hb hml hown hts hl hK hZ hS (c_X1_itemAt_ok l G μ 1 hB1 fb hfb I j hI hI24 (by omega)) (z_G q394 q274 q275 q2 q276) hdX1_itemAt ⟨Nat.le_of_ble_eq_true rfl, Nat.le_of_ble_eq_true rfl⟩ (zk_book hB1) (by decide) rfl rfl rfl rfl (Nat.le_of_ble_eq_true rfl) dX6_inspect_5 ⟨(Nat.zero_le _), (Nat.zero_le _)⟩ (fun H locs hZ hS => ?_)
  refine lv_astore_n (lv' := [(3, .ref (G.1 + (1 + (15 + j)))), (0, .ref (G.1 + 0)), (1, .int (nI j)), (2, .int x)]) hx hb dX6_inspect_8 rfl hl (by decide) rfl (fun ls hl => ?_)
  refine lv_aload_n hx hb dX6_inspect_9 rfl (lv_at hl 0 rfl) ?_
  refine lv_ifnonnull (tgt := 15) hx hb dX6_inspect_10 (by decide) ?_
  refine lv_iload_n hx hb dX6_inspect_15 rfl (lv_at hl 3 rfl) ?_
  refine lv_iconst (v := 0) hx hb dX6_inspect_16 (by decide) ?_
  refine lv_bipush (v := 100) hx hb dX6_inspect_17 (by decide) ?_
  refine z_cSi (As := [.int x, .int 0, .int 100]) (rest := []) hx hb hml hown hts hl hK hZ hS (c_X6_outside l G μ x 0 100) (z_GS q358 q359 q1 q360) hdX6_outside ⟨Nat.le_of_ble_eq_true rfl, Nat.le_of_ble_eq_true rfl⟩ rfl rfl (Nat.le_of_ble_eq_true rfl) dX6_inspect_19 ⟨(Nat.zero_le _), (Nat.zero_le _)⟩ (fun H locs hZ hS => ?_)
  refine lv_if_eq (tgt := 28) hx hb dX6_inspect_22 (by decide) (fun c_1 => ?_) (fun c_1 => ?_)
  · refine lv_aload_n hx hb dX6_inspect_28 rfl (lv_at hl 1 rfl) ?_
    refine z_g0 (f := (μ 0)) (v := .ref (G.1 + 1)) 0 hx hb hts hown hK hZ zk0 rfl (by decide) q226 rfl dX6_inspect_29 ?_
    refine lv_aload_n hx hb dX6_inspect_32 rfl (lv_at hl 0 rfl) ?_
    refine z_cVi (As := [.ref (G.1 + (1 + (15 + j)))]) (rest := []) hx hb hml hown hts hl hK hZ hS (c_X1_stateOf l G μ fb hfb (1 + (15 + j)) f (zk_item hB1 (by omega)) hf T h hT hT6 hh0 he g hg) (z_G q411 q412 q413 q2 q414) hdX1_stateOf ⟨Nat.le_of_ble_eq_true rfl, Nat.le_of_ble_eq_true rfl⟩ (zk_book hB1) (by decide) rfl rfl rfl rfl (Nat.le_of_ble_eq_true rfl) dX6_inspect_33 ⟨(Nat.zero_le _), (Nat.zero_le _)⟩ (fun H locs hZ hS => ?_)
    refine lv_iconst (v := 1) hx hb dX6_inspect_36 (by decide) ?_
    refine lv_icmp_eq (tgt := 43) hx hb dX6_inspect_37 (by decide) (fun c_2 => ?_) (fun c_2 => ?_)
    · refine lv_aload_n hx hb dX6_inspect_43 rfl (lv_at hl 0 rfl) ?_
      refine z_g6 (f := f) (v := .int (f 5)) 5 hx hb hts hown hK hZ (zk_item hB1 (by omega)) hf (by decide) q109 rfl dX6_inspect_44 ?_
      refine lv_iload_n hx hb dX6_inspect_47 rfl (lv_at hl 3 rfl) ?_
      refine lv_icmp_ne (tgt := 54) hx hb dX6_inspect_48 (by decide) (fun c_3 => ?_) (fun c_3 => ?_)
      · refine lv_aload_n hx hb dX6_inspect_54 rfl (lv_at hl 1 rfl) ?_
        refine z_g0 (f := (μ 0)) (v := .ref (G.1 + 79)) 2 hx hb hts hown hK hZ zk0 rfl (by decide) q228 rfl dX6_inspect_55 ?_
        refine lv_aload_n hx hb dX6_inspect_58 rfl (lv_at hl 1 rfl) ?_
        refine z_g0 (f := (μ 0)) (v := .ref (G.1 + 1)) 0 hx hb hts hown hK hZ zk0 rfl (by decide) q226 rfl dX6_inspect_59 ?_
        refine z_cVv (As := [.ref (G.1 + 1)]) (rest := []) hx hb hml hown hts hl hK hZ hS (c_X2_push l G μ hh hfh o ho ho4 z hz hz4 fb hfb T I hT hI hT6 hI24) (z_G q289 q290 q291 q6 q292) hdX2_push ⟨Nat.le_of_ble_eq_true rfl, Nat.le_of_ble_eq_true rfl⟩ zk79 (by decide) rfl rfl rfl rfl (Nat.le_of_ble_eq_true rfl) dX6_inspect_62 ⟨(Nat.zero_le _), (Nat.zero_le _)⟩ (fun H locs hZ hS => ?_)
        refine lv_aload_n hx hb dX6_inspect_65 rfl (lv_at hl 0 rfl) ?_
        refine lv_aload_n hx hb dX6_inspect_66 rfl (lv_at hl 1 rfl) ?_
        refine z_g0 (f := ((zp μ o z T I) 0)) (v := .ref (G.1 + 1)) 0 hx hb hts hown hK hZ zk0 rfl (by decide) q226 rfl dX6_inspect_67 ?_
        refine lv_aload_n hx hb dX6_inspect_70 rfl (lv_at hl 0 rfl) ?_
        refine z_cVi (As := [.ref (G.1 + (1 + (15 + j)))]) (rest := [.ref (G.1 + (1 + (15 + j)))]) hx hb hml hown hts hl hK hZ hS (c_X1_daysOfItem l G (zp μ o z T I) fb ((zp_ne (by omega)).trans hfb) (1 + (15 + j)) f (zk_item hB1 (by omega)) ((zp_ne (by omega)).trans hf) T h hT hT6 hh0 he g ((zp_ne (by omega)).trans hg)) (z_G q395 q396 q397 q2 q398) hdX1_daysOfItem ⟨Nat.le_of_ble_eq_true rfl, Nat.le_of_ble_eq_true rfl⟩ (zk_book hB1) (by decide) rfl rfl rfl rfl (Nat.le_of_ble_eq_true rfl) dX6_inspect_71 ⟨(Nat.zero_le _), (Nat.zero_le _)⟩ (fun H locs hZ hS => ?_)
        refine lv_iload_n hx hb dX6_inspect_74 rfl (lv_at hl 3 rfl) ?_
        refine z_cVv (As := [.int (s_X1_daysOf fb g), .int x]) (rest := []) hx hb hml hown hts hl hK hZ hS (c_X3_tellEnd l G (zp μ o z T I) (1 + (15 + j)) f (zk_item hB1 (by omega)) ((zp_ne (by omega)).trans hf) (s_X1_daysOf fb g) x) (z_G q505 q487 q488 q5 q489) hdX3_tellEnd ⟨Nat.le_of_ble_eq_true rfl, Nat.le_of_ble_eq_true rfl⟩ (zk_item hB1 (by omega)) (by decide) rfl rfl rfl rfl (Nat.le_of_ble_eq_true rfl) dX6_inspect_75 ⟨(Nat.zero_le _), (Nat.zero_le _)⟩ (fun H locs hZ hS => ?_)
        refine lv_aload_n hx hb dX6_inspect_78 rfl (lv_at hl 0 rfl) ?_
        refine z_g6 (f := (w_X3_tellEnd f (s_X1_daysOf fb g) x)) (v := .int ((w_X3_tellEnd f (s_X1_daysOf fb g) x) 6)) 6 hx hb hts hown hK hZ (zk_item hB1 (by omega)) zr_same (by decide) q111 rfl dX6_inspect_79 ?_
        exact z_iret hx hb hr hlk hK hZ hS ⟨by rw [p_inspect, if_pos c_1, if_pos c_2, if_neg c_3], by rw [p_inspect, if_pos c_1, if_pos c_2, if_neg c_3]⟩ dX6_inspect_82
      · refine lv_bipush (v := (-5)) hx hb dX6_inspect_51 (by decide) ?_
        exact z_iret hx hb hr hlk hK hZ hS ⟨by rw [p_inspect, if_pos c_1, if_pos c_2, if_pos c_3], by rw [p_inspect, if_pos c_1, if_pos c_2, if_pos c_3]⟩ dX6_inspect_53
    · refine lv_bipush (v := (-4)) hx hb dX6_inspect_40 (by decide) ?_
      exact z_iret hx hb hr hlk hK hZ hS ⟨by rw [p_inspect, if_pos c_1, if_neg c_2], by rw [p_inspect, if_pos c_1, if_neg c_2]⟩ dX6_inspect_42
  · refine lv_bipush (v := (-2)) hx hb dX6_inspect_25 (by decide) ?_
    exact z_iret hx hb hr hlk hK hZ hS ⟨by rw [p_inspect, if_neg c_1], by rw [p_inspect, if_neg c_1]⟩ dX6_inspect_27
set_option maxHeartbeats 4000000 in
set_option maxRecDepth 100000 in
theorem c_X6_inspect_no (l : Launch) (G : zG) (μ : zM) (fb : Nat → Int32) (hfb : μ 1 = fb) (T I : Nat) (hT : fb 3 = nI T) (hI : fb 4 = nI I) (hT6 : T ≤ 6) (hI24 : I ≤ 24) (x : Int32) (hxx : x < 0 ∨ nI I ≤ x) (a : Int32) : zMet l G yX6_inspect cX6_inspect 4 (some .int) 1 21 [.ref (G.1 + 0), .int x, .int a] μ (zQi G (-1) μ) := by
  refine z_start (lv := [(0, .ref (G.1 + 0)), (1, .int x), (2, .int a)]) (by decide) (Nat.le_of_ble_eq_true rfl) rfl ?_
  intro p e s m args below meth c ls hx hb hml hr hlk hts hown hK hZ hS hl
  have hown : s.vm.findClass RX6 = some m.cls := hown
  refine lv_aload_n hx hb dX6_inspect_0 rfl (lv_at hl 0 rfl) ?_
  refine z_g0 (f := (μ 0)) (v := .ref (G.1 + 1)) 0 hx hb hts hown hK hZ zk0 rfl (by decide) q226 rfl dX6_inspect_1 ?_
  refine lv_iload_n hx hb dX6_inspect_4 rfl (lv_at hl 1 rfl) ?_
  refine z_cVn (As := [.int x]) (rest := []) hx hb hml hown hts hl hK hZ hS (c_X1_itemAt_no l G μ 1 hB1 fb hfb I hI x hxx) (z_G q394 q274 q275 q2 q276) hdX1_itemAt ⟨Nat.le_of_ble_eq_true rfl, Nat.le_of_ble_eq_true rfl⟩ (zk_book hB1) (by decide) rfl rfl rfl rfl (Nat.le_of_ble_eq_true rfl) dX6_inspect_5 ⟨(Nat.zero_le _), (Nat.zero_le _)⟩ (fun H locs hZ hS => ?_)
  refine lv_astore_nN (lv' := [(3, .null), (0, .ref (G.1 + 0)), (1, .int x), (2, .int a)]) hx hb dX6_inspect_8 rfl hl (by decide) rfl (fun ls hl => ?_)
  refine lv_aload_nN hx hb dX6_inspect_9 rfl (lv_at hl 0 rfl) ?_
  refine lv_ifnonnullN hx hb dX6_inspect_10 ?_
  refine lv_iconst (v := (-1)) hx hb dX6_inspect_13 (by decide) ?_
  exact z_iret hx hb hr hlk hK hZ hS ⟨rfl, rfl⟩ dX6_inspect_14
def p_claim (μ : zM) (fb : Nat → Int32) (o z T I : Nat) (j : Nat) (f g : Nat → Int32) (x : Int32) : Int32 × zM := if (s_out x 0 (f 1)) = 0 then if (g 2) = 1 then if (f 7) = x then ((-5), μ)
      else ((f 7), (zr (zp μ o z T I) (1 + (15 + j)) (zu f 7 x)))
    else ((-4), μ)
  else ((-2), μ)
theorem hdX6_claim : yX6_claim.cls = RX6 ∧ yX6_claim.cls ≠ "java/lang/invoke/MethodHandle" ∧ yX6_claim.cls ≠ "java/lang/invoke/VarHandle" ∧ (parseMethodDescriptor yX6_claim.desc).map (fun d => d.parameters.length) = some 2 := by decide +kernel
set_option maxHeartbeats 4000000 in
set_option maxRecDepth 100000 in
theorem c_X6_claim (l : Launch) (G : zG) (μ : zM) (fb hh : Nat → Int32) (hfb : μ 1 = fb) (hfh : μ 79 = hh) (T I o z : Nat) (hT : fb 3 = nI T) (hI : fb 4 = nI I) (hT6 : T ≤ 6) (hI24 : I ≤ 24) (ho : hh 1 = nI o) (hz : hh 2 = nI z) (ho4 : o < 4) (hz4 : z ≤ 4) (j h : Nat) (hj : j < I) (hh0 : h < T) (f : Nat → Int32) (hf : μ (1 + (15 + j)) = f) (he : f 0 = nI h) (g : Nat → Int32) (hg : μ (1 + (3 + 2 * h)) = g) (x : Int32) : zMet l G yX6_claim cX6_claim 5 (some .int) 4 88 [.ref (G.1 + 0), .int (nI j), .int x] μ (zQi G (p_claim μ fb o z T I j f g x).1 (p_claim μ fb o z T I j f g x).2) := by
  refine z_start (lv := [(0, .ref (G.1 + 0)), (1, .int (nI j)), (2, .int x)]) (by decide) (Nat.le_of_ble_eq_true rfl) rfl ?_
  intro p e s m args below meth c ls hx hb hml hr hlk hts hown hK hZ hS hl
  have hown : s.vm.findClass RX6 = some m.cls := hown
  refine lv_aload_n hx hb dX6_claim_0 rfl (lv_at hl 0 rfl) ?_
  refine z_g0 (f := (μ 0)) (v := .ref (G.1 + 1)) 0 hx hb hts hown hK hZ zk0 rfl (by decide) q226 rfl dX6_claim_1 ?_
  refine lv_iload_n hx hb dX6_claim_4 rfl (lv_at hl 1 rfl) ?_
  refine z_cVr (As := [.int (nI j)]) (rest := []) hx hb hml hown hts hl hK hZ hS (c_X1_itemAt_ok l G μ 1 hB1 fb hfb I j hI hI24 (by omega)) (z_G q394 q274 q275 q2 q276) hdX1_itemAt ⟨Nat.le_of_ble_eq_true rfl, Nat.le_of_ble_eq_true rfl⟩ (zk_book hB1) (by decide) rfl rfl rfl rfl (Nat.le_of_ble_eq_true rfl) dX6_claim_5 ⟨(Nat.zero_le _), (Nat.zero_le _)⟩ (fun H locs hZ hS => ?_)
  refine lv_astore_n (lv' := [(3, .ref (G.1 + (1 + (15 + j)))), (0, .ref (G.1 + 0)), (1, .int (nI j)), (2, .int x)]) hx hb dX6_claim_8 rfl hl (by decide) rfl (fun ls hl => ?_)
  refine lv_aload_n hx hb dX6_claim_9 rfl (lv_at hl 0 rfl) ?_
  refine lv_ifnonnull (tgt := 15) hx hb dX6_claim_10 (by decide) ?_
  refine lv_iload_n hx hb dX6_claim_15 rfl (lv_at hl 3 rfl) ?_
  refine lv_iconst (v := 0) hx hb dX6_claim_16 (by decide) ?_
  refine lv_aload_n hx hb dX6_claim_17 rfl (lv_at hl 0 rfl) ?_
  refine z_g6 (f := f) (v := .int (f 1)) 1 hx hb hts hown hK hZ (zk_item hB1 (by omega)) hf (by decide) q103 rfl dX6_claim_18 ?_
  refine z_cSi (As := [.int x, .int 0, .int (f 1)]) (rest := []) hx hb hml hown hts hl hK hZ hS (c_X6_outside l G μ x 0 (f 1)) (z_GS q358 q359 q1 q360) hdX6_outside ⟨Nat.le_of_ble_eq_true rfl, Nat.le_of_ble_eq_true rfl⟩ rfl rfl (Nat.le_of_ble_eq_true rfl) dX6_claim_21 ⟨(Nat.zero_le _), (Nat.zero_le _)⟩ (fun H locs hZ hS => ?_)
  refine lv_if_eq (tgt := 30) hx hb dX6_claim_24 (by decide) (fun c_1 => ?_) (fun c_1 => ?_)
  · refine lv_aload_n hx hb dX6_claim_30 rfl (lv_at hl 1 rfl) ?_
    refine z_g0 (f := (μ 0)) (v := .ref (G.1 + 1)) 0 hx hb hts hown hK hZ zk0 rfl (by decide) q226 rfl dX6_claim_31 ?_
    refine lv_aload_n hx hb dX6_claim_34 rfl (lv_at hl 0 rfl) ?_
    refine z_cVi (As := [.ref (G.1 + (1 + (15 + j)))]) (rest := []) hx hb hml hown hts hl hK hZ hS (c_X1_stateOf l G μ fb hfb (1 + (15 + j)) f (zk_item hB1 (by omega)) hf T h hT hT6 hh0 he g hg) (z_G q411 q412 q413 q2 q414) hdX1_stateOf ⟨Nat.le_of_ble_eq_true rfl, Nat.le_of_ble_eq_true rfl⟩ (zk_book hB1) (by decide) rfl rfl rfl rfl (Nat.le_of_ble_eq_true rfl) dX6_claim_35 ⟨(Nat.zero_le _), (Nat.zero_le _)⟩ (fun H locs hZ hS => ?_)
    refine lv_iconst (v := 1) hx hb dX6_claim_38 (by decide) ?_
    refine lv_icmp_eq (tgt := 45) hx hb dX6_claim_39 (by decide) (fun c_2 => ?_) (fun c_2 => ?_)
    · refine lv_aload_n hx hb dX6_claim_45 rfl (lv_at hl 0 rfl) ?_
      refine z_g6 (f := f) (v := .int (f 7)) 7 hx hb hts hown hK hZ (zk_item hB1 (by omega)) hf (by decide) q114 rfl dX6_claim_46 ?_
      refine lv_istore (lv' := [(4, .int (f 7)), (3, .ref (G.1 + (1 + (15 + j)))), (0, .ref (G.1 + 0)), (1, .int (nI j)), (2, .int x)]) hx hb dX6_claim_49 hl (by decide) rfl (fun ls hl => ?_)
      refine lv_iload hx hb dX6_claim_51 (lv_at hl 0 rfl) ?_
      refine lv_iload_n hx hb dX6_claim_53 rfl (lv_at hl 4 rfl) ?_
      refine lv_icmp_ne (tgt := 60) hx hb dX6_claim_54 (by decide) (fun c_3 => ?_) (fun c_3 => ?_)
      · refine lv_aload_n hx hb dX6_claim_60 rfl (lv_at hl 2 rfl) ?_
        refine z_g0 (f := (μ 0)) (v := .ref (G.1 + 79)) 2 hx hb hts hown hK hZ zk0 rfl (by decide) q228 rfl dX6_claim_61 ?_
        refine lv_aload_n hx hb dX6_claim_64 rfl (lv_at hl 2 rfl) ?_
        refine z_g0 (f := (μ 0)) (v := .ref (G.1 + 1)) 0 hx hb hts hown hK hZ zk0 rfl (by decide) q226 rfl dX6_claim_65 ?_
        refine z_cVv (As := [.ref (G.1 + 1)]) (rest := []) hx hb hml hown hts hl hK hZ hS (c_X2_push l G μ hh hfh o ho ho4 z hz hz4 fb hfb T I hT hI hT6 hI24) (z_G q289 q290 q291 q6 q292) hdX2_push ⟨Nat.le_of_ble_eq_true rfl, Nat.le_of_ble_eq_true rfl⟩ zk79 (by decide) rfl rfl rfl rfl (Nat.le_of_ble_eq_true rfl) dX6_claim_68 ⟨(Nat.zero_le _), (Nat.zero_le _)⟩ (fun H locs hZ hS => ?_)
        refine lv_aload_n hx hb dX6_claim_71 rfl (lv_at hl 1 rfl) ?_
        refine lv_iload_n hx hb dX6_claim_72 rfl (lv_at hl 4 rfl) ?_
        refine z_p6 (f := f) (μ1 := (zr (zp μ o z T I) (1 + (15 + j)) (zu f 7 x))) 7 hx hb hts hown hK hZ hS (zk_item hB1 (by omega)) ((zp_ne (by omega)).trans hf) (by decide) q114 rfl pfd_I rfl rfl dX6_claim_73 (fun H locs hZ hS => ?_)
        refine lv_iload hx hb dX6_claim_76 (lv_at hl 0 rfl) ?_
        exact z_iret hx hb hr hlk hK hZ hS ⟨by rw [p_claim, if_pos c_1, if_pos c_2, if_neg c_3], by rw [p_claim, if_pos c_1, if_pos c_2, if_neg c_3]⟩ dX6_claim_78
      · refine lv_bipush (v := (-5)) hx hb dX6_claim_57 (by decide) ?_
        exact z_iret hx hb hr hlk hK hZ hS ⟨by rw [p_claim, if_pos c_1, if_pos c_2, if_pos c_3], by rw [p_claim, if_pos c_1, if_pos c_2, if_pos c_3]⟩ dX6_claim_59
    · refine lv_bipush (v := (-4)) hx hb dX6_claim_42 (by decide) ?_
      exact z_iret hx hb hr hlk hK hZ hS ⟨by rw [p_claim, if_pos c_1, if_neg c_2], by rw [p_claim, if_pos c_1, if_neg c_2]⟩ dX6_claim_44
  · refine lv_bipush (v := (-2)) hx hb dX6_claim_27 (by decide) ?_
    exact z_iret hx hb hr hlk hK hZ hS ⟨by rw [p_claim, if_neg c_1], by rw [p_claim, if_neg c_1]⟩ dX6_claim_29
set_option maxHeartbeats 4000000 in
set_option maxRecDepth 100000 in
theorem c_X6_claim_no (l : Launch) (G : zG) (μ : zM) (fb : Nat → Int32) (hfb : μ 1 = fb) (T I : Nat) (hT : fb 3 = nI T) (hI : fb 4 = nI I) (hT6 : T ≤ 6) (hI24 : I ≤ 24) (x : Int32) (hxx : x < 0 ∨ nI I ≤ x) (a : Int32) : zMet l G yX6_claim cX6_claim 5 (some .int) 1 21 [.ref (G.1 + 0), .int x, .int a] μ (zQi G (-1) μ) := by
  refine z_start (lv := [(0, .ref (G.1 + 0)), (1, .int x), (2, .int a)]) (by decide) (Nat.le_of_ble_eq_true rfl) rfl ?_
  intro p e s m args below meth c ls hx hb hml hr hlk hts hown hK hZ hS hl
  have hown : s.vm.findClass RX6 = some m.cls := hown
  refine lv_aload_n hx hb dX6_claim_0 rfl (lv_at hl 0 rfl) ?_
  refine z_g0 (f := (μ 0)) (v := .ref (G.1 + 1)) 0 hx hb hts hown hK hZ zk0 rfl (by decide) q226 rfl dX6_claim_1 ?_
  refine lv_iload_n hx hb dX6_claim_4 rfl (lv_at hl 1 rfl) ?_
  refine z_cVn (As := [.int x]) (rest := []) hx hb hml hown hts hl hK hZ hS (c_X1_itemAt_no l G μ 1 hB1 fb hfb I hI x hxx) (z_G q394 q274 q275 q2 q276) hdX1_itemAt ⟨Nat.le_of_ble_eq_true rfl, Nat.le_of_ble_eq_true rfl⟩ (zk_book hB1) (by decide) rfl rfl rfl rfl (Nat.le_of_ble_eq_true rfl) dX6_claim_5 ⟨(Nat.zero_le _), (Nat.zero_le _)⟩ (fun H locs hZ hS => ?_)
  refine lv_astore_nN (lv' := [(3, .null), (0, .ref (G.1 + 0)), (1, .int x), (2, .int a)]) hx hb dX6_claim_8 rfl hl (by decide) rfl (fun ls hl => ?_)
  refine lv_aload_nN hx hb dX6_claim_9 rfl (lv_at hl 0 rfl) ?_
  refine lv_ifnonnullN hx hb dX6_claim_10 ?_
  refine lv_iconst (v := (-1)) hx hb dX6_claim_13 (by decide) ?_
  exact z_iret hx hb hr hlk hK hZ hS ⟨rfl, rfl⟩ dX6_claim_14
def p_claimRent (μ : zM) (fb : Nat → Int32) (o z T I : Nat) (t : Nat) (g : Nat → Int32) (x : Int32) : Int32 × zM := if (s_out x 0 1000000) = 0 then if (g 2) = 1 then if (g 4) = x then ((-5), μ)
      else ((g 4), (zr (zp μ o z T I) (1 + (3 + 2 * t)) (zu g 4 x)))
    else ((-4), μ)
  else ((-2), μ)
theorem hdX6_claimRent : yX6_claimRent.cls = RX6 ∧ yX6_claimRent.cls ≠ "java/lang/invoke/MethodHandle" ∧ yX6_claimRent.cls ≠ "java/lang/invoke/VarHandle" ∧ (parseMethodDescriptor yX6_claimRent.desc).map (fun d => d.parameters.length) = some 2 := by decide +kernel
set_option maxHeartbeats 4000000 in
set_option maxRecDepth 100000 in
theorem c_X6_claimRent (l : Launch) (G : zG) (μ : zM) (fb hh : Nat → Int32) (hfb : μ 1 = fb) (hfh : μ 79 = hh) (T I o z : Nat) (hT : fb 3 = nI T) (hI : fb 4 = nI I) (hT6 : T ≤ 6) (hI24 : I ≤ 24) (ho : hh 1 = nI o) (hz : hh 2 = nI z) (ho4 : o < 4) (hz4 : z ≤ 4) (t : Nat) (ht : t < T) (g : Nat → Int32) (hg : μ (1 + (3 + 2 * t)) = g) (x : Int32) : zMet l G yX6_claimRent cX6_claimRent 5 (some .int) 4 88 [.ref (G.1 + 0), .int (nI t), .int x] μ (zQi G (p_claimRent μ fb o z T I t g x).1 (p_claimRent μ fb o z T I t g x).2) := by
  refine z_start (lv := [(0, .ref (G.1 + 0)), (1, .int (nI t)), (2, .int x)]) (by decide) (Nat.le_of_ble_eq_true rfl) rfl ?_
  intro p e s m args below meth c ls hx hb hml hr hlk hts hown hK hZ hS hl
  have hown : s.vm.findClass RX6 = some m.cls := hown
  refine lv_aload_n hx hb dX6_claimRent_0 rfl (lv_at hl 0 rfl) ?_
  refine z_g0 (f := (μ 0)) (v := .ref (G.1 + 1)) 0 hx hb hts hown hK hZ zk0 rfl (by decide) q226 rfl dX6_claimRent_1 ?_
  refine lv_iload_n hx hb dX6_claimRent_4 rfl (lv_at hl 1 rfl) ?_
  refine z_cVr (As := [.int (nI t)]) (rest := []) hx hb hml hown hts hl hK hZ hS (c_X1_tenancyAt_ok l G μ 1 hB1 fb hfb T t hT hT6 (by omega)) (z_G q306 q262 q263 q2 q264) hdX1_tenancyAt ⟨Nat.le_of_ble_eq_true rfl, Nat.le_of_ble_eq_true rfl⟩ (zk_book hB1) (by decide) rfl rfl rfl rfl (Nat.le_of_ble_eq_true rfl) dX6_claimRent_5 ⟨(Nat.zero_le _), (Nat.zero_le _)⟩ (fun H locs hZ hS => ?_)
  refine lv_astore_n (lv' := [(3, .ref (G.1 + (1 + (3 + 2 * t)))), (0, .ref (G.1 + 0)), (1, .int (nI t)), (2, .int x)]) hx hb dX6_claimRent_8 rfl hl (by decide) rfl (fun ls hl => ?_)
  refine lv_aload_n hx hb dX6_claimRent_9 rfl (lv_at hl 0 rfl) ?_
  refine lv_ifnonnull (tgt := 15) hx hb dX6_claimRent_10 (by decide) ?_
  refine lv_iload_n hx hb dX6_claimRent_15 rfl (lv_at hl 3 rfl) ?_
  refine lv_iconst (v := 0) hx hb dX6_claimRent_16 (by decide) ?_
  refine lv_ldc hx hb hown (hts _ q448) dX6_claimRent_17 ?_
  refine z_cSi (As := [.int x, .int 0, .int 1000000]) (rest := []) hx hb hml hown hts hl hK hZ hS (c_X6_outside l G μ x 0 1000000) (z_GS q358 q359 q1 q360) hdX6_outside ⟨Nat.le_of_ble_eq_true rfl, Nat.le_of_ble_eq_true rfl⟩ rfl rfl (Nat.le_of_ble_eq_true rfl) dX6_claimRent_19 ⟨(Nat.zero_le _), (Nat.zero_le _)⟩ (fun H locs hZ hS => ?_)
  refine lv_if_eq (tgt := 28) hx hb dX6_claimRent_22 (by decide) (fun c_1 => ?_) (fun c_1 => ?_)
  · refine lv_aload_n hx hb dX6_claimRent_28 rfl (lv_at hl 0 rfl) ?_
    refine z_g4 (f := g) (v := .int (g 2)) 2 hx hb hts hown hK hZ (zk_ten hB1 (by omega)) hg (by decide) q66 rfl dX6_claimRent_29 ?_
    refine lv_iconst (v := 1) hx hb dX6_claimRent_32 (by decide) ?_
    refine lv_icmp_eq (tgt := 39) hx hb dX6_claimRent_33 (by decide) (fun c_2 => ?_) (fun c_2 => ?_)
    · refine lv_aload_n hx hb dX6_claimRent_39 rfl (lv_at hl 0 rfl) ?_
      refine z_g4 (f := g) (v := .int (g 4)) 4 hx hb hts hown hK hZ (zk_ten hB1 (by omega)) hg (by decide) q72 rfl dX6_claimRent_40 ?_
      refine lv_istore (lv' := [(4, .int (g 4)), (3, .ref (G.1 + (1 + (3 + 2 * t)))), (0, .ref (G.1 + 0)), (1, .int (nI t)), (2, .int x)]) hx hb dX6_claimRent_43 hl (by decide) rfl (fun ls hl => ?_)
      refine lv_iload hx hb dX6_claimRent_45 (lv_at hl 0 rfl) ?_
      refine lv_iload_n hx hb dX6_claimRent_47 rfl (lv_at hl 4 rfl) ?_
      refine lv_icmp_ne (tgt := 54) hx hb dX6_claimRent_48 (by decide) (fun c_3 => ?_) (fun c_3 => ?_)
      · refine lv_aload_n hx hb dX6_claimRent_54 rfl (lv_at hl 2 rfl) ?_
        refine z_g0 (f := (μ 0)) (v := .ref (G.1 + 79)) 2 hx hb hts hown hK hZ zk0 rfl (by decide) q228 rfl dX6_claimRent_55 ?_
        refine lv_aload_n hx hb dX6_claimRent_58 rfl (lv_at hl 2 rfl) ?_
        refine z_g0 (f := (μ 0)) (v := .ref (G.1 + 1)) 0 hx hb hts hown hK hZ zk0 rfl (by decide) q226 rfl dX6_claimRent_59 ?_
        refine z_cVv (As := [.ref (G.1 + 1)]) (rest := []) hx hb hml hown hts hl hK hZ hS (c_X2_push l G μ hh hfh o ho ho4 z hz hz4 fb hfb T I hT hI hT6 hI24) (z_G q289 q290 q291 q6 q292) hdX2_push ⟨Nat.le_of_ble_eq_true rfl, Nat.le_of_ble_eq_true rfl⟩ zk79 (by decide) rfl rfl rfl rfl (Nat.le_of_ble_eq_true rfl) dX6_claimRent_62 ⟨(Nat.zero_le _), (Nat.zero_le _)⟩ (fun H locs hZ hS => ?_)
        refine lv_aload_n hx hb dX6_claimRent_65 rfl (lv_at hl 1 rfl) ?_
        refine lv_iload_n hx hb dX6_claimRent_66 rfl (lv_at hl 4 rfl) ?_
        refine z_p4 (f := g) (μ1 := (zr (zp μ o z T I) (1 + (3 + 2 * t)) (zu g 4 x))) 4 hx hb hts hown hK hZ hS (zk_ten hB1 (by omega)) ((zp_ne (by omega)).trans hg) (by decide) q72 rfl pfd_I rfl rfl dX6_claimRent_67 (fun H locs hZ hS => ?_)
        refine lv_iload hx hb dX6_claimRent_70 (lv_at hl 0 rfl) ?_
        exact z_iret hx hb hr hlk hK hZ hS ⟨by rw [p_claimRent, if_pos c_1, if_pos c_2, if_neg c_3], by rw [p_claimRent, if_pos c_1, if_pos c_2, if_neg c_3]⟩ dX6_claimRent_72
      · refine lv_bipush (v := (-5)) hx hb dX6_claimRent_51 (by decide) ?_
        exact z_iret hx hb hr hlk hK hZ hS ⟨by rw [p_claimRent, if_pos c_1, if_pos c_2, if_pos c_3], by rw [p_claimRent, if_pos c_1, if_pos c_2, if_pos c_3]⟩ dX6_claimRent_53
    · refine lv_bipush (v := (-4)) hx hb dX6_claimRent_36 (by decide) ?_
      exact z_iret hx hb hr hlk hK hZ hS ⟨by rw [p_claimRent, if_pos c_1, if_neg c_2], by rw [p_claimRent, if_pos c_1, if_neg c_2]⟩ dX6_claimRent_38
  · refine lv_bipush (v := (-2)) hx hb dX6_claimRent_25 (by decide) ?_
    exact z_iret hx hb hr hlk hK hZ hS ⟨by rw [p_claimRent, if_neg c_1], by rw [p_claimRent, if_neg c_1]⟩ dX6_claimRent_27
set_option maxHeartbeats 4000000 in
set_option maxRecDepth 100000 in
theorem c_X6_claimRent_no (l : Launch) (G : zG) (μ : zM) (fb : Nat → Int32) (hfb : μ 1 = fb) (T I : Nat) (hT : fb 3 = nI T) (hI : fb 4 = nI I) (hT6 : T ≤ 6) (hI24 : I ≤ 24) (x : Int32) (hxx : x < 0 ∨ nI T ≤ x) (a : Int32) : zMet l G yX6_claimRent cX6_claimRent 5 (some .int) 1 21 [.ref (G.1 + 0), .int x, .int a] μ (zQi G (-1) μ) := by
  refine z_start (lv := [(0, .ref (G.1 + 0)), (1, .int x), (2, .int a)]) (by decide) (Nat.le_of_ble_eq_true rfl) rfl ?_
  intro p e s m args below meth c ls hx hb hml hr hlk hts hown hK hZ hS hl
  have hown : s.vm.findClass RX6 = some m.cls := hown
  refine lv_aload_n hx hb dX6_claimRent_0 rfl (lv_at hl 0 rfl) ?_
  refine z_g0 (f := (μ 0)) (v := .ref (G.1 + 1)) 0 hx hb hts hown hK hZ zk0 rfl (by decide) q226 rfl dX6_claimRent_1 ?_
  refine lv_iload_n hx hb dX6_claimRent_4 rfl (lv_at hl 1 rfl) ?_
  refine z_cVn (As := [.int x]) (rest := []) hx hb hml hown hts hl hK hZ hS (c_X1_tenancyAt_no l G μ 1 hB1 fb hfb T hT x hxx) (z_G q306 q262 q263 q2 q264) hdX1_tenancyAt ⟨Nat.le_of_ble_eq_true rfl, Nat.le_of_ble_eq_true rfl⟩ (zk_book hB1) (by decide) rfl rfl rfl rfl (Nat.le_of_ble_eq_true rfl) dX6_claimRent_5 ⟨(Nat.zero_le _), (Nat.zero_le _)⟩ (fun H locs hZ hS => ?_)
  refine lv_astore_nN (lv' := [(3, .null), (0, .ref (G.1 + 0)), (1, .int x), (2, .int a)]) hx hb dX6_claimRent_8 rfl hl (by decide) rfl (fun ls hl => ?_)
  refine lv_aload_nN hx hb dX6_claimRent_9 rfl (lv_at hl 0 rfl) ?_
  refine lv_ifnonnullN hx hb dX6_claimRent_10 ?_
  refine lv_iconst (v := (-1)) hx hb dX6_claimRent_13 (by decide) ?_
  exact z_iret hx hb hr hlk hK hZ hS ⟨rfl, rfl⟩ dX6_claimRent_14
theorem s_tot_cg {μ ν : zM} {t w : Nat} (hq : ∀ j, j < 24 → ν (1 + (15 + j)) = μ (1 + (15 + j))) : ∀ {I : Nat}, I ≤ 24 → s_tot ν t w I = s_tot μ t w I
  | 0, _ => rfl
  | j + 1, h => by
    show (if ν (1 + (15 + j)) 0 = nI t then s_tot ν t w j + s_share (ν (1 + (15 + j))) w else s_tot ν t w j) = (if μ (1 + (15 + j)) 0 = nI t then s_tot μ t w j + s_share (μ (1 + (15 + j))) w else s_tot μ t w j)
    rw [hq j (by omega), s_tot_cg hq (Nat.le_of_succ_le h)]
def p_put (μ : zM) (fb : Nat → Int32) (o z T I : Nat) (t : Nat) (g : Nat → Int32) : Int32 × zM := if (g 2) = 1 then ((s_tot μ t 1 I), (zr (zp μ o z T I) (1 + (3 + 2 * t)) (zu g 2 2)))
  else ((-4), μ)
theorem hdX6_put : yX6_put.cls = RX6 ∧ yX6_put.cls ≠ "java/lang/invoke/MethodHandle" ∧ yX6_put.cls ≠ "java/lang/invoke/VarHandle" ∧ (parseMethodDescriptor yX6_put.desc).map (fun d => d.parameters.length) = some 1 := by decide +kernel
set_option maxHeartbeats 4000000 in
set_option maxRecDepth 100000 in
theorem c_X6_put (l : Launch) (G : zG) (μ : zM) (fb hh : Nat → Int32) (hfb : μ 1 = fb) (hfh : μ 79 = hh) (T I o z : Nat) (hT : fb 3 = nI T) (hI : fb 4 = nI I) (hT6 : T ≤ 6) (hI24 : I ≤ 24) (ho : hh 1 = nI o) (hz : hh 2 = nI z) (ho4 : o < 4) (hz4 : z ≤ 4) (t : Nat) (ht : t < T) (g : Nat → Int32) (hg : μ (1 + (3 + 2 * t)) = g) : zMet l G yX6_put cX6_put 3 (some .int) 4 89 [.ref (G.1 + 0), .int (nI t)] μ (zQi G (p_put μ fb o z T I t g).1 (p_put μ fb o z T I t g).2) := by
  refine z_start (lv := [(0, .ref (G.1 + 0)), (1, .int (nI t))]) (by decide) (Nat.le_of_ble_eq_true rfl) rfl ?_
  intro p e s m args below meth c ls hx hb hml hr hlk hts hown hK hZ hS hl
  have hown : s.vm.findClass RX6 = some m.cls := hown
  refine lv_aload_n hx hb dX6_put_0 rfl (lv_at hl 0 rfl) ?_
  refine z_g0 (f := (μ 0)) (v := .ref (G.1 + 1)) 0 hx hb hts hown hK hZ zk0 rfl (by decide) q226 rfl dX6_put_1 ?_
  refine lv_iload_n hx hb dX6_put_4 rfl (lv_at hl 1 rfl) ?_
  refine z_cVr (As := [.int (nI t)]) (rest := []) hx hb hml hown hts hl hK hZ hS (c_X1_tenancyAt_ok l G μ 1 hB1 fb hfb T t hT hT6 (by omega)) (z_G q306 q262 q263 q2 q264) hdX1_tenancyAt ⟨Nat.le_of_ble_eq_true rfl, Nat.le_of_ble_eq_true rfl⟩ (zk_book hB1) (by decide) rfl rfl rfl rfl (Nat.le_of_ble_eq_true rfl) dX6_put_5 ⟨(Nat.zero_le _), (Nat.zero_le _)⟩ (fun H locs hZ hS => ?_)
  refine lv_astore_n (lv' := [(2, .ref (G.1 + (1 + (3 + 2 * t)))), (0, .ref (G.1 + 0)), (1, .int (nI t))]) hx hb dX6_put_8 rfl hl (by decide) rfl (fun ls hl => ?_)
  refine lv_aload_n hx hb dX6_put_9 rfl (lv_at hl 0 rfl) ?_
  refine lv_ifnonnull (tgt := 15) hx hb dX6_put_10 (by decide) ?_
  refine lv_aload_n hx hb dX6_put_15 rfl (lv_at hl 0 rfl) ?_
  refine z_g4 (f := g) (v := .int (g 2)) 2 hx hb hts hown hK hZ (zk_ten hB1 (by omega)) hg (by decide) q66 rfl dX6_put_16 ?_
  refine lv_iconst (v := 1) hx hb dX6_put_19 (by decide) ?_
  refine lv_icmp_eq (tgt := 26) hx hb dX6_put_20 (by decide) (fun c_1 => ?_) (fun c_1 => ?_)
  · refine lv_aload_n hx hb dX6_put_26 rfl (lv_at hl 1 rfl) ?_
    refine z_g0 (f := (μ 0)) (v := .ref (G.1 + 79)) 2 hx hb hts hown hK hZ zk0 rfl (by decide) q228 rfl dX6_put_27 ?_
    refine lv_aload_n hx hb dX6_put_30 rfl (lv_at hl 1 rfl) ?_
    refine z_g0 (f := (μ 0)) (v := .ref (G.1 + 1)) 0 hx hb hts hown hK hZ zk0 rfl (by decide) q226 rfl dX6_put_31 ?_
    refine z_cVv (As := [.ref (G.1 + 1)]) (rest := []) hx hb hml hown hts hl hK hZ hS (c_X2_push l G μ hh hfh o ho ho4 z hz hz4 fb hfb T I hT hI hT6 hI24) (z_G q289 q290 q291 q6 q292) hdX2_push ⟨Nat.le_of_ble_eq_true rfl, Nat.le_of_ble_eq_true rfl⟩ zk79 (by decide) rfl rfl rfl rfl (Nat.le_of_ble_eq_true rfl) dX6_put_34 ⟨(Nat.zero_le _), (Nat.zero_le _)⟩ (fun H locs hZ hS => ?_)
    refine lv_aload_n hx hb dX6_put_37 rfl (lv_at hl 0 rfl) ?_
    refine lv_iconst (v := 2) hx hb dX6_put_38 (by decide) ?_
    refine z_p4 (f := g) (μ1 := (zr (zp μ o z T I) (1 + (3 + 2 * t)) (zu g 2 2))) 2 hx hb hts hown hK hZ hS (zk_ten hB1 (by omega)) ((zp_ne (by omega)).trans hg) (by decide) q66 rfl pfd_I rfl rfl dX6_put_39 (fun H locs hZ hS => ?_)
    refine lv_aload_n hx hb dX6_put_42 rfl (lv_at hl 1 rfl) ?_
    refine z_g0 (f := ((zr (zp μ o z T I) (1 + (3 + 2 * t)) (zu g 2 2)) 0)) (v := .ref (G.1 + 1)) 0 hx hb hts hown hK hZ zk0 rfl (by decide) q226 rfl dX6_put_43 ?_
    refine lv_iload_n hx hb dX6_put_46 rfl (lv_at hl 2 rfl) ?_
    refine lv_iconst (v := 1) hx hb dX6_put_47 (by decide) ?_
    refine z_cVi (As := [.int (nI t), .int 1]) (rest := []) hx hb hml hown hts hl hK hZ hS (c_X1_total l G (zr (zp μ o z T I) (1 + (3 + 2 * t)) (zu g 2 2)) fb (zr_at ((zp_ne (by omega)).trans hfb) (by omega)) I hI hI24 t 1 (by omega)) (z_G q337 q338 q339 q2 q340) hdX1_total ⟨Nat.le_of_ble_eq_true rfl, Nat.le_of_ble_eq_true rfl⟩ (zk_book hB1) (by decide) rfl rfl rfl rfl (Nat.le_of_ble_eq_true rfl) dX6_put_48 ⟨(Nat.zero_le _), (Nat.zero_le _)⟩ (fun H locs hZ hS => ?_)
    rw [s_tot_cg (fun j hj => by rw [zr_ne (by omega), zp_ne (by omega)]) hI24]
    exact z_iret hx hb hr hlk hK hZ hS ⟨by rw [p_put, if_pos c_1], by rw [p_put, if_pos c_1]⟩ dX6_put_51
  · refine lv_bipush (v := (-4)) hx hb dX6_put_23 (by decide) ?_
    exact z_iret hx hb hr hlk hK hZ hS ⟨by rw [p_put, if_neg c_1], by rw [p_put, if_neg c_1]⟩ dX6_put_25
set_option maxHeartbeats 4000000 in
set_option maxRecDepth 100000 in
theorem c_X6_put_no (l : Launch) (G : zG) (μ : zM) (fb : Nat → Int32) (hfb : μ 1 = fb) (T I : Nat) (hT : fb 3 = nI T) (hI : fb 4 = nI I) (hT6 : T ≤ 6) (hI24 : I ≤ 24) (x : Int32) (hxx : x < 0 ∨ nI T ≤ x) : zMet l G yX6_put cX6_put 3 (some .int) 1 21 [.ref (G.1 + 0), .int x] μ (zQi G (-1) μ) := by
  refine z_start (lv := [(0, .ref (G.1 + 0)), (1, .int x)]) (by decide) (Nat.le_of_ble_eq_true rfl) rfl ?_
  intro p e s m args below meth c ls hx hb hml hr hlk hts hown hK hZ hS hl
  have hown : s.vm.findClass RX6 = some m.cls := hown
  refine lv_aload_n hx hb dX6_put_0 rfl (lv_at hl 0 rfl) ?_
  refine z_g0 (f := (μ 0)) (v := .ref (G.1 + 1)) 0 hx hb hts hown hK hZ zk0 rfl (by decide) q226 rfl dX6_put_1 ?_
  refine lv_iload_n hx hb dX6_put_4 rfl (lv_at hl 1 rfl) ?_
  refine z_cVn (As := [.int x]) (rest := []) hx hb hml hown hts hl hK hZ hS (c_X1_tenancyAt_no l G μ 1 hB1 fb hfb T hT x hxx) (z_G q306 q262 q263 q2 q264) hdX1_tenancyAt ⟨Nat.le_of_ble_eq_true rfl, Nat.le_of_ble_eq_true rfl⟩ (zk_book hB1) (by decide) rfl rfl rfl rfl (Nat.le_of_ble_eq_true rfl) dX6_put_5 ⟨(Nat.zero_le _), (Nat.zero_le _)⟩ (fun H locs hZ hS => ?_)
  refine lv_astore_nN (lv' := [(2, .null), (0, .ref (G.1 + 0)), (1, .int x)]) hx hb dX6_put_8 rfl hl (by decide) rfl (fun ls hl => ?_)
  refine lv_aload_nN hx hb dX6_put_9 rfl (lv_at hl 0 rfl) ?_
  refine lv_ifnonnullN hx hb dX6_put_10 ?_
  refine lv_iconst (v := (-1)) hx hb dX6_put_13 (by decide) ?_
  exact z_iret hx hb hr hlk hK hZ hS ⟨rfl, rfl⟩ dX6_put_14
def p_answer (μ : zM) (fb : Nat → Int32) (o z T I : Nat) (j : Nat) (f g : Nat → Int32) (x : Int32) : Int32 × zM := if (s_X1_can f g) = 0 then ((-4), μ)
  else if x = 0 then if (f 8) = 2 then ((-5), μ)
      else ((f 8), (zr (zp μ o z T I) (1 + (15 + j)) (zu f 8 2)))
    else if (f 8) = 1 then ((-5), μ)
      else ((f 8), (zr (zp μ o z T I) (1 + (15 + j)) (zu f 8 1)))
theorem hdX6_answer : yX6_answer.cls = RX6 ∧ yX6_answer.cls ≠ "java/lang/invoke/MethodHandle" ∧ yX6_answer.cls ≠ "java/lang/invoke/VarHandle" ∧ (parseMethodDescriptor yX6_answer.desc).map (fun d => d.parameters.length) = some 2 := by decide +kernel
set_option maxHeartbeats 4000000 in
set_option maxRecDepth 100000 in
theorem c_X6_answer (l : Launch) (G : zG) (μ : zM) (fb hh : Nat → Int32) (hfb : μ 1 = fb) (hfh : μ 79 = hh) (T I o z : Nat) (hT : fb 3 = nI T) (hI : fb 4 = nI I) (hT6 : T ≤ 6) (hI24 : I ≤ 24) (ho : hh 1 = nI o) (hz : hh 2 = nI z) (ho4 : o < 4) (hz4 : z ≤ 4) (j h : Nat) (hj : j < I) (hh0 : h < T) (f : Nat → Int32) (hf : μ (1 + (15 + j)) = f) (he : f 0 = nI h) (g : Nat → Int32) (hg : μ (1 + (3 + 2 * h)) = g) (x : Int32) : zMet l G yX6_answer cX6_answer 6 (some .int) 4 88 [.ref (G.1 + 0), .int (nI j), .int x] μ (zQi G (p_answer μ fb o z T I j f g x).1 (p_answer μ fb o z T I j f g x).2) := by
  refine z_start (lv := [(0, .ref (G.1 + 0)), (1, .int (nI j)), (2, .int x)]) (by decide) (Nat.le_of_ble_eq_true rfl) rfl ?_
  intro p e s m args below meth c ls hx hb hml hr hlk hts hown hK hZ hS hl
  have hown : s.vm.findClass RX6 = some m.cls := hown
  refine lv_aload_n hx hb dX6_answer_0 rfl (lv_at hl 0 rfl) ?_
  refine z_g0 (f := (μ 0)) (v := .ref (G.1 + 1)) 0 hx hb hts hown hK hZ zk0 rfl (by decide) q226 rfl dX6_answer_1 ?_
  refine lv_iload_n hx hb dX6_answer_4 rfl (lv_at hl 1 rfl) ?_
  refine z_cVr (As := [.int (nI j)]) (rest := []) hx hb hml hown hts hl hK hZ hS (c_X1_itemAt_ok l G μ 1 hB1 fb hfb I j hI hI24 (by omega)) (z_G q394 q274 q275 q2 q276) hdX1_itemAt ⟨Nat.le_of_ble_eq_true rfl, Nat.le_of_ble_eq_true rfl⟩ (zk_book hB1) (by decide) rfl rfl rfl rfl (Nat.le_of_ble_eq_true rfl) dX6_answer_5 ⟨(Nat.zero_le _), (Nat.zero_le _)⟩ (fun H locs hZ hS => ?_)
  refine lv_astore_n (lv' := [(3, .ref (G.1 + (1 + (15 + j)))), (0, .ref (G.1 + 0)), (1, .int (nI j)), (2, .int x)]) hx hb dX6_answer_8 rfl hl (by decide) rfl (fun ls hl => ?_)
  refine lv_aload_n hx hb dX6_answer_9 rfl (lv_at hl 0 rfl) ?_
  refine lv_ifnonnull (tgt := 15) hx hb dX6_answer_10 (by decide) ?_
  refine lv_aload_n hx hb dX6_answer_15 rfl (lv_at hl 1 rfl) ?_
  refine z_g0 (f := (μ 0)) (v := .ref (G.1 + 1)) 0 hx hb hts hown hK hZ zk0 rfl (by decide) q226 rfl dX6_answer_16 ?_
  refine lv_aload_n hx hb dX6_answer_19 rfl (lv_at hl 0 rfl) ?_
  refine z_cVi (As := [.ref (G.1 + (1 + (15 + j)))]) (rest := []) hx hb hml hown hts hl hK hZ hS (c_X1_canBeAnswered l G μ fb hfb (1 + (15 + j)) f (zk_item hB1 (by omega)) hf T h hT hT6 hh0 he g hg) (z_G q523 q524 q525 q2 q526) hdX1_canBeAnswered ⟨Nat.le_of_ble_eq_true rfl, Nat.le_of_ble_eq_true rfl⟩ (zk_book hB1) (by decide) rfl rfl rfl rfl (Nat.le_of_ble_eq_true rfl) dX6_answer_20 ⟨(Nat.zero_le _), (Nat.zero_le _)⟩ (fun H locs hZ hS => ?_)
  refine lv_if_ne (tgt := 29) hx hb dX6_answer_23 (by decide) (fun c_1 => ?_) (fun c_1 => ?_)
  · refine lv_aload_n hx hb dX6_answer_29 rfl (lv_at hl 0 rfl) ?_
    refine z_g6 (f := f) (v := .int (f 8)) 8 hx hb hts hown hK hZ (zk_item hB1 (by omega)) hf (by decide) q117 rfl dX6_answer_30 ?_
    refine lv_istore (lv' := [(4, .int (f 8)), (3, .ref (G.1 + (1 + (15 + j)))), (0, .ref (G.1 + 0)), (1, .int (nI j)), (2, .int x)]) hx hb dX6_answer_33 hl (by decide) rfl (fun ls hl => ?_)
    refine lv_iload_n hx hb dX6_answer_35 rfl (lv_at hl 4 rfl) ?_
    refine lv_if_eq (tgt := 43) hx hb dX6_answer_36 (by decide) (fun c_2 => ?_) (fun c_2 => ?_)
    · refine lv_iconst (v := 2) hx hb dX6_answer_43 (by decide) ?_
      refine lv_istore (lv' := [(5, .int 2), (4, .int (f 8)), (3, .ref (G.1 + (1 + (15 + j)))), (0, .ref (G.1 + 0)), (1, .int (nI j)), (2, .int x)]) hx hb dX6_answer_44 hl (by decide) rfl (fun ls hl => ?_)
      refine lv_iload hx hb dX6_answer_46 (lv_at hl 1 rfl) ?_
      refine lv_iload hx hb dX6_answer_48 (lv_at hl 0 rfl) ?_
      refine lv_icmp_ne (tgt := 56) hx hb dX6_answer_50 (by decide) (fun c_3 => ?_) (fun c_3 => ?_)
      · refine lv_aload_n hx hb dX6_answer_56 rfl (lv_at hl 3 rfl) ?_
        refine z_g0 (f := (μ 0)) (v := .ref (G.1 + 79)) 2 hx hb hts hown hK hZ zk0 rfl (by decide) q228 rfl dX6_answer_57 ?_
        refine lv_aload_n hx hb dX6_answer_60 rfl (lv_at hl 3 rfl) ?_
        refine z_g0 (f := (μ 0)) (v := .ref (G.1 + 1)) 0 hx hb hts hown hK hZ zk0 rfl (by decide) q226 rfl dX6_answer_61 ?_
        refine z_cVv (As := [.ref (G.1 + 1)]) (rest := []) hx hb hml hown hts hl hK hZ hS (c_X2_push l G μ hh hfh o ho ho4 z hz hz4 fb hfb T I hT hI hT6 hI24) (z_G q289 q290 q291 q6 q292) hdX2_push ⟨Nat.le_of_ble_eq_true rfl, Nat.le_of_ble_eq_true rfl⟩ zk79 (by decide) rfl rfl rfl rfl (Nat.le_of_ble_eq_true rfl) dX6_answer_64 ⟨(Nat.zero_le _), (Nat.zero_le _)⟩ (fun H locs hZ hS => ?_)
        refine lv_aload_n hx hb dX6_answer_67 rfl (lv_at hl 2 rfl) ?_
        refine lv_iload hx hb dX6_answer_68 (lv_at hl 0 rfl) ?_
        refine z_p6 (f := f) (μ1 := (zr (zp μ o z T I) (1 + (15 + j)) (zu f 8 2))) 8 hx hb hts hown hK hZ hS (zk_item hB1 (by omega)) ((zp_ne (by omega)).trans hf) (by decide) q117 rfl pfd_I rfl rfl dX6_answer_70 (fun H locs hZ hS => ?_)
        refine lv_iload hx hb dX6_answer_73 (lv_at hl 1 rfl) ?_
        exact z_iret hx hb hr hlk hK hZ hS ⟨by rw [p_answer, if_neg c_1, if_pos c_2, if_neg c_3], by rw [p_answer, if_neg c_1, if_pos c_2, if_neg c_3]⟩ dX6_answer_75
      · refine lv_bipush (v := (-5)) hx hb dX6_answer_53 (by decide) ?_
        exact z_iret hx hb hr hlk hK hZ hS ⟨by rw [p_answer, if_neg c_1, if_pos c_2, if_pos c_3], by rw [p_answer, if_neg c_1, if_pos c_2, if_pos c_3]⟩ dX6_answer_55
    · refine lv_iconst (v := 1) hx hb dX6_answer_39 (by decide) ?_
      refine lv_goto (tgt := 44) hx hb dX6_answer_40 (by decide) ?_
      refine lv_istore (lv' := [(5, .int 1), (4, .int (f 8)), (3, .ref (G.1 + (1 + (15 + j)))), (0, .ref (G.1 + 0)), (1, .int (nI j)), (2, .int x)]) hx hb dX6_answer_44 hl (by decide) rfl (fun ls hl => ?_)
      refine lv_iload hx hb dX6_answer_46 (lv_at hl 1 rfl) ?_
      refine lv_iload hx hb dX6_answer_48 (lv_at hl 0 rfl) ?_
      refine lv_icmp_ne (tgt := 56) hx hb dX6_answer_50 (by decide) (fun c_4 => ?_) (fun c_4 => ?_)
      · refine lv_aload_n hx hb dX6_answer_56 rfl (lv_at hl 3 rfl) ?_
        refine z_g0 (f := (μ 0)) (v := .ref (G.1 + 79)) 2 hx hb hts hown hK hZ zk0 rfl (by decide) q228 rfl dX6_answer_57 ?_
        refine lv_aload_n hx hb dX6_answer_60 rfl (lv_at hl 3 rfl) ?_
        refine z_g0 (f := (μ 0)) (v := .ref (G.1 + 1)) 0 hx hb hts hown hK hZ zk0 rfl (by decide) q226 rfl dX6_answer_61 ?_
        refine z_cVv (As := [.ref (G.1 + 1)]) (rest := []) hx hb hml hown hts hl hK hZ hS (c_X2_push l G μ hh hfh o ho ho4 z hz hz4 fb hfb T I hT hI hT6 hI24) (z_G q289 q290 q291 q6 q292) hdX2_push ⟨Nat.le_of_ble_eq_true rfl, Nat.le_of_ble_eq_true rfl⟩ zk79 (by decide) rfl rfl rfl rfl (Nat.le_of_ble_eq_true rfl) dX6_answer_64 ⟨(Nat.zero_le _), (Nat.zero_le _)⟩ (fun H locs hZ hS => ?_)
        refine lv_aload_n hx hb dX6_answer_67 rfl (lv_at hl 2 rfl) ?_
        refine lv_iload hx hb dX6_answer_68 (lv_at hl 0 rfl) ?_
        refine z_p6 (f := f) (μ1 := (zr (zp μ o z T I) (1 + (15 + j)) (zu f 8 1))) 8 hx hb hts hown hK hZ hS (zk_item hB1 (by omega)) ((zp_ne (by omega)).trans hf) (by decide) q117 rfl pfd_I rfl rfl dX6_answer_70 (fun H locs hZ hS => ?_)
        refine lv_iload hx hb dX6_answer_73 (lv_at hl 1 rfl) ?_
        exact z_iret hx hb hr hlk hK hZ hS ⟨by rw [p_answer, if_neg c_1, if_neg c_2, if_neg c_4], by rw [p_answer, if_neg c_1, if_neg c_2, if_neg c_4]⟩ dX6_answer_75
      · refine lv_bipush (v := (-5)) hx hb dX6_answer_53 (by decide) ?_
        exact z_iret hx hb hr hlk hK hZ hS ⟨by rw [p_answer, if_neg c_1, if_neg c_2, if_pos c_4], by rw [p_answer, if_neg c_1, if_neg c_2, if_pos c_4]⟩ dX6_answer_55
  · refine lv_bipush (v := (-4)) hx hb dX6_answer_26 (by decide) ?_
    exact z_iret hx hb hr hlk hK hZ hS ⟨by rw [p_answer, if_pos c_1], by rw [p_answer, if_pos c_1]⟩ dX6_answer_28
set_option maxHeartbeats 4000000 in
set_option maxRecDepth 100000 in
theorem c_X6_answer_no (l : Launch) (G : zG) (μ : zM) (fb : Nat → Int32) (hfb : μ 1 = fb) (T I : Nat) (hT : fb 3 = nI T) (hI : fb 4 = nI I) (hT6 : T ≤ 6) (hI24 : I ≤ 24) (x : Int32) (hxx : x < 0 ∨ nI I ≤ x) (a : Int32) : zMet l G yX6_answer cX6_answer 6 (some .int) 1 21 [.ref (G.1 + 0), .int x, .int a] μ (zQi G (-1) μ) := by
  refine z_start (lv := [(0, .ref (G.1 + 0)), (1, .int x), (2, .int a)]) (by decide) (Nat.le_of_ble_eq_true rfl) rfl ?_
  intro p e s m args below meth c ls hx hb hml hr hlk hts hown hK hZ hS hl
  have hown : s.vm.findClass RX6 = some m.cls := hown
  refine lv_aload_n hx hb dX6_answer_0 rfl (lv_at hl 0 rfl) ?_
  refine z_g0 (f := (μ 0)) (v := .ref (G.1 + 1)) 0 hx hb hts hown hK hZ zk0 rfl (by decide) q226 rfl dX6_answer_1 ?_
  refine lv_iload_n hx hb dX6_answer_4 rfl (lv_at hl 1 rfl) ?_
  refine z_cVn (As := [.int x]) (rest := []) hx hb hml hown hts hl hK hZ hS (c_X1_itemAt_no l G μ 1 hB1 fb hfb I hI x hxx) (z_G q394 q274 q275 q2 q276) hdX1_itemAt ⟨Nat.le_of_ble_eq_true rfl, Nat.le_of_ble_eq_true rfl⟩ (zk_book hB1) (by decide) rfl rfl rfl rfl (Nat.le_of_ble_eq_true rfl) dX6_answer_5 ⟨(Nat.zero_le _), (Nat.zero_le _)⟩ (fun H locs hZ hS => ?_)
  refine lv_astore_nN (lv' := [(3, .null), (0, .ref (G.1 + 0)), (1, .int x), (2, .int a)]) hx hb dX6_answer_8 rfl hl (by decide) rfl (fun ls hl => ?_)
  refine lv_aload_nN hx hb dX6_answer_9 rfl (lv_at hl 0 rfl) ?_
  refine lv_ifnonnullN hx hb dX6_answer_10 ?_
  refine lv_iconst (v := (-1)) hx hb dX6_answer_13 (by decide) ?_
  exact z_iret hx hb hr hlk hK hZ hS ⟨rfl, rfl⟩ dX6_answer_14
def p_setEvidence (μ : zM) (fb : Nat → Int32) (o z T I : Nat) (j : Nat) (f g : Nat → Int32) (x y : Int32) : Int32 × zM := if (s_out x 0 10) = 0 then if (s_out y 0 10) = 0 then if (g 2) = 1 then ((s_X3_award (zu (zu f 9 x) 10 y)), (zr (zp μ o z T I) (1 + (15 + j)) (zu (zu f 9 x) 10 y)))
      else if (g 2) = 2 then ((s_X3_award (zu (zu f 9 x) 10 y)), (zr (zp μ o z T I) (1 + (15 + j)) (zu (zu f 9 x) 10 y)))
        else ((-4), μ)
    else ((-2), μ)
  else ((-2), μ)
theorem hdX6_setEvidence : yX6_setEvidence.cls = RX6 ∧ yX6_setEvidence.cls ≠ "java/lang/invoke/MethodHandle" ∧ yX6_setEvidence.cls ≠ "java/lang/invoke/VarHandle" ∧ (parseMethodDescriptor yX6_setEvidence.desc).map (fun d => d.parameters.length) = some 3 := by decide +kernel
set_option maxHeartbeats 4000000 in
set_option maxRecDepth 100000 in
theorem c_X6_setEvidence (l : Launch) (G : zG) (μ : zM) (fb hh : Nat → Int32) (hfb : μ 1 = fb) (hfh : μ 79 = hh) (T I o z : Nat) (hT : fb 3 = nI T) (hI : fb 4 = nI I) (hT6 : T ≤ 6) (hI24 : I ≤ 24) (ho : hh 1 = nI o) (hz : hh 2 = nI z) (ho4 : o < 4) (hz4 : z ≤ 4) (j h : Nat) (hj : j < I) (hh0 : h < T) (f : Nat → Int32) (hf : μ (1 + (15 + j)) = f) (he : f 0 = nI h) (g : Nat → Int32) (hg : μ (1 + (3 + 2 * h)) = g) (x y : Int32) : zMet l G yX6_setEvidence cX6_setEvidence 6 (some .int) 4 88 [.ref (G.1 + 0), .int (nI j), .int x, .int y] μ (zQi G (p_setEvidence μ fb o z T I j f g x y).1 (p_setEvidence μ fb o z T I j f g x y).2) := by
  refine z_start (lv := [(0, .ref (G.1 + 0)), (1, .int (nI j)), (2, .int x), (3, .int y)]) (by decide) (Nat.le_of_ble_eq_true rfl) rfl ?_
  intro p e s m args below meth c ls hx hb hml hr hlk hts hown hK hZ hS hl
  have hown : s.vm.findClass RX6 = some m.cls := hown
  refine lv_aload_n hx hb dX6_setEvidence_0 rfl (lv_at hl 0 rfl) ?_
  refine z_g0 (f := (μ 0)) (v := .ref (G.1 + 1)) 0 hx hb hts hown hK hZ zk0 rfl (by decide) q226 rfl dX6_setEvidence_1 ?_
  refine lv_iload_n hx hb dX6_setEvidence_4 rfl (lv_at hl 1 rfl) ?_
  refine z_cVr (As := [.int (nI j)]) (rest := []) hx hb hml hown hts hl hK hZ hS (c_X1_itemAt_ok l G μ 1 hB1 fb hfb I j hI hI24 (by omega)) (z_G q394 q274 q275 q2 q276) hdX1_itemAt ⟨Nat.le_of_ble_eq_true rfl, Nat.le_of_ble_eq_true rfl⟩ (zk_book hB1) (by decide) rfl rfl rfl rfl (Nat.le_of_ble_eq_true rfl) dX6_setEvidence_5 ⟨(Nat.zero_le _), (Nat.zero_le _)⟩ (fun H locs hZ hS => ?_)
  refine lv_astore (lv' := [(4, .ref (G.1 + (1 + (15 + j)))), (0, .ref (G.1 + 0)), (1, .int (nI j)), (2, .int x), (3, .int y)]) hx hb dX6_setEvidence_8 hl (by decide) rfl (fun ls hl => ?_)
  refine lv_aload hx hb dX6_setEvidence_10 (lv_at hl 0 rfl) ?_
  refine lv_ifnonnull (tgt := 17) hx hb dX6_setEvidence_12 (by decide) ?_
  refine lv_iload_n hx hb dX6_setEvidence_17 rfl (lv_at hl 3 rfl) ?_
  refine lv_iconst (v := 0) hx hb dX6_setEvidence_18 (by decide) ?_
  refine lv_bipush (v := 10) hx hb dX6_setEvidence_19 (by decide) ?_
  refine z_cSi (As := [.int x, .int 0, .int 10]) (rest := []) hx hb hml hown hts hl hK hZ hS (c_X6_outside l G μ x 0 10) (z_GS q358 q359 q1 q360) hdX6_outside ⟨Nat.le_of_ble_eq_true rfl, Nat.le_of_ble_eq_true rfl⟩ rfl rfl (Nat.le_of_ble_eq_true rfl) dX6_setEvidence_21 ⟨(Nat.zero_le _), (Nat.zero_le _)⟩ (fun H locs hZ hS => ?_)
  refine lv_if_ne (tgt := 37) hx hb dX6_setEvidence_24 (by decide) (fun c_1 => ?_) (fun c_1 => ?_)
  · refine lv_bipush (v := (-2)) hx hb dX6_setEvidence_37 (by decide) ?_
    exact z_iret hx hb hr hlk hK hZ hS ⟨by rw [p_setEvidence, if_neg c_1], by rw [p_setEvidence, if_neg c_1]⟩ dX6_setEvidence_39
  · refine lv_iload_n hx hb dX6_setEvidence_27 rfl (lv_at hl 4 rfl) ?_
    refine lv_iconst (v := 0) hx hb dX6_setEvidence_28 (by decide) ?_
    refine lv_bipush (v := 10) hx hb dX6_setEvidence_29 (by decide) ?_
    refine z_cSi (As := [.int y, .int 0, .int 10]) (rest := []) hx hb hml hown hts hl hK hZ hS (c_X6_outside l G μ y 0 10) (z_GS q358 q359 q1 q360) hdX6_outside ⟨Nat.le_of_ble_eq_true rfl, Nat.le_of_ble_eq_true rfl⟩ rfl rfl (Nat.le_of_ble_eq_true rfl) dX6_setEvidence_31 ⟨(Nat.zero_le _), (Nat.zero_le _)⟩ (fun H locs hZ hS => ?_)
    refine lv_if_eq (tgt := 40) hx hb dX6_setEvidence_34 (by decide) (fun c_2 => ?_) (fun c_2 => ?_)
    · refine lv_aload_n hx hb dX6_setEvidence_40 rfl (lv_at hl 1 rfl) ?_
      refine z_g0 (f := (μ 0)) (v := .ref (G.1 + 1)) 0 hx hb hts hown hK hZ zk0 rfl (by decide) q226 rfl dX6_setEvidence_41 ?_
      refine lv_aload hx hb dX6_setEvidence_44 (lv_at hl 0 rfl) ?_
      refine z_cVi (As := [.ref (G.1 + (1 + (15 + j)))]) (rest := []) hx hb hml hown hts hl hK hZ hS (c_X1_stateOf l G μ fb hfb (1 + (15 + j)) f (zk_item hB1 (by omega)) hf T h hT hT6 hh0 he g hg) (z_G q411 q412 q413 q2 q414) hdX1_stateOf ⟨Nat.le_of_ble_eq_true rfl, Nat.le_of_ble_eq_true rfl⟩ (zk_book hB1) (by decide) rfl rfl rfl rfl (Nat.le_of_ble_eq_true rfl) dX6_setEvidence_46 ⟨(Nat.zero_le _), (Nat.zero_le _)⟩ (fun H locs hZ hS => ?_)
      refine lv_istore (lv' := [(5, .int (g 2)), (4, .ref (G.1 + (1 + (15 + j)))), (0, .ref (G.1 + 0)), (1, .int (nI j)), (2, .int x), (3, .int y)]) hx hb dX6_setEvidence_49 hl (by decide) rfl (fun ls hl => ?_)
      refine lv_iload hx hb dX6_setEvidence_51 (lv_at hl 0 rfl) ?_
      refine lv_iconst (v := 1) hx hb dX6_setEvidence_53 (by decide) ?_
      refine lv_icmp_eq (tgt := 66) hx hb dX6_setEvidence_54 (by decide) (fun c_3 => ?_) (fun c_3 => ?_)
      · refine lv_aload_n hx hb dX6_setEvidence_66 rfl (lv_at hl 2 rfl) ?_
        refine z_g0 (f := (μ 0)) (v := .ref (G.1 + 79)) 2 hx hb hts hown hK hZ zk0 rfl (by decide) q228 rfl dX6_setEvidence_67 ?_
        refine lv_aload_n hx hb dX6_setEvidence_70 rfl (lv_at hl 2 rfl) ?_
        refine z_g0 (f := (μ 0)) (v := .ref (G.1 + 1)) 0 hx hb hts hown hK hZ zk0 rfl (by decide) q226 rfl dX6_setEvidence_71 ?_
        refine z_cVv (As := [.ref (G.1 + 1)]) (rest := []) hx hb hml hown hts hl hK hZ hS (c_X2_push l G μ hh hfh o ho ho4 z hz hz4 fb hfb T I hT hI hT6 hI24) (z_G q289 q290 q291 q6 q292) hdX2_push ⟨Nat.le_of_ble_eq_true rfl, Nat.le_of_ble_eq_true rfl⟩ zk79 (by decide) rfl rfl rfl rfl (Nat.le_of_ble_eq_true rfl) dX6_setEvidence_74 ⟨(Nat.zero_le _), (Nat.zero_le _)⟩ (fun H locs hZ hS => ?_)
        refine lv_aload hx hb dX6_setEvidence_77 (lv_at hl 1 rfl) ?_
        refine lv_iload_n hx hb dX6_setEvidence_79 rfl (lv_at hl 4 rfl) ?_
        refine z_p6 (f := f) (μ1 := (zr (zp μ o z T I) (1 + (15 + j)) (zu f 9 x))) 9 hx hb hts hown hK hZ hS (zk_item hB1 (by omega)) ((zp_ne (by omega)).trans hf) (by decide) q120 rfl pfd_I rfl rfl dX6_setEvidence_80 (fun H locs hZ hS => ?_)
        refine lv_aload hx hb dX6_setEvidence_83 (lv_at hl 1 rfl) ?_
        refine lv_iload_n hx hb dX6_setEvidence_85 rfl (lv_at hl 5 rfl) ?_
        refine z_p6 (f := (zu f 9 x)) (μ1 := (zr (zp μ o z T I) (1 + (15 + j)) (zu (zu f 9 x) 10 y))) 10 hx hb hts hown hK hZ hS (zk_item hB1 (by omega)) zr_same (by decide) q122 rfl pfd_I rfl zr_zr dX6_setEvidence_86 (fun H locs hZ hS => ?_)
        refine lv_aload hx hb dX6_setEvidence_89 (lv_at hl 1 rfl) ?_
        refine z_cVi (As := []) (rest := []) hx hb hml hown hts hl hK hZ hS (c_X3_award l G (zr (zp μ o z T I) (1 + (15 + j)) (zu (zu f 9 x) 10 y)) (1 + (15 + j)) (zu (zu f 9 x) 10 y) (zk_item hB1 (by omega)) zr_same ) (z_G q420 q346 q347 q5 q348) hdX3_award ⟨Nat.le_of_ble_eq_true rfl, Nat.le_of_ble_eq_true rfl⟩ (zk_item hB1 (by omega)) (by decide) rfl rfl rfl rfl (Nat.le_of_ble_eq_true rfl) dX6_setEvidence_91 ⟨(Nat.zero_le _), (Nat.zero_le _)⟩ (fun H locs hZ hS => ?_)
        exact z_iret hx hb hr hlk hK hZ hS ⟨by rw [p_setEvidence, if_pos c_1, if_pos c_2, if_pos c_3], by rw [p_setEvidence, if_pos c_1, if_pos c_2, if_pos c_3]⟩ dX6_setEvidence_94
      · refine lv_iload hx hb dX6_setEvidence_57 (lv_at hl 0 rfl) ?_
        refine lv_iconst (v := 2) hx hb dX6_setEvidence_59 (by decide) ?_
        refine lv_icmp_eq (tgt := 66) hx hb dX6_setEvidence_60 (by decide) (fun c_4 => ?_) (fun c_4 => ?_)
        · refine lv_aload_n hx hb dX6_setEvidence_66 rfl (lv_at hl 2 rfl) ?_
          refine z_g0 (f := (μ 0)) (v := .ref (G.1 + 79)) 2 hx hb hts hown hK hZ zk0 rfl (by decide) q228 rfl dX6_setEvidence_67 ?_
          refine lv_aload_n hx hb dX6_setEvidence_70 rfl (lv_at hl 2 rfl) ?_
          refine z_g0 (f := (μ 0)) (v := .ref (G.1 + 1)) 0 hx hb hts hown hK hZ zk0 rfl (by decide) q226 rfl dX6_setEvidence_71 ?_
          refine z_cVv (As := [.ref (G.1 + 1)]) (rest := []) hx hb hml hown hts hl hK hZ hS (c_X2_push l G μ hh hfh o ho ho4 z hz hz4 fb hfb T I hT hI hT6 hI24) (z_G q289 q290 q291 q6 q292) hdX2_push ⟨Nat.le_of_ble_eq_true rfl, Nat.le_of_ble_eq_true rfl⟩ zk79 (by decide) rfl rfl rfl rfl (Nat.le_of_ble_eq_true rfl) dX6_setEvidence_74 ⟨(Nat.zero_le _), (Nat.zero_le _)⟩ (fun H locs hZ hS => ?_)
          refine lv_aload hx hb dX6_setEvidence_77 (lv_at hl 1 rfl) ?_
          refine lv_iload_n hx hb dX6_setEvidence_79 rfl (lv_at hl 4 rfl) ?_
          refine z_p6 (f := f) (μ1 := (zr (zp μ o z T I) (1 + (15 + j)) (zu f 9 x))) 9 hx hb hts hown hK hZ hS (zk_item hB1 (by omega)) ((zp_ne (by omega)).trans hf) (by decide) q120 rfl pfd_I rfl rfl dX6_setEvidence_80 (fun H locs hZ hS => ?_)
          refine lv_aload hx hb dX6_setEvidence_83 (lv_at hl 1 rfl) ?_
          refine lv_iload_n hx hb dX6_setEvidence_85 rfl (lv_at hl 5 rfl) ?_
          refine z_p6 (f := (zu f 9 x)) (μ1 := (zr (zp μ o z T I) (1 + (15 + j)) (zu (zu f 9 x) 10 y))) 10 hx hb hts hown hK hZ hS (zk_item hB1 (by omega)) zr_same (by decide) q122 rfl pfd_I rfl zr_zr dX6_setEvidence_86 (fun H locs hZ hS => ?_)
          refine lv_aload hx hb dX6_setEvidence_89 (lv_at hl 1 rfl) ?_
          refine z_cVi (As := []) (rest := []) hx hb hml hown hts hl hK hZ hS (c_X3_award l G (zr (zp μ o z T I) (1 + (15 + j)) (zu (zu f 9 x) 10 y)) (1 + (15 + j)) (zu (zu f 9 x) 10 y) (zk_item hB1 (by omega)) zr_same ) (z_G q420 q346 q347 q5 q348) hdX3_award ⟨Nat.le_of_ble_eq_true rfl, Nat.le_of_ble_eq_true rfl⟩ (zk_item hB1 (by omega)) (by decide) rfl rfl rfl rfl (Nat.le_of_ble_eq_true rfl) dX6_setEvidence_91 ⟨(Nat.zero_le _), (Nat.zero_le _)⟩ (fun H locs hZ hS => ?_)
          exact z_iret hx hb hr hlk hK hZ hS ⟨by rw [p_setEvidence, if_pos c_1, if_pos c_2, if_neg c_3, if_pos c_4], by rw [p_setEvidence, if_pos c_1, if_pos c_2, if_neg c_3, if_pos c_4]⟩ dX6_setEvidence_94
        · refine lv_bipush (v := (-4)) hx hb dX6_setEvidence_63 (by decide) ?_
          exact z_iret hx hb hr hlk hK hZ hS ⟨by rw [p_setEvidence, if_pos c_1, if_pos c_2, if_neg c_3, if_neg c_4], by rw [p_setEvidence, if_pos c_1, if_pos c_2, if_neg c_3, if_neg c_4]⟩ dX6_setEvidence_65
    · refine lv_bipush (v := (-2)) hx hb dX6_setEvidence_37 (by decide) ?_
      exact z_iret hx hb hr hlk hK hZ hS ⟨by rw [p_setEvidence, if_pos c_1, if_neg c_2], by rw [p_setEvidence, if_pos c_1, if_neg c_2]⟩ dX6_setEvidence_39
set_option maxHeartbeats 4000000 in
set_option maxRecDepth 100000 in
theorem c_X6_setEvidence_no (l : Launch) (G : zG) (μ : zM) (fb : Nat → Int32) (hfb : μ 1 = fb) (T I : Nat) (hT : fb 3 = nI T) (hI : fb 4 = nI I) (hT6 : T ≤ 6) (hI24 : I ≤ 24) (x : Int32) (hxx : x < 0 ∨ nI I ≤ x) (a : Int32) (b : Int32) : zMet l G yX6_setEvidence cX6_setEvidence 6 (some .int) 1 21 [.ref (G.1 + 0), .int x, .int a, .int b] μ (zQi G (-1) μ) := by
  refine z_start (lv := [(0, .ref (G.1 + 0)), (1, .int x), (2, .int a), (3, .int b)]) (by decide) (Nat.le_of_ble_eq_true rfl) rfl ?_
  intro p e s m args below meth c ls hx hb hml hr hlk hts hown hK hZ hS hl
  have hown : s.vm.findClass RX6 = some m.cls := hown
  refine lv_aload_n hx hb dX6_setEvidence_0 rfl (lv_at hl 0 rfl) ?_
  refine z_g0 (f := (μ 0)) (v := .ref (G.1 + 1)) 0 hx hb hts hown hK hZ zk0 rfl (by decide) q226 rfl dX6_setEvidence_1 ?_
  refine lv_iload_n hx hb dX6_setEvidence_4 rfl (lv_at hl 1 rfl) ?_
  refine z_cVn (As := [.int x]) (rest := []) hx hb hml hown hts hl hK hZ hS (c_X1_itemAt_no l G μ 1 hB1 fb hfb I hI x hxx) (z_G q394 q274 q275 q2 q276) hdX1_itemAt ⟨Nat.le_of_ble_eq_true rfl, Nat.le_of_ble_eq_true rfl⟩ (zk_book hB1) (by decide) rfl rfl rfl rfl (Nat.le_of_ble_eq_true rfl) dX6_setEvidence_5 ⟨(Nat.zero_le _), (Nat.zero_le _)⟩ (fun H locs hZ hS => ?_)
  refine lv_astoreN (lv' := [(4, .null), (0, .ref (G.1 + 0)), (1, .int x), (2, .int a), (3, .int b)]) hx hb dX6_setEvidence_8 hl (by decide) rfl (fun ls hl => ?_)
  refine lv_aloadN hx hb dX6_setEvidence_10 (lv_at hl 0 rfl) ?_
  refine lv_ifnonnullN hx hb dX6_setEvidence_12 ?_
  refine lv_iconst (v := (-1)) hx hb dX6_setEvidence_15 (by decide) ?_
  exact z_iret hx hb hr hlk hK hZ hS ⟨rfl, rfl⟩ dX6_setEvidence_16
def p_close (μ : zM) (fb : Nat → Int32) (o z T I : Nat) (t : Nat) (g : Nat → Int32) : Int32 × zM := if (g 2) = 2 then (((s_settle (zp μ o z T I) fb g t I) 1), (zr (zr (zp μ o z T I) ((1 + (3 + 2 * t)) + 1) (s_settle (zp μ o z T I) fb g t I)) (1 + (3 + 2 * t)) (zu (zu g 5 (s_X1_interestOf fb g)) 2 3)))
  else ((-4), μ)
theorem hdX6_close : yX6_close.cls = RX6 ∧ yX6_close.cls ≠ "java/lang/invoke/MethodHandle" ∧ yX6_close.cls ≠ "java/lang/invoke/VarHandle" ∧ (parseMethodDescriptor yX6_close.desc).map (fun d => d.parameters.length) = some 1 := by decide +kernel
set_option maxHeartbeats 4000000 in
set_option maxRecDepth 100000 in
theorem c_X6_close (l : Launch) (G : zG) (μ : zM) (fb hh : Nat → Int32) (hfb : μ 1 = fb) (hfh : μ 79 = hh) (T I o z : Nat) (hT : fb 3 = nI T) (hI : fb 4 = nI I) (hT6 : T ≤ 6) (hI24 : I ≤ 24) (ho : hh 1 = nI o) (hz : hh 2 = nI z) (ho4 : o < 4) (hz4 : z ≤ 4) (t : Nat) (ht : t < T) (g : Nat → Int32) (hg : μ (1 + (3 + 2 * t)) = g) (hr8 : fK 125 (Int32.toUInt32 (fb 2))) : zMet l G yX6_close cX6_close 3 (some .int) 5 115 [.ref (G.1 + 0), .int (nI t)] μ (zQi G (p_close μ fb o z T I t g).1 (p_close μ fb o z T I t g).2) := by
  refine z_start (lv := [(0, .ref (G.1 + 0)), (1, .int (nI t))]) (by decide) (Nat.le_of_ble_eq_true rfl) rfl ?_
  intro p e s m args below meth c ls hx hb hml hr hlk hts hown hK hZ hS hl
  have hown : s.vm.findClass RX6 = some m.cls := hown
  refine lv_aload_n hx hb dX6_close_0 rfl (lv_at hl 0 rfl) ?_
  refine z_g0 (f := (μ 0)) (v := .ref (G.1 + 1)) 0 hx hb hts hown hK hZ zk0 rfl (by decide) q226 rfl dX6_close_1 ?_
  refine lv_iload_n hx hb dX6_close_4 rfl (lv_at hl 1 rfl) ?_
  refine z_cVr (As := [.int (nI t)]) (rest := []) hx hb hml hown hts hl hK hZ hS (c_X1_tenancyAt_ok l G μ 1 hB1 fb hfb T t hT hT6 (by omega)) (z_G q306 q262 q263 q2 q264) hdX1_tenancyAt ⟨Nat.le_of_ble_eq_true rfl, Nat.le_of_ble_eq_true rfl⟩ (zk_book hB1) (by decide) rfl rfl rfl rfl (Nat.le_of_ble_eq_true rfl) dX6_close_5 ⟨(Nat.zero_le _), (Nat.zero_le _)⟩ (fun H locs hZ hS => ?_)
  refine lv_astore_n (lv' := [(2, .ref (G.1 + (1 + (3 + 2 * t)))), (0, .ref (G.1 + 0)), (1, .int (nI t))]) hx hb dX6_close_8 rfl hl (by decide) rfl (fun ls hl => ?_)
  refine lv_aload_n hx hb dX6_close_9 rfl (lv_at hl 0 rfl) ?_
  refine lv_ifnonnull (tgt := 15) hx hb dX6_close_10 (by decide) ?_
  refine lv_aload_n hx hb dX6_close_15 rfl (lv_at hl 0 rfl) ?_
  refine z_g4 (f := g) (v := .int (g 2)) 2 hx hb hts hown hK hZ (zk_ten hB1 (by omega)) hg (by decide) q66 rfl dX6_close_16 ?_
  refine lv_iconst (v := 2) hx hb dX6_close_19 (by decide) ?_
  refine lv_icmp_eq (tgt := 26) hx hb dX6_close_20 (by decide) (fun c_1 => ?_) (fun c_1 => ?_)
  · refine lv_aload_n hx hb dX6_close_26 rfl (lv_at hl 1 rfl) ?_
    refine z_g0 (f := (μ 0)) (v := .ref (G.1 + 79)) 2 hx hb hts hown hK hZ zk0 rfl (by decide) q228 rfl dX6_close_27 ?_
    refine lv_aload_n hx hb dX6_close_30 rfl (lv_at hl 1 rfl) ?_
    refine z_g0 (f := (μ 0)) (v := .ref (G.1 + 1)) 0 hx hb hts hown hK hZ zk0 rfl (by decide) q226 rfl dX6_close_31 ?_
    refine z_cVv (As := [.ref (G.1 + 1)]) (rest := []) hx hb hml hown hts hl hK hZ hS (c_X2_push l G μ hh hfh o ho ho4 z hz hz4 fb hfb T I hT hI hT6 hI24) (z_G q289 q290 q291 q6 q292) hdX2_push ⟨Nat.le_of_ble_eq_true rfl, Nat.le_of_ble_eq_true rfl⟩ zk79 (by decide) rfl rfl rfl rfl (Nat.le_of_ble_eq_true rfl) dX6_close_34 ⟨(Nat.zero_le _), (Nat.zero_le _)⟩ (fun H locs hZ hS => ?_)
    refine lv_aload_n hx hb dX6_close_37 rfl (lv_at hl 1 rfl) ?_
    refine z_g0 (f := ((zp μ o z T I) 0)) (v := .ref (G.1 + 1)) 0 hx hb hts hown hK hZ zk0 rfl (by decide) q226 rfl dX6_close_38 ?_
    refine lv_iload_n hx hb dX6_close_41 rfl (lv_at hl 2 rfl) ?_
    refine lv_aload_n hx hb dX6_close_42 rfl (lv_at hl 0 rfl) ?_
    refine lv_aload_n hx hb dX6_close_43 rfl (lv_at hl 0 rfl) ?_
    refine z_g4 (f := g) (v := .ref (G.1 + ((1 + (3 + 2 * t)) + 1))) 6 hx hb hts hown hK hZ (zk_ten hB1 (by omega)) ((zp_ne (by omega)).trans hg) (by decide) q78 rfl dX6_close_44 ?_
    refine z_cVv (As := [.int (nI t), .ref (G.1 + (1 + (3 + 2 * t))), .ref (G.1 + ((1 + (3 + 2 * t)) + 1))]) (rest := []) hx hb hml hown hts hl hK hZ hS (c_X1_settle l G (zp μ o z T I) fb ((zp_ne (by omega)).trans hfb) I hI hI24 t (1 + (3 + 2 * t)) g (zk_ten hB1 (by omega)) ((zp_ne (by omega)).trans hg) ((1 + (3 + 2 * t)) + 1) (zk_set1 hB1 (by omega)) (by omega) (by omega) (fun j hj => by omega) hr8) (z_G q365 q366 q367 q2 q368) hdX1_settle ⟨Nat.le_of_ble_eq_true rfl, Nat.le_of_ble_eq_true rfl⟩ (zk_book hB1) (by decide) rfl rfl rfl rfl (Nat.le_of_ble_eq_true rfl) dX6_close_47 ⟨(Nat.zero_le _), (Nat.zero_le _)⟩ (fun H locs hZ hS => ?_)
    refine lv_aload_n hx hb dX6_close_50 rfl (lv_at hl 0 rfl) ?_
    refine lv_aload_n hx hb dX6_close_51 rfl (lv_at hl 1 rfl) ?_
    refine z_g0 (f := ((zr (zp μ o z T I) ((1 + (3 + 2 * t)) + 1) (s_settle (zp μ o z T I) fb g t I)) 0)) (v := .ref (G.1 + 1)) 0 hx hb hts hown hK hZ zk0 rfl (by decide) q226 rfl dX6_close_52 ?_
    refine lv_aload_n hx hb dX6_close_55 rfl (lv_at hl 0 rfl) ?_
    refine z_cVi (As := [.ref (G.1 + (1 + (3 + 2 * t)))]) (rest := [.ref (G.1 + (1 + (3 + 2 * t)))]) hx hb hml hown hts hl hK hZ hS (c_X1_interestOf l G (zr (zp μ o z T I) ((1 + (3 + 2 * t)) + 1) (s_settle (zp μ o z T I) fb g t I)) 1 fb (zk_book hB1) (zr_at ((zp_ne (by omega)).trans hfb) (by omega)) (1 + (3 + 2 * t)) g (zk_ten hB1 (by omega)) (zr_at ((zp_ne (by omega)).trans hg) (by omega)) hr8) (z_G q332 q333 q334 q2 q335) hdX1_interestOf ⟨Nat.le_of_ble_eq_true rfl, Nat.le_of_ble_eq_true rfl⟩ (zk_book hB1) (by decide) rfl rfl rfl rfl (Nat.le_of_ble_eq_true rfl) dX6_close_56 ⟨(Nat.zero_le _), (Nat.zero_le _)⟩ (fun H locs hZ hS => ?_)
    refine z_p4 (f := g) (μ1 := (zr (zr (zp μ o z T I) ((1 + (3 + 2 * t)) + 1) (s_settle (zp μ o z T I) fb g t I)) (1 + (3 + 2 * t)) (zu g 5 (s_X1_interestOf fb g)))) 5 hx hb hts hown hK hZ hS (zk_ten hB1 (by omega)) (zr_at ((zp_ne (by omega)).trans hg) (by omega)) (by decide) q76 rfl pfd_I rfl rfl dX6_close_59 (fun H locs hZ hS => ?_)
    refine lv_aload_n hx hb dX6_close_62 rfl (lv_at hl 0 rfl) ?_
    refine lv_iconst (v := 3) hx hb dX6_close_63 (by decide) ?_
    refine z_p4 (f := (zu g 5 (s_X1_interestOf fb g))) (μ1 := (zr (zr (zp μ o z T I) ((1 + (3 + 2 * t)) + 1) (s_settle (zp μ o z T I) fb g t I)) (1 + (3 + 2 * t)) (zu (zu g 5 (s_X1_interestOf fb g)) 2 3))) 2 hx hb hts hown hK hZ hS (zk_ten hB1 (by omega)) zr_same (by decide) q66 rfl pfd_I rfl zr_zr dX6_close_64 (fun H locs hZ hS => ?_)
    refine lv_aload_n hx hb dX6_close_67 rfl (lv_at hl 0 rfl) ?_
    refine z_g4 (f := (zu (zu g 5 (s_X1_interestOf fb g)) 2 3)) (v := .ref (G.1 + ((1 + (3 + 2 * t)) + 1))) 6 hx hb hts hown hK hZ (zk_ten hB1 (by omega)) zr_same (by decide) q78 rfl dX6_close_68 ?_
    refine z_g5 (f := (s_settle (zp μ o z T I) fb g t I)) (v := .int ((s_settle (zp μ o z T I) fb g t I) 1)) 1 hx hb hts hown hK hZ (zk_set1 hB1 (by omega)) (zr_at zr_same (by omega)) (by decide) q41 rfl dX6_close_71 ?_
    exact z_iret hx hb hr hlk hK hZ hS ⟨by rw [p_close, if_pos c_1], by rw [p_close, if_pos c_1]⟩ dX6_close_74
  · refine lv_bipush (v := (-4)) hx hb dX6_close_23 (by decide) ?_
    exact z_iret hx hb hr hlk hK hZ hS ⟨by rw [p_close, if_neg c_1], by rw [p_close, if_neg c_1]⟩ dX6_close_25
set_option maxHeartbeats 4000000 in
set_option maxRecDepth 100000 in
theorem c_X6_close_no (l : Launch) (G : zG) (μ : zM) (fb : Nat → Int32) (hfb : μ 1 = fb) (T I : Nat) (hT : fb 3 = nI T) (hI : fb 4 = nI I) (hT6 : T ≤ 6) (hI24 : I ≤ 24) (x : Int32) (hxx : x < 0 ∨ nI T ≤ x) : zMet l G yX6_close cX6_close 3 (some .int) 1 21 [.ref (G.1 + 0), .int x] μ (zQi G (-1) μ) := by
  refine z_start (lv := [(0, .ref (G.1 + 0)), (1, .int x)]) (by decide) (Nat.le_of_ble_eq_true rfl) rfl ?_
  intro p e s m args below meth c ls hx hb hml hr hlk hts hown hK hZ hS hl
  have hown : s.vm.findClass RX6 = some m.cls := hown
  refine lv_aload_n hx hb dX6_close_0 rfl (lv_at hl 0 rfl) ?_
  refine z_g0 (f := (μ 0)) (v := .ref (G.1 + 1)) 0 hx hb hts hown hK hZ zk0 rfl (by decide) q226 rfl dX6_close_1 ?_
  refine lv_iload_n hx hb dX6_close_4 rfl (lv_at hl 1 rfl) ?_
  refine z_cVn (As := [.int x]) (rest := []) hx hb hml hown hts hl hK hZ hS (c_X1_tenancyAt_no l G μ 1 hB1 fb hfb T hT x hxx) (z_G q306 q262 q263 q2 q264) hdX1_tenancyAt ⟨Nat.le_of_ble_eq_true rfl, Nat.le_of_ble_eq_true rfl⟩ (zk_book hB1) (by decide) rfl rfl rfl rfl (Nat.le_of_ble_eq_true rfl) dX6_close_5 ⟨(Nat.zero_le _), (Nat.zero_le _)⟩ (fun H locs hZ hS => ?_)
  refine lv_astore_nN (lv' := [(2, .null), (0, .ref (G.1 + 0)), (1, .int x)]) hx hb dX6_close_8 rfl hl (by decide) rfl (fun ls hl => ?_)
  refine lv_aload_nN hx hb dX6_close_9 rfl (lv_at hl 0 rfl) ?_
  refine lv_ifnonnullN hx hb dX6_close_10 ?_
  refine lv_iconst (v := (-1)) hx hb dX6_close_13 (by decide) ?_
  exact z_iret hx hb hr hlk hK hZ hS ⟨rfl, rfl⟩ dX6_close_14
end
section
theorem hdX6_undo : yX6_undo.cls = RX6 ∧ yX6_undo.cls ≠ "java/lang/invoke/MethodHandle" ∧ yX6_undo.cls ≠ "java/lang/invoke/VarHandle" ∧ (parseMethodDescriptor yX6_undo.desc).map (fun d => d.parameters.length) = some 0 := by decide +kernel
set_option maxHeartbeats 4000000 in
set_option maxRecDepth 100000 in
theorem c_X6_undo (l : Launch) (G : zG) (μ : zM) (fb hh : Nat → Int32) (hfb : μ 1 = fb) (hfh : μ 79 = hh) (o z : Nat) (ho : hh 1 = nI o) (hz : hh 2 = nI z) (ho4 : o < 4) (hz0 : 0 < z) (hz4 : z ≤ 4) (fs : Nat → Int32) (hfs : μ (81 + 39 * ((o + (z - 1)) % 4)) = fs) (T' I' : Nat) (hT' : fs 3 = nI T') (hI' : fs 4 = nI I') (hT6' : T' ≤ 6) (hI24' : I' ≤ 24) : zMet l G yX6_undo cX6_undo 2 (some .int) 3 66 [.ref (G.1 + 0)] μ (zQi G (nI (z - 1)) (zr (bc μ 1 (81 + 39 * ((o + (z - 1)) % 4)) T' I') 79 (zu hh 2 (nI (z - 1))))) := by
  refine z_start (lv := [(0, .ref (G.1 + 0))]) (by decide) (Nat.le_of_ble_eq_true rfl) rfl ?_
  intro p e s m args below meth c ls hx hb hml hr hlk hts hown hK hZ hS hl
  have hown : s.vm.findClass RX6 = some m.cls := hown
  refine lv_aload_n hx hb dX6_undo_0 rfl (lv_at hl 0 rfl) ?_
  refine z_g0 (f := (μ 0)) (v := .ref (G.1 + 79)) 2 hx hb hts hown hK hZ zk0 rfl (by decide) q228 rfl dX6_undo_1 ?_
  refine z_cVr (As := []) (rest := []) hx hb hml hown hts hl hK hZ hS (c_X2_latest l G μ hh hfh o ho ho4 z hz hz0 hz4) (z_G q249 q250 q251 q6 q252) hdX2_latest ⟨Nat.le_of_ble_eq_true rfl, Nat.le_of_ble_eq_true rfl⟩ zk79 (by decide) rfl rfl rfl rfl (Nat.le_of_ble_eq_true rfl) dX6_undo_4 ⟨(Nat.zero_le _), (Nat.zero_le _)⟩ (fun H locs hZ hS => ?_)
  refine lv_astore_n (lv' := [(1, .ref (G.1 + (81 + 39 * ((o + (z - 1)) % 4)))), (0, .ref (G.1 + 0))]) hx hb dX6_undo_7 rfl hl (by decide) rfl (fun ls hl => ?_)
  refine lv_aload_n hx hb dX6_undo_8 rfl (lv_at hl 0 rfl) ?_
  refine lv_ifnonnull (tgt := 15) hx hb dX6_undo_9 (by decide) ?_
  refine lv_aload_n hx hb dX6_undo_15 rfl (lv_at hl 1 rfl) ?_
  refine z_g0 (f := (μ 0)) (v := .ref (G.1 + 1)) 0 hx hb hts hown hK hZ zk0 rfl (by decide) q226 rfl dX6_undo_16 ?_
  refine lv_aload_n hx hb dX6_undo_19 rfl (lv_at hl 0 rfl) ?_
  refine z_cVv (As := [.ref (G.1 + (81 + 39 * ((o + (z - 1)) % 4)))]) (rest := []) hx hb hml hown hts hl hK hZ hS (c_X1_copyFrom l G μ 1 (81 + 39 * ((o + (z - 1)) % 4)) hB1 (zB_h (Nat.mod_lt _ (by decide))) (by omega) fb fs hfb hfs (T') (I') hT' hI' hT6' hI24') (z_G q257 q258 q259 q2 q260) hdX1_copyFrom ⟨Nat.le_of_ble_eq_true rfl, Nat.le_of_ble_eq_true rfl⟩ (zk_book hB1) (by decide) rfl rfl rfl rfl (Nat.le_of_ble_eq_true rfl) dX6_undo_20 ⟨(Nat.zero_le _), (Nat.zero_le _)⟩ (fun H locs hZ hS => ?_)
  refine lv_aload_n hx hb dX6_undo_23 rfl (lv_at hl 1 rfl) ?_
  refine z_g0 (f := ((bc μ 1 (81 + 39 * ((o + (z - 1)) % 4)) (T') (I')) 0)) (v := .ref (G.1 + 79)) 2 hx hb hts hown hK hZ zk0 rfl (by decide) q228 rfl dX6_undo_24 ?_
  refine lv_dup hx hb dX6_undo_27 rfl ?_
  refine z_g7 (f := hh) (v := .int (nI z)) 2 hx hb hts hown hK hZ zk79 ((bc_out (by omega)).trans hfh) (by decide) q185 (congrArg (fun z => some (Value.int z)) hz) dX6_undo_28 ?_
  refine lv_iconst (v := 1) hx hb dX6_undo_31 (by decide) ?_
  refine lv_isub hx hb dX6_undo_32 ?_
  rw [z_sub1 hz0]
  refine z_p7 (f := hh) (μ1 := (zr (bc μ 1 (81 + 39 * ((o + (z - 1)) % 4)) (T') (I')) 79 (zu hh 2 (nI (z - 1))))) 2 hx hb hts hown hK hZ hS zk79 ((bc_out (by omega)).trans hfh) (by decide) q185 rfl pfd_I rfl rfl dX6_undo_33 (fun H locs hZ hS => ?_)
  refine lv_aload_n hx hb dX6_undo_36 rfl (lv_at hl 1 rfl) ?_
  refine z_g0 (f := ((zr (bc μ 1 (81 + 39 * ((o + (z - 1)) % 4)) (T') (I')) 79 (zu hh 2 (nI (z - 1)))) 0)) (v := .ref (G.1 + 79)) 2 hx hb hts hown hK hZ zk0 rfl (by decide) q228 rfl dX6_undo_37 ?_
  refine z_g7 (f := (zu hh 2 (nI (z - 1)))) (v := .int (nI (z - 1))) 2 hx hb hts hown hK hZ zk79 zr_same (by decide) q185 rfl dX6_undo_40 ?_
  exact z_iret hx hb hr hlk hK hZ hS ⟨rfl, rfl⟩ dX6_undo_43
set_option maxHeartbeats 4000000 in
set_option maxRecDepth 100000 in
theorem c_X6_undo_no (l : Launch) (G : zG) (μ : zM) (hh : Nat → Int32) (hfh : μ 79 = hh) (hz : hh 2 = nI 0) : zMet l G yX6_undo cX6_undo 2 (some .int) 1 20 [.ref (G.1 + 0)] μ (zQi G (-5) μ) := by
  refine z_start (lv := [(0, .ref (G.1 + 0))]) (by decide) (Nat.le_of_ble_eq_true rfl) rfl ?_
  intro p e s m args below meth c ls hx hb hml hr hlk hts hown hK hZ hS hl
  have hown : s.vm.findClass RX6 = some m.cls := hown
  refine lv_aload_n hx hb dX6_undo_0 rfl (lv_at hl 0 rfl) ?_
  refine z_g0 (f := (μ 0)) (v := .ref (G.1 + 79)) 2 hx hb hts hown hK hZ zk0 rfl (by decide) q228 rfl dX6_undo_1 ?_
  refine z_cVn (As := []) (rest := []) hx hb hml hown hts hl hK hZ hS (c_X2_latest_no l G μ hh hfh hz) (z_G q249 q250 q251 q6 q252) hdX2_latest ⟨Nat.le_of_ble_eq_true rfl, Nat.le_of_ble_eq_true rfl⟩ zk79 (by decide) rfl rfl rfl rfl (Nat.le_of_ble_eq_true rfl) dX6_undo_4 ⟨(Nat.zero_le _), (Nat.zero_le _)⟩ (fun H locs hZ hS => ?_)
  refine lv_astore_nN (lv' := [(1, .null), (0, .ref (G.1 + 0))]) hx hb dX6_undo_7 rfl hl (by decide) rfl (fun ls hl => ?_)
  refine lv_aload_nN hx hb dX6_undo_8 rfl (lv_at hl 0 rfl) ?_
  refine lv_ifnonnullN hx hb dX6_undo_9 ?_
  refine lv_bipush (v := (-5)) hx hb dX6_undo_12 (by decide) ?_
  exact z_iret hx hb hr hlk hK hZ hS ⟨rfl, rfl⟩ dX6_undo_14
theorem hdX6_keep : yX6_keep.cls = RX6 ∧ yX6_keep.cls ≠ "java/lang/invoke/MethodHandle" ∧ yX6_keep.cls ≠ "java/lang/invoke/VarHandle" ∧ (parseMethodDescriptor yX6_keep.desc).map (fun d => d.parameters.length) = some 0 := by decide +kernel
set_option maxHeartbeats 4000000 in
set_option maxRecDepth 100000 in
theorem c_X6_keep (l : Launch) (G : zG) (μ : zM) (fb : Nat → Int32) (hfb : μ 1 = fb) (T I : Nat) (hT : fb 3 = nI T) (hI : fb 4 = nI I) (hT6 : T ≤ 6) (hI24 : I ≤ 24) (td f40 : Nat → Int32) (htd : μ 0 = td) (hf40 : μ 40 = f40) : zMet l G yX6_keep cX6_keep 1 (some .int) 3 66 [.ref (G.1 + 0)] μ (zQi G (fb 0) (zr (bc μ 40 1 T I) 0 (zu td 5 1))) := by
  refine z_start (lv := [(0, .ref (G.1 + 0))]) (by decide) (Nat.le_of_ble_eq_true rfl) rfl ?_
  intro p e s m args below meth c ls hx hb hml hr hlk hts hown hK hZ hS hl
  have hown : s.vm.findClass RX6 = some m.cls := hown
  refine lv_aload_n hx hb dX6_keep_0 rfl (lv_at hl 0 rfl) ?_
  refine z_g0 (f := td) (v := .ref (G.1 + 40)) 1 hx hb hts hown hK hZ zk0 htd (by decide) q227 rfl dX6_keep_1 ?_
  refine lv_aload_n hx hb dX6_keep_4 rfl (lv_at hl 0 rfl) ?_
  refine z_g0 (f := td) (v := .ref (G.1 + 1)) 0 hx hb hts hown hK hZ zk0 htd (by decide) q226 rfl dX6_keep_5 ?_
  refine z_cVv (As := [.ref (G.1 + 1)]) (rest := []) hx hb hml hown hts hl hK hZ hS (c_X1_copyFrom l G μ 40 1 hB40 hB1 (by omega) f40 fb hf40 hfb T I hT hI hT6 hI24) (z_G q257 q258 q259 q2 q260) hdX1_copyFrom ⟨Nat.le_of_ble_eq_true rfl, Nat.le_of_ble_eq_true rfl⟩ (zk_book hB40) (by decide) rfl rfl rfl rfl (Nat.le_of_ble_eq_true rfl) dX6_keep_8 ⟨(Nat.zero_le _), (Nat.zero_le _)⟩ (fun H locs hZ hS => ?_)
  refine lv_aload_n hx hb dX6_keep_11 rfl (lv_at hl 0 rfl) ?_
  refine lv_iconst (v := 1) hx hb dX6_keep_12 (by decide) ?_
  refine z_p0z (f := td) (μ1 := (zr (bc μ 40 1 T I) 0 (zu td 5 1))) 5 hx hb hts hown hK hZ hS zk0 ((bc_out (by omega)).trans htd) (by decide) q231 rfl pfd_Z rfl rfl rfl rfl dX6_keep_13 (fun H locs hZ hS => ?_)
  refine lv_aload_n hx hb dX6_keep_16 rfl (lv_at hl 0 rfl) ?_
  refine z_g0 (f := (zu td 5 1)) (v := .ref (G.1 + 1)) 0 hx hb hts hown hK hZ zk0 zr_same (by decide) q226 rfl dX6_keep_17 ?_
  refine z_g1 (f := fb) (v := .int (fb 0)) 0 hx hb hts hown hK hZ (zk_book hB1) (zr_at ((bc_out (by omega)).trans hfb) (by decide)) (by decide) q147 rfl dX6_keep_20 ?_
  exact z_iret hx hb hr hlk hK hZ hS ⟨rfl, rfl⟩ dX6_keep_23
theorem hdX6_restore : yX6_restore.cls = RX6 ∧ yX6_restore.cls ≠ "java/lang/invoke/MethodHandle" ∧ yX6_restore.cls ≠ "java/lang/invoke/VarHandle" ∧ (parseMethodDescriptor yX6_restore.desc).map (fun d => d.parameters.length) = some 0 := by decide +kernel
set_option maxHeartbeats 4000000 in
set_option maxRecDepth 100000 in
theorem c_X6_restore_no (l : Launch) (G : zG) (μ : zM) (td : Nat → Int32) (htd : μ 0 = td) (hk0 : td 5 = 0) : zMet l G yX6_restore cX6_restore 1 (some .int) 0 0 [.ref (G.1 + 0)] μ (zQi G (-5) μ) := by
  refine z_start (lv := [(0, .ref (G.1 + 0))]) (by decide) (Nat.le_of_ble_eq_true rfl) rfl ?_
  intro p e s m args below meth c ls hx hb hml hr hlk hts hown hK hZ hS hl
  have hown : s.vm.findClass RX6 = some m.cls := hown
  refine lv_aload_n hx hb dX6_restore_0 rfl (lv_at hl 0 rfl) ?_
  refine z_g0 (f := td) (v := .int (td 5)) 5 hx hb hts hown hK hZ zk0 htd (by decide) q231 rfl dX6_restore_1 ?_
  refine lv_if_ne (tgt := 10) hx hb dX6_restore_4 (by decide) (fun c_1 => ?_) (fun c_1 => ?_)
  · exact absurd hk0 c_1
  · refine lv_bipush (v := (-5)) hx hb dX6_restore_7 (by decide) ?_
    exact z_iret hx hb hr hlk hK hZ hS ⟨rfl, rfl⟩ dX6_restore_9
set_option maxHeartbeats 4000000 in
set_option maxRecDepth 100000 in
theorem c_X6_restore (l : Launch) (G : zG) (μ : zM) (fb hh : Nat → Int32) (hfb : μ 1 = fb) (hfh : μ 79 = hh) (T I o z : Nat) (hT : fb 3 = nI T) (hI : fb 4 = nI I) (hT6 : T ≤ 6) (hI24 : I ≤ 24) (ho : hh 1 = nI o) (hz : hh 2 = nI z) (ho4 : o < 4) (hz4 : z ≤ 4) (td : Nat → Int32) (htd : μ 0 = td) (hk1 : td 5 = 1) (fs : Nat → Int32) (hfs : μ 40 = fs) (T' I' : Nat) (hT' : fs 3 = nI T') (hI' : fs 4 = nI I') (hT6' : T' ≤ 6) (hI24' : I' ≤ 24) : zMet l G yX6_restore cX6_restore 1 (some .int) 4 88 [.ref (G.1 + 0)] μ (zQi G (fs 0) (bc (zp μ o z T I) 1 40 T' I')) := by
  refine z_start (lv := [(0, .ref (G.1 + 0))]) (by decide) (Nat.le_of_ble_eq_true rfl) rfl ?_
  intro p e s m args below meth c ls hx hb hml hr hlk hts hown hK hZ hS hl
  have hown : s.vm.findClass RX6 = some m.cls := hown
  refine lv_aload_n hx hb dX6_restore_0 rfl (lv_at hl 0 rfl) ?_
  refine z_g0 (f := td) (v := .int (td 5)) 5 hx hb hts hown hK hZ zk0 htd (by decide) q231 rfl dX6_restore_1 ?_
  refine lv_if_ne (tgt := 10) hx hb dX6_restore_4 (by decide) (fun c_1 => ?_) (fun c_1 => ?_)
  · refine lv_aload_n hx hb dX6_restore_10 rfl (lv_at hl 0 rfl) ?_
    refine z_g0 (f := td) (v := .ref (G.1 + 79)) 2 hx hb hts hown hK hZ zk0 htd (by decide) q228 rfl dX6_restore_11 ?_
    refine lv_aload_n hx hb dX6_restore_14 rfl (lv_at hl 0 rfl) ?_
    refine z_g0 (f := td) (v := .ref (G.1 + 1)) 0 hx hb hts hown hK hZ zk0 htd (by decide) q226 rfl dX6_restore_15 ?_
    refine z_cVv (As := [.ref (G.1 + 1)]) (rest := []) hx hb hml hown hts hl hK hZ hS (c_X2_push l G μ hh hfh o ho ho4 z hz hz4 fb hfb T I hT hI hT6 hI24) (z_G q289 q290 q291 q6 q292) hdX2_push ⟨Nat.le_of_ble_eq_true rfl, Nat.le_of_ble_eq_true rfl⟩ zk79 (by decide) rfl rfl rfl rfl (Nat.le_of_ble_eq_true rfl) dX6_restore_18 ⟨(Nat.zero_le _), (Nat.zero_le _)⟩ (fun H locs hZ hS => ?_)
    refine lv_aload_n hx hb dX6_restore_21 rfl (lv_at hl 0 rfl) ?_
    refine z_g0 (f := td) (v := .ref (G.1 + 1)) 0 hx hb hts hown hK hZ zk0 ((zp_ne (by omega)).trans htd) (by decide) q226 rfl dX6_restore_22 ?_
    refine lv_aload_n hx hb dX6_restore_25 rfl (lv_at hl 0 rfl) ?_
    refine z_g0 (f := td) (v := .ref (G.1 + 40)) 1 hx hb hts hown hK hZ zk0 ((zp_ne (by omega)).trans htd) (by decide) q227 rfl dX6_restore_26 ?_
    refine z_cVv (As := [.ref (G.1 + 40)]) (rest := []) hx hb hml hown hts hl hK hZ hS (c_X1_copyFrom l G (zp μ o z T I) 1 40 hB1 hB40 (by omega) fb fs ((zp_ne (by omega)).trans hfb) ((zp_ne (by omega)).trans hfs) (T') (I') hT' hI' hT6' hI24') (z_G q257 q258 q259 q2 q260) hdX1_copyFrom ⟨Nat.le_of_ble_eq_true rfl, Nat.le_of_ble_eq_true rfl⟩ (zk_book hB1) (by decide) rfl rfl rfl rfl (Nat.le_of_ble_eq_true rfl) dX6_restore_29 ⟨(Nat.zero_le _), (Nat.zero_le _)⟩ (fun H locs hZ hS => ?_)
    refine lv_aload_n hx hb dX6_restore_32 rfl (lv_at hl 0 rfl) ?_
    refine z_g0 (f := td) (v := .ref (G.1 + 1)) 0 hx hb hts hown hK hZ zk0 ((bc_out (by omega)).trans ((zp_ne (by omega)).trans htd)) (by decide) q226 rfl dX6_restore_33 ?_
    refine z_g1 (f := fs) (v := .int (fs 0)) 0 hx hb hts hown hK hZ (zk_book hB1) ((bc_live (r := 0) (by omega) (Or.inl rfl)).trans ((zp_ne (by omega)).trans hfs)) (by decide) q147 rfl dX6_restore_36 ?_
    exact z_iret hx hb hr hlk hK hZ hS ⟨rfl, rfl⟩ dX6_restore_39
  · exact absurd c_1 (by rw [hk1]; decide)
end
section
/-! THE MAKING: partial worlds. e says what object n (at G.1 + n) holds so far; N objects lie there. -/
abbrev xM : Type := Nat → Option va_E
def xu (e : xM) (n : Nat) (x : va_E) : xM := fun q => if q = n then some x else e q
theorem xu_same {e : xM} {n : Nat} {x : va_E} : xu e n x n = some x := by unfold xu; rw [if_pos rfl]
theorem xu_ne {e : xM} {n q : Nat} {x : va_E} (h : q ≠ n) : xu e n x q = e q := by unfold xu; rw [if_neg h]
theorem xu_at {e : xM} {n q : Nat} {x y : va_E} (h : e q = some y) (hne : q ≠ n) : xu e n x q = some y := (xu_ne hne).trans h
theorem xu_xu {e : xM} {n : Nat} {x y : va_E} : xu (xu e n x) n y = xu e n y := by
  funext q
  by_cases h : q = n
  · subst h; rw [xu_same, xu_same]
  · rw [xu_ne h, xu_ne h, xu_ne h]
theorem xu_swap {e : xM} {n k : Nat} {x y : va_E} (h : k ≠ n) : xu (xu e n x) k y = xu (xu e k y) n x := by
  funext j
  by_cases h1 : j = n
  · subst h1; rw [xu_ne (Ne.symm h), xu_same, xu_same]
  · by_cases h2 : j = k
    · subst h2; rw [xu_same, xu_ne h1, xu_same]
    · rw [xu_ne h2, xu_ne h1, xu_ne h1, xu_ne h2]
theorem xu_id {e : xM} {n : Nat} {x : va_E} (h : e n = some x) : xu e n x = e := by
  funext q
  by_cases hq : q = n
  · subst hq; rw [xu_same]; exact h.symm
  · exact xu_ne hq
def zX (G : zG) (e : xM) (H : Heap) : Prop := ∀ n x, e n = some x → va_at G.2.1 vwCl (G.1 + n, x) H
theorem zX.one {G : zG} {e : xM} {H : Heap} (h : zX G e H) {n : Nat} {x : va_E} (he : e n = some x) : va_P G.2.1 vwCl [(G.1 + n, x)] H := by
  intro i q hq
  match i, hq with
  | 0, hq => cases hq; exact h n x he
  | i + 1, hq => simp at hq
/-- what holds alike -/
def xeqv (G : zG) (n : Nat) (x y : va_E) : Prop := ∀ H : Heap, va_at G.2.1 vwCl (G.1 + n, x) H → va_at G.2.1 vwCl (G.1 + n, y) H
theorem zX.re {G : zG} {e e1 : xM} {H : Heap} (h : zX G e H) (hle : ∀ n y, e1 n = some y → ∃ x, e n = some x ∧ xeqv G n x y) : zX G e1 H := by
  intro n y hy
  obtain ⟨x, hx, hv⟩ := hle n y hy
  exact hv H (h n x hx)
theorem xeqv.rf {G : zG} {n : Nat} {x : va_E} : xeqv G n x x := fun _ h => h
theorem arrV_cg {cA : ClassId} {N : Nat} {f g : Nat → Value} (h : ∀ j, j < N → f j = g j) : arrV cA N f = arrV cA N g := by
  unfold arrV
  rw [show (fun j : Fin N => f j.val) = (fun j : Fin N => g j.val) from funext fun j => h j.val j.isLt]
theorem xeqv.rows {G : zG} {n N : Nat} {cA : ClassId} {f g : Nat → Option Nat} (h : ∀ j, j < N → f j = g j) : xeqv G n (.inl (cA, zRows N f)) (.inl (cA, zRows N g)) := by
  intro H hH
  show H[G.1 + n]? = some (vp_cell cA (zRows N g))
  have hH : H[G.1 + n]? = some (vp_cell cA (zRows N f)) := hH
  rw [hH, vp_cell_q, vp_cell_q, arrV_cg (fun j hj => by rw [h j hj])]
abbrev nw1 : Cond := .methodLinkNest RX1 41 yX5_init "TenancyDeposits"
abbrev nw2 : Cond := .methodLinkNest RX5 32 yX4_init "TenancyDeposits"
abbrev nw3 : Cond := .methodLinkNest RX1 42 yX3_init "TenancyDeposits"
abbrev nw4 : Cond := .methodLinkNest RX6 28 yX0_init "TenancyDeposits"
abbrev nw5 : Cond := .methodLinkNest RX6 35 yX4_init "TenancyDeposits"
def zN (U : State) : Prop := va_Nw nw1 U ∧ va_Nw nw2 U ∧ va_Nw nw3 U ∧ va_Nw nw4 U ∧ va_Nw nw5 U ∧ va_AO "TenancyDeposits$Tenancy" U ∧ va_AO "TenancyDeposits$Item" U ∧ va_AO "TenancyDeposits$Book" U
theorem zN.warm {s U : State} (hW : s.WarmedH U.vm) (h : zN s) : zN U :=
  ⟨va_Nw.warmM hW h.1, va_Nw.warmM hW h.2.1, va_Nw.warmM hW h.2.2.1, va_Nw.warmM hW h.2.2.2.1, va_Nw.warmM hW h.2.2.2.2.1, h.2.2.2.2.2.1.moved hW.alike, h.2.2.2.2.2.2.1.moved hW.alike, h.2.2.2.2.2.2.2.moved hW.alike⟩
theorem zN.calling {U : State} {g : JFrame} {mk : MethodId} {a : Array Value} (h : zN U) : zN (U.calling g mk a) :=
  ⟨va_Nw.same rfl rfl h.1, va_Nw.same rfl rfl h.2.1, va_Nw.same rfl rfl h.2.2.1, va_Nw.same rfl rfl h.2.2.2.1, va_Nw.same rfl rfl h.2.2.2.2.1, va_AO.moved (u := U) (U := U.calling g mk a) (Vm.Alike.refl U.vm) h.2.2.2.2.2.1, va_AO.moved (u := U) (U := U.calling g mk a) (Vm.Alike.refl U.vm) h.2.2.2.2.2.2.1, va_AO.moved (u := U) (U := U.calling g mk a) (Vm.Alike.refl U.vm) h.2.2.2.2.2.2.2⟩
def zI (G : zG) (e : xM) (N : Nat) (U : State) : Prop := U.heap.size = G.1 + N ∧ zX G e U.heap ∧ zKU G U ∧ zN U
abbrev xMet (l : Launch) (G : zG) (y : MethodName) (cm : ByteArray) (nm fr lo mc ms : Nat) (n : Nat) (e : xM) (N : Nat) (e1 : xM) (N1 : Nat) : Prop := Met l y (ws_ y cm nm none) { frames := fr, cells := mc, slots := ms, locals := lo } (va_Pc [.ref (G.1 + n)] (zI G e N)) (va_Qv (fun _ : Unit => True) (fun _ t => zI G e1 N1 t) (zA G)) mc ms (zA G)
section ZX
variable {p : Program} {l : Launch} {e0 : Env} {R : Room} {s : State} {m : MethodId} {args : Array Value} {below : List Frame} {meth : Method} {c : Code} {H : Heap} {locs : List Loc} {cells slots : Nat} {Q : State → Prop}
variable {cc : ByteArray} {pc : Nat} {ls : Array Slot} {rest : List Value} {G : zG} {e : xM} {H0 : Heap}
theorem x_start {y : MethodName} {cm : ByteArray} {nm fr lo mc ms n N : Nat} {Qc : Array Value → State → Outcome → State → Prop} (hy : plainName y.cls = true) (hyn : y.name = "<init>") (hlen : (lg_sl [Value.ref (G.1 + n)]).length ≤ nm)
    (body : ∀ (p : Program) (e0 : Env) (s : State) (m : MethodId) (args : Array Value) (below : List Frame) (meth : Method) (c : Code) (ls : Array Slot), p.tables.exec = Jvm.exec → c.code = cm → c.maxLocals = nm → meth.sig.returnType = none → meth.locks = false → meth.name = "<init>" → (∀ w ∈ zall, w.before args s = true) → s.vm.findClass y.cls = some m.cls → zKU G s → zN s → s.heap.size = G.1 + N → zX G e s.heap → va_S (zA G) s.heap s.heap [] → lv_has ls nm [(0, .ref (G.1 + n))] →
      W p l e0 { frames := fr, cells := mc, slots := ms, locals := lo } s m args below meth c s.heap [] 0 0 (MQ below Qc args s mc ms (zA G)) (F0 m 0 ls [])) : Met l y (ws_ y cm nm none) { frames := fr, cells := mc, slots := ms, locals := lo } (va_Pc [.ref (G.1 + n)] (zI G e N)) Qc mc ms (zA G) := by
  refine Met.ofW (cc := cm) (maxL := nm) (ret := none) hy rfl ?_
  intro p e0 s m args below meth c s₁ B hml hv
  obtain ⟨rfl, hz, hX, hK, hN⟩ := hv
  have hts : ∀ w ∈ zall, w.before [Value.ref (G.1 + n)].toArray s = true := fun w h => atoms_spec (ws := ws_ y cm nm none) B.pre w (List.mem_cons_of_mem _ h)
  have hin : meth.name = "<init>" := ((name_of_methodNamed B.named B.method).1).trans hyn
  have hl := lv_entry [Value.ref (G.1 + n)] (n := nm) hlen
  rw [lg_entry_eq]
  exact body p e0 s m _ below meth c _ B.exec B.bytes hml B.returns B.notSynchronized hin hts (findClass_of_methodNamed B.named) hK hN hz hX va_S.rf hl
theorem x_vret {mc ms N : Nat} {e1 : xM} (hexec : p.tables.exec = Jvm.exec) (hb : c.code = cc) (hr : meth.sig.returnType = none) (hlocks : meth.locks = false) (hK : zKU G s) (hN : zN s) (hz : H.size = G.1 + N) (hX : zX G e1 H) (hS : va_S (zA G) s.heap H locs) (hc : cells ≤ mc) (hs : slots ≤ ms) (hdg : decode cc pc = .ok (.return_, 1)) : W p l e0 R s m args below meth c H locs cells slots (MQ below (va_Qv (fun _ : Unit => True) (fun _ t => zI G e1 N t) (zA G)) args s mc ms (zA G)) (F0 m pc ls []) := by
  refine W.widen (k := mc) (n := ms) hc hs ?_
  exact W.vret hexec hb hr (fun t ht hW => ⟨⟨(), rfl, trivial, by rw [ht]; exact hz, by rw [ht]; exact hX, va_K.moved hW.alike hK, hN.warm hW⟩, hS.F ht⟩) hS.2.2 hdg hlocks
theorem x_get (hexec : p.tables.exec = Jvm.exec) (hb : c.code = cc) {own C : String} {T : u_T} {N ci index n : Nat} (hts : ∀ w ∈ zall, w.before args s = true) (hin : ∀ w ∈ u_ws C T N, w ∈ zall) (hown : s.vm.findClass own = some m.cls) (hK : zKU G s) (hX : zX G e H) {fs : List Value} (he : e n = some (.inr (ci, fs))) (hc : vwCl[ci]? = some (C, T, N)) (k : Nat) (hk : k < N) (hlink : Cond.fieldLink own index (T k).1 (T k).2.1 (T k).2.2.1 ∈ zall) {v : Value} (hv : fs[k]? = some v) (hdg : decode cc pc = .ok (.getfield index, 3))
    (kk : W p l e0 R s m args below meth c H locs cells slots Q (F0 m (pc + 3) ls (v :: rest))) : W p l e0 R s m args below meth c H locs cells slots Q (F0 m pc ls (.ref (G.1 + n) :: rest)) :=
  va_get (ref := (T k).1) hexec hb hts hin hown hK (hX.one he) 0 rfl hc k hk (hts _ hlink) (fun _ h => h) hv hdg kk
theorem zX.put {e1 : xM} {H1 : Heap} {n : Nat} {x : va_E} (hX : zX G e H) (h1 : va_at G.2.1 vwCl (G.1 + n, x) H1) (ho : ∀ q : Nat, q ≠ G.1 + n → H1[q]? = H[q]?) (he1 : xu e n x = e1) : zX G e1 H1 := by
  subst he1
  intro j y hj
  by_cases hjn : j = n
  · subst hjn
    rw [xu_same] at hj
    cases hj
    exact h1
  · rw [xu_ne hjn] at hj
    exact (hX j y hj).kept (ho _ (by show G.1 + j ≠ G.1 + n; omega))
theorem x_put (hexec : p.tables.exec = Jvm.exec) (hb : c.code = cc) {own C : String} {T : u_T} {N ci index n M : Nat} (hts : ∀ w ∈ zall, w.before args s = true) (hin : ∀ w ∈ u_ws C T N, w ∈ zall) (ty0 : Nat → FieldType) (hty : ∀ k, k < N → parseFieldDescriptor (T k).2.2.1 = some (ty0 k)) (hnm : ∀ a, a < N → ∀ b, b < N → a ≠ b → (T a).2.1 ≠ (T b).2.1) (hown : s.vm.findClass own = some m.cls) (hK : zKU G s) (hz : H.size = G.1 + M) (hX : zX G e H) {fs : List Value} (he : e n = some (.inr (ci, fs))) (hc : vwCl[ci]? = some (C, T, N)) (k : Nat) (hk : k < N) (hlink : Cond.fieldLink own index (T k).1 (T k).2.1 (T k).2.2.1 ∈ zall) (hinit : meth.name = "<init>") (hdecl : (T k).1 = own) {ty : FieldType} {v : Value} (hd : parseFieldDescriptor (T k).2.2.1 = some ty) (hnar : narrow ty v = v) (hfit : fits ty v = true) (hl : k < fs.length)
    {e1 : xM} (he1 : xu e n (.inr (ci, fs.set k v)) = e1) (hS : va_S (zA G) H0 H locs) (hdg : decode cc pc = .ok (.putfield index, 3))
    (kk : ∀ (H1 : Heap) (locs1 : List Loc), H1.size = G.1 + M → zX G e1 H1 → va_S (zA G) H0 H1 locs1 → W p l e0 R s m args below meth c H1 locs1 cells slots Q (F0 m (pc + 3) ls rest)) : W p l e0 R s m args below meth c H locs cells slots Q (F0 m pc ls (v :: .ref (G.1 + n) :: rest)) := by
  have hap := va_apart (own := own) hts hin ty0 hty hnm hK hc
  obtain ⟨r, h1, cell, q1, q2, q3, q4⟩ := hX n _ he
  have hr : r = (C, T, N) := Option.some.inj (h1.symm.trans hc)
  subst hr
  obtain ⟨hSl, hfc, kC, hkC, hkind⟩ := hK.1 ci _ hc
  obtain ⟨cf, kf, fi, f, hi, hsl⟩ := hSl k hk
  have hlay := hts _ (hin _ (u_in_lay hk))
  have hst := (u_facts hfc hkC (u_lays hts hin hk) hi).1
  by_cases hfin : (T k).2.2.2 = true
  · unfold u_lay at hlay
    rw [if_pos hfin] at hlay
    have hcf : m.cls = cf := by
      obtain ⟨_, _, c', _, _, _, -, -, hf', -, -, -, hown2, -⟩ := Cond.laysFinal_spec hlay
      have e1 : c' = cf := by have := hi.symm.trans hf'; simp at this; exact this.1.symm
      rw [hdecl] at hown2
      rw [← e1]; exact Option.some.inj (hown.symm.trans hown2)
    have h6 := u_fits hfc hkC hkind (Or.inr hlay) hi hd hnar hfit
    refine W.putFinK hexec hb hown (hts _ hlink) hi hst hcf hinit (by rw [q2]; exact h6) q1 q3 (by rw [hsl]; exact k2_hasslot (q4 k hk)) rfl rfl hdg fun H1 g1 g2 g3 => ?_
    rw [hsl] at g1 ⊢
    exact kk H1 _ (g2.trans hz) (hX.put (n := n) (x := .inr (ci, fs.set k v)) ⟨_, hc, t_OB.to (V := updV (vp_V fs) k v) ⟨_, g1, q2, q3, t_set q4 hap hk v⟩ (fun j _ => vp_updV_set hl v j)⟩ g3 he1) (hS.put g2 g3 (show zA G (G.1 + n) from Nat.le_add_right _ _))
  · unfold u_lay at hlay
    rw [if_neg hfin] at hlay
    have h6 := u_store hfc hkC hkind hlay hi hd hnar hfit
    refine W.putK hexec hb (f := f) ⟨hown, hts _ hlink, ⟨_, _, _, hi⟩, hst⟩ (by rw [q2]; exact h6) q1 q3 (by rw [hsl]; exact k2_hasslot (q4 k hk)) rfl rfl hdg fun H1 g1 g2 g3 => ?_
    rw [hsl] at g1 ⊢
    exact kk H1 _ (g2.trans hz) (hX.put (n := n) (x := .inr (ci, fs.set k v)) ⟨_, hc, t_OB.to (V := updV (vp_V fs) k v) ⟨_, g1, q2, q3, t_set q4 hap hk v⟩ (fun j _ => vp_updV_set hl v j)⟩ g3 he1) (hS.put g2 g3 (show zA G (G.1 + n) from Nat.le_add_right _ _))
theorem x_new (hexec : p.tables.exec = Jvm.exec) (hb : c.code = cc) {own C : String} {T : u_T} {N ci index M : Nat} (hts : ∀ w ∈ zall, w.before args s = true) (hin : ∀ w ∈ u_ws C T N, w ∈ zall) (ty : Nat → FieldType) (hty : ∀ k, k < N → parseFieldDescriptor (T k).2.2.1 = some (ty k)) (hown : s.vm.findClass own = some m.cls) (hcl : Cond.classLink own index C ∈ zall) (hinst : Cond.instantiable C N ∈ zall) (hini : Cond.initialized C ∈ zall)
    (hK : zKU G s) (hz : H.size = G.1 + M) (hX : zX G e H) (hS : va_S (zA G) H0 H locs) (hc : vwCl[ci]? = some (C, T, N)) {fs : List Value} (hfs : ∀ j, j < N → defaultValue (ty j) = vp_V fs j) (hcells : cells + 1 ≤ R.cells) (hslots : slots + N ≤ R.slots) (hdg : decode cc pc = .ok (.new index, 3))
    (kk : ∀ (H1 : Heap), H1.size = G.1 + (M + 1) → zX G (xu e M (.inr (ci, fs))) H1 → va_S (zA G) H0 H1 locs → W p l e0 R s m args below meth c H1 locs (cells + 1) (slots + N) Q (F0 m (pc + 3) ls (.ref (G.1 + M) :: rest))) : W p l e0 R s m args below meth c H locs cells slots Q (F0 m pc ls rest) := by
  have hKn := hK.1 ci _ hc
  refine W.newcK hexec hb hown (hts _ hcl) (hts _ hinst) (hts _ hini) rfl hdg hcells hslots hKn.2.1 hz fun H1 kC hkC g1 z1 o1 => ?_
  refine kk H1 (by omega) ?_ ⟨Nat.le_trans hS.1 (by omega), fun x h1 h2 => (o1 x (by have := hS.1; omega)).trans (hS.2.1 x h1 h2), hS.2.2⟩
  intro j y hj
  by_cases hjn : j = M
  · subst hjn
    rw [xu_same] at hj
    cases hj
    exact ⟨_, hc, (u_born ty hts hin hKn hkC g1 hty).to hfs⟩
  · rw [xu_ne hjn] at hj
    have hlt := (hX j y hj).lt
    exact (hX j y hj).kept (o1 _ (by omega))
theorem x_newq (hexec : p.tables.exec = Jvm.exec) (hb : c.code = cc) {own C : String} {index M t0 : Nat} {cA : ClassId} (hts : ∀ w ∈ zall, w.before args s = true) (hown : s.vm.findClass own = some m.cls) (hcl : Cond.classLink own index C ∈ zall) (hover : va_AO C s) (hK : zKU G s) (ht : (zT G)[t0]? = some (cA, .object C)) (hz : H.size = G.1 + M) (hX : zX G e H) (hS : va_S (zA G) H0 H locs)
    {n : Int32} {N' : Nat} (hn : ¬ n < 0) (hN : n.toNatClampNeg = N') (hbytes : N' * 4 ≤ 536870912) (hcells : cells + 1 ≤ R.cells) (hslots : slots + N' ≤ R.slots) (hdg : decode cc pc = .ok (.anewarray index, 3))
    (kk : ∀ (H1 : Heap), H1.size = G.1 + (M + 1) → zX G (xu e M (.inl (cA, zRows N' (fun _ => none)))) H1 → va_S (zA G) H0 H1 locs → W p l e0 R s m args below meth c H1 locs (cells + 1) (slots + N') Q (F0 m (pc + 3) ls (.ref (G.1 + M) :: rest))) : W p l e0 R s m args below meth c H locs cells slots Q (F0 m pc ls (.int n :: rest)) := by
  subst hN
  refine W.anew hexec hb hown (hts _ hcl) (va_AO.use hover) rfl hdg rfl hn hbytes hcells hslots fun cA1 kA comp f1 f2 f3 f4 => ?_
  obtain ⟨kA', comp', k1, k2, k3, k4⟩ := (hK.2 t0 _ ht).2
  have hcA : cA1 = cA := Option.some.inj (f1.symm.trans k4)
  subst hcA
  generalize hH1 : H.push ({ cls := cA1, slots := Array.replicate n.toNatClampNeg .null, vm := .none } : Cell) = H1
  have z1 : H1.size = H.size + 1 := by rw [← hH1, Array.size_push]
  have g1 : H1[H.size]? = some (arrV cA1 n.toNatClampNeg (fun _ => .null)) := by rw [← hH1, Array.getElem?_push_size, ← arrV_new]
  have o1 : ∀ q : Nat, q < H.size → H1[q]? = H[q]? := fun q hq => by rw [← hH1, Array.getElem?_push, if_neg (Nat.ne_of_lt hq)]
  rw [hz] at g1 ⊢
  refine kk H1 (by omega) ?_ ⟨Nat.le_trans hS.1 (by omega), fun x h1 h2 => (o1 x (by have := hS.1; omega)).trans (hS.2.1 x h1 h2), hS.2.2⟩
  intro j y hj
  by_cases hjn : j = M
  · subst hjn
    rw [xu_same] at hj
    cases hj
    exact g1
  · rw [xu_ne hjn] at hj
    have hlt := (hX j y hj).lt
    exact (hX j y hj).kept (o1 _ (by omega))
theorem x_newa (hexec : p.tables.exec = Jvm.exec) (hb : c.code = cc) {atype : ArrayType} {M : Nat} (hts : ∀ w ∈ zall, w.before args s = true) (harr : Cond.arrayClass (newarray.typeOf atype) ∈ zall) (hz : H.size = G.1 + M) (hX : zX G e H) (hS : va_S (zA G) H0 H locs)
    {n : Int32} {N' : Nat} (hn : ¬ n < 0) (hN : n.toNatClampNeg = N') (hbytes : N' * componentBytes (newarray.typeOf atype) ≤ 536870912) (hcells : cells + 1 ≤ R.cells) (hslots : slots + N' ≤ R.slots) (hdg : decode cc pc = .ok (.newarray atype, 2))
    (kk : ∀ (H1 : Heap), H1.size = G.1 + (M + 1) → zX G e H1 → va_S (zA G) H0 H1 locs → W p l e0 R s m args below meth c H1 locs (cells + 1) (slots + N') Q (F0 m (pc + 2) ls (.ref (G.1 + M) :: rest))) : W p l e0 R s m args below meth c H locs cells slots Q (F0 m pc ls (.int n :: rest)) := by
  refine va_newaK hexec hb (hts _ harr) rfl hdg rfl hn hN hbytes hcells hslots hz fun H1 cA g1 z1 o1 hAr hNm => ?_
  refine kk H1 (by omega) (fun j y hj => ?_) ⟨Nat.le_trans hS.1 (by omega), fun x h1 h2 => (o1 x (by have := hS.1; omega)).trans (hS.2.1 x h1 h2), hS.2.2⟩
  have hlt := (hX j y hj).lt
  exact (hX j y hj).kept (o1 _ (by omega))
theorem x_ast {M : Nat} (hexec : p.tables.exec = Jvm.exec) (hb : c.code = cc) (hK : zKU G s) (hz : H.size = G.1 + M) (hX : zX G e H) (hS : va_S (zA G) H0 H locs) (t0 : Nat) {cA : ClassId} {r : vw_C} {n k N ci : Nat} {vs : List Value} {f : Nat → Option Nat} (ha : e n = some (.inl (cA, zRows N f))) (ht : (zT G)[t0]? = some (cA, .object r.1)) (hv : e k = some (.inr (ci, vs))) (hc : vwCl[ci]? = some r) {i : Int32} (hin : vp_in i N) {e1 : xM} (he1 : xu e n (.inl (cA, zRows N (va_up f i.toNatClampNeg (some (G.1 + k))))) = e1) (hdg : decode cc pc = .ok (.aastore, 1))
    (kk : ∀ (H1 : Heap) (locs1 : List Loc), H1.size = G.1 + M → zX G e1 H1 → va_S (zA G) H0 H1 locs1 → W p l e0 R s m args below meth c H1 locs1 cells slots Q (F0 m (pc + 1) ls rest)) : W p l e0 R s m args below meth c H locs cells slots Q (F0 m pc ls (.ref (G.1 + k) :: .int i :: .ref (G.1 + n) :: rest)) := by
  have hlt : i.toNatClampNeg < N := Nat.not_le.mp fun q => hin (Or.inr q)
  have h0 : ¬ i < 0 := fun q => hin (Or.inl q)
  obtain ⟨r', hr', cellV, g1, g2, g3, -⟩ := hX k _ hv
  have hcls := (hK.1 ci r hc).2
  obtain ⟨kA, comp, k1, k2, k3, -⟩ := (hK.2 t0 _ ht).2
  have hcomp : comp = G.2.1.1 ci := Option.some.inj (k3.symm.trans hcls.1)
  subst hcomp
  obtain ⟨kC, hkC, -⟩ := hcls.2
  refine W.aast hexec hb (hX n _ ha) (fun q h => by cases h) (fun h => by cases h) k1 k2 rfl hkC ⟨h0, by show _ < (arrV _ _ _).slots.size; rw [arrV_size]; exact hlt⟩ g1 (fun q h => by rw [g3] at h; cases h) (by rw [g2]; exact hkC) (by rw [g2]; exact va_assign hcls) rfl rfl hdg fun H1 f1 f2 f3 => ?_
  refine kk H1 _ (f2.trans hz) (hX.put (n := n) (x := .inl (cA, zRows N (va_up f i.toNatClampNeg (some (G.1 + k))))) ?_ f3 he1) (hS.put f2 f3 (show zA G (G.1 + n) from Nat.le_add_right _ _))
  show H1[G.1 + n]? = some (vp_cell _ _)
  rw [f1]
  rw [vp_cell_q, vp_cell_q, arrV_store]
  congr 2
  funext q
  by_cases hq : q = i.toNatClampNeg
  · subst hq
    simp [updV, va_up, va_rf]
  · simp [updV, va_up, hq]
theorem x_alen (hexec : p.tables.exec = Jvm.exec) (hb : c.code = cc) (hK : zKU G s) (hX : zX G e H) (t0 : Nat) {cA : ClassId} {ty : FieldType} {n N : Nat} {f : Nat → Option Nat} (ha : e n = some (.inl (cA, zRows N f))) (ht : (zT G)[t0]? = some (cA, ty)) {v : Int32} (hv : Int32.ofNat N = v) (hdg : decode cc pc = .ok (.arraylength, 1))
    (kk : W p l e0 R s m args below meth c H locs cells slots Q (F0 m (pc + 1) ls (.int v :: rest))) : W p l e0 R s m args below meth c H locs cells slots Q (F0 m pc ls (.ref (G.1 + n) :: rest)) :=
  va_alen (x := zRows N f) hexec hb hK (hX.one ha) 0 t0 rfl ht hv hdg kk
theorem x_callI {own : String} {idx nL nm fr lo mc ms n M M1 : Nat} {y : MethodName} {cm : ByteArray} {e1 : xM} {lv : List (Nat × Value)} {st0 : List Value}
    (hx : p.tables.exec = Jvm.exec) (hb : c.code = cc) (hml : c.maxLocals = nL) (hown : s.vm.findClass own = some m.cls) (hts : ∀ w ∈ zall, w.before args s = true) (hl : lv_has ls nL lv) (hK : zKU G s) (hN : zN s) (hz : H.size = G.1 + M) (hX : zX G e H) (hS : va_S (zA G) H0 H locs)
    (hM : xMet l G y cm nm fr lo mc ms n e M e1 M1) (q5 : Cond.code y cm nm none ∈ zall) (q1 : Cond.initialized y.cls ∈ zall) (q2 : Cond.methodLink own idx y ∈ zall) (q3 : Cond.instanceMethod y ∈ zall) (hyn : y.name = "<init>")
    (hd : y.cls ≠ "java/lang/invoke/MethodHandle" ∧ y.cls ≠ "java/lang/invoke/VarHandle" ∧ (parseMethodDescriptor y.desc).map (fun d => d.parameters.length) = some 0) (hR : fr + 1 ≤ R.frames ∧ 8 + (nm + 11) + lo ≤ R.locals)
    (hst : st0 = .ref (G.1 + n) :: rest) (hW : (rest.map fun v => v.category).sum ≤ 8) (hdg : decode cc pc = .ok (.invokespecial idx, 3)) (hcs : cells + mc ≤ R.cells ∧ slots + ms ≤ R.slots)
    (kk : ∀ (H1 : Heap) (locs1 : List Loc), H1.size = G.1 + M1 → zX G e1 H1 → va_S (zA G) H0 H1 locs1 → W p l e0 R s m args below meth c H1 locs1 (cells + mc) (slots + ms) Q (F0 m (pc + 3) ls rest)) : W p l e0 R s m args below meth c H locs cells slots Q (F0 m pc ls st0) := by
  refine va_callv (va_runI (As := []) (rest := rest) ⟨hx, hb, hml, hown, hts⟩ hM (cwI 0 hts (z_GI q5) rfl rfl rfl (hts _ q1) (hts _ q2) (hts _ q3) hyn hd hR) ⟨fun a U g mk q => ⟨q.1, q.2.1, q.2.2.1, va_K.moved (u := U) (U := U.calling g mk a) (Vm.Alike.refl U.vm) q.2.2.2.1, q.2.2.2.2.calling⟩, fun U hU hW => ⟨rfl, by rw [hU]; exact hz, by rw [hU]; exact hX, va_K.moved hW.alike hK, hN.warm hW⟩⟩ rfl rfl hl.1 hst (lv_room hW) hdg hcs) hS (fun q _ h => h) (fun q h => h) (fun u t H1 locs1 ht hvm hw hB hz1 hk1 hS1 => ?_)
  exact kk H1 locs1 (by rw [← ht]; exact hB.1) (by rw [← ht]; exact hB.2.1) hS1
theorem x_callIN {own host : String} {idx nL nm fr lo mc ms n M M1 : Nat} {y : MethodName} {cm : ByteArray} {e1 : xM} {lv : List (Nat × Value)} {st0 : List Value}
    (hx : p.tables.exec = Jvm.exec) (hb : c.code = cc) (hml : c.maxLocals = nL) (hown : s.vm.findClass own = some m.cls) (hts : ∀ w ∈ zall, w.before args s = true) (hl : lv_has ls nL lv) (hK : zKU G s) (hN : zN s) (hz : H.size = G.1 + M) (hX : zX G e H) (hS : va_S (zA G) H0 H locs)
    (hM : xMet l G y cm nm fr lo mc ms n e M e1 M1) (q5 : Cond.code y cm nm none ∈ zall) (q1 : Cond.initialized y.cls ∈ zall) (q2 : va_Nw (.methodLinkNest own idx y host) s) (q3 : Cond.instanceMethod y ∈ zall) (hyn : y.name = "<init>")
    (hd : y.cls ≠ "java/lang/invoke/MethodHandle" ∧ y.cls ≠ "java/lang/invoke/VarHandle" ∧ (parseMethodDescriptor y.desc).map (fun d => d.parameters.length) = some 0) (hR : fr + 1 ≤ R.frames ∧ 8 + (nm + 11) + lo ≤ R.locals)
    (hst : st0 = .ref (G.1 + n) :: rest) (hW : (rest.map fun v => v.category).sum ≤ 8) (hdg : decode cc pc = .ok (.invokespecial idx, 3)) (hcs : cells + mc ≤ R.cells ∧ slots + ms ≤ R.slots)
    (kk : ∀ (H1 : Heap) (locs1 : List Loc), H1.size = G.1 + M1 → zX G e1 H1 → va_S (zA G) H0 H1 locs1 → W p l e0 R s m args below meth c H1 locs1 (cells + mc) (slots + ms) Q (F0 m (pc + 3) ls rest)) : W p l e0 R s m args below meth c H locs cells slots Q (F0 m pc ls st0) := by
  refine va_callv (va_runIN (As := []) (rest := rest) ⟨hx, hb, hml, hown, hts⟩ hM ⟨va_cnB 0 hts (z_GI q5) rfl rfl rfl q2 (hts _ q1) hd hR, hyn, hts _ q3⟩ ⟨fun a U g mk q => ⟨q.1, q.2.1, q.2.2.1, va_K.moved (u := U) (U := U.calling g mk a) (Vm.Alike.refl U.vm) q.2.2.2.1, q.2.2.2.2.calling⟩, fun U hU hW => ⟨rfl, by rw [hU]; exact hz, by rw [hU]; exact hX, va_K.moved hW.alike hK, hN.warm hW⟩⟩ rfl rfl hl.1 hst (lv_room hW) hdg hcs) hS (fun q _ h => h) (fun q h => h) (fun u t H1 locs1 ht hvm hw hB hz1 hk1 hS1 => ?_)
  exact kk H1 locs1 (by rw [← ht]; exact hB.1) (by rw [← ht]; exact hB.2.1) hS1
end ZX
end
section
theorem hxX4_init : yX4_init.cls ≠ "java/lang/invoke/MethodHandle" ∧ yX4_init.cls ≠ "java/lang/invoke/VarHandle" ∧ (parseMethodDescriptor yX4_init.desc).map (fun d => d.parameters.length) = some 0 := by decide +kernel
set_option maxHeartbeats 4000000 in
set_option maxRecDepth 100000 in
theorem c_X4_init (l : Launch) (G : zG) (e : xM) (n N : Nat) (he : e n = some (.inr (4, [.int 0, .int 0, .int 0, .int 0, .int 0, .int 0]))) : xMet l G yX4_init cX4_init 1 1 12 0 0 n e N e N := by
  refine x_start (by decide) rfl (Nat.le_of_ble_eq_true rfl) ?_
  intro p e0 s m args below meth c ls hx hb hml hr hlk hin hts hown hK hN hz hX hS hl
  have hown : s.vm.findClass RX4 = some m.cls := hown
  refine lv_aload_n hx hb dX4_init_0 rfl (lv_at hl 0 rfl) ?_
  refine W.objInit hx hb hown (hts _ q38) (hts _ q15) (hts _ q16) rfl (by rw [hml]; exact hl.1) rfl dX4_init_1 (Nat.le_of_ble_eq_true rfl) (Nat.le_of_ble_eq_true rfl) ?_
  refine W.eq (g2 := F0 m 4 ls []) rfl ?_
  refine lv_aload_n hx hb dX4_init_4 rfl (lv_at hl 0 rfl) ?_
  refine lv_iconst (v := 0) hx hb dX4_init_5 (by decide) ?_
  refine x_put (e1 := e) (C := RX4) (T := TX4) (N := 6) hx hb hts inX4 tyX4 tyX4_ok nmX4 hown hK hz hX he rfl 0 (by decide) q39 hin rfl pfd_I rfl rfl (Nat.le_of_ble_eq_true rfl) (xu_id he) hS dX4_init_6 (fun H locs hz hX hS => ?_)
  refine lv_aload_n hx hb dX4_init_9 rfl (lv_at hl 0 rfl) ?_
  refine lv_iconst (v := 0) hx hb dX4_init_10 (by decide) ?_
  refine x_put (e1 := e) (C := RX4) (T := TX4) (N := 6) hx hb hts inX4 tyX4 tyX4_ok nmX4 hown hK hz hX he rfl 1 (by decide) q40 hin rfl pfd_I rfl rfl (Nat.le_of_ble_eq_true rfl) (xu_id he) hS dX4_init_11 (fun H locs hz hX hS => ?_)
  refine lv_aload_n hx hb dX4_init_14 rfl (lv_at hl 0 rfl) ?_
  refine lv_iconst (v := 0) hx hb dX4_init_15 (by decide) ?_
  refine x_put (e1 := e) (C := RX4) (T := TX4) (N := 6) hx hb hts inX4 tyX4 tyX4_ok nmX4 hown hK hz hX he rfl 2 (by decide) q42 hin rfl pfd_I rfl rfl (Nat.le_of_ble_eq_true rfl) (xu_id he) hS dX4_init_16 (fun H locs hz hX hS => ?_)
  refine lv_aload_n hx hb dX4_init_19 rfl (lv_at hl 0 rfl) ?_
  refine lv_iconst (v := 0) hx hb dX4_init_20 (by decide) ?_
  refine x_put (e1 := e) (C := RX4) (T := TX4) (N := 6) hx hb hts inX4 tyX4 tyX4_ok nmX4 hown hK hz hX he rfl 3 (by decide) q43 hin rfl pfd_I rfl rfl (Nat.le_of_ble_eq_true rfl) (xu_id he) hS dX4_init_21 (fun H locs hz hX hS => ?_)
  refine lv_aload_n hx hb dX4_init_24 rfl (lv_at hl 0 rfl) ?_
  refine lv_iconst (v := 0) hx hb dX4_init_25 (by decide) ?_
  refine x_put (e1 := e) (C := RX4) (T := TX4) (N := 6) hx hb hts inX4 tyX4 tyX4_ok nmX4 hown hK hz hX he rfl 4 (by decide) q44 hin rfl pfd_I rfl rfl (Nat.le_of_ble_eq_true rfl) (xu_id he) hS dX4_init_26 (fun H locs hz hX hS => ?_)
  refine lv_aload_n hx hb dX4_init_29 rfl (lv_at hl 0 rfl) ?_
  refine lv_iconst (v := 0) hx hb dX4_init_30 (by decide) ?_
  refine x_put (e1 := e) (C := RX4) (T := TX4) (N := 6) hx hb hts inX4 tyX4 tyX4_ok nmX4 hown hK hz hX he rfl 5 (by decide) q45 hin rfl pfd_I rfl rfl (Nat.le_of_ble_eq_true rfl) (xu_id he) hS dX4_init_31 (fun H locs hz hX hS => ?_)
  exact x_vret hx hb hr hlk hK hN hz hX hS (by omega) (by omega) dX4_init_34
theorem hxX3_init : yX3_init.cls ≠ "java/lang/invoke/MethodHandle" ∧ yX3_init.cls ≠ "java/lang/invoke/VarHandle" ∧ (parseMethodDescriptor yX3_init.desc).map (fun d => d.parameters.length) = some 0 := by decide +kernel
set_option maxHeartbeats 4000000 in
set_option maxRecDepth 100000 in
theorem c_X3_init (l : Launch) (G : zG) (e : xM) (n N : Nat) (he : e n = some (.inr (3, [.int 0, .int 0, .int 0, .int 0, .int 0, .int 0, .int 0, .int 0, .int 0, .int 0, .int 0]))) : xMet l G yX3_init cX3_init 1 1 12 0 0 n e N e N := by
  refine x_start (by decide) rfl (Nat.le_of_ble_eq_true rfl) ?_
  intro p e0 s m args below meth c ls hx hb hml hr hlk hin hts hown hK hN hz hX hS hl
  have hown : s.vm.findClass RX3 = some m.cls := hown
  refine lv_aload_n hx hb dX3_init_0 rfl (lv_at hl 0 rfl) ?_
  refine W.objInit hx hb hown (hts _ q98) (hts _ q15) (hts _ q16) rfl (by rw [hml]; exact hl.1) rfl dX3_init_1 (Nat.le_of_ble_eq_true rfl) (Nat.le_of_ble_eq_true rfl) ?_
  refine W.eq (g2 := F0 m 4 ls []) rfl ?_
  refine lv_aload_n hx hb dX3_init_4 rfl (lv_at hl 0 rfl) ?_
  refine lv_iconst (v := 0) hx hb dX3_init_5 (by decide) ?_
  refine x_put (e1 := e) (C := RX3) (T := TX3) (N := 11) hx hb hts inX3 tyX3 tyX3_ok nmX3 hown hK hz hX he rfl 0 (by decide) q99 hin rfl pfd_I rfl rfl (Nat.le_of_ble_eq_true rfl) (xu_id he) hS dX3_init_6 (fun H locs hz hX hS => ?_)
  refine lv_aload_n hx hb dX3_init_9 rfl (lv_at hl 0 rfl) ?_
  refine lv_iconst (v := 0) hx hb dX3_init_10 (by decide) ?_
  refine x_put (e1 := e) (C := RX3) (T := TX3) (N := 11) hx hb hts inX3 tyX3 tyX3_ok nmX3 hown hK hz hX he rfl 1 (by decide) q102 hin rfl pfd_I rfl rfl (Nat.le_of_ble_eq_true rfl) (xu_id he) hS dX3_init_11 (fun H locs hz hX hS => ?_)
  refine lv_aload_n hx hb dX3_init_14 rfl (lv_at hl 0 rfl) ?_
  refine lv_iconst (v := 0) hx hb dX3_init_15 (by decide) ?_
  refine x_put (e1 := e) (C := RX3) (T := TX3) (N := 11) hx hb hts inX3 tyX3 tyX3_ok nmX3 hown hK hz hX he rfl 2 (by decide) q104 hin rfl pfd_I rfl rfl (Nat.le_of_ble_eq_true rfl) (xu_id he) hS dX3_init_16 (fun H locs hz hX hS => ?_)
  refine lv_aload_n hx hb dX3_init_19 rfl (lv_at hl 0 rfl) ?_
  refine lv_iconst (v := 0) hx hb dX3_init_20 (by decide) ?_
  refine x_put (e1 := e) (C := RX3) (T := TX3) (N := 11) hx hb hts inX3 tyX3 tyX3_ok nmX3 hown hK hz hX he rfl 3 (by decide) q105 hin rfl pfd_I rfl rfl (Nat.le_of_ble_eq_true rfl) (xu_id he) hS dX3_init_21 (fun H locs hz hX hS => ?_)
  refine lv_aload_n hx hb dX3_init_24 rfl (lv_at hl 0 rfl) ?_
  refine lv_iconst (v := 0) hx hb dX3_init_25 (by decide) ?_
  refine x_put (e1 := e) (C := RX3) (T := TX3) (N := 11) hx hb hts inX3 tyX3 tyX3_ok nmX3 hown hK hz hX he rfl 4 (by decide) q106 hin rfl pfd_I rfl rfl (Nat.le_of_ble_eq_true rfl) (xu_id he) hS dX3_init_26 (fun H locs hz hX hS => ?_)
  refine lv_aload_n hx hb dX3_init_29 rfl (lv_at hl 0 rfl) ?_
  refine lv_iconst (v := 0) hx hb dX3_init_30 (by decide) ?_
  refine x_put (e1 := e) (C := RX3) (T := TX3) (N := 11) hx hb hts inX3 tyX3 tyX3_ok nmX3 hown hK hz hX he rfl 5 (by decide) q108 hin rfl pfd_I rfl rfl (Nat.le_of_ble_eq_true rfl) (xu_id he) hS dX3_init_31 (fun H locs hz hX hS => ?_)
  refine lv_aload_n hx hb dX3_init_34 rfl (lv_at hl 0 rfl) ?_
  refine lv_iconst (v := 0) hx hb dX3_init_35 (by decide) ?_
  refine x_put (e1 := e) (C := RX3) (T := TX3) (N := 11) hx hb hts inX3 tyX3 tyX3_ok nmX3 hown hK hz hX he rfl 6 (by decide) q110 hin rfl pfd_I rfl rfl (Nat.le_of_ble_eq_true rfl) (xu_id he) hS dX3_init_36 (fun H locs hz hX hS => ?_)
  refine lv_aload_n hx hb dX3_init_39 rfl (lv_at hl 0 rfl) ?_
  refine lv_iconst (v := 0) hx hb dX3_init_40 (by decide) ?_
  refine x_put (e1 := e) (C := RX3) (T := TX3) (N := 11) hx hb hts inX3 tyX3 tyX3_ok nmX3 hown hK hz hX he rfl 7 (by decide) q113 hin rfl pfd_I rfl rfl (Nat.le_of_ble_eq_true rfl) (xu_id he) hS dX3_init_41 (fun H locs hz hX hS => ?_)
  refine lv_aload_n hx hb dX3_init_44 rfl (lv_at hl 0 rfl) ?_
  refine lv_iconst (v := 0) hx hb dX3_init_45 (by decide) ?_
  refine x_put (e1 := e) (C := RX3) (T := TX3) (N := 11) hx hb hts inX3 tyX3 tyX3_ok nmX3 hown hK hz hX he rfl 8 (by decide) q116 hin rfl pfd_I rfl rfl (Nat.le_of_ble_eq_true rfl) (xu_id he) hS dX3_init_46 (fun H locs hz hX hS => ?_)
  refine lv_aload_n hx hb dX3_init_49 rfl (lv_at hl 0 rfl) ?_
  refine lv_iconst (v := 0) hx hb dX3_init_50 (by decide) ?_
  refine x_put (e1 := e) (C := RX3) (T := TX3) (N := 11) hx hb hts inX3 tyX3 tyX3_ok nmX3 hown hK hz hX he rfl 9 (by decide) q119 hin rfl pfd_I rfl rfl (Nat.le_of_ble_eq_true rfl) (xu_id he) hS dX3_init_51 (fun H locs hz hX hS => ?_)
  refine lv_aload_n hx hb dX3_init_54 rfl (lv_at hl 0 rfl) ?_
  refine lv_iconst (v := 0) hx hb dX3_init_55 (by decide) ?_
  refine x_put (e1 := e) (C := RX3) (T := TX3) (N := 11) hx hb hts inX3 tyX3 tyX3_ok nmX3 hown hK hz hX he rfl 10 (by decide) q121 hin rfl pfd_I rfl rfl (Nat.le_of_ble_eq_true rfl) (xu_id he) hS dX3_init_56 (fun H locs hz hX hS => ?_)
  exact x_vret hx hb hr hlk hK hN hz hX hS (by omega) (by omega) dX3_init_59
theorem hxX5_init : yX5_init.cls ≠ "java/lang/invoke/MethodHandle" ∧ yX5_init.cls ≠ "java/lang/invoke/VarHandle" ∧ (parseMethodDescriptor yX5_init.desc).map (fun d => d.parameters.length) = some 0 := by decide +kernel
set_option maxHeartbeats 4000000 in
set_option maxRecDepth 100000 in
theorem c_X5_init (l : Launch) (G : zG) (e : xM) (n N : Nat) (he : e n = some (.inr (5, [.int 0, .int 0, .int 0, .int 0, .int 0, .int 0, .null]))) (hne : n ≠ N) : xMet l G yX5_init cX5_init 1 2 32 1 6 n e N (xu (xu e N (.inr (4, [.int 0, .int 0, .int 0, .int 0, .int 0, .int 0]))) n (.inr (5, [.int 0, .int 0, .int 0, .int 0, .int 0, .int 0, .ref (G.1 + N)]))) (N + 1) := by
  refine x_start (by decide) rfl (Nat.le_of_ble_eq_true rfl) ?_
  intro p e0 s m args below meth c ls hx hb hml hr hlk hin hts hown hK hN hz hX hS hl
  have hown : s.vm.findClass RX5 = some m.cls := hown
  refine lv_aload_n hx hb dX5_init_0 rfl (lv_at hl 0 rfl) ?_
  refine W.objInit hx hb hown (hts _ q32) (hts _ q15) (hts _ q16) rfl (by rw [hml]; exact hl.1) rfl dX5_init_1 (Nat.le_of_ble_eq_true rfl) (Nat.le_of_ble_eq_true rfl) ?_
  refine W.eq (g2 := F0 m 4 ls []) rfl ?_
  refine lv_aload_n hx hb dX5_init_4 rfl (lv_at hl 0 rfl) ?_
  refine lv_iconst (v := 0) hx hb dX5_init_5 (by decide) ?_
  refine x_put (e1 := e) (C := RX5) (T := TX5) (N := 7) hx hb hts inX5 tyX5 tyX5_ok nmX5 hown hK hz hX he rfl 0 (by decide) q59 hin rfl pfd_I rfl rfl (Nat.le_of_ble_eq_true rfl) (xu_id he) hS dX5_init_6 (fun H locs hz hX hS => ?_)
  refine lv_aload_n hx hb dX5_init_9 rfl (lv_at hl 0 rfl) ?_
  refine lv_iconst (v := 0) hx hb dX5_init_10 (by decide) ?_
  refine x_put (e1 := e) (C := RX5) (T := TX5) (N := 7) hx hb hts inX5 tyX5 tyX5_ok nmX5 hown hK hz hX he rfl 1 (by decide) q62 hin rfl pfd_I rfl rfl (Nat.le_of_ble_eq_true rfl) (xu_id he) hS dX5_init_11 (fun H locs hz hX hS => ?_)
  refine lv_aload_n hx hb dX5_init_14 rfl (lv_at hl 0 rfl) ?_
  refine lv_iconst (v := 0) hx hb dX5_init_15 (by decide) ?_
  refine x_put (e1 := e) (C := RX5) (T := TX5) (N := 7) hx hb hts inX5 tyX5 tyX5_ok nmX5 hown hK hz hX he rfl 2 (by decide) q65 hin rfl pfd_I rfl rfl (Nat.le_of_ble_eq_true rfl) (xu_id he) hS dX5_init_16 (fun H locs hz hX hS => ?_)
  refine lv_aload_n hx hb dX5_init_19 rfl (lv_at hl 0 rfl) ?_
  refine lv_iconst (v := 0) hx hb dX5_init_20 (by decide) ?_
  refine x_put (e1 := e) (C := RX5) (T := TX5) (N := 7) hx hb hts inX5 tyX5 tyX5_ok nmX5 hown hK hz hX he rfl 3 (by decide) q68 hin rfl pfd_I rfl rfl (Nat.le_of_ble_eq_true rfl) (xu_id he) hS dX5_init_21 (fun H locs hz hX hS => ?_)
  refine lv_aload_n hx hb dX5_init_24 rfl (lv_at hl 0 rfl) ?_
  refine lv_iconst (v := 0) hx hb dX5_init_25 (by decide) ?_
  refine x_put (e1 := e) (C := RX5) (T := TX5) (N := 7) hx hb hts inX5 tyX5 tyX5_ok nmX5 hown hK hz hX he rfl 4 (by decide) q71 hin rfl pfd_I rfl rfl (Nat.le_of_ble_eq_true rfl) (xu_id he) hS dX5_init_26 (fun H locs hz hX hS => ?_)
  refine lv_aload_n hx hb dX5_init_29 rfl (lv_at hl 0 rfl) ?_
  refine lv_iconst (v := 0) hx hb dX5_init_30 (by decide) ?_
  refine x_put (e1 := e) (C := RX5) (T := TX5) (N := 7) hx hb hts inX5 tyX5 tyX5_ok nmX5 hown hK hz hX he rfl 5 (by decide) q74 hin rfl pfd_I rfl rfl (Nat.le_of_ble_eq_true rfl) (xu_id he) hS dX5_init_31 (fun H locs hz hX hS => ?_)
  refine lv_aload_n hx hb dX5_init_34 rfl (lv_at hl 0 rfl) ?_
  refine x_new (ci := 4) (fs := [.int 0, .int 0, .int 0, .int 0, .int 0, .int 0]) (C := RX4) (T := TX4) (N := 6) hx hb hts inX4 tyX4 tyX4_ok hown q33 q34 q4 hK hz hX hS rfl (fun j hj => by rcases (show j = 0 ∨ j = 1 ∨ j = 2 ∨ j = 3 ∨ j = 4 ∨ j = 5 by omega) with rfl | rfl | rfl | rfl | rfl | rfl <;> rfl) (show 0 + 1 ≤ 1 by omega) (show 0 + 6 ≤ 6 by omega) dX5_init_35 (fun H hz hX hS => ?_)
  refine lv_dup hx hb dX5_init_38 rfl ?_
  refine x_callIN hx hb hml hown hts hl hK hN hz hX hS (c_X4_init l G (xu e N (.inr (4, [.int 0, .int 0, .int 0, .int 0, .int 0, .int 0]))) N (N + 1) xu_same) q37 q4 hN.2.1 q36 rfl hxX4_init ⟨Nat.le_of_ble_eq_true rfl, Nat.le_of_ble_eq_true rfl⟩ rfl (Nat.le_of_ble_eq_true rfl) dX5_init_39 ⟨show (0 + 1) + 0 ≤ 1 by omega, show (0 + 6) + 0 ≤ 6 by omega⟩ (fun H locs hz hX hS => ?_)
  refine x_put (e1 := (xu (xu e N (.inr (4, [.int 0, .int 0, .int 0, .int 0, .int 0, .int 0]))) n (.inr (5, [.int 0, .int 0, .int 0, .int 0, .int 0, .int 0, .ref (G.1 + N)])))) (C := RX5) (T := TX5) (N := 7) hx hb hts inX5 tyX5 tyX5_ok nmX5 hown hK hz hX (xu_at he (by omega)) rfl 6 (by decide) q77 hin rfl (tyX5_ok 6 (by decide)) rfl rfl (Nat.le_of_ble_eq_true rfl) rfl hS dX5_init_42 (fun H locs hz hX hS => ?_)
  exact x_vret hx hb hr hlk hK hN hz hX hS (by omega) (by omega) dX5_init_45
def μB (r : Nat) : Nat → Int32 := if r = 0 then (fun k => match k with | 1 => 5000 | 2 => 1017370378 | _ => 0) else fun _ => 0
abbrev bkF (G : zG) (B : Nat) : List Value := [.int 0, .int 5000, .float 1017370378, .int 0, .int 0, .ref (G.1 + (B + 1)), .ref (G.1 + (B + 1 + 1))]
def aT (G : zG) (B i : Nat) : Nat → Option Nat := fun k => if i ≤ k ∧ k < 6 then none else some (G.1 + (B + 1 + 2 + 2 * k))
def aI (G : zG) (B j : Nat) : Nat → Option Nat := fun k => if j ≤ k ∧ k < 24 then none else some (G.1 + (B + 1 + 1 + 13 + k))
def eL (G : zG) (e : xM) (B i j : Nat) : xM := fun n => if n = B then some (.inr (1, bkF G B)) else if n = B + 1 then some (.inl (G.2.2.1, zRows 6 (aT G B i))) else if n = B + 1 + 1 then some (.inl (G.2.2.2.1, zRows 24 (aI G B j))) else if B + 3 ≤ n ∧ n < B + 3 + 2 * i + j then some (zE G (zkb (n - B)) n (fun _ => 0)) else e n
def eB (G : zG) (e : xM) (B : Nat) : xM := fun n => if B ≤ n ∧ n < B + 39 then some (zE G (zkb (n - B)) n (μB (n - B))) else e n
theorem eL_B {G : zG} {e : xM} {B i j : Nat} : eL G e B i j B = some (.inr (1, bkF G B)) := by unfold eL; rw [if_pos rfl]
theorem eL_1 {G : zG} {e : xM} {B i j : Nat} : eL G e B i j (B + 1) = some (.inl (G.2.2.1, zRows 6 (aT G B i))) := by unfold eL; rw [if_neg (by omega), if_pos rfl]
theorem eL_2 {G : zG} {e : xM} {B i j : Nat} : eL G e B i j (B + 1 + 1) = some (.inl (G.2.2.2.1, zRows 24 (aI G B j))) := by unfold eL; rw [if_neg (by omega), if_neg (by omega), if_pos rfl]
theorem eL_c {G : zG} {e : xM} {B i j n : Nat} (h1 : B + 3 ≤ n) (h2 : n < B + 3 + 2 * i + j) : eL G e B i j n = some (zE G (zkb (n - B)) n (fun _ => 0)) := by unfold eL; rw [if_neg (by omega), if_neg (by omega), if_neg (by omega), if_pos ⟨h1, h2⟩]
theorem eL_o {G : zG} {e : xM} {B i j n : Nat} (h : n < B ∨ B + 3 + 2 * i + j ≤ n ∧ B + 3 ≤ n) : eL G e B i j n = e n := by unfold eL; rw [if_neg (by omega), if_neg (by omega), if_neg (by omega), if_neg (by omega)]
theorem eL_cases {G : zG} {e : xM} {B i j n : Nat} {y : va_E} (h : eL G e B i j n = some y) : (n = B ∧ y = .inr (1, bkF G B)) ∨ (n = B + 1 ∧ y = .inl (G.2.2.1, zRows 6 (aT G B i))) ∨ (n = B + 1 + 1 ∧ y = .inl (G.2.2.2.1, zRows 24 (aI G B j))) ∨ (B + 3 ≤ n ∧ n < B + 3 + 2 * i + j ∧ y = zE G (zkb (n - B)) n (fun _ => 0)) ∨ ((n < B ∨ B + 3 + 2 * i + j ≤ n) ∧ e n = some y) := by
  unfold eL at h
  by_cases h1 : n = B
  · rw [if_pos h1] at h; exact Or.inl ⟨h1, (Option.some.inj h).symm⟩
  · rw [if_neg h1] at h
    by_cases h2 : n = B + 1
    · rw [if_pos h2] at h; exact Or.inr (Or.inl ⟨h2, (Option.some.inj h).symm⟩)
    · rw [if_neg h2] at h
      by_cases h3 : n = B + 1 + 1
      · rw [if_pos h3] at h; exact Or.inr (Or.inr (Or.inl ⟨h3, (Option.some.inj h).symm⟩))
      · rw [if_neg h3] at h
        by_cases h4 : B + 3 ≤ n ∧ n < B + 3 + 2 * i + j
        · rw [if_pos h4] at h; exact Or.inr (Or.inr (Or.inr (Or.inl ⟨h4.1, h4.2, (Option.some.inj h).symm⟩)))
        · rw [if_neg h4] at h; exact Or.inr (Or.inr (Or.inr (Or.inr ⟨by omega, h⟩)))
theorem eL_start {G : zG} {e : xM} {B : Nat} {H : Heap} (h : zX G (xu (xu (xu e B (.inr (1, bkF G B))) (B + 1) (.inl (G.2.2.1, zRows 6 (fun _ => none)))) (B + 1 + 1) (.inl (G.2.2.2.1, zRows 24 (fun _ => none)))) H) : zX G (eL G e B 0 0) H := by
  refine h.re (fun n y hy => ?_)
  rcases eL_cases hy with ⟨rfl, rfl⟩ | ⟨rfl, rfl⟩ | ⟨rfl, rfl⟩ | ⟨h1, h2, -⟩ | ⟨h1, h2⟩
  · exact ⟨_, xu_at (xu_at xu_same (by omega)) (by omega), xeqv.rf⟩
  · exact ⟨_, xu_at xu_same (by omega), xeqv.rows (fun k hk => (if_pos ⟨Nat.zero_le k, hk⟩).symm)⟩
  · exact ⟨_, xu_same, xeqv.rows (fun k hk => (if_pos ⟨Nat.zero_le k, hk⟩).symm)⟩
  · omega
  · by_cases a1 : n = B + 1 + 1
    · omega
    · exact ⟨y, xu_at (xu_at (xu_at h2 (by omega)) (by omega)) a1, xeqv.rf⟩
theorem zkb_t {i : Nat} (hi : i < 6) : zkb (3 + 2 * i) = 4 := by
  have k : ∀ i, i < 6 → zkb (3 + 2 * i) = 4 := by decide
  exact k i hi
theorem zkb_s {i : Nat} (hi : i < 6) : zkb (4 + 2 * i) = 5 := by
  have k : ∀ i, i < 6 → zkb (4 + 2 * i) = 5 := by decide
  exact k i hi
theorem zkb_i {j : Nat} (hj : j < 24) : zkb (15 + j) = 6 := by
  have k : ∀ j, j < 24 → zkb (15 + j) = 6 := by decide
  exact k j hj
theorem eL_stepT {G : zG} {e : xM} {B i : Nat} {H : Heap} (hi : i < 6) (h : zX G (xu (xu (xu (xu (eL G e B i 0) (B + 3 + 2 * i) (.inr (5, [.int 0, .int 0, .int 0, .int 0, .int 0, .int 0, .null]))) (B + 3 + 2 * i + 1) (.inr (4, [.int 0, .int 0, .int 0, .int 0, .int 0, .int 0]))) (B + 3 + 2 * i) (.inr (5, [.int 0, .int 0, .int 0, .int 0, .int 0, .int 0, .ref (G.1 + (B + 3 + 2 * i + 1))]))) (B + 1) (.inl (G.2.2.1, zRows 6 (va_up (aT G B i) (nI i).toNatClampNeg (some (G.1 + (B + 3 + 2 * i)))))) ) H) : zX G (eL G e B (i + 1) 0) H := by
  refine h.re (fun n y hy => ?_)
  rw [nI_clamp (by omega : i < 2 ^ 31)]
  rcases eL_cases hy with ⟨rfl, rfl⟩ | ⟨rfl, rfl⟩ | ⟨rfl, rfl⟩ | ⟨h1, h2, rfl⟩ | ⟨h1, h2⟩
  · exact ⟨_, xu_at (xu_at (xu_at (xu_at eL_B (by omega)) (by omega)) (by omega)) (by omega), xeqv.rf⟩
  · refine ⟨_, xu_same, xeqv.rows (fun k hk => ?_)⟩
    unfold va_up aT
    by_cases hki : k = i
    · subst hki
      rw [if_pos rfl, if_neg (by omega)]
    · rw [if_neg hki]
      by_cases h3 : i ≤ k ∧ k < 6
      · rw [if_pos h3, if_pos (by omega)]
      · rw [if_neg h3, if_neg (by omega)]
  · exact ⟨_, xu_at (xu_at (xu_at (xu_at eL_2 (by omega)) (by omega)) (by omega)) (by omega), xeqv.rf⟩
  · by_cases a1 : n = B + 3 + 2 * i
    · subst a1
      refine ⟨_, xu_at xu_same (by omega), ?_⟩
      have e1 : B + 3 + 2 * i - B = 3 + 2 * i := by omega
      rw [e1, zkb_t hi]
      exact xeqv.rf
    · by_cases a2 : n = B + 3 + 2 * i + 1
      · subst a2
        refine ⟨_, xu_at (xu_at xu_same (by omega)) (by omega), ?_⟩
        have e1 : B + 3 + 2 * i + 1 - B = 4 + 2 * i := by omega
        rw [e1, zkb_s hi]
        exact xeqv.rf
      · exact ⟨_, xu_at (xu_at (xu_at (xu_at (eL_c h1 (by omega)) (by omega)) (by omega)) (by omega)) (by omega), xeqv.rf⟩
  · refine ⟨y, xu_at (xu_at (xu_at (xu_at ((eL_o (by omega)).trans h2) (by omega)) (by omega)) (by omega)) (by omega), xeqv.rf⟩
theorem eL_stepI {G : zG} {e : xM} {B j : Nat} {H : Heap} (hj : j < 24) (h : zX G (xu (xu (eL G e B 6 j) (B + 15 + j) (.inr (3, [.int 0, .int 0, .int 0, .int 0, .int 0, .int 0, .int 0, .int 0, .int 0, .int 0, .int 0]))) (B + 1 + 1) (.inl (G.2.2.2.1, zRows 24 (va_up (aI G B j) (nI j).toNatClampNeg (some (G.1 + (B + 15 + j)))))) ) H) : zX G (eL G e B 6 (j + 1)) H := by
  refine h.re (fun n y hy => ?_)
  rw [nI_clamp (by omega : j < 2 ^ 31)]
  rcases eL_cases hy with ⟨rfl, rfl⟩ | ⟨rfl, rfl⟩ | ⟨rfl, rfl⟩ | ⟨h1, h2, rfl⟩ | ⟨h1, h2⟩
  · exact ⟨_, xu_at (xu_at eL_B (by omega)) (by omega), xeqv.rf⟩
  · exact ⟨_, xu_at (xu_at eL_1 (by omega)) (by omega), xeqv.rf⟩
  · refine ⟨_, xu_same, xeqv.rows (fun k hk => ?_)⟩
    unfold va_up aI
    by_cases hki : k = j
    · subst hki
      rw [if_pos rfl, if_neg (by omega)]
    · rw [if_neg hki]
      by_cases h3 : j ≤ k ∧ k < 24
      · rw [if_pos h3, if_pos (by omega)]
      · rw [if_neg h3, if_neg (by omega)]
  · by_cases a1 : n = B + 15 + j
    · subst a1
      refine ⟨_, xu_at xu_same (by omega), ?_⟩
      have e1 : B + 15 + j - B = 15 + j := by omega
      rw [e1, zkb_i hj]
      exact xeqv.rf
    · exact ⟨_, xu_at (xu_at (eL_c h1 (by omega)) (by omega)) (by omega), xeqv.rf⟩
  · refine ⟨y, xu_at (xu_at ((eL_o (by omega)).trans h2) (by omega)) (by omega), xeqv.rf⟩
theorem eL_end {G : zG} {e : xM} {B : Nat} {H : Heap} (h : zX G (eL G e B 6 24) H) : zX G (eB G e B) H := by
  refine h.re (fun n y hy => ?_)
  unfold eB at hy
  by_cases h0 : B ≤ n ∧ n < B + 39
  · rw [if_pos h0] at hy
    cases hy
    by_cases h1 : n = B
    · subst h1
      refine ⟨_, eL_B, ?_⟩
      rw [Nat.sub_self]
      exact xeqv.rf
    · by_cases h2 : n = B + 1
      · subst h2
        refine ⟨_, eL_1, ?_⟩
        rw [show B + 1 - B = 1 by omega]
        exact xeqv.rows (fun k hk => if_neg (by omega))
      · by_cases h3 : n = B + 1 + 1
        · subst h3
          refine ⟨_, eL_2, ?_⟩
          rw [show B + 1 + 1 - B = 2 by omega]
          exact xeqv.rows (fun k hk => if_neg (by omega))
        · refine ⟨_, eL_c (by omega) (by omega), ?_⟩
          rw [show μB (n - B) = fun _ => 0 from if_neg (by omega)]
          exact xeqv.rf
  · rw [if_neg h0] at hy
    exact ⟨y, (eL_o (by omega)).trans hy, xeqv.rf⟩
theorem hxX1_init : yX1_init.cls ≠ "java/lang/invoke/MethodHandle" ∧ yX1_init.cls ≠ "java/lang/invoke/VarHandle" ∧ (parseMethodDescriptor yX1_init.desc).map (fun d => d.parameters.length) = some 0 := by decide +kernel
set_option maxHeartbeats 4000000 in
set_option maxRecDepth 100000 in
theorem c_X1_init (l : Launch) (G : zG) (e : xM) (B : Nat) (he : e B = some (.inr (1, [.int 0, .int 0, .float 0, .int 0, .int 0, .null, .null]))) : xMet l G yX1_init cX1_init 2 3 52 38 372 B e (B + 1) (eB G e B) (B + 39) := by
  refine x_start (by decide) rfl (Nat.le_of_ble_eq_true rfl) ?_
  intro p e0 s m args below meth c ls hx hb hml hr hlk hin hts hown hK hN hz hX hS hl
  have hown : s.vm.findClass RX1 = some m.cls := hown
  have loop2 : ∀ (k j : Nat), j + k = 24 → ∀ (H : Heap) (locs : List Loc) (ls : Array Slot), H.size = G.1 + (B + 15 + j) → zX G (eL G e B 6 j) H → va_S (zA G) s.heap H locs → lv_has ls 2 [(1, .int (nI j)), (0, .ref (G.1 + B))] → W p l e0 { frames := 3, cells := 38, slots := 372, locals := 52 } s m args below meth c H locs (14 + j) (108 + 11 * j) (MQ below (va_Qv (fun _ : Unit => True) (fun _ t => zI G (eB G e B) (B + 39) t) (zA G)) args s 38 372 (zA G)) (F0 m 82 ls []) := by
    intro k
    induction k with
    | zero =>
      intro j hj H locs ls hz hX hS hl
      have hj : j = 24 := by omega
      subst hj
      refine lv_iload_n hx hb dX1_init_82 rfl (lv_at hl 0 rfl) ?_
      refine lv_aload_n hx hb dX1_init_83 rfl (lv_at hl 1 rfl) ?_
      refine x_get (C := RX1) (T := TX1) (N := 7) hx hb hts inX1 hown hK hX eL_B rfl 6 (by decide) q157 (v := .ref (G.1 + (B + 1 + 1))) rfl dX1_init_84 ?_
      refine x_alen (v := 24) hx hb hK hX 1 eL_2 rfl rfl dX1_init_87 ?_
      refine lv_icmp_ge (tgt := 110) hx hb dX1_init_88 (by decide) (fun c_1 => ?_) (fun c_1 => ?_)
      · have hX := eL_end hX
        have hz : H.size = G.1 + (B + 39) := by omega
        exact x_vret hx hb hr hlk hK hN hz hX hS (by omega) (by omega) dX1_init_110
      · exact absurd (show nI 24 ≤ nI 24 from nI_le (Nat.le_refl _) (by decide)) c_1
    | succ k ih =>
      intro j hj H locs ls hz hX hS hl
      refine lv_iload_n hx hb dX1_init_82 rfl (lv_at hl 0 rfl) ?_
      refine lv_aload_n hx hb dX1_init_83 rfl (lv_at hl 1 rfl) ?_
      refine x_get (C := RX1) (T := TX1) (N := 7) hx hb hts inX1 hown hK hX eL_B rfl 6 (by decide) q157 (v := .ref (G.1 + (B + 1 + 1))) rfl dX1_init_84 ?_
      refine x_alen (v := 24) hx hb hK hX 1 eL_2 rfl rfl dX1_init_87 ?_
      refine lv_icmp_ge (tgt := 110) hx hb dX1_init_88 (by decide) (fun c_1 => ?_) (fun c_1 => ?_)
      · exact absurd (show nI 24 ≤ nI j from c_1) (nI_ge (by omega) (by decide))
      · refine lv_aload_n hx hb dX1_init_91 rfl (lv_at hl 1 rfl) ?_
        refine x_get (C := RX1) (T := TX1) (N := 7) hx hb hts inX1 hown hK hX eL_B rfl 6 (by decide) q157 (v := .ref (G.1 + (B + 1 + 1))) rfl dX1_init_92 ?_
        refine lv_iload_n hx hb dX1_init_95 rfl (lv_at hl 0 rfl) ?_
        refine x_new (ci := 3) (fs := [.int 0, .int 0, .int 0, .int 0, .int 0, .int 0, .int 0, .int 0, .int 0, .int 0, .int 0]) (C := RX3) (T := TX3) (N := 11) hx hb hts inX3 tyX3 tyX3_ok hown q26 q94 q5 hK hz hX hS rfl (fun j hj => by rcases (show j = 0 ∨ j = 1 ∨ j = 2 ∨ j = 3 ∨ j = 4 ∨ j = 5 ∨ j = 6 ∨ j = 7 ∨ j = 8 ∨ j = 9 ∨ j = 10 by omega) with rfl | rfl | rfl | rfl | rfl | rfl | rfl | rfl | rfl | rfl | rfl <;> rfl) (show (14 + j) + 1 ≤ 38 by omega) (show (108 + 11 * j) + 11 ≤ 372 by omega) dX1_init_96 (fun H hz hX hS => ?_)
        refine lv_dup hx hb dX1_init_99 rfl ?_
        refine x_callIN hx hb hml hown hts hl hK hN hz hX hS (c_X3_init l G (xu (eL G e B 6 j) (B + 15 + j) (.inr (3, [.int 0, .int 0, .int 0, .int 0, .int 0, .int 0, .int 0, .int 0, .int 0, .int 0, .int 0]))) (B + 15 + j) ((B + 15 + j) + 1) xu_same) q97 q5 hN.2.2.1 q96 rfl hxX3_init ⟨Nat.le_of_ble_eq_true rfl, Nat.le_of_ble_eq_true rfl⟩ rfl (Nat.le_of_ble_eq_true rfl) dX1_init_100 ⟨show ((14 + j) + 1) + 0 ≤ 38 by omega, show ((108 + 11 * j) + 11) + 0 ≤ 372 by omega⟩ (fun H locs hz hX hS => ?_)
        refine x_ast (e1 := _) hx hb hK hz hX hS 1 (xu_at eL_2 (by omega)) rfl xu_same rfl (vp_in_nI (by omega) (by decide)) rfl dX1_init_103 (fun H locs hz hX hS => ?_)
        refine lv_iinc (v := (nI (j + 1))) (lv' := [(1, .int (nI (j + 1))), (0, .ref (G.1 + B))]) hx hb dX1_init_104 hl (k := 0) rfl (nI_1 _) (by decide) rfl (fun ls hl => ?_)
        refine lv_goto (tgt := 82) hx hb dX1_init_107 (by decide) ?_
        have hX := eL_stepI (by omega) hX
        have hz : _ = G.1 + (B + 15 + (j + 1)) := hz.trans (by omega)
        exact ih (j + 1) (by omega) _ _ _ hz hX hS (lv_sub hl [0, 1] rfl)
  have loop1 : ∀ (k i : Nat), i + k = 6 → ∀ (H : Heap) (locs : List Loc) (ls : Array Slot), H.size = G.1 + (B + 3 + 2 * i) → zX G (eL G e B i 0) H → va_S (zA G) s.heap H locs → lv_has ls 2 [(1, .int (nI i)), (0, .ref (G.1 + B))] → W p l e0 { frames := 3, cells := 38, slots := 372, locals := 52 } s m args below meth c H locs (2 + 2 * i) (30 + 13 * i) (MQ below (va_Qv (fun _ : Unit => True) (fun _ t => zI G (eB G e B) (B + 39) t) (zA G)) args s 38 372 (zA G)) (F0 m 52 ls []) := by
    intro k
    induction k with
    | zero =>
      intro i hi H locs ls hz hX hS hl
      have hi : i = 6 := by omega
      subst hi
      refine lv_iload_n hx hb dX1_init_52 rfl (lv_at hl 0 rfl) ?_
      refine lv_aload_n hx hb dX1_init_53 rfl (lv_at hl 1 rfl) ?_
      refine x_get (C := RX1) (T := TX1) (N := 7) hx hb hts inX1 hown hK hX eL_B rfl 5 (by decide) q156 (v := .ref (G.1 + (B + 1))) rfl dX1_init_54 ?_
      refine x_alen (v := 6) hx hb hK hX 0 eL_1 rfl rfl dX1_init_57 ?_
      refine lv_icmp_ge (tgt := 80) hx hb dX1_init_58 (by decide) (fun c_1 => ?_) (fun c_1 => ?_)
      · refine lv_iconst (v := 0) hx hb dX1_init_80 (by decide) ?_
        refine lv_istore_n (lv' := [(1, .int 0), (0, .ref (G.1 + B))]) hx hb dX1_init_81 rfl hl (by decide) rfl (fun ls hl => ?_)
        have hz : _ = G.1 + (B + 15 + 0) := hz.trans (by omega)
        exact loop2 24 0 (by omega) _ _ _ hz hX hS (lv_sub hl [0, 1] rfl)
      · exact absurd (show nI 6 ≤ nI 6 from nI_le (Nat.le_refl _) (by decide)) c_1
    | succ k ih =>
      intro i hi H locs ls hz hX hS hl
      refine lv_iload_n hx hb dX1_init_52 rfl (lv_at hl 0 rfl) ?_
      refine lv_aload_n hx hb dX1_init_53 rfl (lv_at hl 1 rfl) ?_
      refine x_get (C := RX1) (T := TX1) (N := 7) hx hb hts inX1 hown hK hX eL_B rfl 5 (by decide) q156 (v := .ref (G.1 + (B + 1))) rfl dX1_init_54 ?_
      refine x_alen (v := 6) hx hb hK hX 0 eL_1 rfl rfl dX1_init_57 ?_
      refine lv_icmp_ge (tgt := 80) hx hb dX1_init_58 (by decide) (fun c_1 => ?_) (fun c_1 => ?_)
      · exact absurd (show nI 6 ≤ nI i from c_1) (nI_ge (by omega) (by decide))
      · refine lv_aload_n hx hb dX1_init_61 rfl (lv_at hl 1 rfl) ?_
        refine x_get (C := RX1) (T := TX1) (N := 7) hx hb hts inX1 hown hK hX eL_B rfl 5 (by decide) q156 (v := .ref (G.1 + (B + 1))) rfl dX1_init_62 ?_
        refine lv_iload_n hx hb dX1_init_65 rfl (lv_at hl 0 rfl) ?_
        refine x_new (ci := 5) (fs := [.int 0, .int 0, .int 0, .int 0, .int 0, .int 0, .null]) (C := RX5) (T := TX5) (N := 7) hx hb hts inX5 tyX5 tyX5_ok hown q24 q28 q3 hK hz hX hS rfl (fun j hj => by rcases (show j = 0 ∨ j = 1 ∨ j = 2 ∨ j = 3 ∨ j = 4 ∨ j = 5 ∨ j = 6 by omega) with rfl | rfl | rfl | rfl | rfl | rfl | rfl <;> rfl) (show (2 + 2 * i) + 1 ≤ 38 by omega) (show (30 + 13 * i) + 7 ≤ 372 by omega) dX1_init_66 (fun H hz hX hS => ?_)
        refine lv_dup hx hb dX1_init_69 rfl ?_
        refine x_callIN hx hb hml hown hts hl hK hN hz hX hS (c_X5_init l G (xu (eL G e B i 0) (B + 3 + 2 * i) (.inr (5, [.int 0, .int 0, .int 0, .int 0, .int 0, .int 0, .null]))) (B + 3 + 2 * i) ((B + 3 + 2 * i) + 1) xu_same (by omega)) q31 q3 hN.1 q30 rfl hxX5_init ⟨Nat.le_of_ble_eq_true rfl, Nat.le_of_ble_eq_true rfl⟩ rfl (Nat.le_of_ble_eq_true rfl) dX1_init_70 ⟨show ((2 + 2 * i) + 1) + 1 ≤ 38 by omega, show ((30 + 13 * i) + 7) + 6 ≤ 372 by omega⟩ (fun H locs hz hX hS => ?_)
        refine x_ast (e1 := _) hx hb hK hz hX hS 0 (xu_at (xu_at (xu_at eL_1 (by omega)) (by omega)) (by omega)) rfl xu_same rfl (vp_in_nI (by omega) (by decide)) rfl dX1_init_73 (fun H locs hz hX hS => ?_)
        refine lv_iinc (v := (nI (i + 1))) (lv' := [(1, .int (nI (i + 1))), (0, .ref (G.1 + B))]) hx hb dX1_init_74 hl (k := 0) rfl (nI_1 _) (by decide) rfl (fun ls hl => ?_)
        refine lv_goto (tgt := 52) hx hb dX1_init_77 (by decide) ?_
        have hX := eL_stepT (by omega) hX
        have hz : _ = G.1 + (B + 3 + 2 * (i + 1)) := hz.trans (by omega)
        exact ih (i + 1) (by omega) _ _ _ hz hX hS (lv_sub hl [0, 1] rfl)
  refine lv_aload_n hx hb dX1_init_0 rfl (lv_at hl 0 rfl) ?_
  refine W.objInit hx hb hown (hts _ q22) (hts _ q15) (hts _ q16) rfl (by rw [hml]; exact hl.1) rfl dX1_init_1 (Nat.le_of_ble_eq_true rfl) (Nat.le_of_ble_eq_true rfl) ?_
  refine W.eq (g2 := F0 m 4 ls []) rfl ?_
  refine lv_aload_n hx hb dX1_init_4 rfl (lv_at hl 0 rfl) ?_
  refine lv_iconst (v := 0) hx hb dX1_init_5 (by decide) ?_
  refine x_put (e1 := e) (C := RX1) (T := TX1) (N := 7) hx hb hts inX1 tyX1 tyX1_ok nmX1 hown hK hz hX he rfl 0 (by decide) q146 hin rfl pfd_I rfl rfl (Nat.le_of_ble_eq_true rfl) (xu_id he) hS dX1_init_6 (fun H locs hz hX hS => ?_)
  refine lv_aload_n hx hb dX1_init_9 rfl (lv_at hl 0 rfl) ?_
  refine lv_sipush (v := 5000) hx hb dX1_init_10 (by decide) ?_
  refine x_put (e1 := (xu e B (.inr (1, [.int 0, .int 5000, .float 0, .int 0, .int 0, .null, .null])))) (C := RX1) (T := TX1) (N := 7) hx hb hts inX1 tyX1 tyX1_ok nmX1 hown hK hz hX he rfl 1 (by decide) q148 hin rfl pfd_I rfl rfl (Nat.le_of_ble_eq_true rfl) rfl hS dX1_init_13 (fun H locs hz hX hS => ?_)
  refine lv_aload_n hx hb dX1_init_16 rfl (lv_at hl 0 rfl) ?_
  refine lv_ldcf hx hb hown (hts _ q23) dX1_init_17 ?_
  refine x_put (e1 := (xu e B (.inr (1, [.int 0, .int 5000, .float 1017370378, .int 0, .int 0, .null, .null])))) (C := RX1) (T := TX1) (N := 7) hx hb hts inX1 tyX1 tyX1_ok nmX1 hown hK hz hX xu_same rfl 2 (by decide) q150 hin rfl pfd_F rfl rfl (Nat.le_of_ble_eq_true rfl) xu_xu hS dX1_init_19 (fun H locs hz hX hS => ?_)
  refine lv_aload_n hx hb dX1_init_22 rfl (lv_at hl 0 rfl) ?_
  refine lv_iconst (v := 0) hx hb dX1_init_23 (by decide) ?_
  refine x_put (e1 := (xu e B (.inr (1, [.int 0, .int 5000, .float 1017370378, .int 0, .int 0, .null, .null])))) (C := RX1) (T := TX1) (N := 7) hx hb hts inX1 tyX1 tyX1_ok nmX1 hown hK hz hX xu_same rfl 3 (by decide) q152 hin rfl pfd_I rfl rfl (Nat.le_of_ble_eq_true rfl) (xu_id xu_same) hS dX1_init_24 (fun H locs hz hX hS => ?_)
  refine lv_aload_n hx hb dX1_init_27 rfl (lv_at hl 0 rfl) ?_
  refine lv_iconst (v := 0) hx hb dX1_init_28 (by decide) ?_
  refine x_put (e1 := (xu e B (.inr (1, [.int 0, .int 5000, .float 1017370378, .int 0, .int 0, .null, .null])))) (C := RX1) (T := TX1) (N := 7) hx hb hts inX1 tyX1 tyX1_ok nmX1 hown hK hz hX xu_same rfl 4 (by decide) q154 hin rfl pfd_I rfl rfl (Nat.le_of_ble_eq_true rfl) (xu_id xu_same) hS dX1_init_29 (fun H locs hz hX hS => ?_)
  refine lv_aload_n hx hb dX1_init_32 rfl (lv_at hl 0 rfl) ?_
  refine lv_bipush (v := 6) hx hb dX1_init_33 (by decide) ?_
  refine x_newq (C := "TenancyDeposits$Tenancy") (t0 := 0) (N' := 6) hx hb hts hown q24 hN.2.2.2.2.2.1 hK rfl hz hX hS (by decide) (by decide) (by decide) (show 0 + 1 ≤ 38 by omega) (show 0 + 6 ≤ 372 by omega) dX1_init_35 (fun H hz hX hS => ?_)
  refine x_put (e1 := (xu (xu e B (.inr (1, [.int 0, .int 5000, .float 1017370378, .int 0, .int 0, .ref (G.1 + (B + 1)), .null]))) (B + 1) (.inl (G.2.2.1, zRows 6 (fun _ => none))))) (C := RX1) (T := TX1) (N := 7) hx hb hts inX1 tyX1 tyX1_ok nmX1 hown hK hz hX (xu_at xu_same (by omega)) rfl 5 (by decide) q156 hin rfl (tyX1_ok 5 (by decide)) rfl rfl (Nat.le_of_ble_eq_true rfl) (by rw [xu_swap (e := _) (n := (B + 1)) (k := B) (by omega), xu_xu]; rfl) hS dX1_init_38 (fun H locs hz hX hS => ?_)
  refine lv_aload_n hx hb dX1_init_41 rfl (lv_at hl 0 rfl) ?_
  refine lv_bipush (v := 24) hx hb dX1_init_42 (by decide) ?_
  refine x_newq (C := "TenancyDeposits$Item") (t0 := 1) (N' := 24) hx hb hts hown q26 hN.2.2.2.2.2.2.1 hK rfl hz hX hS (by decide) (by decide) (by decide) (show (0 + 1) + 1 ≤ 38 by omega) (show (0 + 6) + 24 ≤ 372 by omega) dX1_init_44 (fun H hz hX hS => ?_)
  refine x_put (e1 := (xu (xu (xu e B (.inr (1, [.int 0, .int 5000, .float 1017370378, .int 0, .int 0, .ref (G.1 + (B + 1)), .ref (G.1 + ((B + 1) + 1))]))) (B + 1) (.inl (G.2.2.1, zRows 6 (fun _ => none)))) ((B + 1) + 1) (.inl (G.2.2.2.1, zRows 24 (fun _ => none))))) (C := RX1) (T := TX1) (N := 7) hx hb hts inX1 tyX1 tyX1_ok nmX1 hown hK hz hX (xu_at (xu_at xu_same (by omega)) (by omega)) rfl 6 (by decide) q157 hin rfl (tyX1_ok 6 (by decide)) rfl rfl (Nat.le_of_ble_eq_true rfl) (by rw [xu_swap (e := _) (n := ((B + 1) + 1)) (k := B) (by omega), xu_swap (e := _) (n := (B + 1)) (k := B) (by omega), xu_xu]; rfl) hS dX1_init_47 (fun H locs hz hX hS => ?_)
  refine lv_iconst (v := 0) hx hb dX1_init_50 (by decide) ?_
  refine lv_istore_n (lv' := [(1, .int 0), (0, .ref (G.1 + B))]) hx hb dX1_init_51 rfl hl (by decide) rfl (fun ls hl => ?_)
  have hX := eL_start hX
  have hz : _ = G.1 + (B + 3 + 2 * 0) := hz
  exact loop1 6 0 (by omega) _ _ _ hz hX hS (lv_sub hl [0, 1] rfl)
end
section
theorem eB_o {G : zG} {e : xM} {B n : Nat} (h : n < B ∨ B + 39 ≤ n) : eB G e B n = e n := by unfold eB; rw [if_neg (by omega)]
theorem eB_c {G : zG} {e : xM} {B r : Nat} (h : r < 39) : eB G e B (B + r) = some (zE G (zkb r) (B + r) (μB r)) := by
  unfold eB
  rw [if_pos (by omega), show B + r - B = r by omega]
theorem eB_B {G : zG} {e : xM} {B : Nat} : eB G e B B = some (.inr (1, bkF G B)) := eB_c (r := 0) (by omega)
def xf (e : xM) (n : Nat) : xM := fun q => if q = n then none else e q
theorem xf_o {e : xM} {n q : Nat} (h : q ≠ n) : xf e n q = e q := by unfold xf; rw [if_neg h]
theorem zX.forget {G : zG} {e : xM} {n : Nat} {x : va_E} {H : Heap} (h : zX G (xu e n x) H) : zX G (xf e n) H := by
  intro q y hy
  unfold xf at hy
  by_cases hq : q = n
  · rw [if_pos hq] at hy; cases hy
  · rw [if_neg hq] at hy
    exact h q y ((xu_ne hq).trans hy)
def aB (G : zG) (i : Nat) : Nat → Option Nat := fun k => if i ≤ k ∧ k < 4 then none else some (G.1 + (81 + 39 * k))
def eH (G : zG) (e : xM) (i : Nat) : xM := fun n => if n = 79 then some (.inr (2, [.ref (G.1 + 80), .int 0, .int 0])) else if n = 80 then some (.inl (G.2.2.2.2, zRows 4 (aB G i))) else if 81 ≤ n ∧ n < 81 + 39 * i then some (zE G (zkb ((n - 81) % 39)) n (μB ((n - 81) % 39))) else e n
theorem eH_79 {G : zG} {e : xM} {i : Nat} : eH G e i 79 = some (.inr (2, [.ref (G.1 + 80), .int 0, .int 0])) := by unfold eH; rw [if_pos rfl]
theorem eH_80 {G : zG} {e : xM} {i : Nat} : eH G e i 80 = some (.inl (G.2.2.2.2, zRows 4 (aB G i))) := by unfold eH; rw [if_neg (by omega), if_pos rfl]
theorem eH_c {G : zG} {e : xM} {i n : Nat} (h1 : 81 ≤ n) (h2 : n < 81 + 39 * i) : eH G e i n = some (zE G (zkb ((n - 81) % 39)) n (μB ((n - 81) % 39))) := by unfold eH; rw [if_neg (by omega), if_neg (by omega), if_pos ⟨h1, h2⟩]
theorem eH_o {G : zG} {e : xM} {i n : Nat} (h : n < 79 ∨ 81 + 39 * i ≤ n) : eH G e i n = e n := by unfold eH; rw [if_neg (by omega), if_neg (by omega), if_neg (by omega)]
theorem eH_cases {G : zG} {e : xM} {i n : Nat} {y : va_E} (h : eH G e i n = some y) : (n = 79 ∧ y = .inr (2, [.ref (G.1 + 80), .int 0, .int 0])) ∨ (n = 80 ∧ y = .inl (G.2.2.2.2, zRows 4 (aB G i))) ∨ (81 ≤ n ∧ n < 81 + 39 * i ∧ y = zE G (zkb ((n - 81) % 39)) n (μB ((n - 81) % 39))) ∨ ((n < 79 ∨ 81 + 39 * i ≤ n) ∧ e n = some y) := by
  unfold eH at h
  by_cases h1 : n = 79
  · rw [if_pos h1] at h; exact Or.inl ⟨h1, (Option.some.inj h).symm⟩
  · rw [if_neg h1] at h
    by_cases h2 : n = 80
    · rw [if_pos h2] at h; exact Or.inr (Or.inl ⟨h2, (Option.some.inj h).symm⟩)
    · rw [if_neg h2] at h
      by_cases h4 : 81 ≤ n ∧ n < 81 + 39 * i
      · rw [if_pos h4] at h; exact Or.inr (Or.inr (Or.inl ⟨h4.1, h4.2, (Option.some.inj h).symm⟩))
      · rw [if_neg h4] at h; exact Or.inr (Or.inr (Or.inr ⟨by omega, h⟩))
theorem eH_start {G : zG} {e : xM} {H : Heap} (h : zX G (xu (xu e 79 (.inr (2, [.ref (G.1 + 80), .int 0, .int 0]))) 80 (.inl (G.2.2.2.2, zRows 4 (fun _ => none)))) H) : zX G (eH G e 0) H := by
  refine h.re (fun n y hy => ?_)
  rcases eH_cases hy with ⟨rfl, rfl⟩ | ⟨rfl, rfl⟩ | ⟨h1, h2, -⟩ | ⟨h1, h2⟩
  · exact ⟨_, xu_at xu_same (by omega), xeqv.rf⟩
  · exact ⟨_, xu_same, xeqv.rows (fun k hk => (if_pos ⟨Nat.zero_le k, hk⟩).symm)⟩
  · omega
  · by_cases a1 : n = 80
    · omega
    · exact ⟨y, xu_at (xu_at h2 (by omega)) a1, xeqv.rf⟩
theorem eH_step {G : zG} {e : xM} {i : Nat} {x : va_E} {H : Heap} (hi : i < 4) (h : zX G (xu (eB G (xu (eH G e i) (81 + 39 * i) x) (81 + 39 * i)) 80 (.inl (G.2.2.2.2, zRows 4 (va_up (aB G i) (nI i).toNatClampNeg (some (G.1 + (81 + 39 * i))))))) H) : zX G (eH G e (i + 1)) H := by
  refine h.re (fun n y hy => ?_)
  rw [nI_clamp (by omega : i < 2 ^ 31)]
  rcases eH_cases hy with ⟨rfl, rfl⟩ | ⟨rfl, rfl⟩ | ⟨h1, h2, rfl⟩ | ⟨h1, h2⟩
  · exact ⟨_, xu_at ((eB_o (by omega)).trans (xu_at eH_79 (by omega))) (by omega), xeqv.rf⟩
  · refine ⟨_, xu_same, xeqv.rows (fun k hk => ?_)⟩
    unfold va_up aB
    by_cases hki : k = i
    · subst hki
      rw [if_pos rfl, if_neg (by omega)]
    · rw [if_neg hki]
      by_cases h3 : i ≤ k ∧ k < 4
      · rw [if_pos h3, if_pos (by omega)]
      · rw [if_neg h3, if_neg (by omega)]
  · by_cases a1 : n < 81 + 39 * i
    · exact ⟨_, xu_at ((eB_o (by omega)).trans (xu_at (eH_c h1 a1) (by omega))) (by omega), xeqv.rf⟩
    · obtain ⟨r, hr, rfl⟩ : ∃ r, r < 39 ∧ n = 81 + 39 * i + r := ⟨n - (81 + 39 * i), by omega, by omega⟩
      refine ⟨_, xu_at (eB_c hr) (by omega), ?_⟩
      rw [show (81 + 39 * i + r - 81) % 39 = r by omega]
      exact xeqv.rf
  · exact ⟨y, xu_at ((eB_o (by omega)).trans (xu_at ((eH_o (by omega)).trans h2) (by omega))) (by omega), xeqv.rf⟩
theorem hxX0_init : yX0_init.cls ≠ "java/lang/invoke/MethodHandle" ∧ yX0_init.cls ≠ "java/lang/invoke/VarHandle" ∧ (parseMethodDescriptor yX0_init.desc).map (fun d => d.parameters.length) = some 0 := by decide +kernel
set_option maxHeartbeats 4000000 in
set_option maxRecDepth 100000 in
theorem c_X0_init (l : Launch) (G : zG) (e : xM) (n N : Nat) (he : e n = some (.inr (0, [.null, .int 0, .int 0, .int 0, .null, .null, .null]))) : xMet l G yX0_init cX0_init 1 1 12 4 150 n e N (xf e n) (N + 4) := by
  refine x_start (by decide) rfl (Nat.le_of_ble_eq_true rfl) ?_
  intro p e0 s m args below meth c ls hx hb hml hr hlk hin hts hown hK hN hz hX hS hl
  have hown : s.vm.findClass RX0 = some m.cls := hown
  refine lv_aload_n hx hb dX0_init_0 rfl (lv_at hl 0 rfl) ?_
  refine W.objInit hx hb hown (hts _ q198) (hts _ q15) (hts _ q16) rfl (by rw [hml]; exact hl.1) rfl dX0_init_1 (Nat.le_of_ble_eq_true rfl) (Nat.le_of_ble_eq_true rfl) ?_
  refine W.eq (g2 := F0 m 4 ls []) rfl ?_
  refine lv_aload_n hx hb dX0_init_4 rfl (lv_at hl 0 rfl) ?_
  refine lv_bipush (v := 60) hx hb dX0_init_5 (by decide) ?_
  refine x_newa (atype := .char) (N' := 60) hx hb hts q222 hz hX hS (by decide) (by decide) (by decide) (show 0 + 1 ≤ 4 by omega) (show 0 + 60 ≤ 150 by omega) dX0_init_7 (fun H hz hX hS => ?_)
  refine x_put (e1 := (xu e n (.inr (0, [.ref (G.1 + N), .int 0, .int 0, .int 0, .null, .null, .null])))) (C := RX0) (T := TX0) (N := 7) hx hb hts inX0 tyX0 tyX0_ok nmX0 hown hK hz hX he rfl 0 (by decide) q199 hin rfl (tyX0_ok 0 (by decide)) rfl rfl (Nat.le_of_ble_eq_true rfl) rfl hS dX0_init_9 (fun H locs hz hX hS => ?_)
  refine lv_aload_n hx hb dX0_init_12 rfl (lv_at hl 0 rfl) ?_
  refine lv_iconst (v := 0) hx hb dX0_init_13 (by decide) ?_
  refine x_put (e1 := (xu e n (.inr (0, [.ref (G.1 + N), .int 0, .int 0, .int 0, .null, .null, .null])))) (C := RX0) (T := TX0) (N := 7) hx hb hts inX0 tyX0 tyX0_ok nmX0 hown hK hz hX xu_same rfl 1 (by decide) q200 hin rfl pfd_I rfl rfl (Nat.le_of_ble_eq_true rfl) (xu_id xu_same) hS dX0_init_14 (fun H locs hz hX hS => ?_)
  refine lv_aload_n hx hb dX0_init_17 rfl (lv_at hl 0 rfl) ?_
  refine lv_iconst (v := 0) hx hb dX0_init_18 (by decide) ?_
  refine x_put (e1 := (xu e n (.inr (0, [.ref (G.1 + N), .int 0, .int 0, .int 0, .null, .null, .null])))) (C := RX0) (T := TX0) (N := 7) hx hb hts inX0 tyX0 tyX0_ok nmX0 hown hK hz hX xu_same rfl 2 (by decide) q202 hin rfl pfd_I rfl rfl (Nat.le_of_ble_eq_true rfl) (xu_id xu_same) hS dX0_init_19 (fun H locs hz hX hS => ?_)
  refine lv_aload_n hx hb dX0_init_22 rfl (lv_at hl 0 rfl) ?_
  refine lv_iconst (v := 0) hx hb dX0_init_23 (by decide) ?_
  refine x_put (e1 := (xu e n (.inr (0, [.ref (G.1 + N), .int 0, .int 0, .int 0, .null, .null, .null])))) (C := RX0) (T := TX0) (N := 7) hx hb hts inX0 tyX0 tyX0_ok nmX0 hown hK hz hX xu_same rfl 3 (by decide) q203 hin rfl pfd_I rfl rfl (Nat.le_of_ble_eq_true rfl) (xu_id xu_same) hS dX0_init_24 (fun H locs hz hX hS => ?_)
  refine lv_aload_n hx hb dX0_init_27 rfl (lv_at hl 0 rfl) ?_
  refine lv_bipush (v := 30) hx hb dX0_init_28 (by decide) ?_
  refine x_newa (atype := .int) (N' := 30) hx hb hts q223 hz hX hS (by decide) (by decide) (by decide) (show (0 + 1) + 1 ≤ 4 by omega) (show (0 + 60) + 30 ≤ 150 by omega) dX0_init_30 (fun H hz hX hS => ?_)
  refine x_put (e1 := (xu e n (.inr (0, [.ref (G.1 + N), .int 0, .int 0, .int 0, .ref (G.1 + (N + 1)), .null, .null])))) (C := RX0) (T := TX0) (N := 7) hx hb hts inX0 tyX0 tyX0_ok nmX0 hown hK hz hX xu_same rfl 4 (by decide) q204 hin rfl (tyX0_ok 4 (by decide)) rfl rfl (Nat.le_of_ble_eq_true rfl) xu_xu hS dX0_init_32 (fun H locs hz hX hS => ?_)
  refine lv_aload_n hx hb dX0_init_35 rfl (lv_at hl 0 rfl) ?_
  refine lv_bipush (v := 30) hx hb dX0_init_36 (by decide) ?_
  refine x_newa (atype := .int) (N' := 30) hx hb hts q223 hz hX hS (by decide) (by decide) (by decide) (show ((0 + 1) + 1) + 1 ≤ 4 by omega) (show ((0 + 60) + 30) + 30 ≤ 150 by omega) dX0_init_38 (fun H hz hX hS => ?_)
  refine x_put (e1 := (xu e n (.inr (0, [.ref (G.1 + N), .int 0, .int 0, .int 0, .ref (G.1 + (N + 1)), .ref (G.1 + ((N + 1) + 1)), .null])))) (C := RX0) (T := TX0) (N := 7) hx hb hts inX0 tyX0 tyX0_ok nmX0 hown hK hz hX xu_same rfl 5 (by decide) q205 hin rfl (tyX0_ok 5 (by decide)) rfl rfl (Nat.le_of_ble_eq_true rfl) xu_xu hS dX0_init_40 (fun H locs hz hX hS => ?_)
  refine lv_aload_n hx hb dX0_init_43 rfl (lv_at hl 0 rfl) ?_
  refine lv_bipush (v := 30) hx hb dX0_init_44 (by decide) ?_
  refine x_newa (atype := .int) (N' := 30) hx hb hts q223 hz hX hS (by decide) (by decide) (by decide) (show (((0 + 1) + 1) + 1) + 1 ≤ 4 by omega) (show (((0 + 60) + 30) + 30) + 30 ≤ 150 by omega) dX0_init_46 (fun H hz hX hS => ?_)
  refine x_put (e1 := (xu e n (.inr (0, [.ref (G.1 + N), .int 0, .int 0, .int 0, .ref (G.1 + (N + 1)), .ref (G.1 + ((N + 1) + 1)), .ref (G.1 + (((N + 1) + 1) + 1))])))) (C := RX0) (T := TX0) (N := 7) hx hb hts inX0 tyX0 tyX0_ok nmX0 hown hK hz hX xu_same rfl 6 (by decide) q206 hin rfl (tyX0_ok 6 (by decide)) rfl rfl (Nat.le_of_ble_eq_true rfl) xu_xu hS dX0_init_48 (fun H locs hz hX hS => ?_)
  have hX := hX.forget
  have hz : _ = G.1 + (N + 4) := hz
  exact x_vret hx hb hr hlk hK hN hz hX hS (by omega) (by omega) dX0_init_51
theorem hxX2_init : yX2_init.cls ≠ "java/lang/invoke/MethodHandle" ∧ yX2_init.cls ≠ "java/lang/invoke/VarHandle" ∧ (parseMethodDescriptor yX2_init.desc).map (fun d => d.parameters.length) = some 0 := by decide +kernel
set_option maxHeartbeats 4000000 in
set_option maxRecDepth 100000 in
theorem c_X2_init (l : Launch) (G : zG) (e : xM) (he : e 79 = some (.inr (2, [.null, .int 0, .int 0]))) : xMet l G yX2_init cX2_init 2 4 73 157 1520 79 e 80 (eH G e 4) 237 := by
  refine x_start (by decide) rfl (Nat.le_of_ble_eq_true rfl) ?_
  intro p e0 s m args below meth c ls hx hb hml hr hlk hin hts hown hK hN hz hX hS hl
  have hown : s.vm.findClass RX2 = some m.cls := hown
  have loop1 : ∀ (k i : Nat), i + k = 4 → ∀ (H : Heap) (locs : List Loc) (ls : Array Slot), H.size = G.1 + (81 + 39 * i) → zX G (eH G e i) H → va_S (zA G) s.heap H locs → lv_has ls 2 [(1, .int (nI i)), (0, .ref (G.1 + 79))] → W p l e0 { frames := 4, cells := 157, slots := 1520, locals := 73 } s m args below meth c H locs (1 + 39 * i) (4 + 379 * i) (MQ below (va_Qv (fun _ : Unit => True) (fun _ t => zI G (eH G e 4) 237 t) (zA G)) args s 157 1520 (zA G)) (F0 m 24 ls []) := by
    intro k
    induction k with
    | zero =>
      intro i hi H locs ls hz hX hS hl
      have hi : i = 4 := by omega
      subst hi
      refine lv_iload_n hx hb dX2_init_24 rfl (lv_at hl 0 rfl) ?_
      refine lv_aload_n hx hb dX2_init_25 rfl (lv_at hl 1 rfl) ?_
      refine x_get (C := RX2) (T := TX2) (N := 3) hx hb hts inX2 hown hK hX eH_79 rfl 0 (by decide) q182 (v := .ref (G.1 + 80)) rfl dX2_init_26 ?_
      refine x_alen (v := 4) hx hb hK hX 2 eH_80 rfl rfl dX2_init_29 ?_
      refine lv_icmp_ge (tgt := 52) hx hb dX2_init_30 (by decide) (fun c_1 => ?_) (fun c_1 => ?_)
      · have hz : H.size = G.1 + 237 := by omega
        exact x_vret hx hb hr hlk hK hN hz hX hS (by omega) (by omega) dX2_init_52
      · exact absurd (show nI 4 ≤ nI 4 from nI_le (Nat.le_refl _) (by decide)) c_1
    | succ k ih =>
      intro i hi H locs ls hz hX hS hl
      refine lv_iload_n hx hb dX2_init_24 rfl (lv_at hl 0 rfl) ?_
      refine lv_aload_n hx hb dX2_init_25 rfl (lv_at hl 1 rfl) ?_
      refine x_get (C := RX2) (T := TX2) (N := 3) hx hb hts inX2 hown hK hX eH_79 rfl 0 (by decide) q182 (v := .ref (G.1 + 80)) rfl dX2_init_26 ?_
      refine x_alen (v := 4) hx hb hK hX 2 eH_80 rfl rfl dX2_init_29 ?_
      refine lv_icmp_ge (tgt := 52) hx hb dX2_init_30 (by decide) (fun c_1 => ?_) (fun c_1 => ?_)
      · exact absurd (show nI 4 ≤ nI i from c_1) (nI_ge (by omega) (by decide))
      · refine lv_aload_n hx hb dX2_init_33 rfl (lv_at hl 1 rfl) ?_
        refine x_get (C := RX2) (T := TX2) (N := 3) hx hb hts inX2 hown hK hX eH_79 rfl 0 (by decide) q182 (v := .ref (G.1 + 80)) rfl dX2_init_34 ?_
        refine lv_iload_n hx hb dX2_init_37 rfl (lv_at hl 0 rfl) ?_
        refine x_new (ci := 1) (fs := [.int 0, .int 0, .float 0, .int 0, .int 0, .null, .null]) (C := RX1) (T := TX1) (N := 7) hx hb hts inX1 tyX1 tyX1_ok hown q179 q18 q2 hK hz hX hS rfl (fun j hj => by rcases (show j = 0 ∨ j = 1 ∨ j = 2 ∨ j = 3 ∨ j = 4 ∨ j = 5 ∨ j = 6 by omega) with rfl | rfl | rfl | rfl | rfl | rfl | rfl <;> rfl) (show (1 + 39 * i) + 1 ≤ 157 by omega) (show (4 + 379 * i) + 7 ≤ 1520 by omega) dX2_init_38 (fun H hz hX hS => ?_)
        refine lv_dup hx hb dX2_init_41 rfl ?_
        refine x_callI hx hb hml hown hts hl hK hN hz hX hS (c_X1_init l G (xu (eH G e i) (81 + 39 * i) (.inr (1, [.int 0, .int 0, .float 0, .int 0, .int 0, .null, .null]))) (81 + 39 * i) xu_same) q21 q2 q181 q20 rfl hxX1_init ⟨Nat.le_of_ble_eq_true rfl, Nat.le_of_ble_eq_true rfl⟩ rfl (Nat.le_of_ble_eq_true rfl) dX2_init_42 ⟨show ((1 + 39 * i) + 1) + 38 ≤ 157 by omega, show ((4 + 379 * i) + 7) + 372 ≤ 1520 by omega⟩ (fun H locs hz hX hS => ?_)
        refine x_ast (e1 := _) hx hb hK hz hX hS 2 ((eB_o (by omega)).trans (xu_at eH_80 (by omega))) rfl eB_B rfl (vp_in_nI (by omega) (by decide)) rfl dX2_init_45 (fun H locs hz hX hS => ?_)
        refine lv_iinc (v := (nI (i + 1))) (lv' := [(1, .int (nI (i + 1))), (0, .ref (G.1 + 79))]) hx hb dX2_init_46 hl (k := 0) rfl (nI_1 _) (by decide) rfl (fun ls hl => ?_)
        refine lv_goto (tgt := 24) hx hb dX2_init_49 (by decide) ?_
        have hX := eH_step (by omega) hX
        have hz : _ = G.1 + (81 + 39 * (i + 1)) := hz.trans (by omega)
        refine W.widen (k := 1 + 39 * (i + 1)) (n := 4 + 379 * (i + 1)) (by omega) (by omega) ?_
        exact ih (i + 1) (by omega) _ _ _ hz hX hS (lv_sub hl [0, 1] rfl)
  refine lv_aload_n hx hb dX2_init_0 rfl (lv_at hl 0 rfl) ?_
  refine W.objInit hx hb hown (hts _ q178) (hts _ q15) (hts _ q16) rfl (by rw [hml]; exact hl.1) rfl dX2_init_1 (Nat.le_of_ble_eq_true rfl) (Nat.le_of_ble_eq_true rfl) ?_
  refine W.eq (g2 := F0 m 4 ls []) rfl ?_
  refine lv_aload_n hx hb dX2_init_4 rfl (lv_at hl 0 rfl) ?_
  refine lv_iconst (v := 4) hx hb dX2_init_5 (by decide) ?_
  refine x_newq (C := "TenancyDeposits$Book") (t0 := 2) (N' := 4) hx hb hts hown q179 hN.2.2.2.2.2.2.2 hK rfl hz hX hS (by decide) (by decide) (by decide) (show 0 + 1 ≤ 157 by omega) (show 0 + 4 ≤ 1520 by omega) dX2_init_6 (fun H hz hX hS => ?_)
  refine x_put (e1 := (xu (xu e 80 (.inl (G.2.2.2.2, zRows 4 (fun _ => none)))) 79 (.inr (2, [.ref (G.1 + 80), .int 0, .int 0])))) (C := RX2) (T := TX2) (N := 3) hx hb hts inX2 tyX2 tyX2_ok nmX2 hown hK hz hX (xu_at he (by omega)) rfl 0 (by decide) q182 hin rfl (tyX2_ok 0 (by decide)) rfl rfl (Nat.le_of_ble_eq_true rfl) rfl hS dX2_init_9 (fun H locs hz hX hS => ?_)
  refine lv_aload_n hx hb dX2_init_12 rfl (lv_at hl 0 rfl) ?_
  refine lv_iconst (v := 0) hx hb dX2_init_13 (by decide) ?_
  refine x_put (e1 := (xu (xu e 80 (.inl (G.2.2.2.2, zRows 4 (fun _ => none)))) 79 (.inr (2, [.ref (G.1 + 80), .int 0, .int 0])))) (C := RX2) (T := TX2) (N := 3) hx hb hts inX2 tyX2 tyX2_ok nmX2 hown hK hz hX xu_same rfl 1 (by decide) q183 hin rfl pfd_I rfl rfl (Nat.le_of_ble_eq_true rfl) (xu_id xu_same) hS dX2_init_14 (fun H locs hz hX hS => ?_)
  refine lv_aload_n hx hb dX2_init_17 rfl (lv_at hl 0 rfl) ?_
  refine lv_iconst (v := 0) hx hb dX2_init_18 (by decide) ?_
  refine x_put (e1 := (xu (xu e 80 (.inl (G.2.2.2.2, zRows 4 (fun _ => none)))) 79 (.inr (2, [.ref (G.1 + 80), .int 0, .int 0])))) (C := RX2) (T := TX2) (N := 3) hx hb hts inX2 tyX2 tyX2_ok nmX2 hown hK hz hX xu_same rfl 2 (by decide) q184 hin rfl pfd_I rfl rfl (Nat.le_of_ble_eq_true rfl) (xu_id xu_same) hS dX2_init_19 (fun H locs hz hX hS => ?_)
  refine lv_iconst (v := 0) hx hb dX2_init_22 (by decide) ?_
  refine lv_istore_n (lv' := [(1, .int 0), (0, .ref (G.1 + 79))]) hx hb dX2_init_23 rfl hl (by decide) rfl (fun ls hl => ?_)
  rw [xu_swap (by decide)] at hX
  have hX := eH_start hX
  have hz : _ = G.1 + (81 + 39 * 0) := hz
  exact loop1 4 0 (by omega) _ _ _ hz hX hS (lv_sub hl [0, 1] rfl)
theorem hxX6_init : yX6_init.cls ≠ "java/lang/invoke/MethodHandle" ∧ yX6_init.cls ≠ "java/lang/invoke/VarHandle" ∧ (parseMethodDescriptor yX6_init.desc).map (fun d => d.parameters.length) = some 0 := by decide +kernel
def e_fin (G : zG) (e : xM) : xM := (xu (xu (xf (xu (xu (eH G (xu (xu (eB G (xu (xu (eB G (xu e 1 (.inr (1, [.int 0, .int 0, .float 0, .int 0, .int 0, .null, .null]))) 1) 0 (.inr (6, [.ref (G.1 + 1), .null, .null, .null, .null, .int 0]))) 40 (.inr (1, [.int 0, .int 0, .float 0, .int 0, .int 0, .null, .null]))) 40) 0 (.inr (6, [.ref (G.1 + 1), .ref (G.1 + 40), .null, .null, .null, .int 0]))) 79 (.inr (2, [.null, .int 0, .int 0]))) 4) 0 (.inr (6, [.ref (G.1 + 1), .ref (G.1 + 40), .ref (G.1 + 79), .null, .null, .int 0]))) 237 (.inr (0, [.null, .int 0, .int 0, .int 0, .null, .null, .null]))) 237) 0 (.inr (6, [.ref (G.1 + 1), .ref (G.1 + 40), .ref (G.1 + 79), .ref (G.1 + 237), .ref (G.1 + 242), .int 0]))) 242 (.inr (4, [.int 0, .int 0, .int 0, .int 0, .int 0, .int 0])))
set_option maxHeartbeats 4000000 in
set_option maxRecDepth 100000 in
theorem c_X6_init (l : Launch) (G : zG) (e : xM) (he : e 0 = some (.inr (6, [.null, .null, .null, .null, .null, .int 0]))) : xMet l G yX6_init cX6_init 1 5 94 242 2444 0 e 1 (e_fin G e) 243 := by
  refine x_start (by decide) rfl (Nat.le_of_ble_eq_true rfl) ?_
  intro p e0 s m args below meth c ls hx hb hml hr hlk hin hts hown hK hN hz hX hS hl
  have hown : s.vm.findClass RX6 = some m.cls := hown
  refine lv_aload_n hx hb dX6_init_0 rfl (lv_at hl 0 rfl) ?_
  refine W.objInit hx hb hown (hts _ q14) (hts _ q15) (hts _ q16) rfl (by rw [hml]; exact hl.1) rfl dX6_init_1 (Nat.le_of_ble_eq_true rfl) (Nat.le_of_ble_eq_true rfl) ?_
  refine W.eq (g2 := F0 m 4 ls []) rfl ?_
  refine lv_aload_n hx hb dX6_init_4 rfl (lv_at hl 0 rfl) ?_
  refine x_new (ci := 1) (fs := [.int 0, .int 0, .float 0, .int 0, .int 0, .null, .null]) (C := RX1) (T := TX1) (N := 7) hx hb hts inX1 tyX1 tyX1_ok hown q17 q18 q2 hK hz hX hS rfl (fun j hj => by rcases (show j = 0 ∨ j = 1 ∨ j = 2 ∨ j = 3 ∨ j = 4 ∨ j = 5 ∨ j = 6 by omega) with rfl | rfl | rfl | rfl | rfl | rfl | rfl <;> rfl) (show 0 + 1 ≤ 242 by omega) (show 0 + 7 ≤ 2444 by omega) dX6_init_5 (fun H hz hX hS => ?_)
  refine lv_dup hx hb dX6_init_8 rfl ?_
  refine x_callI hx hb hml hown hts hl hK hN hz hX hS (c_X1_init l G (xu e 1 (.inr (1, [.int 0, .int 0, .float 0, .int 0, .int 0, .null, .null]))) 1 xu_same) q21 q2 q19 q20 rfl hxX1_init ⟨Nat.le_of_ble_eq_true rfl, Nat.le_of_ble_eq_true rfl⟩ rfl (Nat.le_of_ble_eq_true rfl) dX6_init_9 ⟨show (0 + 1) + 38 ≤ 242 by omega, show (0 + 7) + 372 ≤ 2444 by omega⟩ (fun H locs hz hX hS => ?_)
  have hz : _ = G.1 + 40 := hz
  refine x_put (e1 := (xu (eB G (xu e 1 (.inr (1, [.int 0, .int 0, .float 0, .int 0, .int 0, .null, .null]))) 1) 0 (.inr (6, [.ref (G.1 + 1), .null, .null, .null, .null, .int 0])))) (C := RX6) (T := TX6) (N := 6) hx hb hts inX6 tyX6 tyX6_ok nmX6 hown hK hz hX ((eB_o (by omega)).trans (xu_at he (by omega))) rfl 0 (by decide) q226 hin rfl (tyX6_ok 0 (by decide)) rfl rfl (Nat.le_of_ble_eq_true rfl) rfl hS dX6_init_12 (fun H locs hz hX hS => ?_)
  refine lv_aload_n hx hb dX6_init_15 rfl (lv_at hl 0 rfl) ?_
  refine x_new (ci := 1) (fs := [.int 0, .int 0, .float 0, .int 0, .int 0, .null, .null]) (C := RX1) (T := TX1) (N := 7) hx hb hts inX1 tyX1 tyX1_ok hown q17 q18 q2 hK hz hX hS rfl (fun j hj => by rcases (show j = 0 ∨ j = 1 ∨ j = 2 ∨ j = 3 ∨ j = 4 ∨ j = 5 ∨ j = 6 by omega) with rfl | rfl | rfl | rfl | rfl | rfl | rfl <;> rfl) (show ((0 + 1) + 38) + 1 ≤ 242 by omega) (show ((0 + 7) + 372) + 7 ≤ 2444 by omega) dX6_init_16 (fun H hz hX hS => ?_)
  refine lv_dup hx hb dX6_init_19 rfl ?_
  refine x_callI hx hb hml hown hts hl hK hN hz hX hS (c_X1_init l G (xu (xu (eB G (xu e 1 (.inr (1, [.int 0, .int 0, .float 0, .int 0, .int 0, .null, .null]))) 1) 0 (.inr (6, [.ref (G.1 + 1), .null, .null, .null, .null, .int 0]))) 40 (.inr (1, [.int 0, .int 0, .float 0, .int 0, .int 0, .null, .null]))) 40 xu_same) q21 q2 q19 q20 rfl hxX1_init ⟨Nat.le_of_ble_eq_true rfl, Nat.le_of_ble_eq_true rfl⟩ rfl (Nat.le_of_ble_eq_true rfl) dX6_init_20 ⟨show (((0 + 1) + 38) + 1) + 38 ≤ 242 by omega, show (((0 + 7) + 372) + 7) + 372 ≤ 2444 by omega⟩ (fun H locs hz hX hS => ?_)
  have hz : _ = G.1 + 79 := hz
  refine x_put (e1 := (xu (eB G (xu (xu (eB G (xu e 1 (.inr (1, [.int 0, .int 0, .float 0, .int 0, .int 0, .null, .null]))) 1) 0 (.inr (6, [.ref (G.1 + 1), .null, .null, .null, .null, .int 0]))) 40 (.inr (1, [.int 0, .int 0, .float 0, .int 0, .int 0, .null, .null]))) 40) 0 (.inr (6, [.ref (G.1 + 1), .ref (G.1 + 40), .null, .null, .null, .int 0])))) (C := RX6) (T := TX6) (N := 6) hx hb hts inX6 tyX6 tyX6_ok nmX6 hown hK hz hX ((eB_o (by omega)).trans (xu_at xu_same (by omega))) rfl 1 (by decide) q227 hin rfl (tyX6_ok 1 (by decide)) rfl rfl (Nat.le_of_ble_eq_true rfl) rfl hS dX6_init_23 (fun H locs hz hX hS => ?_)
  refine lv_aload_n hx hb dX6_init_26 rfl (lv_at hl 0 rfl) ?_
  refine x_new (ci := 2) (fs := [.null, .int 0, .int 0]) (C := RX2) (T := TX2) (N := 3) hx hb hts inX2 tyX2 tyX2_ok hown q173 q174 q6 hK hz hX hS rfl (fun j hj => by rcases (show j = 0 ∨ j = 1 ∨ j = 2 by omega) with rfl | rfl | rfl <;> rfl) (show ((((0 + 1) + 38) + 1) + 38) + 1 ≤ 242 by omega) (show ((((0 + 7) + 372) + 7) + 372) + 3 ≤ 2444 by omega) dX6_init_27 (fun H hz hX hS => ?_)
  refine lv_dup hx hb dX6_init_30 rfl ?_
  refine x_callI hx hb hml hown hts hl hK hN hz hX hS (c_X2_init l G (xu (xu (eB G (xu (xu (eB G (xu e 1 (.inr (1, [.int 0, .int 0, .float 0, .int 0, .int 0, .null, .null]))) 1) 0 (.inr (6, [.ref (G.1 + 1), .null, .null, .null, .null, .int 0]))) 40 (.inr (1, [.int 0, .int 0, .float 0, .int 0, .int 0, .null, .null]))) 40) 0 (.inr (6, [.ref (G.1 + 1), .ref (G.1 + 40), .null, .null, .null, .int 0]))) 79 (.inr (2, [.null, .int 0, .int 0]))) xu_same) q177 q6 q175 q176 rfl hxX2_init ⟨Nat.le_of_ble_eq_true rfl, Nat.le_of_ble_eq_true rfl⟩ rfl (Nat.le_of_ble_eq_true rfl) dX6_init_31 ⟨show (((((0 + 1) + 38) + 1) + 38) + 1) + 157 ≤ 242 by omega, show (((((0 + 7) + 372) + 7) + 372) + 3) + 1520 ≤ 2444 by omega⟩ (fun H locs hz hX hS => ?_)
  have hz : _ = G.1 + 237 := hz
  refine x_put (e1 := (xu (eH G (xu (xu (eB G (xu (xu (eB G (xu e 1 (.inr (1, [.int 0, .int 0, .float 0, .int 0, .int 0, .null, .null]))) 1) 0 (.inr (6, [.ref (G.1 + 1), .null, .null, .null, .null, .int 0]))) 40 (.inr (1, [.int 0, .int 0, .float 0, .int 0, .int 0, .null, .null]))) 40) 0 (.inr (6, [.ref (G.1 + 1), .ref (G.1 + 40), .null, .null, .null, .int 0]))) 79 (.inr (2, [.null, .int 0, .int 0]))) 4) 0 (.inr (6, [.ref (G.1 + 1), .ref (G.1 + 40), .ref (G.1 + 79), .null, .null, .int 0])))) (C := RX6) (T := TX6) (N := 6) hx hb hts inX6 tyX6 tyX6_ok nmX6 hown hK hz hX ((eH_o (by omega)).trans (xu_at xu_same (by omega))) rfl 2 (by decide) q228 hin rfl (tyX6_ok 2 (by decide)) rfl rfl (Nat.le_of_ble_eq_true rfl) rfl hS dX6_init_34 (fun H locs hz hX hS => ?_)
  refine lv_aload_n hx hb dX6_init_37 rfl (lv_at hl 0 rfl) ?_
  refine x_new (ci := 0) (fs := [.null, .int 0, .int 0, .int 0, .null, .null, .null]) (C := RX0) (T := TX0) (N := 7) hx hb hts inX0 tyX0 tyX0_ok hown q193 q194 q7 hK hz hX hS rfl (fun j hj => by rcases (show j = 0 ∨ j = 1 ∨ j = 2 ∨ j = 3 ∨ j = 4 ∨ j = 5 ∨ j = 6 by omega) with rfl | rfl | rfl | rfl | rfl | rfl | rfl <;> rfl) (show ((((((0 + 1) + 38) + 1) + 38) + 1) + 157) + 1 ≤ 242 by omega) (show ((((((0 + 7) + 372) + 7) + 372) + 3) + 1520) + 7 ≤ 2444 by omega) dX6_init_38 (fun H hz hX hS => ?_)
  refine lv_dup hx hb dX6_init_41 rfl ?_
  refine x_callIN hx hb hml hown hts hl hK hN hz hX hS (c_X0_init l G (xu (xu (eH G (xu (xu (eB G (xu (xu (eB G (xu e 1 (.inr (1, [.int 0, .int 0, .float 0, .int 0, .int 0, .null, .null]))) 1) 0 (.inr (6, [.ref (G.1 + 1), .null, .null, .null, .null, .int 0]))) 40 (.inr (1, [.int 0, .int 0, .float 0, .int 0, .int 0, .null, .null]))) 40) 0 (.inr (6, [.ref (G.1 + 1), .ref (G.1 + 40), .null, .null, .null, .int 0]))) 79 (.inr (2, [.null, .int 0, .int 0]))) 4) 0 (.inr (6, [.ref (G.1 + 1), .ref (G.1 + 40), .ref (G.1 + 79), .null, .null, .int 0]))) 237 (.inr (0, [.null, .int 0, .int 0, .int 0, .null, .null, .null]))) 237 (237 + 1) xu_same) q197 q7 hN.2.2.2.1 q196 rfl hxX0_init ⟨Nat.le_of_ble_eq_true rfl, Nat.le_of_ble_eq_true rfl⟩ rfl (Nat.le_of_ble_eq_true rfl) dX6_init_42 ⟨show (((((((0 + 1) + 38) + 1) + 38) + 1) + 157) + 1) + 4 ≤ 242 by omega, show (((((((0 + 7) + 372) + 7) + 372) + 3) + 1520) + 7) + 150 ≤ 2444 by omega⟩ (fun H locs hz hX hS => ?_)
  have hz : _ = G.1 + 242 := hz
  refine x_put (e1 := (xu (xf (xu (xu (eH G (xu (xu (eB G (xu (xu (eB G (xu e 1 (.inr (1, [.int 0, .int 0, .float 0, .int 0, .int 0, .null, .null]))) 1) 0 (.inr (6, [.ref (G.1 + 1), .null, .null, .null, .null, .int 0]))) 40 (.inr (1, [.int 0, .int 0, .float 0, .int 0, .int 0, .null, .null]))) 40) 0 (.inr (6, [.ref (G.1 + 1), .ref (G.1 + 40), .null, .null, .null, .int 0]))) 79 (.inr (2, [.null, .int 0, .int 0]))) 4) 0 (.inr (6, [.ref (G.1 + 1), .ref (G.1 + 40), .ref (G.1 + 79), .null, .null, .int 0]))) 237 (.inr (0, [.null, .int 0, .int 0, .int 0, .null, .null, .null]))) 237) 0 (.inr (6, [.ref (G.1 + 1), .ref (G.1 + 40), .ref (G.1 + 79), .ref (G.1 + 237), .null, .int 0])))) (C := RX6) (T := TX6) (N := 6) hx hb hts inX6 tyX6 tyX6_ok nmX6 hown hK hz hX ((xf_o (by omega)).trans (xu_at xu_same (by omega))) rfl 3 (by decide) q229 hin rfl (tyX6_ok 3 (by decide)) rfl rfl (Nat.le_of_ble_eq_true rfl) rfl hS dX6_init_45 (fun H locs hz hX hS => ?_)
  refine lv_aload_n hx hb dX6_init_48 rfl (lv_at hl 0 rfl) ?_
  refine x_new (ci := 4) (fs := [.int 0, .int 0, .int 0, .int 0, .int 0, .int 0]) (C := RX4) (T := TX4) (N := 6) hx hb hts inX4 tyX4 tyX4_ok hown q224 q34 q4 hK hz hX hS rfl (fun j hj => by rcases (show j = 0 ∨ j = 1 ∨ j = 2 ∨ j = 3 ∨ j = 4 ∨ j = 5 by omega) with rfl | rfl | rfl | rfl | rfl | rfl <;> rfl) (show ((((((((0 + 1) + 38) + 1) + 38) + 1) + 157) + 1) + 4) + 1 ≤ 242 by omega) (show ((((((((0 + 7) + 372) + 7) + 372) + 3) + 1520) + 7) + 150) + 6 ≤ 2444 by omega) dX6_init_49 (fun H hz hX hS => ?_)
  refine lv_dup hx hb dX6_init_52 rfl ?_
  refine x_callIN hx hb hml hown hts hl hK hN hz hX hS (c_X4_init l G (xu (xu (xf (xu (xu (eH G (xu (xu (eB G (xu (xu (eB G (xu e 1 (.inr (1, [.int 0, .int 0, .float 0, .int 0, .int 0, .null, .null]))) 1) 0 (.inr (6, [.ref (G.1 + 1), .null, .null, .null, .null, .int 0]))) 40 (.inr (1, [.int 0, .int 0, .float 0, .int 0, .int 0, .null, .null]))) 40) 0 (.inr (6, [.ref (G.1 + 1), .ref (G.1 + 40), .null, .null, .null, .int 0]))) 79 (.inr (2, [.null, .int 0, .int 0]))) 4) 0 (.inr (6, [.ref (G.1 + 1), .ref (G.1 + 40), .ref (G.1 + 79), .null, .null, .int 0]))) 237 (.inr (0, [.null, .int 0, .int 0, .int 0, .null, .null, .null]))) 237) 0 (.inr (6, [.ref (G.1 + 1), .ref (G.1 + 40), .ref (G.1 + 79), .ref (G.1 + 237), .null, .int 0]))) 242 (.inr (4, [.int 0, .int 0, .int 0, .int 0, .int 0, .int 0]))) 242 (242 + 1) xu_same) q37 q4 hN.2.2.2.2.1 q36 rfl hxX4_init ⟨Nat.le_of_ble_eq_true rfl, Nat.le_of_ble_eq_true rfl⟩ rfl (Nat.le_of_ble_eq_true rfl) dX6_init_53 ⟨show (((((((((0 + 1) + 38) + 1) + 38) + 1) + 157) + 1) + 4) + 1) + 0 ≤ 242 by omega, show (((((((((0 + 7) + 372) + 7) + 372) + 3) + 1520) + 7) + 150) + 6) + 0 ≤ 2444 by omega⟩ (fun H locs hz hX hS => ?_)
  refine x_put (e1 := (xu (xu (xf (xu (xu (eH G (xu (xu (eB G (xu (xu (eB G (xu e 1 (.inr (1, [.int 0, .int 0, .float 0, .int 0, .int 0, .null, .null]))) 1) 0 (.inr (6, [.ref (G.1 + 1), .null, .null, .null, .null, .int 0]))) 40 (.inr (1, [.int 0, .int 0, .float 0, .int 0, .int 0, .null, .null]))) 40) 0 (.inr (6, [.ref (G.1 + 1), .ref (G.1 + 40), .null, .null, .null, .int 0]))) 79 (.inr (2, [.null, .int 0, .int 0]))) 4) 0 (.inr (6, [.ref (G.1 + 1), .ref (G.1 + 40), .ref (G.1 + 79), .null, .null, .int 0]))) 237 (.inr (0, [.null, .int 0, .int 0, .int 0, .null, .null, .null]))) 237) 0 (.inr (6, [.ref (G.1 + 1), .ref (G.1 + 40), .ref (G.1 + 79), .ref (G.1 + 237), .ref (G.1 + 242), .int 0]))) 242 (.inr (4, [.int 0, .int 0, .int 0, .int 0, .int 0, .int 0])))) (C := RX6) (T := TX6) (N := 6) hx hb hts inX6 tyX6 tyX6_ok nmX6 hown hK hz hX (xu_at xu_same (by omega)) rfl 4 (by decide) q230 hin rfl (tyX6_ok 4 (by decide)) rfl rfl (Nat.le_of_ble_eq_true rfl) (by rw [xu_swap (e := _) (n := 242) (k := 0) (by omega), xu_xu]; rfl) hS dX6_init_56 (fun H locs hz hX hS => ?_)
  refine lv_aload_n hx hb dX6_init_59 rfl (lv_at hl 0 rfl) ?_
  refine lv_iconst (v := 0) hx hb dX6_init_60 (by decide) ?_
  refine x_put (e1 := (xu (xu (xf (xu (xu (eH G (xu (xu (eB G (xu (xu (eB G (xu e 1 (.inr (1, [.int 0, .int 0, .float 0, .int 0, .int 0, .null, .null]))) 1) 0 (.inr (6, [.ref (G.1 + 1), .null, .null, .null, .null, .int 0]))) 40 (.inr (1, [.int 0, .int 0, .float 0, .int 0, .int 0, .null, .null]))) 40) 0 (.inr (6, [.ref (G.1 + 1), .ref (G.1 + 40), .null, .null, .null, .int 0]))) 79 (.inr (2, [.null, .int 0, .int 0]))) 4) 0 (.inr (6, [.ref (G.1 + 1), .ref (G.1 + 40), .ref (G.1 + 79), .null, .null, .int 0]))) 237 (.inr (0, [.null, .int 0, .int 0, .int 0, .null, .null, .null]))) 237) 0 (.inr (6, [.ref (G.1 + 1), .ref (G.1 + 40), .ref (G.1 + 79), .ref (G.1 + 237), .ref (G.1 + 242), .int 0]))) 242 (.inr (4, [.int 0, .int 0, .int 0, .int 0, .int 0, .int 0])))) (C := RX6) (T := TX6) (N := 6) hx hb hts inX6 tyX6 tyX6_ok nmX6 hown hK hz hX (xu_at xu_same (by omega)) rfl 5 (by decide) q231 hin rfl pfd_Z rfl rfl (Nat.le_of_ble_eq_true rfl) (xu_id (xu_at xu_same (by omega))) hS dX6_init_61 (fun H locs hz hX hS => ?_)
  have hz : _ = G.1 + 243 := hz
  exact x_vret hx hb hr hlk hK hN hz hX hS (by omega) (by omega) dX6_init_64
def μ0 (n : Nat) : Nat → Int32 := if 1 ≤ n ∧ n < 79 then μB ((n - 1) % 39) else if 81 ≤ n ∧ n < 237 then μB ((n - 81) % 39) else fun _ => 0
theorem zk_a {n : Nat} (h1 : 1 ≤ n) (h2 : n < 79) : zk n = zkb ((n - 1) % 39) := by unfold zk; rw [if_neg (by omega), if_pos h2]
theorem zk_b {n : Nat} (h1 : 81 ≤ n) (h2 : n < 237) : zk n = zkb ((n - 81) % 39) := by unfold zk; rw [if_neg (by omega), if_neg (by omega), if_neg (by omega), if_neg (by omega), if_pos h2]
theorem μ0_a {n : Nat} (h1 : 1 ≤ n) (h2 : n < 79) : μ0 n = μB ((n - 1) % 39) := by unfold μ0; rw [if_pos ⟨h1, h2⟩]
theorem μ0_b {n : Nat} (h1 : 81 ≤ n) (h2 : n < 237) : μ0 n = μB ((n - 81) % 39) := by unfold μ0; rw [if_neg (by omega), if_pos ⟨h1, h2⟩]
theorem e_fin_zW {G : zG} {e : xM} {H : Heap} (h : zX G (e_fin G e) H) : zW G μ0 H := by
  intro n hn
  by_cases h0 : n = 0
  · subst h0
    exact h 0 _ (xu_at xu_same (by omega))
  · by_cases h1 : n < 40
    · rw [zk_a (by omega) (by omega), μ0_a (by omega) (by omega)]
      obtain ⟨r, hr, rfl⟩ : ∃ r, r < 39 ∧ n = 1 + r := ⟨n - 1, by omega, by omega⟩
      rw [show (1 + r - 1) % 39 = r by omega]
      exact h _ _ ((xu_ne (by omega)).trans ((xu_ne (by omega)).trans ((xf_o (by omega)).trans ((xu_ne (by omega)).trans ((xu_ne (by omega)).trans ((eH_o (by omega)).trans ((xu_ne (by omega)).trans ((xu_ne (by omega)).trans ((eB_o (by omega)).trans ((xu_ne (by omega)).trans ((xu_ne (by omega)).trans (eB_c hr))))))))))))
    · by_cases h2 : n < 79
      · rw [zk_a (by omega) (by omega), μ0_a (by omega) (by omega)]
        obtain ⟨r, hr, rfl⟩ : ∃ r, r < 39 ∧ n = 40 + r := ⟨n - 40, by omega, by omega⟩
        rw [show (40 + r - 1) % 39 = r by omega]
        exact h _ _ ((xu_ne (by omega)).trans ((xu_ne (by omega)).trans ((xf_o (by omega)).trans ((xu_ne (by omega)).trans ((xu_ne (by omega)).trans ((eH_o (by omega)).trans ((xu_ne (by omega)).trans ((xu_ne (by omega)).trans (eB_c hr)))))))))
      · by_cases h3 : n = 79
        · subst h3
          exact h _ _ ((xu_ne (by omega)).trans ((xu_ne (by omega)).trans ((xf_o (by omega)).trans ((xu_ne (by omega)).trans ((xu_ne (by omega)).trans eH_79)))))
        · by_cases h4 : n = 80
          · subst h4
            have := h _ _ ((xu_ne (by omega)).trans ((xu_ne (by omega)).trans ((xf_o (by omega)).trans ((xu_ne (by omega)).trans ((xu_ne (by omega)).trans eH_80)))))
            exact xeqv.rows (fun k hk => if_neg (by omega)) H this
          · by_cases h5 : n < 237
            · rw [zk_b (by omega) h5, μ0_b (by omega) h5]
              exact h _ _ ((xu_ne (by omega)).trans ((xu_ne (by omega)).trans ((xf_o (by omega)).trans ((xu_ne (by omega)).trans ((xu_ne (by omega)).trans (eH_c (by omega) (by omega)))))))
            · by_cases h6 : n = 242
              · subst h6
                exact h _ _ xu_same
              · exfalso
                have : zk n = 9 := by unfold zk; rw [if_neg h0, if_neg (by omega), if_neg h3, if_neg h4, if_neg h5, if_neg h6]
                omega
end
section
/-! what is told depends on the live rows of the book alone -/
def eqv (T I : Nat) (μ ν : zM) : Prop := μ 1 = ν 1 ∧ (∀ i, i < T → μ (1 + (3 + 2 * i)) = ν (1 + (3 + 2 * i)) ∧ μ (1 + (3 + 2 * i) + 1) = ν (1 + (3 + 2 * i) + 1)) ∧ ∀ j, j < I → μ (1 + (15 + j)) = ν (1 + (15 + j))
theorem eqv.rf {T I : Nat} {μ : zM} : eqv T I μ μ := ⟨rfl, fun _ _ => ⟨rfl, rfl⟩, fun _ _ => rfl⟩
theorem eqv.symm {T I : Nat} {μ ν : zM} (h : eqv T I μ ν) : eqv T I ν μ := ⟨h.1.symm, fun i hi => ⟨(h.2.1 i hi).1.symm, (h.2.1 i hi).2.symm⟩, fun j hj => (h.2.2 j hj).symm⟩
theorem eqv.trans {T I : Nat} {μ ν ρ : zM} (h : eqv T I μ ν) (h2 : eqv T I ν ρ) : eqv T I μ ρ := ⟨h.1.trans h2.1, fun i hi => ⟨(h.2.1 i hi).1.trans (h2.2.1 i hi).1, (h.2.1 i hi).2.trans (h2.2.1 i hi).2⟩, fun j hj => (h.2.2 j hj).trans (h2.2.2 j hj)⟩
theorem eqv.off {T I : Nat} {μ ν : zM} (hT : T ≤ 6) (hI : I ≤ 24) (h : ∀ n, 1 ≤ n → n < 40 → μ n = ν n) : eqv T I μ ν := ⟨h 1 (by omega) (by omega), fun i hi => ⟨h _ (by omega) (by omega), h _ (by omega) (by omega)⟩, fun j hj => h _ (by omega) (by omega)⟩
theorem eqv_242 {T I : Nat} {μ : zM} {q : Nat → Int32} (hT : T ≤ 6) (hI : I ≤ 24) : eqv T I (zr μ 242 q) μ := eqv.off hT hI (fun n h1 h2 => zr_ne (by omega))
theorem s_tin_cg {T I q : Nat} {μ ν : zM} (h : eqv T I μ ν) : ∀ {T' : Nat}, T' ≤ T → s_tin μ q T' = s_tin ν q T'
  | 0, _ => rfl
  | i + 1, hi => by
    show (if μ (1 + (3 + 2 * i)) 2 = nI q then s_tin μ q i + 1 else s_tin μ q i) = (if ν (1 + (3 + 2 * i)) 2 = nI q then s_tin ν q i + 1 else s_tin ν q i)
    rw [(h.2.1 i hi).1, s_tin_cg h (Nat.le_of_succ_le hi)]
theorem s_cls_cg {T I w : Nat} {μ ν : zM} (h : eqv T I μ ν) : ∀ {T' : Nat}, T' ≤ T → s_cls μ w T' = s_cls ν w T'
  | 0, _ => rfl
  | i + 1, hi => by
    show (if μ (1 + (3 + 2 * i)) 2 = 3 then s_cls μ w i + s_X4_part (μ (1 + (3 + 2 * i) + 1)) w else s_cls μ w i) = (if ν (1 + (3 + 2 * i)) 2 = 3 then s_cls ν w i + s_X4_part (ν (1 + (3 + 2 * i) + 1)) w else s_cls ν w i)
    rw [(h.2.1 i hi).1, (h.2.1 i hi).2, s_cls_cg h (Nat.le_of_succ_le hi)]
theorem s_tot_eq {T I t w : Nat} {μ ν : zM} (h : eqv T I μ ν) : ∀ {I' : Nat}, I' ≤ I → s_tot μ t w I' = s_tot ν t w I'
  | 0, _ => rfl
  | j + 1, hj => by
    show (if μ (1 + (15 + j)) 0 = nI t then s_tot μ t w j + s_share (μ (1 + (15 + j))) w else s_tot μ t w j) = (if ν (1 + (15 + j)) 0 = nI t then s_tot ν t w j + s_share (ν (1 + (15 + j))) w else s_tot ν t w j)
    rw [h.2.2 j hj, s_tot_eq h (Nat.le_of_succ_le hj)]
theorem s_pay_cg {T I t : Nat} {μ ν : zM} {r : Nat → Int32} (h : eqv T I μ ν) : ∀ {I' : Nat}, I' ≤ I → s_pay μ t r I' = s_pay ν t r I'
  | 0, _ => rfl
  | j + 1, hj => by
    show (if μ (1 + (15 + j)) 0 = nI t then w_X4_payLandlord (s_pay μ t r j) (s_X3_award (μ (1 + (15 + j)))) else s_pay μ t r j) = (if ν (1 + (15 + j)) 0 = nI t then w_X4_payLandlord (s_pay ν t r j) (s_X3_award (ν (1 + (15 + j)))) else s_pay ν t r j)
    rw [h.2.2 j hj, s_pay_cg h (Nat.le_of_succ_le hj)]
theorem s_settle_cg {T I t : Nat} {μ ν : zM} {fb g : Nat → Int32} (h : eqv T I μ ν) : s_settle μ fb g t I = s_settle ν fb g t I := by
  unfold s_settle s_fee s_lf
  rw [s_tot_eq h (Nat.le_refl I), s_tot_eq h (Nat.le_refl I), s_pay_cg h (Nat.le_refl I)]
theorem s_oc_cg {T I t w : Nat} {μ ν : zM} {fb g gs : Nat → Int32} (h : eqv T I μ ν) : s_oc μ fb g gs t I w = s_oc ν fb g gs t I w := by
  unfold s_oc
  rw [s_settle_cg h]
theorem s_ten_cg {T I t w : Nat} {μ ν : zM} {fb g : Nat → Int32} (h : eqv T I μ ν) : s_ten μ fb g t I w = s_ten ν fb g t I w := by
  unfold s_ten
  rw [s_tot_eq h (Nat.le_refl I), s_tot_eq h (Nat.le_refl I), s_tot_eq h (Nat.le_refl I), s_tot_eq h (Nat.le_refl I)]
theorem s_cnt_cg {T I z w : Nat} {μ ν : zM} {fb : Nat → Int32} (h : eqv T I μ ν) : s_cnt μ fb T I z w = s_cnt ν fb T I z w := by
  unfold s_cnt
  rw [s_tin_cg h (Nat.le_refl T), s_tin_cg h (Nat.le_refl T), s_tin_cg h (Nat.le_refl T), s_tin_cg h (Nat.le_refl T), s_cls_cg h (Nat.le_refl T), s_cls_cg h (Nat.le_refl T), s_cls_cg h (Nat.le_refl T), s_cls_cg h (Nat.le_refl T)]
theorem s_cnt_z {μ : zM} {fb : Nat → Int32} {T I z w : Nat} (hw : w < 12) : s_cnt μ fb T I z w = s_cnt μ fb T I 0 w := by
  have hcs : w = 0 ∨ w = 1 ∨ w = 2 ∨ w = 3 ∨ w = 4 ∨ w = 5 ∨ w = 6 ∨ w = 7 ∨ w = 8 ∨ w = 9 ∨ w = 10 ∨ w = 11 := by omega
  rcases hcs with rfl | rfl | rfl | rfl | rfl | rfl | rfl | rfl | rfl | rfl | rfl | rfl <;> rfl
theorem m_oc_242 {μ : zM} {fb g : Nat → Int32} {t I : Nat} (q : Nat → Int32) : ∃ q2, m_oc (zr μ 242 q) fb g t I = zr μ 242 q2 := by
  unfold m_oc
  split
  · exact ⟨q, rfl⟩
  · split
    · exact ⟨q, rfl⟩
    · exact ⟨_, zr_zr⟩
/-- the digest -/
def d_0 (fb : Nat → Int32) : Int64 := 93 + (FP.f2i (FP.fmul (Int32.toUInt32 (fb 2)) 1315859240)).toInt64
def d_cnt (μ : zM) (fb : Nat → Int32) (T I : Nat) (h : Int64) : Nat → Int64
  | 0 => h
  | w + 1 => 31 * d_cnt μ fb T I h w + (s_cnt μ fb T I 0 w).toInt64
def d_ten (μ : zM) (fb g : Nat → Int32) (t I : Nat) (h : Int64) : Nat → Int64
  | 0 => h
  | w + 1 => 31 * d_ten μ fb g t I h w + (s_ten μ fb g t I w).toInt64
def d_oc (μ : zM) (fb g gs : Nat → Int32) (t I : Nat) (h : Int64) : Nat → Int64
  | 0 => h
  | w + 1 => 31 * d_oc μ fb g gs t I h w + (s_oc μ fb g gs t I w).toInt64
def d_tens (μ : zM) (fb : Nat → Int32) (I : Nat) (h : Int64) : Nat → Int64
  | 0 => h
  | t + 1 => d_oc μ fb (μ (1 + (3 + 2 * t))) (μ (1 + (3 + 2 * t) + 1)) t I (d_ten μ fb (μ (1 + (3 + 2 * t))) t I (d_tens μ fb I h t) 10) 6
def d_itm (f fb g : Nat → Int32) (h : Int64) : Nat → Int64
  | 0 => h
  | w + 1 => 31 * d_itm f fb g h w + (s_itm f fb g w).toInt64
/-- the tenancy's row of an item -/
def z_home (μ : zM) (f : Nat → Int32) : Nat → Int32 := μ (1 + (3 + 2 * (f 0).toNatClampNeg))
def d_itms (μ : zM) (fb : Nat → Int32) (h : Int64) : Nat → Int64
  | 0 => h
  | j + 1 => 31 * (31 * d_itm (μ (1 + (15 + j))) fb (z_home μ (μ (1 + (15 + j)))) (d_itms μ fb h j) 11 + (FP.f2i (FP.fmul (s_X3_landlordWeight (μ (1 + (15 + j)))) 1232348160)).toInt64) + (s_rsn (μ (1 + (15 + j)))).toInt64
def z_D (μ : zM) (T I : Nat) : Int64 := d_itms μ (μ 1) (d_tens μ (μ 1) I (d_cnt μ (μ 1) T I (d_0 (μ 1)) 12) T) I
theorem d_cnt_cg {T I : Nat} {μ ν : zM} {fb : Nat → Int32} {h0 : Int64} (h : eqv T I μ ν) (w : Nat) : d_cnt μ fb T I h0 w = d_cnt ν fb T I h0 w := by
  induction w with
  | zero => rfl
  | succ w ih => show 31 * _ + _ = 31 * _ + _; rw [ih, s_cnt_cg h]
theorem d_ten_cg {T I t : Nat} {μ ν : zM} {fb g : Nat → Int32} {h0 : Int64} (h : eqv T I μ ν) (w : Nat) : d_ten μ fb g t I h0 w = d_ten ν fb g t I h0 w := by
  induction w with
  | zero => rfl
  | succ w ih => show 31 * _ + _ = 31 * _ + _; rw [ih, s_ten_cg h]
theorem d_oc_cg {T I t : Nat} {μ ν : zM} {fb g gs : Nat → Int32} {h0 : Int64} (h : eqv T I μ ν) (w : Nat) : d_oc μ fb g gs t I h0 w = d_oc ν fb g gs t I h0 w := by
  induction w with
  | zero => rfl
  | succ w ih => show 31 * _ + _ = 31 * _ + _; rw [ih, s_oc_cg h]
theorem d_tens_cg {T I : Nat} {μ ν : zM} {fb : Nat → Int32} {h0 : Int64} (h : eqv T I μ ν) : ∀ {T' : Nat}, T' ≤ T → d_tens μ fb I h0 T' = d_tens ν fb I h0 T'
  | 0, _ => rfl
  | t + 1, ht => by
    show d_oc μ fb (μ (1 + (3 + 2 * t))) (μ (1 + (3 + 2 * t) + 1)) t I (d_ten μ fb (μ (1 + (3 + 2 * t))) t I (d_tens μ fb I h0 t) 10) 6 = d_oc ν fb (ν (1 + (3 + 2 * t))) (ν (1 + (3 + 2 * t) + 1)) t I (d_ten ν fb (ν (1 + (3 + 2 * t))) t I (d_tens ν fb I h0 t) 10) 6
    rw [d_tens_cg h (Nat.le_of_succ_le ht), (h.2.1 t ht).1, (h.2.1 t ht).2, d_ten_cg h, d_oc_cg h]
/-- every item's home is one of the tenancies -/
def z_homes (μ : zM) (T I : Nat) : Prop := ∀ j, j < I → ∃ h, h < T ∧ μ (1 + (15 + j)) 0 = nI h
theorem d_itms_cg {T I : Nat} {μ ν : zM} {fb : Nat → Int32} {h0 : Int64} (hT : T ≤ 6) (h : eqv T I μ ν) (hh : z_homes μ T I) : ∀ {I' : Nat}, I' ≤ I → d_itms μ fb h0 I' = d_itms ν fb h0 I'
  | 0, _ => rfl
  | j + 1, hj => by
    obtain ⟨k, hk, ek⟩ := hh j hj
    have e1 : z_home μ (μ (1 + (15 + j))) = z_home ν (μ (1 + (15 + j))) := by
      unfold z_home
      rw [ek, nI_clamp (by omega)]
      exact (h.2.1 k hk).1
    show 31 * (31 * d_itm (μ (1 + (15 + j))) fb (z_home μ (μ (1 + (15 + j)))) (d_itms μ fb h0 j) 11 + _) + _ = 31 * (31 * d_itm (ν (1 + (15 + j))) fb (z_home ν (ν (1 + (15 + j)))) (d_itms ν fb h0 j) 11 + _) + _
    rw [d_itms_cg hT h hh (Nat.le_of_succ_le hj), e1, h.2.2 j hj]
theorem z_D_cg {T I : Nat} {μ ν : zM} (hT : T ≤ 6) (h : eqv T I μ ν) (hh : z_homes μ T I) : z_D μ T I = z_D ν T I := by
  unfold z_D
  rw [h.1, d_itms_cg hT h hh (Nat.le_refl I), d_tens_cg h (Nat.le_refl T), d_cnt_cg h]
end
section
def s_low (v n : Int32) : Int32 := (v &&& 2147483647) - (v &&& 2147483647) / n * n
theorem hdL_low : yL_low.cls = RL ∧ yL_low.cls ≠ "java/lang/invoke/MethodHandle" ∧ yL_low.cls ≠ "java/lang/invoke/VarHandle" ∧ (parseMethodDescriptor yL_low.desc).map (fun d => d.parameters.length) = some 2 := by decide +kernel
set_option maxHeartbeats 4000000 in
set_option maxRecDepth 100000 in
theorem c_L_low (l : Launch) (G : zG) (μ : zM) (v n : Int32) (hn0 : ¬ n = 0) : zMet l G yL_low cL_low 2 (some .int) 0 0 [.int v, .int n] μ (zQi G (s_low v n) μ) := by
  refine z_start (lv := [(0, .int v), (1, .int n)]) (by decide) (Nat.le_of_ble_eq_true rfl) rfl ?_
  intro p e s m args below meth c ls hx hb hml hr hlk hts hown hK hZ hS hl
  have hown : s.vm.findClass RL = some m.cls := hown
  refine lv_iload_n hx hb dL_low_0 rfl (lv_at hl 0 rfl) ?_
  refine lv_ldc hx hb hown (hts _ q442) dL_low_1 ?_
  refine lv_iand hx hb dL_low_3 ?_
  refine lv_iload_n hx hb dL_low_4 rfl (lv_at hl 1 rfl) ?_
  refine lv_irem hx hb dL_low_5 hn0 ?_
  exact z_iret hx hb hr hlk hK hZ hS ⟨rfl, rfl⟩ dL_low_6
abbrev zQiP (G : zG) (r0 : Int32) (P : zM → Prop) : Array Value → State → Outcome → State → Prop := va_Qi (fun (r : Int32) (u : zM) => r = r0 ∧ P u) (fun u t => zU G u t) (zA G)
abbrev zQlP (G : zG) (r0 : Int64) (P : zM → Prop) : Array Value → State → Outcome → State → Prop := va_Ql (fun (r : Int64) (u : zM) => r = r0 ∧ P u) (fun u t => zU G u t) (zA G)
def P242 (μ u : zM) : Prop := ∃ q, u = zr μ 242 q
theorem L_cntT (l : Launch) (G : zG) (μ : zM) (fb hh : Nat → Int32) (hfb : μ 1 = fb) (hfh : μ 79 = hh) (T I o z : Nat) (hT : fb 3 = nI T) (hI : fb 4 = nI I) (hT6 : T ≤ 6) (hI24 : I ≤ 24) (ho : hh 1 = nI o) (hz : hh 2 = nI z) (ho4 : o < 4) (hz4 : z ≤ 4) : zMet l G yX6_count cX6_count 2 (some .int) 2 45 [.ref (G.1 + 0), .int 1] μ (zQi G (nI T) μ) := c_X6_count l G μ fb hh hfb hfh T I o z hT hI hT6 hI24 ho hz ho4 hz4 1 (by decide)
theorem L_cntI (l : Launch) (G : zG) (μ : zM) (fb hh : Nat → Int32) (hfb : μ 1 = fb) (hfh : μ 79 = hh) (T I o z : Nat) (hT : fb 3 = nI T) (hI : fb 4 = nI I) (hT6 : T ≤ 6) (hI24 : I ≤ 24) (ho : hh 1 = nI o) (hz : hh 2 = nI z) (ho4 : o < 4) (hz4 : z ≤ 4) : zMet l G yX6_count cX6_count 2 (some .int) 2 45 [.ref (G.1 + 0), .int 6] μ (zQi G (nI I) μ) := c_X6_count l G μ fb hh hfb hfh T I o z hT hI hT6 hI24 ho hz ho4 hz4 6 (by decide)
theorem L_cntz (l : Launch) (G : zG) (μ : zM) (fb hh : Nat → Int32) (hfb : μ 1 = fb) (hfh : μ 79 = hh) (T I o z : Nat) (hT : fb 3 = nI T) (hI : fb 4 = nI I) (hT6 : T ≤ 6) (hI24 : I ≤ 24) (ho : hh 1 = nI o) (hz : hh 2 = nI z) (ho4 : o < 4) (hz4 : z ≤ 4) : zMet l G yX6_count cX6_count 2 (some .int) 2 45 [.ref (G.1 + 0), .int 12] μ (zQi G (nI z) μ) := c_X6_count l G μ fb hh hfb hfh T I o z hT hI hT6 hI24 ho hz ho4 hz4 12 (by decide)
theorem hdL_digest : yL_digest.cls = RL ∧ yL_digest.cls ≠ "java/lang/invoke/MethodHandle" ∧ yL_digest.cls ≠ "java/lang/invoke/VarHandle" ∧ (parseMethodDescriptor yL_digest.desc).map (fun d => d.parameters.length) = some 1 := by decide +kernel
set_option maxHeartbeats 4000000 in
set_option maxRecDepth 100000 in
theorem c_L_digest (l : Launch) (G : zG) (μ : zM) (fb hh : Nat → Int32) (hfb : μ 1 = fb) (hfh : μ 79 = hh) (T I o z : Nat) (hT : fb 3 = nI T) (hI : fb 4 = nI I) (hT6 : T ≤ 6) (hI24 : I ≤ 24) (ho : hh 1 = nI o) (hz : hh 2 = nI z) (ho4 : o < 4) (hz4 : z ≤ 4) (hr8 : fK 125 (Int32.toUInt32 (fb 2))) (hhm : z_homes μ T I) : zMet l G yL_digest cL_digest 5 (some .long) 6 138 [.ref (G.1 + 0)] μ (zQlP G (z_D μ T I) (P242 μ)) := by
  refine z_start (lv := [(0, .ref (G.1 + 0))]) (by decide) (Nat.le_of_ble_eq_true rfl) rfl ?_
  intro p e s m args below meth c ls hx hb hml hr hlk hts hown hK hZ hS hl
  have hown : s.vm.findClass RL = some m.cls := hown
  have hhome : ∀ j, j < I → (μ (1 + (15 + j)) 0).toNatClampNeg < T ∧ μ (1 + (15 + j)) 0 = nI (μ (1 + (15 + j)) 0).toNatClampNeg := by
    intro j hj
    obtain ⟨k, hk, ek⟩ := hhm j hj
    rw [ek, nI_clamp (by omega)]
    exact ⟨hk, rfl⟩
  obtain ⟨q, hq⟩ : ∃ q, μ = zr μ 242 q := ⟨μ 242, (zr_id rfl).symm⟩
  rw [hq] at hZ
  subst hfb
  have inI : ∀ (j : Nat), j < I → ∀ (h0 : Int64), (∀ (q : Nat → Int32) (H : Heap) (locs : List Loc) (ls : Array Slot), zW G (zr μ 242 q) H → va_S (zA G) s.heap H locs → lv_has ls 5 [(0, .ref (G.1 + 0)), (1, .long (d_itm (μ (1 + (15 + j))) (μ 1) (z_home μ (μ (1 + (15 + j)))) h0 11)), (3, .int (nI j))] → W p l e { frames := 6, cells := 0, slots := 0, locals := 138 } s m args below meth c H locs 0 0 (MQ below (zQlP G (z_D μ T I) (P242 μ)) args s 0 0 (zA G)) (F0 m 163 ls [])) → ∀ (k w : Nat), w + k = 11 → (∀ (q : Nat → Int32) (H : Heap) (locs : List Loc) (ls : Array Slot), zW G (zr μ 242 q) H → va_S (zA G) s.heap H locs → lv_has ls 5 [(0, .ref (G.1 + 0)), (1, .long (d_itm (μ (1 + (15 + j))) (μ 1) (z_home μ (μ (1 + (15 + j)))) h0 w)), (3, .int (nI j)), (4, .int (nI w))] → W p l e { frames := 6, cells := 0, slots := 0, locals := 138 } s m args below meth c H locs 0 0 (MQ below (zQlP G (z_D μ T I) (P242 μ)) args s 0 0 (zA G)) (F0 m 135 ls [])) := by
    intro j hjj h0 kont k
    obtain ⟨hhh, heh⟩ := hhome j hjj
    induction k with
    | zero =>
      intro w hv q H locs ls hZ hS hl
      have hv : w = 11 := by omega
      subst hv
      refine lv_iload hx hb dL_digest_135 (lv_at hl 3 rfl) ?_
      refine lv_bipush (v := 11) hx hb dL_digest_137 (by decide) ?_
      refine lv_icmp_ge (tgt := 163) hx hb dL_digest_139 (by decide) (fun c_1 => ?_) (fun c_1 => ?_)
      · exact kont _ _ _ _ hZ hS (lv_sub hl [0, 1, 2] rfl)
      · exact absurd (show nI 11 ≤ nI 11 from nI_le (Nat.le_refl _) (by omega)) c_1
    | succ k ih =>
      intro w hv q H locs ls hZ hS hl
      refine lv_iload hx hb dL_digest_135 (lv_at hl 3 rfl) ?_
      refine lv_bipush (v := 11) hx hb dL_digest_137 (by decide) ?_
      refine lv_icmp_ge (tgt := 163) hx hb dL_digest_139 (by decide) (fun c_2 => ?_) (fun c_2 => ?_)
      · exact absurd (show nI 11 ≤ nI w from c_2) (nI_ge (by omega) (by omega))
      · refine lv_ldc2 hx hb hown (hts _ q323) dL_digest_142 ?_
        refine lv_lload_n hx hb dL_digest_145 rfl (lv_at hl 1 rfl) ?_
        refine lv_lmul hx hb dL_digest_146 ?_
        refine lv_aload_n hx hb dL_digest_147 rfl (lv_at hl 0 rfl) ?_
        refine lv_iload_n hx hb dL_digest_148 rfl (lv_at hl 2 rfl) ?_
        refine lv_iload hx hb dL_digest_149 (lv_at hl 3 rfl) ?_
        refine z_cVi (As := [.int (nI j), .int (nI w)]) (rest := [.long (31 * (d_itm (μ (1 + (15 + j))) (μ 1) (z_home μ (μ (1 + (15 + j)))) h0 w))]) hx hb hml hown hts hl hK hZ hS (c_X6_item l G (zr μ 242 q) (μ 1) (zr_at rfl (by decide)) T I hT hI hT6 hI24 j ((μ (1 + (15 + j)) 0).toNatClampNeg) hjj hhh (μ (1 + (15 + j))) (zr_ne (by omega)) heh (z_home μ (μ (1 + (15 + j)))) (zr_ne (by omega)) w (by omega)) (z_G q390 q391 q392 q1 q393) hdX6_item ⟨Nat.le_of_ble_eq_true rfl, Nat.le_of_ble_eq_true rfl⟩ zk0 (by decide) rfl rfl rfl rfl (Nat.le_of_ble_eq_true rfl) dL_digest_151 ⟨(Nat.zero_le _), (Nat.zero_le _)⟩ (fun H locs hZ hS => ?_)
        refine lv_i2l hx hb dL_digest_154 rfl ?_
        refine lv_ladd hx hb dL_digest_155 ?_
        refine lv_lstore_n (lv' := [(1, .long ((31 * (d_itm (μ (1 + (15 + j))) (μ 1) (z_home μ (μ (1 + (15 + j)))) h0 w)) + (Int32.toInt64 (s_itm (μ (1 + (15 + j))) (μ 1) (z_home μ (μ (1 + (15 + j)))) w)))), (0, .ref (G.1 + 0)), (3, .int (nI j)), (4, .int (nI w))]) hx hb dL_digest_156 rfl hl (by decide) rfl (fun ls hl => ?_)
        refine lv_iinc (v := (nI (w + 1))) (lv' := [(4, .int (nI (w + 1))), (1, .long ((31 * (d_itm (μ (1 + (15 + j))) (μ 1) (z_home μ (μ (1 + (15 + j)))) h0 w)) + (Int32.toInt64 (s_itm (μ (1 + (15 + j))) (μ 1) (z_home μ (μ (1 + (15 + j)))) w)))), (0, .ref (G.1 + 0)), (3, .int (nI j))]) hx hb dL_digest_157 hl (k := 3) rfl (nI_1 _) (by decide) rfl (fun ls hl => ?_)
        refine lv_goto (tgt := 135) hx hb dL_digest_160 (by decide) ?_
        exact ih (w + 1) (by omega) _ _ _ _ hZ hS (lv_sub hl [2, 1, 3, 0] rfl)
  have itms : ∀ (k j : Nat), j + k = I → (∀ (q : Nat → Int32) (H : Heap) (locs : List Loc) (ls : Array Slot), zW G (zr μ 242 q) H → va_S (zA G) s.heap H locs → lv_has ls 5 [(0, .ref (G.1 + 0)), (1, .long (d_itms μ (μ 1) (d_tens μ (μ 1) I (d_cnt μ (μ 1) T I (d_0 (μ 1)) 12) T) j)), (3, .int (nI j))] → W p l e { frames := 6, cells := 0, slots := 0, locals := 138 } s m args below meth c H locs 0 0 (MQ below (zQlP G (z_D μ T I) (P242 μ)) args s 0 0 (zA G)) (F0 m 122 ls [])) := by
    intro k
    induction k with
    | zero =>
      intro j hv q H locs ls hZ hS hl
      have hv : I = j := by omega
      subst hv
      refine lv_iload_n hx hb dL_digest_122 rfl (lv_at hl 2 rfl) ?_
      refine lv_aload_n hx hb dL_digest_123 rfl (lv_at hl 0 rfl) ?_
      refine lv_bipush (v := 6) hx hb dL_digest_124 (by decide) ?_
      refine z_cVi (As := [.int 6]) (rest := [.int (nI I)]) hx hb hml hown hts hl hK hZ hS (L_cntI l G (zr μ 242 q) (μ 1) hh (zr_at rfl (by decide)) (zr_at hfh (by decide)) T I o z hT hI hT6 hI24 ho hz ho4 hz4) (z_G q294 q295 q296 q1 q297) hdX6_count ⟨Nat.le_of_ble_eq_true rfl, Nat.le_of_ble_eq_true rfl⟩ zk0 (by decide) rfl rfl rfl rfl (Nat.le_of_ble_eq_true rfl) dL_digest_126 ⟨(Nat.zero_le _), (Nat.zero_le _)⟩ (fun H locs hZ hS => ?_)
      refine lv_icmp_ge (tgt := 197) hx hb dL_digest_129 (by decide) (fun c_3 => ?_) (fun c_3 => ?_)
      · refine lv_lload_n hx hb dL_digest_197 rfl (lv_at hl 1 rfl) ?_
        exact W.lret (v := (d_itms μ (μ 1) (d_tens μ (μ 1) I (d_cnt μ (μ 1) T I (d_0 (μ 1)) 12) T) I)) hx hb hr (fun t ht hW => ⟨⟨_, _, rfl, ⟨rfl, q, rfl⟩, by rw [ht]; exact hZ, va_K.moved hW.alike hK⟩, hS.F ht⟩) hS.2.2 dL_digest_198 hlk
      · exact absurd (show nI I ≤ nI I from nI_le (Nat.le_refl _) (by omega)) c_3
    | succ k ih =>
      intro j hv q H locs ls hZ hS hl
      refine lv_iload_n hx hb dL_digest_122 rfl (lv_at hl 2 rfl) ?_
      refine lv_aload_n hx hb dL_digest_123 rfl (lv_at hl 0 rfl) ?_
      refine lv_bipush (v := 6) hx hb dL_digest_124 (by decide) ?_
      refine z_cVi (As := [.int 6]) (rest := [.int (nI j)]) hx hb hml hown hts hl hK hZ hS (L_cntI l G (zr μ 242 q) (μ 1) hh (zr_at rfl (by decide)) (zr_at hfh (by decide)) T I o z hT hI hT6 hI24 ho hz ho4 hz4) (z_G q294 q295 q296 q1 q297) hdX6_count ⟨Nat.le_of_ble_eq_true rfl, Nat.le_of_ble_eq_true rfl⟩ zk0 (by decide) rfl rfl rfl rfl (Nat.le_of_ble_eq_true rfl) dL_digest_126 ⟨(Nat.zero_le _), (Nat.zero_le _)⟩ (fun H locs hZ hS => ?_)
      refine lv_icmp_ge (tgt := 197) hx hb dL_digest_129 (by decide) (fun c_4 => ?_) (fun c_4 => ?_)
      · exact absurd (show nI I ≤ nI j from c_4) (nI_ge (by omega) (by omega))
      · refine lv_iconst (v := 0) hx hb dL_digest_132 (by decide) ?_
        refine lv_istore (lv' := [(4, .int 0), (0, .ref (G.1 + 0)), (1, .long (d_itms μ (μ 1) (d_tens μ (μ 1) I (d_cnt μ (μ 1) T I (d_0 (μ 1)) 12) T) j)), (3, .int (nI j))]) hx hb dL_digest_133 hl (by decide) rfl (fun ls hl => ?_)
        refine inI j (by omega) (d_itms μ (μ 1) (d_tens μ (μ 1) I (d_cnt μ (μ 1) T I (d_0 (μ 1)) 12) T) j) (fun q H locs ls hZ hS hl => ?_) 11 0 (by omega) _ _ _ _ hZ hS (lv_sub hl [1, 2, 3, 0] rfl)
        refine lv_ldc2 hx hb hown (hts _ q323) dL_digest_163 ?_
        refine lv_ldc2 hx hb hown (hts _ q323) dL_digest_166 ?_
        refine lv_lload_n hx hb dL_digest_169 rfl (lv_at hl 1 rfl) ?_
        refine lv_lmul hx hb dL_digest_170 ?_
        refine lv_aload_n hx hb dL_digest_171 rfl (lv_at hl 0 rfl) ?_
        refine lv_iload_n hx hb dL_digest_172 rfl (lv_at hl 2 rfl) ?_
        refine z_cVf (As := [.int (nI j)]) (rest := [.long (31 * (d_itm (μ (1 + (15 + j))) (μ 1) (z_home μ (μ (1 + (15 + j)))) (d_itms μ (μ 1) (d_tens μ (μ 1) I (d_cnt μ (μ 1) T I (d_0 (μ 1)) 12) T) j) 11)), .long 31]) hx hb hml hown hts hl hK hZ hS (c_X6_weight l G (zr μ 242 q) (μ 1) (zr_at rfl (by decide)) T I hT hI hT6 hI24 j (by omega) (μ (1 + (15 + j))) (zr_ne (by omega))) (z_G q425 q426 q427 q1 q428) hdX6_weight ⟨Nat.le_of_ble_eq_true rfl, Nat.le_of_ble_eq_true rfl⟩ zk0 (by decide) rfl rfl rfl rfl (Nat.le_of_ble_eq_true rfl) dL_digest_173 ⟨(Nat.zero_le _), (Nat.zero_le _)⟩ (fun H locs hZ hS => ?_)
        refine lv_ldcf hx hb hown (hts _ q431) dL_digest_176 ?_
        refine lv_fmul hx hb dL_digest_178 ((fk_mul (fk_weight _) fk_1e6 (by decide) (by decide)).n (by decide)) ?_
        refine lv_f2i hx hb dL_digest_179 ?_
        refine lv_i2l hx hb dL_digest_180 rfl ?_
        refine lv_ladd hx hb dL_digest_181 ?_
        refine lv_lmul hx hb dL_digest_182 ?_
        refine lv_aload_n hx hb dL_digest_183 rfl (lv_at hl 0 rfl) ?_
        refine lv_iload_n hx hb dL_digest_184 rfl (lv_at hl 2 rfl) ?_
        refine z_cVi (As := [.int (nI j)]) (rest := [.long (31 * ((31 * (d_itm (μ (1 + (15 + j))) (μ 1) (z_home μ (μ (1 + (15 + j)))) (d_itms μ (μ 1) (d_tens μ (μ 1) I (d_cnt μ (μ 1) T I (d_0 (μ 1)) 12) T) j) 11)) + (Int32.toInt64 (FP.f2i (FP.fmul (s_X3_landlordWeight (μ (1 + (15 + j)))) 1232348160)))))]) hx hb hml hown hts hl hK hZ hS (c_X6_reason l G (zr μ 242 q) (μ 1) (zr_at rfl (by decide)) T I hT hI hT6 hI24 j (by omega) (μ (1 + (15 + j))) (zr_ne (by omega))) (z_G q432 q433 q434 q1 q435) hdX6_reason ⟨Nat.le_of_ble_eq_true rfl, Nat.le_of_ble_eq_true rfl⟩ zk0 (by decide) rfl rfl rfl rfl (Nat.le_of_ble_eq_true rfl) dL_digest_185 ⟨(Nat.zero_le _), (Nat.zero_le _)⟩ (fun H locs hZ hS => ?_)
        refine lv_i2l hx hb dL_digest_188 rfl ?_
        refine lv_ladd hx hb dL_digest_189 ?_
        refine lv_lstore_n (lv' := [(1, .long ((31 * ((31 * (d_itm (μ (1 + (15 + j))) (μ 1) (z_home μ (μ (1 + (15 + j)))) (d_itms μ (μ 1) (d_tens μ (μ 1) I (d_cnt μ (μ 1) T I (d_0 (μ 1)) 12) T) j) 11)) + (Int32.toInt64 (FP.f2i (FP.fmul (s_X3_landlordWeight (μ (1 + (15 + j)))) 1232348160))))) + (Int32.toInt64 (s_rsn (μ (1 + (15 + j))))))), (0, .ref (G.1 + 0)), (3, .int (nI j))]) hx hb dL_digest_190 rfl hl (by decide) rfl (fun ls hl => ?_)
        refine lv_iinc (v := (nI (j + 1))) (lv' := [(3, .int (nI (j + 1))), (1, .long ((31 * ((31 * (d_itm (μ (1 + (15 + j))) (μ 1) (z_home μ (μ (1 + (15 + j)))) (d_itms μ (μ 1) (d_tens μ (μ 1) I (d_cnt μ (μ 1) T I (d_0 (μ 1)) 12) T) j) 11)) + (Int32.toInt64 (FP.f2i (FP.fmul (s_X3_landlordWeight (μ (1 + (15 + j)))) 1232348160))))) + (Int32.toInt64 (s_rsn (μ (1 + (15 + j))))))), (0, .ref (G.1 + 0))]) hx hb dL_digest_191 hl (k := 2) rfl (nI_1 _) (by decide) rfl (fun ls hl => ?_)
        refine lv_goto (tgt := 122) hx hb dL_digest_194 (by decide) ?_
        exact ih (j + 1) (by omega) _ _ _ _ hZ hS (lv_sub hl [2, 1, 0] rfl)
  have inO : ∀ (t : Nat), t < T → ∀ (h0 : Int64), (∀ (q : Nat → Int32) (H : Heap) (locs : List Loc) (ls : Array Slot), zW G (zr μ 242 q) H → va_S (zA G) s.heap H locs → lv_has ls 5 [(0, .ref (G.1 + 0)), (1, .long (d_oc μ (μ 1) (μ (1 + (3 + 2 * t))) (μ (1 + (3 + 2 * t) + 1)) t I h0 6)), (3, .int (nI t))] → W p l e { frames := 6, cells := 0, slots := 0, locals := 138 } s m args below meth c H locs 0 0 (MQ below (zQlP G (z_D μ T I) (P242 μ)) args s 0 0 (zA G)) (F0 m 114 ls [])) → ∀ (k w : Nat), w + k = 6 → (∀ (q : Nat → Int32) (H : Heap) (locs : List Loc) (ls : Array Slot), zW G (zr μ 242 q) H → va_S (zA G) s.heap H locs → lv_has ls 5 [(0, .ref (G.1 + 0)), (1, .long (d_oc μ (μ 1) (μ (1 + (3 + 2 * t))) (μ (1 + (3 + 2 * t) + 1)) t I h0 w)), (3, .int (nI t)), (4, .int (nI w))] → W p l e { frames := 6, cells := 0, slots := 0, locals := 138 } s m args below meth c H locs 0 0 (MQ below (zQlP G (z_D μ T I) (P242 μ)) args s 0 0 (zA G)) (F0 m 86 ls [])) := by
    intro t htt h0 kont k
    induction k with
    | zero =>
      intro w hv q H locs ls hZ hS hl
      have hv : w = 6 := by omega
      subst hv
      refine lv_iload hx hb dL_digest_86 (lv_at hl 3 rfl) ?_
      refine lv_bipush (v := 6) hx hb dL_digest_88 (by decide) ?_
      refine lv_icmp_ge (tgt := 114) hx hb dL_digest_90 (by decide) (fun c_5 => ?_) (fun c_5 => ?_)
      · exact kont _ _ _ _ hZ hS (lv_sub hl [0, 1, 2] rfl)
      · exact absurd (show nI 6 ≤ nI 6 from nI_le (Nat.le_refl _) (by omega)) c_5
    | succ k ih =>
      intro w hv q H locs ls hZ hS hl
      refine lv_iload hx hb dL_digest_86 (lv_at hl 3 rfl) ?_
      refine lv_bipush (v := 6) hx hb dL_digest_88 (by decide) ?_
      refine lv_icmp_ge (tgt := 114) hx hb dL_digest_90 (by decide) (fun c_6 => ?_) (fun c_6 => ?_)
      · exact absurd (show nI 6 ≤ nI w from c_6) (nI_ge (by omega) (by omega))
      · refine lv_ldc2 hx hb hown (hts _ q323) dL_digest_93 ?_
        refine lv_lload_n hx hb dL_digest_96 rfl (lv_at hl 1 rfl) ?_
        refine lv_lmul hx hb dL_digest_97 ?_
        refine lv_aload_n hx hb dL_digest_98 rfl (lv_at hl 0 rfl) ?_
        refine lv_iload_n hx hb dL_digest_99 rfl (lv_at hl 2 rfl) ?_
        refine lv_iload hx hb dL_digest_100 (lv_at hl 3 rfl) ?_
        refine z_cVi (As := [.int (nI t), .int (nI w)]) (rest := [.long (31 * (d_oc μ (μ 1) (μ (1 + (3 + 2 * t))) (μ (1 + (3 + 2 * t) + 1)) t I h0 w))]) hx hb hml hown hts hl hK hZ hS (c_X6_outcome l G (zr μ 242 q) (μ 1) (zr_at rfl (by decide)) T I hT hI hT6 hI24 t htt (μ (1 + (3 + 2 * t))) (zr_ne (by omega)) (μ (1 + (3 + 2 * t) + 1)) (zr_ne (by omega)) hr8 w (by omega)) (z_G q354 q355 q356 q1 q357) hdX6_outcome ⟨Nat.le_of_ble_eq_true rfl, Nat.le_of_ble_eq_true rfl⟩ zk0 (by decide) rfl rfl rfl rfl (Nat.le_of_ble_eq_true rfl) dL_digest_102 ⟨(Nat.zero_le _), (Nat.zero_le _)⟩ (fun H locs hZ hS => ?_)
        obtain ⟨q2, hq2⟩ := m_oc_242 (μ := μ) (fb := μ 1) (g := (μ (1 + (3 + 2 * t)))) (t := t) (I := I) q
        rw [hq2] at hZ
        rw [s_oc_cg (eqv_242 (T := T) hT6 hI24)]
        refine lv_i2l hx hb dL_digest_105 rfl ?_
        refine lv_ladd hx hb dL_digest_106 ?_
        refine lv_lstore_n (lv' := [(1, .long ((31 * (d_oc μ (μ 1) (μ (1 + (3 + 2 * t))) (μ (1 + (3 + 2 * t) + 1)) t I h0 w)) + (Int32.toInt64 (s_oc μ (μ 1) (μ (1 + (3 + 2 * t))) (μ (1 + (3 + 2 * t) + 1)) t I w)))), (0, .ref (G.1 + 0)), (3, .int (nI t)), (4, .int (nI w))]) hx hb dL_digest_107 rfl hl (by decide) rfl (fun ls hl => ?_)
        refine lv_iinc (v := (nI (w + 1))) (lv' := [(4, .int (nI (w + 1))), (1, .long ((31 * (d_oc μ (μ 1) (μ (1 + (3 + 2 * t))) (μ (1 + (3 + 2 * t) + 1)) t I h0 w)) + (Int32.toInt64 (s_oc μ (μ 1) (μ (1 + (3 + 2 * t))) (μ (1 + (3 + 2 * t) + 1)) t I w)))), (0, .ref (G.1 + 0)), (3, .int (nI t))]) hx hb dL_digest_108 hl (k := 3) rfl (nI_1 _) (by decide) rfl (fun ls hl => ?_)
        refine lv_goto (tgt := 86) hx hb dL_digest_111 (by decide) ?_
        exact ih (w + 1) (by omega) _ _ _ _ hZ hS (lv_sub hl [2, 1, 3, 0] rfl)
  have inT : ∀ (t : Nat), t < T → ∀ (h0 : Int64), (∀ (q : Nat → Int32) (H : Heap) (locs : List Loc) (ls : Array Slot), zW G (zr μ 242 q) H → va_S (zA G) s.heap H locs → lv_has ls 5 [(0, .ref (G.1 + 0)), (1, .long (d_ten μ (μ 1) (μ (1 + (3 + 2 * t))) t I h0 10)), (3, .int (nI t))] → W p l e { frames := 6, cells := 0, slots := 0, locals := 138 } s m args below meth c H locs 0 0 (MQ below (zQlP G (z_D μ T I) (P242 μ)) args s 0 0 (zA G)) (F0 m 83 ls [])) → ∀ (k w : Nat), w + k = 10 → (∀ (q : Nat → Int32) (H : Heap) (locs : List Loc) (ls : Array Slot), zW G (zr μ 242 q) H → va_S (zA G) s.heap H locs → lv_has ls 5 [(0, .ref (G.1 + 0)), (1, .long (d_ten μ (μ 1) (μ (1 + (3 + 2 * t))) t I h0 w)), (3, .int (nI t)), (4, .int (nI w))] → W p l e { frames := 6, cells := 0, slots := 0, locals := 138 } s m args below meth c H locs 0 0 (MQ below (zQlP G (z_D μ T I) (P242 μ)) args s 0 0 (zA G)) (F0 m 55 ls [])) := by
    intro t htt h0 kont k
    induction k with
    | zero =>
      intro w hv q H locs ls hZ hS hl
      have hv : w = 10 := by omega
      subst hv
      refine lv_iload hx hb dL_digest_55 (lv_at hl 3 rfl) ?_
      refine lv_bipush (v := 10) hx hb dL_digest_57 (by decide) ?_
      refine lv_icmp_ge (tgt := 83) hx hb dL_digest_59 (by decide) (fun c_7 => ?_) (fun c_7 => ?_)
      · exact kont _ _ _ _ hZ hS (lv_sub hl [0, 1, 2] rfl)
      · exact absurd (show nI 10 ≤ nI 10 from nI_le (Nat.le_refl _) (by omega)) c_7
    | succ k ih =>
      intro w hv q H locs ls hZ hS hl
      refine lv_iload hx hb dL_digest_55 (lv_at hl 3 rfl) ?_
      refine lv_bipush (v := 10) hx hb dL_digest_57 (by decide) ?_
      refine lv_icmp_ge (tgt := 83) hx hb dL_digest_59 (by decide) (fun c_8 => ?_) (fun c_8 => ?_)
      · exact absurd (show nI 10 ≤ nI w from c_8) (nI_ge (by omega) (by omega))
      · refine lv_ldc2 hx hb hown (hts _ q323) dL_digest_62 ?_
        refine lv_lload_n hx hb dL_digest_65 rfl (lv_at hl 1 rfl) ?_
        refine lv_lmul hx hb dL_digest_66 ?_
        refine lv_aload_n hx hb dL_digest_67 rfl (lv_at hl 0 rfl) ?_
        refine lv_iload_n hx hb dL_digest_68 rfl (lv_at hl 2 rfl) ?_
        refine lv_iload hx hb dL_digest_69 (lv_at hl 3 rfl) ?_
        refine z_cVi (As := [.int (nI t), .int (nI w)]) (rest := [.long (31 * (d_ten μ (μ 1) (μ (1 + (3 + 2 * t))) t I h0 w))]) hx hb hml hown hts hl hK hZ hS (c_X6_tenancy l G (zr μ 242 q) (μ 1) (zr_at rfl (by decide)) T I hT hI hT6 hI24 t htt (μ (1 + (3 + 2 * t))) (zr_ne (by omega)) hr8 w (by omega)) (z_G q324 q325 q326 q1 q327) hdX6_tenancy ⟨Nat.le_of_ble_eq_true rfl, Nat.le_of_ble_eq_true rfl⟩ zk0 (by decide) rfl rfl rfl rfl (Nat.le_of_ble_eq_true rfl) dL_digest_71 ⟨(Nat.zero_le _), (Nat.zero_le _)⟩ (fun H locs hZ hS => ?_)
        rw [s_ten_cg (eqv_242 (T := T) hT6 hI24)]
        refine lv_i2l hx hb dL_digest_74 rfl ?_
        refine lv_ladd hx hb dL_digest_75 ?_
        refine lv_lstore_n (lv' := [(1, .long ((31 * (d_ten μ (μ 1) (μ (1 + (3 + 2 * t))) t I h0 w)) + (Int32.toInt64 (s_ten μ (μ 1) (μ (1 + (3 + 2 * t))) t I w)))), (0, .ref (G.1 + 0)), (3, .int (nI t)), (4, .int (nI w))]) hx hb dL_digest_76 rfl hl (by decide) rfl (fun ls hl => ?_)
        refine lv_iinc (v := (nI (w + 1))) (lv' := [(4, .int (nI (w + 1))), (1, .long ((31 * (d_ten μ (μ 1) (μ (1 + (3 + 2 * t))) t I h0 w)) + (Int32.toInt64 (s_ten μ (μ 1) (μ (1 + (3 + 2 * t))) t I w)))), (0, .ref (G.1 + 0)), (3, .int (nI t))]) hx hb dL_digest_77 hl (k := 3) rfl (nI_1 _) (by decide) rfl (fun ls hl => ?_)
        refine lv_goto (tgt := 55) hx hb dL_digest_80 (by decide) ?_
        exact ih (w + 1) (by omega) _ _ _ _ hZ hS (lv_sub hl [2, 1, 3, 0] rfl)
  have tens : ∀ (k t : Nat), t + k = T → (∀ (q : Nat → Int32) (H : Heap) (locs : List Loc) (ls : Array Slot), zW G (zr μ 242 q) H → va_S (zA G) s.heap H locs → lv_has ls 5 [(0, .ref (G.1 + 0)), (1, .long (d_tens μ (μ 1) I (d_cnt μ (μ 1) T I (d_0 (μ 1)) 12) t)), (3, .int (nI t))] → W p l e { frames := 6, cells := 0, slots := 0, locals := 138 } s m args below meth c H locs 0 0 (MQ below (zQlP G (z_D μ T I) (P242 μ)) args s 0 0 (zA G)) (F0 m 43 ls [])) := by
    intro  k
    induction k with
    | zero =>
      intro t hv q H locs ls hZ hS hl
      have hv : T = t := by omega
      subst hv
      refine lv_iload_n hx hb dL_digest_43 rfl (lv_at hl 2 rfl) ?_
      refine lv_aload_n hx hb dL_digest_44 rfl (lv_at hl 0 rfl) ?_
      refine lv_iconst (v := 1) hx hb dL_digest_45 (by decide) ?_
      refine z_cVi (As := [.int 1]) (rest := [.int (nI T)]) hx hb hml hown hts hl hK hZ hS (L_cntT l G (zr μ 242 q) (μ 1) hh (zr_at rfl (by decide)) (zr_at hfh (by decide)) T I o z hT hI hT6 hI24 ho hz ho4 hz4) (z_G q294 q295 q296 q1 q297) hdX6_count ⟨Nat.le_of_ble_eq_true rfl, Nat.le_of_ble_eq_true rfl⟩ zk0 (by decide) rfl rfl rfl rfl (Nat.le_of_ble_eq_true rfl) dL_digest_46 ⟨(Nat.zero_le _), (Nat.zero_le _)⟩ (fun H locs hZ hS => ?_)
      refine lv_icmp_ge (tgt := 120) hx hb dL_digest_49 (by decide) (fun c_9 => ?_) (fun c_9 => ?_)
      · refine lv_iconst (v := 0) hx hb dL_digest_120 (by decide) ?_
        refine lv_istore_n (lv' := [(3, .int 0), (0, .ref (G.1 + 0)), (1, .long (d_tens μ (μ 1) I (d_cnt μ (μ 1) T I (d_0 (μ 1)) 12) T))]) hx hb dL_digest_121 rfl hl (by decide) rfl (fun ls hl => ?_)
        exact itms I 0 (by omega) _ _ _ _ hZ hS (lv_sub hl [1, 2, 0] rfl)
      · exact absurd (show nI T ≤ nI T from nI_le (Nat.le_refl _) (by omega)) c_9
    | succ k ih =>
      intro t hv q H locs ls hZ hS hl
      refine lv_iload_n hx hb dL_digest_43 rfl (lv_at hl 2 rfl) ?_
      refine lv_aload_n hx hb dL_digest_44 rfl (lv_at hl 0 rfl) ?_
      refine lv_iconst (v := 1) hx hb dL_digest_45 (by decide) ?_
      refine z_cVi (As := [.int 1]) (rest := [.int (nI t)]) hx hb hml hown hts hl hK hZ hS (L_cntT l G (zr μ 242 q) (μ 1) hh (zr_at rfl (by decide)) (zr_at hfh (by decide)) T I o z hT hI hT6 hI24 ho hz ho4 hz4) (z_G q294 q295 q296 q1 q297) hdX6_count ⟨Nat.le_of_ble_eq_true rfl, Nat.le_of_ble_eq_true rfl⟩ zk0 (by decide) rfl rfl rfl rfl (Nat.le_of_ble_eq_true rfl) dL_digest_46 ⟨(Nat.zero_le _), (Nat.zero_le _)⟩ (fun H locs hZ hS => ?_)
      refine lv_icmp_ge (tgt := 120) hx hb dL_digest_49 (by decide) (fun c_10 => ?_) (fun c_10 => ?_)
      · exact absurd (show nI T ≤ nI t from c_10) (nI_ge (by omega) (by omega))
      · refine lv_iconst (v := 0) hx hb dL_digest_52 (by decide) ?_
        refine lv_istore (lv' := [(4, .int 0), (0, .ref (G.1 + 0)), (1, .long (d_tens μ (μ 1) I (d_cnt μ (μ 1) T I (d_0 (μ 1)) 12) t)), (3, .int (nI t))]) hx hb dL_digest_53 hl (by decide) rfl (fun ls hl => ?_)
        refine inT t (by omega) (d_tens μ (μ 1) I (d_cnt μ (μ 1) T I (d_0 (μ 1)) 12) t) (fun q H locs ls hZ hS hl => ?_) 10 0 (by omega) _ _ _ _ hZ hS (lv_sub hl [1, 2, 3, 0] rfl)
        refine lv_iconst (v := 0) hx hb dL_digest_83 (by decide) ?_
        refine lv_istore (lv' := [(4, .int 0), (0, .ref (G.1 + 0)), (1, .long (d_ten μ (μ 1) (μ (1 + (3 + 2 * t))) t I (d_tens μ (μ 1) I (d_cnt μ (μ 1) T I (d_0 (μ 1)) 12) t) 10)), (3, .int (nI t))]) hx hb dL_digest_84 hl (by decide) rfl (fun ls hl => ?_)
        refine inO t (by omega) (d_ten μ (μ 1) (μ (1 + (3 + 2 * t))) t I (d_tens μ (μ 1) I (d_cnt μ (μ 1) T I (d_0 (μ 1)) 12) t) 10) (fun q H locs ls hZ hS hl => ?_) 6 0 (by omega) _ _ _ _ hZ hS (lv_sub hl [1, 2, 3, 0] rfl)
        refine lv_iinc (v := (nI (t + 1))) (lv' := [(3, .int (nI (t + 1))), (0, .ref (G.1 + 0)), (1, .long (d_oc μ (μ 1) (μ (1 + (3 + 2 * t))) (μ (1 + (3 + 2 * t) + 1)) t I (d_ten μ (μ 1) (μ (1 + (3 + 2 * t))) t I (d_tens μ (μ 1) I (d_cnt μ (μ 1) T I (d_0 (μ 1)) 12) t) 10) 6))]) hx hb dL_digest_114 hl (k := 2) rfl (nI_1 _) (by decide) rfl (fun ls hl => ?_)
        refine lv_goto (tgt := 43) hx hb dL_digest_117 (by decide) ?_
        exact ih (t + 1) (by omega) _ _ _ _ hZ hS (lv_sub hl [1, 2, 0] rfl)
  have cnts : ∀ (k w : Nat), w + k = 12 → (∀ (q : Nat → Int32) (H : Heap) (locs : List Loc) (ls : Array Slot), zW G (zr μ 242 q) H → va_S (zA G) s.heap H locs → lv_has ls 5 [(0, .ref (G.1 + 0)), (1, .long (d_cnt μ (μ 1) T I (d_0 (μ 1)) w)), (3, .int (nI w))] → W p l e { frames := 6, cells := 0, slots := 0, locals := 138 } s m args below meth c H locs 0 0 (MQ below (zQlP G (z_D μ T I) (P242 μ)) args s 0 0 (zA G)) (F0 m 16 ls [])) := by
    intro  k
    induction k with
    | zero =>
      intro w hv q H locs ls hZ hS hl
      have hv : w = 12 := by omega
      subst hv
      refine lv_iload_n hx hb dL_digest_16 rfl (lv_at hl 2 rfl) ?_
      refine lv_bipush (v := 12) hx hb dL_digest_17 (by decide) ?_
      refine lv_icmp_ge (tgt := 41) hx hb dL_digest_19 (by decide) (fun c_11 => ?_) (fun c_11 => ?_)
      · refine lv_iconst (v := 0) hx hb dL_digest_41 (by decide) ?_
        refine lv_istore_n (lv' := [(3, .int 0), (0, .ref (G.1 + 0)), (1, .long (d_cnt μ (μ 1) T I (d_0 (μ 1)) 12))]) hx hb dL_digest_42 rfl hl (by decide) rfl (fun ls hl => ?_)
        exact tens T 0 (by omega) _ _ _ _ hZ hS (lv_sub hl [1, 2, 0] rfl)
      · exact absurd (show nI 12 ≤ nI 12 from nI_le (Nat.le_refl _) (by omega)) c_11
    | succ k ih =>
      intro w hv q H locs ls hZ hS hl
      refine lv_iload_n hx hb dL_digest_16 rfl (lv_at hl 2 rfl) ?_
      refine lv_bipush (v := 12) hx hb dL_digest_17 (by decide) ?_
      refine lv_icmp_ge (tgt := 41) hx hb dL_digest_19 (by decide) (fun c_12 => ?_) (fun c_12 => ?_)
      · exact absurd (show nI 12 ≤ nI w from c_12) (nI_ge (by omega) (by omega))
      · refine lv_ldc2 hx hb hown (hts _ q323) dL_digest_22 ?_
        refine lv_lload_n hx hb dL_digest_25 rfl (lv_at hl 1 rfl) ?_
        refine lv_lmul hx hb dL_digest_26 ?_
        refine lv_aload_n hx hb dL_digest_27 rfl (lv_at hl 0 rfl) ?_
        refine lv_iload_n hx hb dL_digest_28 rfl (lv_at hl 2 rfl) ?_
        refine z_cVi (As := [.int (nI w)]) (rest := [.long (31 * (d_cnt μ (μ 1) T I (d_0 (μ 1)) w))]) hx hb hml hown hts hl hK hZ hS (c_X6_count l G (zr μ 242 q) (μ 1) hh (zr_at rfl (by decide)) (zr_at hfh (by decide)) T I o z hT hI hT6 hI24 ho hz ho4 hz4 w (by omega)) (z_G q294 q295 q296 q1 q297) hdX6_count ⟨Nat.le_of_ble_eq_true rfl, Nat.le_of_ble_eq_true rfl⟩ zk0 (by decide) rfl rfl rfl rfl (Nat.le_of_ble_eq_true rfl) dL_digest_29 ⟨(Nat.zero_le _), (Nat.zero_le _)⟩ (fun H locs hZ hS => ?_)
        rw [s_cnt_cg (eqv_242 hT6 hI24), s_cnt_z (by omega)]
        refine lv_i2l hx hb dL_digest_32 rfl ?_
        refine lv_ladd hx hb dL_digest_33 ?_
        refine lv_lstore_n (lv' := [(1, .long ((31 * (d_cnt μ (μ 1) T I (d_0 (μ 1)) w)) + (Int32.toInt64 (s_cnt μ (μ 1) T I 0 w)))), (0, .ref (G.1 + 0)), (3, .int (nI w))]) hx hb dL_digest_34 rfl hl (by decide) rfl (fun ls hl => ?_)
        refine lv_iinc (v := (nI (w + 1))) (lv' := [(3, .int (nI (w + 1))), (1, .long ((31 * (d_cnt μ (μ 1) T I (d_0 (μ 1)) w)) + (Int32.toInt64 (s_cnt μ (μ 1) T I 0 w)))), (0, .ref (G.1 + 0))]) hx hb dL_digest_35 hl (k := 2) rfl (nI_1 _) (by decide) rfl (fun ls hl => ?_)
        refine lv_goto (tgt := 16) hx hb dL_digest_38 (by decide) ?_
        exact ih (w + 1) (by omega) _ _ _ _ hZ hS (lv_sub hl [2, 1, 0] rfl)
  refine lv_ldc2 hx hb hown (hts _ q317) dL_digest_0 ?_
  refine lv_aload_n hx hb dL_digest_3 rfl (lv_at hl 0 rfl) ?_
  refine z_cVf (As := []) (rest := [.long 93]) hx hb hml hown hts hl hK hZ hS (c_X6_rate l G (zr μ 242 q) (μ 1) (zr_at rfl (by decide))) (z_G q318 q319 q320 q1 q321) hdX6_rate ⟨Nat.le_of_ble_eq_true rfl, Nat.le_of_ble_eq_true rfl⟩ zk0 (by decide) rfl rfl rfl rfl (Nat.le_of_ble_eq_true rfl) dL_digest_4 ⟨(Nat.zero_le _), (Nat.zero_le _)⟩ (fun H locs hZ hS => ?_)
  refine lv_ldcf hx hb hown (hts _ q322) dL_digest_7 ?_
  refine lv_fmul hx hb dL_digest_9 ((fk_mul hr8 fk_1e9 (by decide) (by decide)).n (by decide)) ?_
  refine lv_f2i hx hb dL_digest_10 ?_
  refine lv_i2l hx hb dL_digest_11 rfl ?_
  refine lv_ladd hx hb dL_digest_12 ?_
  refine lv_lstore_n (lv' := [(1, .long (93 + (Int32.toInt64 (FP.f2i (FP.fmul (Int32.toUInt32 ((μ 1) 2)) 1315859240))))), (0, .ref (G.1 + 0))]) hx hb dL_digest_13 rfl hl (by decide) rfl (fun ls hl => ?_)
  refine lv_iconst (v := 0) hx hb dL_digest_14 (by decide) ?_
  refine lv_istore_n (lv' := [(3, .int 0), (1, .long (93 + (Int32.toInt64 (FP.f2i (FP.fmul (Int32.toUInt32 ((μ 1) 2)) 1315859240))))), (0, .ref (G.1 + 0))]) hx hb dL_digest_15 rfl hl (by decide) rfl (fun ls hl => ?_)
  exact cnts 12 0 (by omega) _ _ _ _ hZ hS (lv_sub hl [2, 1, 0] rfl)
end
section
def s_sts (μ : zM) : Nat → Int32
  | 0 => 0
  | t + 1 => s_sts μ t + μ (1 + (3 + 2 * t)) 2
theorem cls_out {μ : zM} {w t : Nat} (h : ¬ μ (1 + (3 + 2 * t)) 2 = 3) : s_cls μ w t + 0 = s_cls μ w (t + 1) := by
  rw [Int32.add_zero]
  exact (if_neg h).symm
theorem oc_3 {μ : zM} {fb g gs : Nat → Int32} {t I w : Nat} (h : g 2 = 3) : s_oc μ fb g gs t I w = s_X4_fact gs w := by
  unfold s_oc
  rw [if_neg (by rw [h]; decide), if_pos h]
theorem cls_8 {μ : zM} {fb : Nat → Int32} {I t : Nat} (h : μ (1 + (3 + 2 * t)) 2 = 3) : s_cls μ 8 t + s_oc μ fb (μ (1 + (3 + 2 * t))) (μ (1 + (3 + 2 * t) + 1)) t I 0 = s_cls μ 8 (t + 1) := by rw [oc_3 h]; exact (if_pos h).symm
theorem cls_9 {μ : zM} {fb : Nat → Int32} {I t : Nat} (h : μ (1 + (3 + 2 * t)) 2 = 3) : s_cls μ 9 t + s_oc μ fb (μ (1 + (3 + 2 * t))) (μ (1 + (3 + 2 * t) + 1)) t I 1 = s_cls μ 9 (t + 1) := by rw [oc_3 h]; exact (if_pos h).symm
theorem cls_10 {μ : zM} {fb : Nat → Int32} {I t : Nat} (h : μ (1 + (3 + 2 * t)) 2 = 3) : s_cls μ 10 t + (s_oc μ fb (μ (1 + (3 + 2 * t))) (μ (1 + (3 + 2 * t) + 1)) t I 2 + s_oc μ fb (μ (1 + (3 + 2 * t))) (μ (1 + (3 + 2 * t) + 1)) t I 3) = s_cls μ 10 (t + 1) := by rw [oc_3 h, oc_3 h]; exact (if_pos h).symm
theorem cls_11 {μ : zM} {fb : Nat → Int32} {I t : Nat} (h : μ (1 + (3 + 2 * t)) 2 = 3) : s_cls μ 11 t + s_oc μ fb (μ (1 + (3 + 2 * t))) (μ (1 + (3 + 2 * t) + 1)) t I 4 = s_cls μ 11 (t + 1) := by rw [oc_3 h]; exact (if_pos h).symm
theorem hdL_holds : yL_holds.cls = RL ∧ yL_holds.cls ≠ "java/lang/invoke/MethodHandle" ∧ yL_holds.cls ≠ "java/lang/invoke/VarHandle" ∧ (parseMethodDescriptor yL_holds.desc).map (fun d => d.parameters.length) = some 1 := by decide +kernel
set_option maxHeartbeats 8000000 in
set_option maxRecDepth 100000 in
theorem c_L_holds (l : Launch) (G : zG) (μ : zM) (fb hh : Nat → Int32) (hfb : μ 1 = fb) (hfh : μ 79 = hh) (T I o z : Nat) (hT : fb 3 = nI T) (hI : fb 4 = nI I) (hT6 : T ≤ 6) (hI24 : I ≤ 24) (ho : hh 1 = nI o) (hz : hh 2 = nI z) (ho4 : o < 4) (hz4 : z ≤ 4) (hr8 : fK 125 (Int32.toUInt32 (fb 2))) (hhm : z_homes μ T I) (hA8 : ∀ t, t < T → ¬ s_ten μ fb (μ (1 + (3 + 2 * t))) t I 2 ≤ 0 → (s_oc μ fb (μ (1 + (3 + 2 * t))) (μ (1 + (3 + 2 * t) + 1)) t I 0 + s_oc μ fb (μ (1 + (3 + 2 * t))) (μ (1 + (3 + 2 * t) + 1)) t I 1 + s_oc μ fb (μ (1 + (3 + 2 * t))) (μ (1 + (3 + 2 * t) + 1)) t I 2 = s_oc μ fb (μ (1 + (3 + 2 * t))) (μ (1 + (3 + 2 * t) + 1)) t I 5) ∧ (s_oc μ fb (μ (1 + (3 + 2 * t))) (μ (1 + (3 + 2 * t) + 1)) t I 0 + s_oc μ fb (μ (1 + (3 + 2 * t))) (μ (1 + (3 + 2 * t) + 1)) t I 1 + s_oc μ fb (μ (1 + (3 + 2 * t))) (μ (1 + (3 + 2 * t) + 1)) t I 2 = s_ten μ fb (μ (1 + (3 + 2 * t))) t I 0 + s_ten μ fb (μ (1 + (3 + 2 * t))) t I 4) ∧ (s_oc μ fb (μ (1 + (3 + 2 * t))) (μ (1 + (3 + 2 * t) + 1)) t I 4 ≤ 0 ∨ ¬ 0 < s_oc μ fb (μ (1 + (3 + 2 * t))) (μ (1 + (3 + 2 * t) + 1)) t I 0) ∧ (¬ s_ten μ fb (μ (1 + (3 + 2 * t))) t I 2 = 3 → ¬ s_cnt μ fb T I z 7 < s_oc μ fb (μ (1 + (3 + 2 * t))) (μ (1 + (3 + 2 * t) + 1)) t I 2 + s_oc μ fb (μ (1 + (3 + 2 * t))) (μ (1 + (3 + 2 * t) + 1)) t I 3 ∧ (0 < s_ten μ fb (μ (1 + (3 + 2 * t))) t I 9 ∨ s_oc μ fb (μ (1 + (3 + 2 * t))) (μ (1 + (3 + 2 * t) + 1)) t I 2 + s_oc μ fb (μ (1 + (3 + 2 * t))) (μ (1 + (3 + 2 * t) + 1)) t I 3 = 0) ∧ (0 < s_oc μ fb (μ (1 + (3 + 2 * t))) (μ (1 + (3 + 2 * t) + 1)) t I 4 ∨ s_ten μ fb (μ (1 + (3 + 2 * t))) t I 9 = 0 ∨ s_oc μ fb (μ (1 + (3 + 2 * t))) (μ (1 + (3 + 2 * t) + 1)) t I 2 + s_oc μ fb (μ (1 + (3 + 2 * t))) (μ (1 + (3 + 2 * t) + 1)) t I 3 = s_cnt μ fb T I z 7))) (hB8 : ∀ j, j < I → (¬ s_itm (μ (1 + (15 + j))) fb (z_home μ (μ (1 + (15 + j)))) 7 < s_itm (μ (1 + (15 + j))) fb (z_home μ (μ (1 + (15 + j)))) 9) ∧ (¬ (z_home μ (μ (1 + (15 + j)))) 2 = 0 → (s_itm (μ (1 + (15 + j))) fb (z_home μ (μ (1 + (15 + j)))) 6 ≤ s_itm (μ (1 + (15 + j))) fb (z_home μ (μ (1 + (15 + j)))) 7 → ¬ s_itm (μ (1 + (15 + j))) fb (z_home μ (μ (1 + (15 + j)))) 9 < s_itm (μ (1 + (15 + j))) fb (z_home μ (μ (1 + (15 + j)))) 6) ∧ (¬ s_itm (μ (1 + (15 + j))) fb (z_home μ (μ (1 + (15 + j)))) 6 ≤ s_itm (μ (1 + (15 + j))) fb (z_home μ (μ (1 + (15 + j)))) 7 → ¬ s_itm (μ (1 + (15 + j))) fb (z_home μ (μ (1 + (15 + j)))) 9 < s_itm (μ (1 + (15 + j))) fb (z_home μ (μ (1 + (15 + j)))) 7) ∧ ¬ s_itm (μ (1 + (15 + j))) fb (z_home μ (μ (1 + (15 + j)))) 1 < s_itm (μ (1 + (15 + j))) fb (z_home μ (μ (1 + (15 + j)))) 6) ∧ (¬ Op.cmpValue (FP.fcmp (s_X3_restAfter (μ (1 + (15 + j))) (s_X1_daysOf fb (z_home μ (μ (1 + (15 + j)))))) FP.fconst0) CmpOp.g < 0) ∧ (¬ 0 < Op.cmpValue (FP.fcmp (s_X3_restAfter (μ (1 + (15 + j))) (s_X1_daysOf fb (z_home μ (μ (1 + (15 + j)))))) FP.fconst1) CmpOp.l) ∧ (¬ s_itm (μ (1 + (15 + j))) fb (z_home μ (μ (1 + (15 + j)))) 2 < s_itm (μ (1 + (15 + j))) fb (z_home μ (μ (1 + (15 + j)))) 3) ∧ (s_itm (μ (1 + (15 + j))) fb (z_home μ (μ (1 + (15 + j)))) 8 = 1 → s_itm (μ (1 + (15 + j))) fb (z_home μ (μ (1 + (15 + j)))) 9 = s_itm (μ (1 + (15 + j))) fb (z_home μ (μ (1 + (15 + j)))) 7)) (hC1 : s_sts μ T = s_cnt μ fb T I z 3 + 2 * s_cnt μ fb T I z 4 + 3 * s_cnt μ fb T I z 5) (hC2 : s_cnt μ fb T I z 2 + s_cnt μ fb T I z 3 + s_cnt μ fb T I z 4 + s_cnt μ fb T I z 5 = nI T) : zMet l G yL_holds cL_holds 12 (some .boolean) 6 138 [.ref (G.1 + 0)] μ (zQiP G 1 (P242 μ)) := by
  refine z_start (lv := [(0, .ref (G.1 + 0))]) (by decide) (Nat.le_of_ble_eq_true rfl) rfl ?_
  intro p e s m args below meth c ls hx hb hml hr hlk hts hown hK hZ hS hl
  have hown : s.vm.findClass RL = some m.cls := hown
  have hhome : ∀ j, j < I → (μ (1 + (15 + j)) 0).toNatClampNeg < T ∧ μ (1 + (15 + j)) 0 = nI (μ (1 + (15 + j)) 0).toNatClampNeg := by
    intro j hj
    obtain ⟨k, hk, ek⟩ := hhm j hj
    rw [ek, nI_clamp (by omega)]
    exact ⟨hk, rfl⟩
  obtain ⟨q, hq⟩ : ∃ q, μ = zr μ 242 q := ⟨μ 242, (zr_id rfl).symm⟩
  rw [hq] at hZ
  subst hfb
  have itms : ∀ (k j : Nat), j + k = I → (∀ (q : Nat → Int32) (H : Heap) (locs : List Loc) (ls : Array Slot), zW G (zr μ 242 q) H → va_S (zA G) s.heap H locs → lv_has ls 12 [(0, .ref (G.1 + 0)), (1, .int (s_cls μ 8 T)), (2, .int (s_cls μ 9 T)), (3, .int (s_cls μ 10 T)), (4, .int (s_cls μ 11 T)), (5, .int (s_sts μ T)), (6, .int (nI j))] → W p l e { frames := 6, cells := 0, slots := 0, locals := 138 } s m args below meth c H locs 0 0 (MQ below (zQiP G 1 (P242 μ)) args s 0 0 (zA G)) (F0 m 318 ls [])) := by
    intro k
    induction k with
    | zero =>
      intro j hv q H locs ls hZ hS hl
      have hv : I = j := by omega
      subst hv
      refine lv_iload hx hb dL_holds_318 (lv_at hl 6 rfl) ?_
      refine lv_aload_n hx hb dL_holds_320 rfl (lv_at hl 0 rfl) ?_
      refine lv_bipush (v := 6) hx hb dL_holds_321 (by decide) ?_
      refine z_cVi (As := [.int 6]) (rest := [.int (nI I)]) hx hb hml hown hts hl hK hZ hS (L_cntI l G (zr μ 242 q) (μ 1) hh (zr_at rfl (by decide)) (zr_at hfh (by decide)) T I o z hT hI hT6 hI24 ho hz ho4 hz4) (z_G q294 q295 q296 q1 q297) hdX6_count ⟨Nat.le_of_ble_eq_true rfl, Nat.le_of_ble_eq_true rfl⟩ zk0 (by decide) rfl rfl rfl rfl (Nat.le_of_ble_eq_true rfl) dL_holds_323 ⟨(Nat.zero_le _), (Nat.zero_le _)⟩ (fun H locs hZ hS => ?_)
      refine lv_icmp_ge (tgt := 490) hx hb dL_holds_326 (by decide) (fun c_1 => ?_) (fun c_1 => ?_)
      · refine lv_iload hx hb dL_holds_490 (lv_at hl 5 rfl) ?_
        refine lv_aload_n hx hb dL_holds_492 rfl (lv_at hl 0 rfl) ?_
        refine lv_iconst (v := 3) hx hb dL_holds_493 (by decide) ?_
        refine z_cVi (As := [.int 3]) (rest := [.int (s_sts μ T)]) hx hb hml hown hts hl hK hZ hS (c_X6_count l G (zr μ 242 q) (μ 1) hh (zr_at rfl (by decide)) (zr_at hfh (by decide)) T I o z hT hI hT6 hI24 ho hz ho4 hz4 3 (by omega)) (z_G q294 q295 q296 q1 q297) hdX6_count ⟨Nat.le_of_ble_eq_true rfl, Nat.le_of_ble_eq_true rfl⟩ zk0 (by decide) rfl rfl rfl rfl (Nat.le_of_ble_eq_true rfl) dL_holds_494 ⟨(Nat.zero_le _), (Nat.zero_le _)⟩ (fun H locs hZ hS => ?_)
        rw [s_cnt_cg (eqv_242 hT6 hI24)]
        refine lv_iconst (v := 2) hx hb dL_holds_497 (by decide) ?_
        refine lv_aload_n hx hb dL_holds_498 rfl (lv_at hl 0 rfl) ?_
        refine lv_iconst (v := 4) hx hb dL_holds_499 (by decide) ?_
        refine z_cVi (As := [.int 4]) (rest := [.int 2, .int (s_cnt μ (μ 1) T I z 3), .int (s_sts μ T)]) hx hb hml hown hts hl hK hZ hS (c_X6_count l G (zr μ 242 q) (μ 1) hh (zr_at rfl (by decide)) (zr_at hfh (by decide)) T I o z hT hI hT6 hI24 ho hz ho4 hz4 4 (by omega)) (z_G q294 q295 q296 q1 q297) hdX6_count ⟨Nat.le_of_ble_eq_true rfl, Nat.le_of_ble_eq_true rfl⟩ zk0 (by decide) rfl rfl rfl rfl (Nat.le_of_ble_eq_true rfl) dL_holds_500 ⟨(Nat.zero_le _), (Nat.zero_le _)⟩ (fun H locs hZ hS => ?_)
        rw [s_cnt_cg (eqv_242 hT6 hI24)]
        refine lv_imul hx hb dL_holds_503 ?_
        refine lv_iadd hx hb dL_holds_504 ?_
        refine lv_iconst (v := 3) hx hb dL_holds_505 (by decide) ?_
        refine lv_aload_n hx hb dL_holds_506 rfl (lv_at hl 0 rfl) ?_
        refine lv_iconst (v := 5) hx hb dL_holds_507 (by decide) ?_
        refine z_cVi (As := [.int 5]) (rest := [.int 3, .int ((s_cnt μ (μ 1) T I z 3) + (2 * (s_cnt μ (μ 1) T I z 4))), .int (s_sts μ T)]) hx hb hml hown hts hl hK hZ hS (c_X6_count l G (zr μ 242 q) (μ 1) hh (zr_at rfl (by decide)) (zr_at hfh (by decide)) T I o z hT hI hT6 hI24 ho hz ho4 hz4 5 (by omega)) (z_G q294 q295 q296 q1 q297) hdX6_count ⟨Nat.le_of_ble_eq_true rfl, Nat.le_of_ble_eq_true rfl⟩ zk0 (by decide) rfl rfl rfl rfl (Nat.le_of_ble_eq_true rfl) dL_holds_508 ⟨(Nat.zero_le _), (Nat.zero_le _)⟩ (fun H locs hZ hS => ?_)
        rw [s_cnt_cg (eqv_242 hT6 hI24)]
        refine lv_imul hx hb dL_holds_511 ?_
        refine lv_iadd hx hb dL_holds_512 ?_
        refine lv_icmp_ne (tgt := 551) hx hb dL_holds_513 (by decide) (fun c_2 => ?_) (fun c_2 => ?_)
        · exact absurd hC1 c_2
        · refine lv_aload_n hx hb dL_holds_516 rfl (lv_at hl 0 rfl) ?_
          refine lv_iconst (v := 2) hx hb dL_holds_517 (by decide) ?_
          refine z_cVi (As := [.int 2]) (rest := []) hx hb hml hown hts hl hK hZ hS (c_X6_count l G (zr μ 242 q) (μ 1) hh (zr_at rfl (by decide)) (zr_at hfh (by decide)) T I o z hT hI hT6 hI24 ho hz ho4 hz4 2 (by omega)) (z_G q294 q295 q296 q1 q297) hdX6_count ⟨Nat.le_of_ble_eq_true rfl, Nat.le_of_ble_eq_true rfl⟩ zk0 (by decide) rfl rfl rfl rfl (Nat.le_of_ble_eq_true rfl) dL_holds_518 ⟨(Nat.zero_le _), (Nat.zero_le _)⟩ (fun H locs hZ hS => ?_)
          rw [s_cnt_cg (eqv_242 hT6 hI24)]
          refine lv_aload_n hx hb dL_holds_521 rfl (lv_at hl 0 rfl) ?_
          refine lv_iconst (v := 3) hx hb dL_holds_522 (by decide) ?_
          refine z_cVi (As := [.int 3]) (rest := [.int (s_cnt μ (μ 1) T I z 2)]) hx hb hml hown hts hl hK hZ hS (c_X6_count l G (zr μ 242 q) (μ 1) hh (zr_at rfl (by decide)) (zr_at hfh (by decide)) T I o z hT hI hT6 hI24 ho hz ho4 hz4 3 (by omega)) (z_G q294 q295 q296 q1 q297) hdX6_count ⟨Nat.le_of_ble_eq_true rfl, Nat.le_of_ble_eq_true rfl⟩ zk0 (by decide) rfl rfl rfl rfl (Nat.le_of_ble_eq_true rfl) dL_holds_523 ⟨(Nat.zero_le _), (Nat.zero_le _)⟩ (fun H locs hZ hS => ?_)
          rw [s_cnt_cg (eqv_242 hT6 hI24)]
          refine lv_iadd hx hb dL_holds_526 ?_
          refine lv_aload_n hx hb dL_holds_527 rfl (lv_at hl 0 rfl) ?_
          refine lv_iconst (v := 4) hx hb dL_holds_528 (by decide) ?_
          refine z_cVi (As := [.int 4]) (rest := [.int ((s_cnt μ (μ 1) T I z 2) + (s_cnt μ (μ 1) T I z 3))]) hx hb hml hown hts hl hK hZ hS (c_X6_count l G (zr μ 242 q) (μ 1) hh (zr_at rfl (by decide)) (zr_at hfh (by decide)) T I o z hT hI hT6 hI24 ho hz ho4 hz4 4 (by omega)) (z_G q294 q295 q296 q1 q297) hdX6_count ⟨Nat.le_of_ble_eq_true rfl, Nat.le_of_ble_eq_true rfl⟩ zk0 (by decide) rfl rfl rfl rfl (Nat.le_of_ble_eq_true rfl) dL_holds_529 ⟨(Nat.zero_le _), (Nat.zero_le _)⟩ (fun H locs hZ hS => ?_)
          rw [s_cnt_cg (eqv_242 hT6 hI24)]
          refine lv_iadd hx hb dL_holds_532 ?_
          refine lv_aload_n hx hb dL_holds_533 rfl (lv_at hl 0 rfl) ?_
          refine lv_iconst (v := 5) hx hb dL_holds_534 (by decide) ?_
          refine z_cVi (As := [.int 5]) (rest := [.int (((s_cnt μ (μ 1) T I z 2) + (s_cnt μ (μ 1) T I z 3)) + (s_cnt μ (μ 1) T I z 4))]) hx hb hml hown hts hl hK hZ hS (c_X6_count l G (zr μ 242 q) (μ 1) hh (zr_at rfl (by decide)) (zr_at hfh (by decide)) T I o z hT hI hT6 hI24 ho hz ho4 hz4 5 (by omega)) (z_G q294 q295 q296 q1 q297) hdX6_count ⟨Nat.le_of_ble_eq_true rfl, Nat.le_of_ble_eq_true rfl⟩ zk0 (by decide) rfl rfl rfl rfl (Nat.le_of_ble_eq_true rfl) dL_holds_535 ⟨(Nat.zero_le _), (Nat.zero_le _)⟩ (fun H locs hZ hS => ?_)
          rw [s_cnt_cg (eqv_242 hT6 hI24)]
          refine lv_iadd hx hb dL_holds_538 ?_
          refine lv_aload_n hx hb dL_holds_539 rfl (lv_at hl 0 rfl) ?_
          refine lv_iconst (v := 1) hx hb dL_holds_540 (by decide) ?_
          refine z_cVi (As := [.int 1]) (rest := [.int ((((s_cnt μ (μ 1) T I z 2) + (s_cnt μ (μ 1) T I z 3)) + (s_cnt μ (μ 1) T I z 4)) + (s_cnt μ (μ 1) T I z 5))]) hx hb hml hown hts hl hK hZ hS (L_cntT l G (zr μ 242 q) (μ 1) hh (zr_at rfl (by decide)) (zr_at hfh (by decide)) T I o z hT hI hT6 hI24 ho hz ho4 hz4) (z_G q294 q295 q296 q1 q297) hdX6_count ⟨Nat.le_of_ble_eq_true rfl, Nat.le_of_ble_eq_true rfl⟩ zk0 (by decide) rfl rfl rfl rfl (Nat.le_of_ble_eq_true rfl) dL_holds_541 ⟨(Nat.zero_le _), (Nat.zero_le _)⟩ (fun H locs hZ hS => ?_)
          refine lv_icmp_ne (tgt := 551) hx hb dL_holds_544 (by decide) (fun c_3 => ?_) (fun c_3 => ?_)
          · exact absurd hC2 c_3
          · refine lv_iconst (v := 1) hx hb dL_holds_547 (by decide) ?_
            refine lv_goto (tgt := 552) hx hb dL_holds_548 (by decide) ?_
            refine lv_istore (lv' := [(6, .int 1), (0, .ref (G.1 + 0)), (1, .int (s_cls μ 8 T)), (2, .int (s_cls μ 9 T)), (3, .int (s_cls μ 10 T)), (4, .int (s_cls μ 11 T)), (5, .int (s_sts μ T))]) hx hb dL_holds_552 hl (by decide) rfl (fun ls hl => ?_)
            refine lv_iload hx hb dL_holds_554 (lv_at hl 0 rfl) ?_
            refine lv_if_eq (tgt := 634) hx hb dL_holds_556 (by decide) (fun c_4 => ?_) (fun c_4 => ?_)
            · exact absurd c_4 (by decide)
            · refine lv_iload_n hx hb dL_holds_559 rfl (lv_at hl 2 rfl) ?_
              refine lv_aload_n hx hb dL_holds_560 rfl (lv_at hl 1 rfl) ?_
              refine lv_bipush (v := 8) hx hb dL_holds_561 (by decide) ?_
              refine z_cVi (As := [.int 8]) (rest := [.int (s_cls μ 8 T)]) hx hb hml hown hts hl hK hZ hS (c_X6_count l G (zr μ 242 q) (μ 1) hh (zr_at rfl (by decide)) (zr_at hfh (by decide)) T I o z hT hI hT6 hI24 ho hz ho4 hz4 8 (by omega)) (z_G q294 q295 q296 q1 q297) hdX6_count ⟨Nat.le_of_ble_eq_true rfl, Nat.le_of_ble_eq_true rfl⟩ zk0 (by decide) rfl rfl rfl rfl (Nat.le_of_ble_eq_true rfl) dL_holds_563 ⟨(Nat.zero_le _), (Nat.zero_le _)⟩ (fun H locs hZ hS => ?_)
              rw [s_cnt_cg (eqv_242 hT6 hI24)]
              refine lv_icmp_ne (tgt := 634) hx hb dL_holds_566 (by decide) (fun c_5 => ?_) (fun c_5 => ?_)
              · exact absurd rfl c_5
              · refine lv_iload_n hx hb dL_holds_569 rfl (lv_at hl 3 rfl) ?_
                refine lv_aload_n hx hb dL_holds_570 rfl (lv_at hl 1 rfl) ?_
                refine lv_bipush (v := 9) hx hb dL_holds_571 (by decide) ?_
                refine z_cVi (As := [.int 9]) (rest := [.int (s_cls μ 9 T)]) hx hb hml hown hts hl hK hZ hS (c_X6_count l G (zr μ 242 q) (μ 1) hh (zr_at rfl (by decide)) (zr_at hfh (by decide)) T I o z hT hI hT6 hI24 ho hz ho4 hz4 9 (by omega)) (z_G q294 q295 q296 q1 q297) hdX6_count ⟨Nat.le_of_ble_eq_true rfl, Nat.le_of_ble_eq_true rfl⟩ zk0 (by decide) rfl rfl rfl rfl (Nat.le_of_ble_eq_true rfl) dL_holds_573 ⟨(Nat.zero_le _), (Nat.zero_le _)⟩ (fun H locs hZ hS => ?_)
                rw [s_cnt_cg (eqv_242 hT6 hI24)]
                refine lv_icmp_ne (tgt := 634) hx hb dL_holds_576 (by decide) (fun c_6 => ?_) (fun c_6 => ?_)
                · exact absurd rfl c_6
                · refine lv_iload_n hx hb dL_holds_579 rfl (lv_at hl 4 rfl) ?_
                  refine lv_aload_n hx hb dL_holds_580 rfl (lv_at hl 1 rfl) ?_
                  refine lv_bipush (v := 10) hx hb dL_holds_581 (by decide) ?_
                  refine z_cVi (As := [.int 10]) (rest := [.int (s_cls μ 10 T)]) hx hb hml hown hts hl hK hZ hS (c_X6_count l G (zr μ 242 q) (μ 1) hh (zr_at rfl (by decide)) (zr_at hfh (by decide)) T I o z hT hI hT6 hI24 ho hz ho4 hz4 10 (by omega)) (z_G q294 q295 q296 q1 q297) hdX6_count ⟨Nat.le_of_ble_eq_true rfl, Nat.le_of_ble_eq_true rfl⟩ zk0 (by decide) rfl rfl rfl rfl (Nat.le_of_ble_eq_true rfl) dL_holds_583 ⟨(Nat.zero_le _), (Nat.zero_le _)⟩ (fun H locs hZ hS => ?_)
                  rw [s_cnt_cg (eqv_242 hT6 hI24)]
                  refine lv_icmp_ne (tgt := 634) hx hb dL_holds_586 (by decide) (fun c_7 => ?_) (fun c_7 => ?_)
                  · exact absurd rfl c_7
                  · refine lv_iload hx hb dL_holds_589 (lv_at hl 5 rfl) ?_
                    refine lv_aload_n hx hb dL_holds_591 rfl (lv_at hl 1 rfl) ?_
                    refine lv_bipush (v := 11) hx hb dL_holds_592 (by decide) ?_
                    refine z_cVi (As := [.int 11]) (rest := [.int (s_cls μ 11 T)]) hx hb hml hown hts hl hK hZ hS (c_X6_count l G (zr μ 242 q) (μ 1) hh (zr_at rfl (by decide)) (zr_at hfh (by decide)) T I o z hT hI hT6 hI24 ho hz ho4 hz4 11 (by omega)) (z_G q294 q295 q296 q1 q297) hdX6_count ⟨Nat.le_of_ble_eq_true rfl, Nat.le_of_ble_eq_true rfl⟩ zk0 (by decide) rfl rfl rfl rfl (Nat.le_of_ble_eq_true rfl) dL_holds_594 ⟨(Nat.zero_le _), (Nat.zero_le _)⟩ (fun H locs hZ hS => ?_)
                    rw [s_cnt_cg (eqv_242 hT6 hI24)]
                    refine lv_icmp_ne (tgt := 634) hx hb dL_holds_597 (by decide) (fun c_8 => ?_) (fun c_8 => ?_)
                    · exact absurd rfl c_8
                    · refine lv_aload_n hx hb dL_holds_600 rfl (lv_at hl 1 rfl) ?_
                      refine lv_bipush (v := 24) hx hb dL_holds_601 (by decide) ?_
                      refine z_cVf (As := [.int 24]) (rest := []) hx hb hml hown hts hl hK hZ hS (c_X6_weight_no l G (zr μ 242 q) (μ 1) (zr_at rfl (by decide)) T I hT hI hT6 hI24 24 (Or.inr (show nI I ≤ nI 24 from nI_le hI24 (by decide)))) (z_G q425 q426 q427 q1 q428) hdX6_weight ⟨Nat.le_of_ble_eq_true rfl, Nat.le_of_ble_eq_true rfl⟩ zk0 (by decide) rfl rfl rfl rfl (Nat.le_of_ble_eq_true rfl) dL_holds_603 ⟨(Nat.zero_le _), (Nat.zero_le _)⟩ (fun H locs hZ hS => ?_)
                      refine lv_aload_n hx hb dL_holds_606 rfl (lv_at hl 1 rfl) ?_
                      refine lv_bipush (v := 24) hx hb dL_holds_607 (by decide) ?_
                      refine z_cVf (As := [.int 24]) (rest := [.float 2143289344]) hx hb hml hown hts hl hK hZ hS (c_X6_weight_no l G (zr μ 242 q) (μ 1) (zr_at rfl (by decide)) T I hT hI hT6 hI24 24 (Or.inr (show nI I ≤ nI 24 from nI_le hI24 (by decide)))) (z_G q425 q426 q427 q1 q428) hdX6_weight ⟨Nat.le_of_ble_eq_true rfl, Nat.le_of_ble_eq_true rfl⟩ zk0 (by decide) rfl rfl rfl rfl (Nat.le_of_ble_eq_true rfl) dL_holds_609 ⟨(Nat.zero_le _), (Nat.zero_le _)⟩ (fun H locs hZ hS => ?_)
                      refine lv_fcmp hx hb dL_holds_612 ?_
                      refine lv_if_eq (tgt := 634) hx hb dL_holds_613 (by decide) (fun c_9 => ?_) (fun c_9 => ?_)
                      · exact absurd c_9 (by decide +kernel)
                      · refine lv_aload_n hx hb dL_holds_616 rfl (lv_at hl 1 rfl) ?_
                        refine lv_iconst (v := (-1)) hx hb dL_holds_617 (by decide) ?_
                        refine z_cVf (As := [.int (-1)]) (rest := []) hx hb hml hown hts hl hK hZ hS (c_X6_rest_no l G (zr μ 242 q) (μ 1) (zr_at rfl (by decide)) T I hT hI hT6 hI24 (-1) (Or.inl (by decide))) (z_G q556 q557 q558 q1 q559) hdX6_rest ⟨Nat.le_of_ble_eq_true rfl, Nat.le_of_ble_eq_true rfl⟩ zk0 (by decide) rfl rfl rfl rfl (Nat.le_of_ble_eq_true rfl) dL_holds_618 ⟨(Nat.zero_le _), (Nat.zero_le _)⟩ (fun H locs hZ hS => ?_)
                        refine lv_aload_n hx hb dL_holds_621 rfl (lv_at hl 1 rfl) ?_
                        refine lv_iconst (v := (-1)) hx hb dL_holds_622 (by decide) ?_
                        refine z_cVf (As := [.int (-1)]) (rest := [.float 2143289344]) hx hb hml hown hts hl hK hZ hS (c_X6_rest_no l G (zr μ 242 q) (μ 1) (zr_at rfl (by decide)) T I hT hI hT6 hI24 (-1) (Or.inl (by decide))) (z_G q556 q557 q558 q1 q559) hdX6_rest ⟨Nat.le_of_ble_eq_true rfl, Nat.le_of_ble_eq_true rfl⟩ zk0 (by decide) rfl rfl rfl rfl (Nat.le_of_ble_eq_true rfl) dL_holds_623 ⟨(Nat.zero_le _), (Nat.zero_le _)⟩ (fun H locs hZ hS => ?_)
                        refine lv_fcmp hx hb dL_holds_626 ?_
                        refine lv_if_eq (tgt := 634) hx hb dL_holds_627 (by decide) (fun c_10 => ?_) (fun c_10 => ?_)
                        · exact absurd c_10 (by decide +kernel)
                        · refine lv_iconst (v := 1) hx hb dL_holds_630 (by decide) ?_
                          refine lv_goto (tgt := 635) hx hb dL_holds_631 (by decide) ?_
                          exact W.zret (v := 1) hx hb hr rfl (fun t ht hW => ⟨⟨_, _, rfl, ⟨rfl, q, rfl⟩, by rw [ht]; exact hZ, va_K.moved hW.alike hK⟩, hS.F ht⟩) hS.2.2 dL_holds_635 hlk
      · exact absurd (show nI I ≤ nI I from nI_le (Nat.le_refl _) (by omega)) c_1
    | succ k ih =>
      intro j hv q H locs ls hZ hS hl
      have hjj : j < I := by omega
      obtain ⟨hhh, heh⟩ := hhome j hjj
      obtain ⟨hb1, hb2, hb3, hb4, hb5, hb6⟩ := hB8 j hjj
      refine lv_iload hx hb dL_holds_318 (lv_at hl 6 rfl) ?_
      refine lv_aload_n hx hb dL_holds_320 rfl (lv_at hl 0 rfl) ?_
      refine lv_bipush (v := 6) hx hb dL_holds_321 (by decide) ?_
      refine z_cVi (As := [.int 6]) (rest := [.int (nI j)]) hx hb hml hown hts hl hK hZ hS (L_cntI l G (zr μ 242 q) (μ 1) hh (zr_at rfl (by decide)) (zr_at hfh (by decide)) T I o z hT hI hT6 hI24 ho hz ho4 hz4) (z_G q294 q295 q296 q1 q297) hdX6_count ⟨Nat.le_of_ble_eq_true rfl, Nat.le_of_ble_eq_true rfl⟩ zk0 (by decide) rfl rfl rfl rfl (Nat.le_of_ble_eq_true rfl) dL_holds_323 ⟨(Nat.zero_le _), (Nat.zero_le _)⟩ (fun H locs hZ hS => ?_)
      refine lv_icmp_ge (tgt := 490) hx hb dL_holds_326 (by decide) (fun c_11 => ?_) (fun c_11 => ?_)
      · exact absurd (show nI I ≤ nI j from c_11) (nI_ge (by omega) (by omega))
      · refine lv_aload_n hx hb dL_holds_329 rfl (lv_at hl 0 rfl) ?_
        refine lv_iload hx hb dL_holds_330 (lv_at hl 6 rfl) ?_
        refine lv_bipush (v := 7) hx hb dL_holds_332 (by decide) ?_
        refine z_cVi (As := [.int (nI j), .int 7]) (rest := []) hx hb hml hown hts hl hK hZ hS (c_X6_item l G (zr μ 242 q) (μ 1) (zr_at rfl (by decide)) T I hT hI hT6 hI24 j ((μ (1 + (15 + j)) 0).toNatClampNeg) hjj hhh (μ (1 + (15 + j))) (zr_ne (by omega)) heh (z_home μ (μ (1 + (15 + j)))) (zr_ne (by omega)) 7 (by omega)) (z_G q390 q391 q392 q1 q393) hdX6_item ⟨Nat.le_of_ble_eq_true rfl, Nat.le_of_ble_eq_true rfl⟩ zk0 (by decide) rfl rfl rfl rfl (Nat.le_of_ble_eq_true rfl) dL_holds_334 ⟨(Nat.zero_le _), (Nat.zero_le _)⟩ (fun H locs hZ hS => ?_)
        refine lv_istore (lv' := [(7, .int (s_itm (μ (1 + (15 + j))) (μ 1) (z_home μ (μ (1 + (15 + j)))) 7)), (0, .ref (G.1 + 0)), (1, .int (s_cls μ 8 T)), (2, .int (s_cls μ 9 T)), (3, .int (s_cls μ 10 T)), (4, .int (s_cls μ 11 T)), (5, .int (s_sts μ T)), (6, .int (nI j))]) hx hb dL_holds_337 hl (by decide) rfl (fun ls hl => ?_)
        refine lv_aload_n hx hb dL_holds_339 rfl (lv_at hl 1 rfl) ?_
        refine lv_iload hx hb dL_holds_340 (lv_at hl 7 rfl) ?_
        refine lv_bipush (v := 9) hx hb dL_holds_342 (by decide) ?_
        refine z_cVi (As := [.int (nI j), .int 9]) (rest := []) hx hb hml hown hts hl hK hZ hS (c_X6_item l G (zr μ 242 q) (μ 1) (zr_at rfl (by decide)) T I hT hI hT6 hI24 j ((μ (1 + (15 + j)) 0).toNatClampNeg) hjj hhh (μ (1 + (15 + j))) (zr_ne (by omega)) heh (z_home μ (μ (1 + (15 + j)))) (zr_ne (by omega)) 9 (by omega)) (z_G q390 q391 q392 q1 q393) hdX6_item ⟨Nat.le_of_ble_eq_true rfl, Nat.le_of_ble_eq_true rfl⟩ zk0 (by decide) rfl rfl rfl rfl (Nat.le_of_ble_eq_true rfl) dL_holds_344 ⟨(Nat.zero_le _), (Nat.zero_le _)⟩ (fun H locs hZ hS => ?_)
        refine lv_istore (lv' := [(8, .int (s_itm (μ (1 + (15 + j))) (μ 1) (z_home μ (μ (1 + (15 + j)))) 9)), (7, .int (s_itm (μ (1 + (15 + j))) (μ 1) (z_home μ (μ (1 + (15 + j)))) 7)), (0, .ref (G.1 + 0)), (1, .int (s_cls μ 8 T)), (2, .int (s_cls μ 9 T)), (3, .int (s_cls μ 10 T)), (4, .int (s_cls μ 11 T)), (5, .int (s_sts μ T)), (6, .int (nI j))]) hx hb dL_holds_347 hl (by decide) rfl (fun ls hl => ?_)
        refine lv_aload_n hx hb dL_holds_349 rfl (lv_at hl 2 rfl) ?_
        refine lv_iload hx hb dL_holds_350 (lv_at hl 8 rfl) ?_
        refine lv_bipush (v := 6) hx hb dL_holds_352 (by decide) ?_
        refine z_cVi (As := [.int (nI j), .int 6]) (rest := []) hx hb hml hown hts hl hK hZ hS (c_X6_item l G (zr μ 242 q) (μ 1) (zr_at rfl (by decide)) T I hT hI hT6 hI24 j ((μ (1 + (15 + j)) 0).toNatClampNeg) hjj hhh (μ (1 + (15 + j))) (zr_ne (by omega)) heh (z_home μ (μ (1 + (15 + j)))) (zr_ne (by omega)) 6 (by omega)) (z_G q390 q391 q392 q1 q393) hdX6_item ⟨Nat.le_of_ble_eq_true rfl, Nat.le_of_ble_eq_true rfl⟩ zk0 (by decide) rfl rfl rfl rfl (Nat.le_of_ble_eq_true rfl) dL_holds_354 ⟨(Nat.zero_le _), (Nat.zero_le _)⟩ (fun H locs hZ hS => ?_)
        refine lv_istore (lv' := [(9, .int (s_itm (μ (1 + (15 + j))) (μ 1) (z_home μ (μ (1 + (15 + j)))) 6)), (8, .int (s_itm (μ (1 + (15 + j))) (μ 1) (z_home μ (μ (1 + (15 + j)))) 9)), (7, .int (s_itm (μ (1 + (15 + j))) (μ 1) (z_home μ (μ (1 + (15 + j)))) 7)), (0, .ref (G.1 + 0)), (1, .int (s_cls μ 8 T)), (2, .int (s_cls μ 9 T)), (3, .int (s_cls μ 10 T)), (4, .int (s_cls μ 11 T)), (5, .int (s_sts μ T)), (6, .int (nI j))]) hx hb dL_holds_357 hl (by decide) rfl (fun ls hl => ?_)
        refine lv_aload_n hx hb dL_holds_359 rfl (lv_at hl 3 rfl) ?_
        refine lv_iload hx hb dL_holds_360 (lv_at hl 9 rfl) ?_
        refine z_cVf (As := [.int (nI j)]) (rest := []) hx hb hml hown hts hl hK hZ hS (c_X6_rest l G (zr μ 242 q) (μ 1) (zr_at rfl (by decide)) T I hT hI hT6 hI24 j ((μ (1 + (15 + j)) 0).toNatClampNeg) hjj hhh (μ (1 + (15 + j))) (zr_ne (by omega)) heh (z_home μ (μ (1 + (15 + j)))) (zr_ne (by omega))) (z_G q556 q557 q558 q1 q559) hdX6_rest ⟨Nat.le_of_ble_eq_true rfl, Nat.le_of_ble_eq_true rfl⟩ zk0 (by decide) rfl rfl rfl rfl (Nat.le_of_ble_eq_true rfl) dL_holds_362 ⟨(Nat.zero_le _), (Nat.zero_le _)⟩ (fun H locs hZ hS => ?_)
        refine lv_fstore (lv' := [(10, .float (s_X3_restAfter (μ (1 + (15 + j))) (s_X1_daysOf (μ 1) (z_home μ (μ (1 + (15 + j))))))), (9, .int (s_itm (μ (1 + (15 + j))) (μ 1) (z_home μ (μ (1 + (15 + j)))) 6)), (8, .int (s_itm (μ (1 + (15 + j))) (μ 1) (z_home μ (μ (1 + (15 + j)))) 9)), (7, .int (s_itm (μ (1 + (15 + j))) (μ 1) (z_home μ (μ (1 + (15 + j)))) 7)), (0, .ref (G.1 + 0)), (1, .int (s_cls μ 8 T)), (2, .int (s_cls μ 9 T)), (3, .int (s_cls μ 10 T)), (4, .int (s_cls μ 11 T)), (5, .int (s_sts μ T)), (6, .int (nI j))]) hx hb dL_holds_365 hl (by decide) rfl (fun ls hl => ?_)
        refine lv_aload_n hx hb dL_holds_367 rfl (lv_at hl 4 rfl) ?_
        refine lv_aload_n hx hb dL_holds_368 rfl (lv_at hl 4 rfl) ?_
        refine lv_iload hx hb dL_holds_369 (lv_at hl 10 rfl) ?_
        refine lv_iconst (v := 0) hx hb dL_holds_371 (by decide) ?_
        refine z_cVi (As := [.int (nI j), .int 0]) (rest := [.ref (G.1 + 0)]) hx hb hml hown hts hl hK hZ hS (c_X6_item l G (zr μ 242 q) (μ 1) (zr_at rfl (by decide)) T I hT hI hT6 hI24 j ((μ (1 + (15 + j)) 0).toNatClampNeg) hjj hhh (μ (1 + (15 + j))) (zr_ne (by omega)) heh (z_home μ (μ (1 + (15 + j)))) (zr_ne (by omega)) 0 (by omega)) (z_G q390 q391 q392 q1 q393) hdX6_item ⟨Nat.le_of_ble_eq_true rfl, Nat.le_of_ble_eq_true rfl⟩ zk0 (by decide) rfl rfl rfl rfl (Nat.le_of_ble_eq_true rfl) dL_holds_372 ⟨(Nat.zero_le _), (Nat.zero_le _)⟩ (fun H locs hZ hS => ?_)
        rw [show s_itm (μ (1 + (15 + j))) (μ 1) (z_home μ (μ (1 + (15 + j)))) 0 = nI ((μ (1 + (15 + j))) 0).toNatClampNeg from heh]
        refine lv_iconst (v := 2) hx hb dL_holds_375 (by decide) ?_
        refine z_cVi (As := [.int (nI ((μ (1 + (15 + j))) 0).toNatClampNeg), .int 2]) (rest := []) hx hb hml hown hts hl hK hZ hS (c_X6_tenancy l G (zr μ 242 q) (μ 1) (zr_at rfl (by decide)) T I hT hI hT6 hI24 (((μ (1 + (15 + j))) 0).toNatClampNeg) hhh ((zr μ 242 q) (1 + (3 + 2 * ((μ (1 + (15 + j))) 0).toNatClampNeg))) rfl hr8 2 (by omega)) (z_G q324 q325 q326 q1 q327) hdX6_tenancy ⟨Nat.le_of_ble_eq_true rfl, Nat.le_of_ble_eq_true rfl⟩ zk0 (by decide) rfl rfl rfl rfl (Nat.le_of_ble_eq_true rfl) dL_holds_376 ⟨(Nat.zero_le _), (Nat.zero_le _)⟩ (fun H locs hZ hS => ?_)
        rw [s_ten_cg (eqv_242 (T := T) hT6 hI24)]
        refine lv_if_ne (tgt := 386) hx hb dL_holds_379 (by decide) (fun c_12 => ?_) (fun c_12 => ?_)
        · refine lv_iconst (v := 0) hx hb dL_holds_386 (by decide) ?_
          refine lv_istore (lv' := [(11, .int 0), (10, .float (s_X3_restAfter (μ (1 + (15 + j))) (s_X1_daysOf (μ 1) (z_home μ (μ (1 + (15 + j))))))), (9, .int (s_itm (μ (1 + (15 + j))) (μ 1) (z_home μ (μ (1 + (15 + j)))) 6)), (8, .int (s_itm (μ (1 + (15 + j))) (μ 1) (z_home μ (μ (1 + (15 + j)))) 9)), (7, .int (s_itm (μ (1 + (15 + j))) (μ 1) (z_home μ (μ (1 + (15 + j)))) 7)), (0, .ref (G.1 + 0)), (1, .int (s_cls μ 8 T)), (2, .int (s_cls μ 9 T)), (3, .int (s_cls μ 10 T)), (4, .int (s_cls μ 11 T)), (5, .int (s_sts μ T)), (6, .int (nI j))]) hx hb dL_holds_387 hl (by decide) rfl (fun ls hl => ?_)
          refine lv_iload hx hb dL_holds_389 (lv_at hl 3 rfl) ?_
          refine lv_iload hx hb dL_holds_391 (lv_at hl 4 rfl) ?_
          refine lv_icmp_gt (tgt := 482) hx hb dL_holds_393 (by decide) (fun c_13 => ?_) (fun c_13 => ?_)
          · exact absurd c_13 hb1
          · refine lv_iload hx hb dL_holds_396 (lv_at hl 0 rfl) ?_
            refine lv_if_ne (tgt := 432) hx hb dL_holds_398 (by decide) (fun c_14 => ?_) (fun c_14 => ?_)
            · exact absurd rfl c_14
            · refine lv_iload hx hb dL_holds_401 (lv_at hl 3 rfl) ?_
              refine lv_iload hx hb dL_holds_403 (lv_at hl 4 rfl) ?_
              refine lv_iload hx hb dL_holds_405 (lv_at hl 2 rfl) ?_
              refine lv_icmp_ge (tgt := 415) hx hb dL_holds_407 (by decide) (fun c_15 => ?_) (fun c_15 => ?_)
              · refine lv_iload hx hb dL_holds_415 (lv_at hl 2 rfl) ?_
                refine lv_icmp_lt (tgt := 482) hx hb dL_holds_417 (by decide) (fun c_16 => ?_) (fun c_16 => ?_)
                · exact absurd c_16 ((hb2 (fun e => c_12 ((congrFun (zr_ne (show ¬ _ = 242 by omega)) 2).trans e))).1 c_15)
                · refine lv_iload hx hb dL_holds_420 (lv_at hl 2 rfl) ?_
                  refine lv_aload_n hx hb dL_holds_422 rfl (lv_at hl 5 rfl) ?_
                  refine lv_iload hx hb dL_holds_423 (lv_at hl 11 rfl) ?_
                  refine lv_iconst (v := 1) hx hb dL_holds_425 (by decide) ?_
                  refine z_cVi (As := [.int (nI j), .int 1]) (rest := [.int (s_itm (μ (1 + (15 + j))) (μ 1) (z_home μ (μ (1 + (15 + j)))) 6)]) hx hb hml hown hts hl hK hZ hS (c_X6_item l G (zr μ 242 q) (μ 1) (zr_at rfl (by decide)) T I hT hI hT6 hI24 j ((μ (1 + (15 + j)) 0).toNatClampNeg) hjj hhh (μ (1 + (15 + j))) (zr_ne (by omega)) heh (z_home μ (μ (1 + (15 + j)))) (zr_ne (by omega)) 1 (by omega)) (z_G q390 q391 q392 q1 q393) hdX6_item ⟨Nat.le_of_ble_eq_true rfl, Nat.le_of_ble_eq_true rfl⟩ zk0 (by decide) rfl rfl rfl rfl (Nat.le_of_ble_eq_true rfl) dL_holds_426 ⟨(Nat.zero_le _), (Nat.zero_le _)⟩ (fun H locs hZ hS => ?_)
                  refine lv_icmp_gt (tgt := 482) hx hb dL_holds_429 (by decide) (fun c_17 => ?_) (fun c_17 => ?_)
                  · exact absurd c_17 (hb2 (fun e => c_12 ((congrFun (zr_ne (show ¬ _ = 242 by omega)) 2).trans e))).2.2
                  · refine lv_fload hx hb dL_holds_432 (lv_at hl 1 rfl) ?_
                    refine lv_fconst0 hx hb dL_holds_434 ?_
                    refine lv_fcmp hx hb dL_holds_435 ?_
                    refine lv_if_lt (tgt := 482) hx hb dL_holds_436 (by decide) (fun c_18 => ?_) (fun c_18 => ?_)
                    · exact absurd c_18 hb3
                    · refine lv_fload hx hb dL_holds_439 (lv_at hl 1 rfl) ?_
                      refine lv_fconst1 hx hb dL_holds_441 ?_
                      refine lv_fcmp hx hb dL_holds_442 ?_
                      refine lv_if_gt (tgt := 482) hx hb dL_holds_443 (by decide) (fun c_19 => ?_) (fun c_19 => ?_)
                      · exact absurd c_19 hb4
                      · refine lv_aload_n hx hb dL_holds_446 rfl (lv_at hl 5 rfl) ?_
                        refine lv_iload hx hb dL_holds_447 (lv_at hl 11 rfl) ?_
                        refine lv_iconst (v := 3) hx hb dL_holds_449 (by decide) ?_
                        refine z_cVi (As := [.int (nI j), .int 3]) (rest := []) hx hb hml hown hts hl hK hZ hS (c_X6_item l G (zr μ 242 q) (μ 1) (zr_at rfl (by decide)) T I hT hI hT6 hI24 j ((μ (1 + (15 + j)) 0).toNatClampNeg) hjj hhh (μ (1 + (15 + j))) (zr_ne (by omega)) heh (z_home μ (μ (1 + (15 + j)))) (zr_ne (by omega)) 3 (by omega)) (z_G q390 q391 q392 q1 q393) hdX6_item ⟨Nat.le_of_ble_eq_true rfl, Nat.le_of_ble_eq_true rfl⟩ zk0 (by decide) rfl rfl rfl rfl (Nat.le_of_ble_eq_true rfl) dL_holds_450 ⟨(Nat.zero_le _), (Nat.zero_le _)⟩ (fun H locs hZ hS => ?_)
                        refine lv_aload_n hx hb dL_holds_453 rfl (lv_at hl 5 rfl) ?_
                        refine lv_iload hx hb dL_holds_454 (lv_at hl 11 rfl) ?_
                        refine lv_iconst (v := 2) hx hb dL_holds_456 (by decide) ?_
                        refine z_cVi (As := [.int (nI j), .int 2]) (rest := [.int (s_itm (μ (1 + (15 + j))) (μ 1) (z_home μ (μ (1 + (15 + j)))) 3)]) hx hb hml hown hts hl hK hZ hS (c_X6_item l G (zr μ 242 q) (μ 1) (zr_at rfl (by decide)) T I hT hI hT6 hI24 j ((μ (1 + (15 + j)) 0).toNatClampNeg) hjj hhh (μ (1 + (15 + j))) (zr_ne (by omega)) heh (z_home μ (μ (1 + (15 + j)))) (zr_ne (by omega)) 2 (by omega)) (z_G q390 q391 q392 q1 q393) hdX6_item ⟨Nat.le_of_ble_eq_true rfl, Nat.le_of_ble_eq_true rfl⟩ zk0 (by decide) rfl rfl rfl rfl (Nat.le_of_ble_eq_true rfl) dL_holds_457 ⟨(Nat.zero_le _), (Nat.zero_le _)⟩ (fun H locs hZ hS => ?_)
                        refine lv_icmp_gt (tgt := 482) hx hb dL_holds_460 (by decide) (fun c_20 => ?_) (fun c_20 => ?_)
                        · exact absurd c_20 hb5
                        · refine lv_aload_n hx hb dL_holds_463 rfl (lv_at hl 5 rfl) ?_
                          refine lv_iload hx hb dL_holds_464 (lv_at hl 11 rfl) ?_
                          refine lv_bipush (v := 8) hx hb dL_holds_466 (by decide) ?_
                          refine z_cVi (As := [.int (nI j), .int 8]) (rest := []) hx hb hml hown hts hl hK hZ hS (c_X6_item l G (zr μ 242 q) (μ 1) (zr_at rfl (by decide)) T I hT hI hT6 hI24 j ((μ (1 + (15 + j)) 0).toNatClampNeg) hjj hhh (μ (1 + (15 + j))) (zr_ne (by omega)) heh (z_home μ (μ (1 + (15 + j)))) (zr_ne (by omega)) 8 (by omega)) (z_G q390 q391 q392 q1 q393) hdX6_item ⟨Nat.le_of_ble_eq_true rfl, Nat.le_of_ble_eq_true rfl⟩ zk0 (by decide) rfl rfl rfl rfl (Nat.le_of_ble_eq_true rfl) dL_holds_468 ⟨(Nat.zero_le _), (Nat.zero_le _)⟩ (fun H locs hZ hS => ?_)
                          refine lv_iconst (v := 1) hx hb dL_holds_471 (by decide) ?_
                          refine lv_icmp_ne (tgt := 484) hx hb dL_holds_472 (by decide) (fun c_21 => ?_) (fun c_21 => ?_)
                          · refine lv_iinc (v := (nI (j + 1))) (lv' := [(6, .int (nI (j + 1))), (11, .int 0), (10, .float (s_X3_restAfter (μ (1 + (15 + j))) (s_X1_daysOf (μ 1) (z_home μ (μ (1 + (15 + j))))))), (9, .int (s_itm (μ (1 + (15 + j))) (μ 1) (z_home μ (μ (1 + (15 + j)))) 6)), (8, .int (s_itm (μ (1 + (15 + j))) (μ 1) (z_home μ (μ (1 + (15 + j)))) 9)), (7, .int (s_itm (μ (1 + (15 + j))) (μ 1) (z_home μ (μ (1 + (15 + j)))) 7)), (0, .ref (G.1 + 0)), (1, .int (s_cls μ 8 T)), (2, .int (s_cls μ 9 T)), (3, .int (s_cls μ 10 T)), (4, .int (s_cls μ 11 T)), (5, .int (s_sts μ T))]) hx hb dL_holds_484 hl (k := 11) rfl (nI_1 _) (by decide) rfl (fun ls hl => ?_)
                            refine lv_goto (tgt := 318) hx hb dL_holds_487 (by decide) ?_
                            exact ih (j + 1) (by omega) _ _ _ _ hZ hS (lv_sub hl [6, 7, 8, 9, 10, 11, 0] rfl)
                          · refine lv_iload hx hb dL_holds_475 (lv_at hl 3 rfl) ?_
                            refine lv_iload hx hb dL_holds_477 (lv_at hl 4 rfl) ?_
                            refine lv_icmp_eq (tgt := 484) hx hb dL_holds_479 (by decide) (fun c_22 => ?_) (fun c_22 => ?_)
                            · refine lv_iinc (v := (nI (j + 1))) (lv' := [(6, .int (nI (j + 1))), (11, .int 0), (10, .float (s_X3_restAfter (μ (1 + (15 + j))) (s_X1_daysOf (μ 1) (z_home μ (μ (1 + (15 + j))))))), (9, .int (s_itm (μ (1 + (15 + j))) (μ 1) (z_home μ (μ (1 + (15 + j)))) 6)), (8, .int (s_itm (μ (1 + (15 + j))) (μ 1) (z_home μ (μ (1 + (15 + j)))) 9)), (7, .int (s_itm (μ (1 + (15 + j))) (μ 1) (z_home μ (μ (1 + (15 + j)))) 7)), (0, .ref (G.1 + 0)), (1, .int (s_cls μ 8 T)), (2, .int (s_cls μ 9 T)), (3, .int (s_cls μ 10 T)), (4, .int (s_cls μ 11 T)), (5, .int (s_sts μ T))]) hx hb dL_holds_484 hl (k := 11) rfl (nI_1 _) (by decide) rfl (fun ls hl => ?_)
                              refine lv_goto (tgt := 318) hx hb dL_holds_487 (by decide) ?_
                              exact ih (j + 1) (by omega) _ _ _ _ hZ hS (lv_sub hl [6, 7, 8, 9, 10, 11, 0] rfl)
                            · exact absurd (hb6 c_21) c_22
              · refine lv_iload hx hb dL_holds_410 (lv_at hl 4 rfl) ?_
                refine lv_goto (tgt := 417) hx hb dL_holds_412 (by decide) ?_
                refine lv_icmp_lt (tgt := 482) hx hb dL_holds_417 (by decide) (fun c_23 => ?_) (fun c_23 => ?_)
                · exact absurd c_23 ((hb2 (fun e => c_12 ((congrFun (zr_ne (show ¬ _ = 242 by omega)) 2).trans e))).2.1 c_15)
                · refine lv_iload hx hb dL_holds_420 (lv_at hl 2 rfl) ?_
                  refine lv_aload_n hx hb dL_holds_422 rfl (lv_at hl 5 rfl) ?_
                  refine lv_iload hx hb dL_holds_423 (lv_at hl 11 rfl) ?_
                  refine lv_iconst (v := 1) hx hb dL_holds_425 (by decide) ?_
                  refine z_cVi (As := [.int (nI j), .int 1]) (rest := [.int (s_itm (μ (1 + (15 + j))) (μ 1) (z_home μ (μ (1 + (15 + j)))) 6)]) hx hb hml hown hts hl hK hZ hS (c_X6_item l G (zr μ 242 q) (μ 1) (zr_at rfl (by decide)) T I hT hI hT6 hI24 j ((μ (1 + (15 + j)) 0).toNatClampNeg) hjj hhh (μ (1 + (15 + j))) (zr_ne (by omega)) heh (z_home μ (μ (1 + (15 + j)))) (zr_ne (by omega)) 1 (by omega)) (z_G q390 q391 q392 q1 q393) hdX6_item ⟨Nat.le_of_ble_eq_true rfl, Nat.le_of_ble_eq_true rfl⟩ zk0 (by decide) rfl rfl rfl rfl (Nat.le_of_ble_eq_true rfl) dL_holds_426 ⟨(Nat.zero_le _), (Nat.zero_le _)⟩ (fun H locs hZ hS => ?_)
                  refine lv_icmp_gt (tgt := 482) hx hb dL_holds_429 (by decide) (fun c_24 => ?_) (fun c_24 => ?_)
                  · exact absurd c_24 (hb2 (fun e => c_12 ((congrFun (zr_ne (show ¬ _ = 242 by omega)) 2).trans e))).2.2
                  · refine lv_fload hx hb dL_holds_432 (lv_at hl 1 rfl) ?_
                    refine lv_fconst0 hx hb dL_holds_434 ?_
                    refine lv_fcmp hx hb dL_holds_435 ?_
                    refine lv_if_lt (tgt := 482) hx hb dL_holds_436 (by decide) (fun c_25 => ?_) (fun c_25 => ?_)
                    · exact absurd c_25 hb3
                    · refine lv_fload hx hb dL_holds_439 (lv_at hl 1 rfl) ?_
                      refine lv_fconst1 hx hb dL_holds_441 ?_
                      refine lv_fcmp hx hb dL_holds_442 ?_
                      refine lv_if_gt (tgt := 482) hx hb dL_holds_443 (by decide) (fun c_26 => ?_) (fun c_26 => ?_)
                      · exact absurd c_26 hb4
                      · refine lv_aload_n hx hb dL_holds_446 rfl (lv_at hl 5 rfl) ?_
                        refine lv_iload hx hb dL_holds_447 (lv_at hl 11 rfl) ?_
                        refine lv_iconst (v := 3) hx hb dL_holds_449 (by decide) ?_
                        refine z_cVi (As := [.int (nI j), .int 3]) (rest := []) hx hb hml hown hts hl hK hZ hS (c_X6_item l G (zr μ 242 q) (μ 1) (zr_at rfl (by decide)) T I hT hI hT6 hI24 j ((μ (1 + (15 + j)) 0).toNatClampNeg) hjj hhh (μ (1 + (15 + j))) (zr_ne (by omega)) heh (z_home μ (μ (1 + (15 + j)))) (zr_ne (by omega)) 3 (by omega)) (z_G q390 q391 q392 q1 q393) hdX6_item ⟨Nat.le_of_ble_eq_true rfl, Nat.le_of_ble_eq_true rfl⟩ zk0 (by decide) rfl rfl rfl rfl (Nat.le_of_ble_eq_true rfl) dL_holds_450 ⟨(Nat.zero_le _), (Nat.zero_le _)⟩ (fun H locs hZ hS => ?_)
                        refine lv_aload_n hx hb dL_holds_453 rfl (lv_at hl 5 rfl) ?_
                        refine lv_iload hx hb dL_holds_454 (lv_at hl 11 rfl) ?_
                        refine lv_iconst (v := 2) hx hb dL_holds_456 (by decide) ?_
                        refine z_cVi (As := [.int (nI j), .int 2]) (rest := [.int (s_itm (μ (1 + (15 + j))) (μ 1) (z_home μ (μ (1 + (15 + j)))) 3)]) hx hb hml hown hts hl hK hZ hS (c_X6_item l G (zr μ 242 q) (μ 1) (zr_at rfl (by decide)) T I hT hI hT6 hI24 j ((μ (1 + (15 + j)) 0).toNatClampNeg) hjj hhh (μ (1 + (15 + j))) (zr_ne (by omega)) heh (z_home μ (μ (1 + (15 + j)))) (zr_ne (by omega)) 2 (by omega)) (z_G q390 q391 q392 q1 q393) hdX6_item ⟨Nat.le_of_ble_eq_true rfl, Nat.le_of_ble_eq_true rfl⟩ zk0 (by decide) rfl rfl rfl rfl (Nat.le_of_ble_eq_true rfl) dL_holds_457 ⟨(Nat.zero_le _), (Nat.zero_le _)⟩ (fun H locs hZ hS => ?_)
                        refine lv_icmp_gt (tgt := 482) hx hb dL_holds_460 (by decide) (fun c_27 => ?_) (fun c_27 => ?_)
                        · exact absurd c_27 hb5
                        · refine lv_aload_n hx hb dL_holds_463 rfl (lv_at hl 5 rfl) ?_
                          refine lv_iload hx hb dL_holds_464 (lv_at hl 11 rfl) ?_
                          refine lv_bipush (v := 8) hx hb dL_holds_466 (by decide) ?_
                          refine z_cVi (As := [.int (nI j), .int 8]) (rest := []) hx hb hml hown hts hl hK hZ hS (c_X6_item l G (zr μ 242 q) (μ 1) (zr_at rfl (by decide)) T I hT hI hT6 hI24 j ((μ (1 + (15 + j)) 0).toNatClampNeg) hjj hhh (μ (1 + (15 + j))) (zr_ne (by omega)) heh (z_home μ (μ (1 + (15 + j)))) (zr_ne (by omega)) 8 (by omega)) (z_G q390 q391 q392 q1 q393) hdX6_item ⟨Nat.le_of_ble_eq_true rfl, Nat.le_of_ble_eq_true rfl⟩ zk0 (by decide) rfl rfl rfl rfl (Nat.le_of_ble_eq_true rfl) dL_holds_468 ⟨(Nat.zero_le _), (Nat.zero_le _)⟩ (fun H locs hZ hS => ?_)
                          refine lv_iconst (v := 1) hx hb dL_holds_471 (by decide) ?_
                          refine lv_icmp_ne (tgt := 484) hx hb dL_holds_472 (by decide) (fun c_28 => ?_) (fun c_28 => ?_)
                          · refine lv_iinc (v := (nI (j + 1))) (lv' := [(6, .int (nI (j + 1))), (11, .int 0), (10, .float (s_X3_restAfter (μ (1 + (15 + j))) (s_X1_daysOf (μ 1) (z_home μ (μ (1 + (15 + j))))))), (9, .int (s_itm (μ (1 + (15 + j))) (μ 1) (z_home μ (μ (1 + (15 + j)))) 6)), (8, .int (s_itm (μ (1 + (15 + j))) (μ 1) (z_home μ (μ (1 + (15 + j)))) 9)), (7, .int (s_itm (μ (1 + (15 + j))) (μ 1) (z_home μ (μ (1 + (15 + j)))) 7)), (0, .ref (G.1 + 0)), (1, .int (s_cls μ 8 T)), (2, .int (s_cls μ 9 T)), (3, .int (s_cls μ 10 T)), (4, .int (s_cls μ 11 T)), (5, .int (s_sts μ T))]) hx hb dL_holds_484 hl (k := 11) rfl (nI_1 _) (by decide) rfl (fun ls hl => ?_)
                            refine lv_goto (tgt := 318) hx hb dL_holds_487 (by decide) ?_
                            exact ih (j + 1) (by omega) _ _ _ _ hZ hS (lv_sub hl [6, 7, 8, 9, 10, 11, 0] rfl)
                          · refine lv_iload hx hb dL_holds_475 (lv_at hl 3 rfl) ?_
                            refine lv_iload hx hb dL_holds_477 (lv_at hl 4 rfl) ?_
                            refine lv_icmp_eq (tgt := 484) hx hb dL_holds_479 (by decide) (fun c_29 => ?_) (fun c_29 => ?_)
                            · refine lv_iinc (v := (nI (j + 1))) (lv' := [(6, .int (nI (j + 1))), (11, .int 0), (10, .float (s_X3_restAfter (μ (1 + (15 + j))) (s_X1_daysOf (μ 1) (z_home μ (μ (1 + (15 + j))))))), (9, .int (s_itm (μ (1 + (15 + j))) (μ 1) (z_home μ (μ (1 + (15 + j)))) 6)), (8, .int (s_itm (μ (1 + (15 + j))) (μ 1) (z_home μ (μ (1 + (15 + j)))) 9)), (7, .int (s_itm (μ (1 + (15 + j))) (μ 1) (z_home μ (μ (1 + (15 + j)))) 7)), (0, .ref (G.1 + 0)), (1, .int (s_cls μ 8 T)), (2, .int (s_cls μ 9 T)), (3, .int (s_cls μ 10 T)), (4, .int (s_cls μ 11 T)), (5, .int (s_sts μ T))]) hx hb dL_holds_484 hl (k := 11) rfl (nI_1 _) (by decide) rfl (fun ls hl => ?_)
                              refine lv_goto (tgt := 318) hx hb dL_holds_487 (by decide) ?_
                              exact ih (j + 1) (by omega) _ _ _ _ hZ hS (lv_sub hl [6, 7, 8, 9, 10, 11, 0] rfl)
                            · exact absurd (hb6 c_28) c_29
        · refine lv_iconst (v := 1) hx hb dL_holds_382 (by decide) ?_
          refine lv_goto (tgt := 387) hx hb dL_holds_383 (by decide) ?_
          refine lv_istore (lv' := [(11, .int 1), (10, .float (s_X3_restAfter (μ (1 + (15 + j))) (s_X1_daysOf (μ 1) (z_home μ (μ (1 + (15 + j))))))), (9, .int (s_itm (μ (1 + (15 + j))) (μ 1) (z_home μ (μ (1 + (15 + j)))) 6)), (8, .int (s_itm (μ (1 + (15 + j))) (μ 1) (z_home μ (μ (1 + (15 + j)))) 9)), (7, .int (s_itm (μ (1 + (15 + j))) (μ 1) (z_home μ (μ (1 + (15 + j)))) 7)), (0, .ref (G.1 + 0)), (1, .int (s_cls μ 8 T)), (2, .int (s_cls μ 9 T)), (3, .int (s_cls μ 10 T)), (4, .int (s_cls μ 11 T)), (5, .int (s_sts μ T)), (6, .int (nI j))]) hx hb dL_holds_387 hl (by decide) rfl (fun ls hl => ?_)
          refine lv_iload hx hb dL_holds_389 (lv_at hl 3 rfl) ?_
          refine lv_iload hx hb dL_holds_391 (lv_at hl 4 rfl) ?_
          refine lv_icmp_gt (tgt := 482) hx hb dL_holds_393 (by decide) (fun c_30 => ?_) (fun c_30 => ?_)
          · exact absurd c_30 hb1
          · refine lv_iload hx hb dL_holds_396 (lv_at hl 0 rfl) ?_
            refine lv_if_ne (tgt := 432) hx hb dL_holds_398 (by decide) (fun c_31 => ?_) (fun c_31 => ?_)
            · refine lv_fload hx hb dL_holds_432 (lv_at hl 1 rfl) ?_
              refine lv_fconst0 hx hb dL_holds_434 ?_
              refine lv_fcmp hx hb dL_holds_435 ?_
              refine lv_if_lt (tgt := 482) hx hb dL_holds_436 (by decide) (fun c_32 => ?_) (fun c_32 => ?_)
              · exact absurd c_32 hb3
              · refine lv_fload hx hb dL_holds_439 (lv_at hl 1 rfl) ?_
                refine lv_fconst1 hx hb dL_holds_441 ?_
                refine lv_fcmp hx hb dL_holds_442 ?_
                refine lv_if_gt (tgt := 482) hx hb dL_holds_443 (by decide) (fun c_33 => ?_) (fun c_33 => ?_)
                · exact absurd c_33 hb4
                · refine lv_aload_n hx hb dL_holds_446 rfl (lv_at hl 5 rfl) ?_
                  refine lv_iload hx hb dL_holds_447 (lv_at hl 11 rfl) ?_
                  refine lv_iconst (v := 3) hx hb dL_holds_449 (by decide) ?_
                  refine z_cVi (As := [.int (nI j), .int 3]) (rest := []) hx hb hml hown hts hl hK hZ hS (c_X6_item l G (zr μ 242 q) (μ 1) (zr_at rfl (by decide)) T I hT hI hT6 hI24 j ((μ (1 + (15 + j)) 0).toNatClampNeg) hjj hhh (μ (1 + (15 + j))) (zr_ne (by omega)) heh (z_home μ (μ (1 + (15 + j)))) (zr_ne (by omega)) 3 (by omega)) (z_G q390 q391 q392 q1 q393) hdX6_item ⟨Nat.le_of_ble_eq_true rfl, Nat.le_of_ble_eq_true rfl⟩ zk0 (by decide) rfl rfl rfl rfl (Nat.le_of_ble_eq_true rfl) dL_holds_450 ⟨(Nat.zero_le _), (Nat.zero_le _)⟩ (fun H locs hZ hS => ?_)
                  refine lv_aload_n hx hb dL_holds_453 rfl (lv_at hl 5 rfl) ?_
                  refine lv_iload hx hb dL_holds_454 (lv_at hl 11 rfl) ?_
                  refine lv_iconst (v := 2) hx hb dL_holds_456 (by decide) ?_
                  refine z_cVi (As := [.int (nI j), .int 2]) (rest := [.int (s_itm (μ (1 + (15 + j))) (μ 1) (z_home μ (μ (1 + (15 + j)))) 3)]) hx hb hml hown hts hl hK hZ hS (c_X6_item l G (zr μ 242 q) (μ 1) (zr_at rfl (by decide)) T I hT hI hT6 hI24 j ((μ (1 + (15 + j)) 0).toNatClampNeg) hjj hhh (μ (1 + (15 + j))) (zr_ne (by omega)) heh (z_home μ (μ (1 + (15 + j)))) (zr_ne (by omega)) 2 (by omega)) (z_G q390 q391 q392 q1 q393) hdX6_item ⟨Nat.le_of_ble_eq_true rfl, Nat.le_of_ble_eq_true rfl⟩ zk0 (by decide) rfl rfl rfl rfl (Nat.le_of_ble_eq_true rfl) dL_holds_457 ⟨(Nat.zero_le _), (Nat.zero_le _)⟩ (fun H locs hZ hS => ?_)
                  refine lv_icmp_gt (tgt := 482) hx hb dL_holds_460 (by decide) (fun c_34 => ?_) (fun c_34 => ?_)
                  · exact absurd c_34 hb5
                  · refine lv_aload_n hx hb dL_holds_463 rfl (lv_at hl 5 rfl) ?_
                    refine lv_iload hx hb dL_holds_464 (lv_at hl 11 rfl) ?_
                    refine lv_bipush (v := 8) hx hb dL_holds_466 (by decide) ?_
                    refine z_cVi (As := [.int (nI j), .int 8]) (rest := []) hx hb hml hown hts hl hK hZ hS (c_X6_item l G (zr μ 242 q) (μ 1) (zr_at rfl (by decide)) T I hT hI hT6 hI24 j ((μ (1 + (15 + j)) 0).toNatClampNeg) hjj hhh (μ (1 + (15 + j))) (zr_ne (by omega)) heh (z_home μ (μ (1 + (15 + j)))) (zr_ne (by omega)) 8 (by omega)) (z_G q390 q391 q392 q1 q393) hdX6_item ⟨Nat.le_of_ble_eq_true rfl, Nat.le_of_ble_eq_true rfl⟩ zk0 (by decide) rfl rfl rfl rfl (Nat.le_of_ble_eq_true rfl) dL_holds_468 ⟨(Nat.zero_le _), (Nat.zero_le _)⟩ (fun H locs hZ hS => ?_)
                    refine lv_iconst (v := 1) hx hb dL_holds_471 (by decide) ?_
                    refine lv_icmp_ne (tgt := 484) hx hb dL_holds_472 (by decide) (fun c_35 => ?_) (fun c_35 => ?_)
                    · refine lv_iinc (v := (nI (j + 1))) (lv' := [(6, .int (nI (j + 1))), (11, .int 1), (10, .float (s_X3_restAfter (μ (1 + (15 + j))) (s_X1_daysOf (μ 1) (z_home μ (μ (1 + (15 + j))))))), (9, .int (s_itm (μ (1 + (15 + j))) (μ 1) (z_home μ (μ (1 + (15 + j)))) 6)), (8, .int (s_itm (μ (1 + (15 + j))) (μ 1) (z_home μ (μ (1 + (15 + j)))) 9)), (7, .int (s_itm (μ (1 + (15 + j))) (μ 1) (z_home μ (μ (1 + (15 + j)))) 7)), (0, .ref (G.1 + 0)), (1, .int (s_cls μ 8 T)), (2, .int (s_cls μ 9 T)), (3, .int (s_cls μ 10 T)), (4, .int (s_cls μ 11 T)), (5, .int (s_sts μ T))]) hx hb dL_holds_484 hl (k := 11) rfl (nI_1 _) (by decide) rfl (fun ls hl => ?_)
                      refine lv_goto (tgt := 318) hx hb dL_holds_487 (by decide) ?_
                      exact ih (j + 1) (by omega) _ _ _ _ hZ hS (lv_sub hl [6, 7, 8, 9, 10, 11, 0] rfl)
                    · refine lv_iload hx hb dL_holds_475 (lv_at hl 3 rfl) ?_
                      refine lv_iload hx hb dL_holds_477 (lv_at hl 4 rfl) ?_
                      refine lv_icmp_eq (tgt := 484) hx hb dL_holds_479 (by decide) (fun c_36 => ?_) (fun c_36 => ?_)
                      · refine lv_iinc (v := (nI (j + 1))) (lv' := [(6, .int (nI (j + 1))), (11, .int 1), (10, .float (s_X3_restAfter (μ (1 + (15 + j))) (s_X1_daysOf (μ 1) (z_home μ (μ (1 + (15 + j))))))), (9, .int (s_itm (μ (1 + (15 + j))) (μ 1) (z_home μ (μ (1 + (15 + j)))) 6)), (8, .int (s_itm (μ (1 + (15 + j))) (μ 1) (z_home μ (μ (1 + (15 + j)))) 9)), (7, .int (s_itm (μ (1 + (15 + j))) (μ 1) (z_home μ (μ (1 + (15 + j)))) 7)), (0, .ref (G.1 + 0)), (1, .int (s_cls μ 8 T)), (2, .int (s_cls μ 9 T)), (3, .int (s_cls μ 10 T)), (4, .int (s_cls μ 11 T)), (5, .int (s_sts μ T))]) hx hb dL_holds_484 hl (k := 11) rfl (nI_1 _) (by decide) rfl (fun ls hl => ?_)
                        refine lv_goto (tgt := 318) hx hb dL_holds_487 (by decide) ?_
                        exact ih (j + 1) (by omega) _ _ _ _ hZ hS (lv_sub hl [6, 7, 8, 9, 10, 11, 0] rfl)
                      · exact absurd (hb6 c_35) c_36
            · exact absurd c_31 (by decide)
  have tens : ∀ (k t : Nat), t + k = T → (∀ (q : Nat → Int32) (H : Heap) (locs : List Loc) (ls : Array Slot), zW G (zr μ 242 q) H → va_S (zA G) s.heap H locs → lv_has ls 12 [(0, .ref (G.1 + 0)), (1, .int (s_cls μ 8 t)), (2, .int (s_cls μ 9 t)), (3, .int (s_cls μ 10 t)), (4, .int (s_cls μ 11 t)), (5, .int (s_sts μ t)), (6, .int (nI t))] → W p l e { frames := 6, cells := 0, slots := 0, locals := 138 } s m args below meth c H locs 0 0 (MQ below (zQiP G 1 (P242 μ)) args s 0 0 (zA G)) (F0 m 15 ls [])) := by
    intro k
    induction k with
    | zero =>
      intro t hv q H locs ls hZ hS hl
      have hv : T = t := by omega
      subst hv
      refine lv_iload hx hb dL_holds_15 (lv_at hl 6 rfl) ?_
      refine lv_aload_n hx hb dL_holds_17 rfl (lv_at hl 0 rfl) ?_
      refine lv_iconst (v := 1) hx hb dL_holds_18 (by decide) ?_
      refine z_cVi (As := [.int 1]) (rest := [.int (nI T)]) hx hb hml hown hts hl hK hZ hS (L_cntT l G (zr μ 242 q) (μ 1) hh (zr_at rfl (by decide)) (zr_at hfh (by decide)) T I o z hT hI hT6 hI24 ho hz ho4 hz4) (z_G q294 q295 q296 q1 q297) hdX6_count ⟨Nat.le_of_ble_eq_true rfl, Nat.le_of_ble_eq_true rfl⟩ zk0 (by decide) rfl rfl rfl rfl (Nat.le_of_ble_eq_true rfl) dL_holds_19 ⟨(Nat.zero_le _), (Nat.zero_le _)⟩ (fun H locs hZ hS => ?_)
      refine lv_icmp_ge (tgt := 315) hx hb dL_holds_22 (by decide) (fun c_50 => ?_) (fun c_50 => ?_)
      · refine lv_iconst (v := 0) hx hb dL_holds_315 (by decide) ?_
        refine lv_istore (lv' := [(6, .int 0), (0, .ref (G.1 + 0)), (1, .int (s_cls μ 8 T)), (2, .int (s_cls μ 9 T)), (3, .int (s_cls μ 10 T)), (4, .int (s_cls μ 11 T)), (5, .int (s_sts μ T))]) hx hb dL_holds_316 hl (by decide) rfl (fun ls hl => ?_)
        exact itms I 0 (by omega) _ _ _ _ hZ hS (lv_sub hl [1, 2, 3, 4, 5, 6, 0] rfl)
      · exact absurd (show nI T ≤ nI T from nI_le (Nat.le_refl _) (by omega)) c_50
    | succ k ih =>
      intro t hv q H locs ls hZ hS hl
      have htt : t < T := by omega
      have j219 : (∀ (q : Nat → Int32) (H : Heap) (locs : List Loc) (ls : Array Slot), zW G (zr μ 242 q) H → va_S (zA G) s.heap H locs → lv_has ls 12 [(0, .ref (G.1 + 0)), (1, .int (s_cls μ 8 t)), (2, .int (s_cls μ 9 t)), (3, .int (s_cls μ 10 t)), (4, .int (s_cls μ 11 t)), (5, .int (s_sts μ (t + 1))), (6, .int (nI t)), (7, .int (s_ten μ (μ 1) (μ (1 + (3 + 2 * t))) t I 2))] → W p l e { frames := 6, cells := 0, slots := 0, locals := 138 } s m args below meth c H locs 0 0 (MQ below (zQiP G 1 (P242 μ)) args s 0 0 (zA G)) (F0 m 219 ls [])) := by
        intro q H locs ls hZ hS hl
        refine lv_iload_n hx hb dL_holds_219 rfl (lv_at hl 1 rfl) ?_
        refine lv_iload hx hb dL_holds_220 (lv_at hl 7 rfl) ?_
        refine lv_iconst (v := 3) hx hb dL_holds_222 (by decide) ?_
        refine lv_icmp_ne (tgt := 236) hx hb dL_holds_223 (by decide) (fun c_37 => ?_) (fun c_37 => ?_)
        · refine lv_iconst (v := 0) hx hb dL_holds_236 (by decide) ?_
          refine lv_iadd hx hb dL_holds_237 ?_
          refine lv_istore_n (lv' := [(1, .int ((s_cls μ 8 t) + 0)), (0, .ref (G.1 + 0)), (2, .int (s_cls μ 9 t)), (3, .int (s_cls μ 10 t)), (4, .int (s_cls μ 11 t)), (5, .int (s_sts μ (t + 1))), (6, .int (nI t)), (7, .int (s_ten μ (μ 1) (μ (1 + (3 + 2 * t))) t I 2))]) hx hb dL_holds_238 rfl hl (by decide) rfl (fun ls hl => ?_)
          refine lv_iload_n hx hb dL_holds_239 rfl (lv_at hl 2 rfl) ?_
          refine lv_iload hx hb dL_holds_240 (lv_at hl 7 rfl) ?_
          refine lv_iconst (v := 3) hx hb dL_holds_242 (by decide) ?_
          refine lv_icmp_ne (tgt := 256) hx hb dL_holds_243 (by decide) (fun c_38 => ?_) (fun c_38 => ?_)
          · refine lv_iconst (v := 0) hx hb dL_holds_256 (by decide) ?_
            refine lv_iadd hx hb dL_holds_257 ?_
            refine lv_istore_n (lv' := [(2, .int ((s_cls μ 9 t) + 0)), (1, .int ((s_cls μ 8 t) + 0)), (0, .ref (G.1 + 0)), (3, .int (s_cls μ 10 t)), (4, .int (s_cls μ 11 t)), (5, .int (s_sts μ (t + 1))), (6, .int (nI t)), (7, .int (s_ten μ (μ 1) (μ (1 + (3 + 2 * t))) t I 2))]) hx hb dL_holds_258 rfl hl (by decide) rfl (fun ls hl => ?_)
            refine lv_iload_n hx hb dL_holds_259 rfl (lv_at hl 3 rfl) ?_
            refine lv_iload hx hb dL_holds_260 (lv_at hl 7 rfl) ?_
            refine lv_iconst (v := 3) hx hb dL_holds_262 (by decide) ?_
            refine lv_icmp_ne (tgt := 284) hx hb dL_holds_263 (by decide) (fun c_39 => ?_) (fun c_39 => ?_)
            · refine lv_iconst (v := 0) hx hb dL_holds_284 (by decide) ?_
              refine lv_iadd hx hb dL_holds_285 ?_
              refine lv_istore_n (lv' := [(3, .int ((s_cls μ 10 t) + 0)), (2, .int ((s_cls μ 9 t) + 0)), (1, .int ((s_cls μ 8 t) + 0)), (0, .ref (G.1 + 0)), (4, .int (s_cls μ 11 t)), (5, .int (s_sts μ (t + 1))), (6, .int (nI t)), (7, .int (s_ten μ (μ 1) (μ (1 + (3 + 2 * t))) t I 2))]) hx hb dL_holds_286 rfl hl (by decide) rfl (fun ls hl => ?_)
              refine lv_iload hx hb dL_holds_287 (lv_at hl 4 rfl) ?_
              refine lv_iload hx hb dL_holds_289 (lv_at hl 7 rfl) ?_
              refine lv_iconst (v := 3) hx hb dL_holds_291 (by decide) ?_
              refine lv_icmp_ne (tgt := 305) hx hb dL_holds_292 (by decide) (fun c_40 => ?_) (fun c_40 => ?_)
              · refine lv_iconst (v := 0) hx hb dL_holds_305 (by decide) ?_
                refine lv_iadd hx hb dL_holds_306 ?_
                refine lv_istore (lv' := [(4, .int ((s_cls μ 11 t) + 0)), (3, .int ((s_cls μ 10 t) + 0)), (2, .int ((s_cls μ 9 t) + 0)), (1, .int ((s_cls μ 8 t) + 0)), (0, .ref (G.1 + 0)), (5, .int (s_sts μ (t + 1))), (6, .int (nI t)), (7, .int (s_ten μ (μ 1) (μ (1 + (3 + 2 * t))) t I 2))]) hx hb dL_holds_307 hl (by decide) rfl (fun ls hl => ?_)
                refine lv_iinc (v := (nI (t + 1))) (lv' := [(6, .int (nI (t + 1))), (4, .int ((s_cls μ 11 t) + 0)), (3, .int ((s_cls μ 10 t) + 0)), (2, .int ((s_cls μ 9 t) + 0)), (1, .int ((s_cls μ 8 t) + 0)), (0, .ref (G.1 + 0)), (5, .int (s_sts μ (t + 1))), (7, .int (s_ten μ (μ 1) (μ (1 + (3 + 2 * t))) t I 2))]) hx hb dL_holds_309 hl (k := 6) rfl (nI_1 _) (by decide) rfl (fun ls hl => ?_)
                refine lv_goto (tgt := 15) hx hb dL_holds_312 (by decide) ?_
                rw [cls_out (w := 8) c_40, cls_out (w := 9) c_40, cls_out (w := 10) c_40, cls_out (w := 11) c_40] at hl
                exact ih (t + 1) (by omega) _ _ _ _ hZ hS (lv_sub hl [5, 4, 3, 2, 1, 6, 0] rfl)
              · exact absurd c_40 c_39
            · exact absurd c_39 c_38
          · exact absurd c_38 c_37
        · refine lv_aload_n hx hb dL_holds_226 rfl (lv_at hl 0 rfl) ?_
          refine lv_iload hx hb dL_holds_227 (lv_at hl 6 rfl) ?_
          refine lv_iconst (v := 0) hx hb dL_holds_229 (by decide) ?_
          refine z_cVi (As := [.int (nI t), .int 0]) (rest := [.int (s_cls μ 8 t)]) hx hb hml hown hts hl hK hZ hS (c_X6_outcome l G (zr μ 242 q) (μ 1) (zr_at rfl (by decide)) T I hT hI hT6 hI24 t htt (μ (1 + (3 + 2 * t))) (zr_ne (by omega)) (μ (1 + (3 + 2 * t) + 1)) (zr_ne (by omega)) hr8 0 (by omega)) (z_G q354 q355 q356 q1 q357) hdX6_outcome ⟨Nat.le_of_ble_eq_true rfl, Nat.le_of_ble_eq_true rfl⟩ zk0 (by decide) rfl rfl rfl rfl (Nat.le_of_ble_eq_true rfl) dL_holds_230 ⟨(Nat.zero_le _), (Nat.zero_le _)⟩ (fun H locs hZ hS => ?_)
          obtain ⟨q, hq2⟩ := m_oc_242 (μ := μ) (fb := μ 1) (g := (μ (1 + (3 + 2 * t)))) (t := t) (I := I) q
          rw [hq2] at hZ
          rw [s_oc_cg (eqv_242 (T := T) hT6 hI24)]
          refine lv_goto (tgt := 237) hx hb dL_holds_233 (by decide) ?_
          refine lv_iadd hx hb dL_holds_237 ?_
          refine lv_istore_n (lv' := [(1, .int ((s_cls μ 8 t) + (s_oc μ (μ 1) (μ (1 + (3 + 2 * t))) (μ (1 + (3 + 2 * t) + 1)) t I 0))), (0, .ref (G.1 + 0)), (2, .int (s_cls μ 9 t)), (3, .int (s_cls μ 10 t)), (4, .int (s_cls μ 11 t)), (5, .int (s_sts μ (t + 1))), (6, .int (nI t)), (7, .int (s_ten μ (μ 1) (μ (1 + (3 + 2 * t))) t I 2))]) hx hb dL_holds_238 rfl hl (by decide) rfl (fun ls hl => ?_)
          refine lv_iload_n hx hb dL_holds_239 rfl (lv_at hl 2 rfl) ?_
          refine lv_iload hx hb dL_holds_240 (lv_at hl 7 rfl) ?_
          refine lv_iconst (v := 3) hx hb dL_holds_242 (by decide) ?_
          refine lv_icmp_ne (tgt := 256) hx hb dL_holds_243 (by decide) (fun c_41 => ?_) (fun c_41 => ?_)
          · exact absurd c_37 c_41
          · refine lv_aload_n hx hb dL_holds_246 rfl (lv_at hl 1 rfl) ?_
            refine lv_iload hx hb dL_holds_247 (lv_at hl 6 rfl) ?_
            refine lv_iconst (v := 1) hx hb dL_holds_249 (by decide) ?_
            refine z_cVi (As := [.int (nI t), .int 1]) (rest := [.int (s_cls μ 9 t)]) hx hb hml hown hts hl hK hZ hS (c_X6_outcome l G (zr μ 242 q) (μ 1) (zr_at rfl (by decide)) T I hT hI hT6 hI24 t htt (μ (1 + (3 + 2 * t))) (zr_ne (by omega)) (μ (1 + (3 + 2 * t) + 1)) (zr_ne (by omega)) hr8 1 (by omega)) (z_G q354 q355 q356 q1 q357) hdX6_outcome ⟨Nat.le_of_ble_eq_true rfl, Nat.le_of_ble_eq_true rfl⟩ zk0 (by decide) rfl rfl rfl rfl (Nat.le_of_ble_eq_true rfl) dL_holds_250 ⟨(Nat.zero_le _), (Nat.zero_le _)⟩ (fun H locs hZ hS => ?_)
            obtain ⟨q, hq2⟩ := m_oc_242 (μ := μ) (fb := μ 1) (g := (μ (1 + (3 + 2 * t)))) (t := t) (I := I) q
            rw [hq2] at hZ
            rw [s_oc_cg (eqv_242 (T := T) hT6 hI24)]
            refine lv_goto (tgt := 257) hx hb dL_holds_253 (by decide) ?_
            refine lv_iadd hx hb dL_holds_257 ?_
            refine lv_istore_n (lv' := [(2, .int ((s_cls μ 9 t) + (s_oc μ (μ 1) (μ (1 + (3 + 2 * t))) (μ (1 + (3 + 2 * t) + 1)) t I 1))), (1, .int ((s_cls μ 8 t) + (s_oc μ (μ 1) (μ (1 + (3 + 2 * t))) (μ (1 + (3 + 2 * t) + 1)) t I 0))), (0, .ref (G.1 + 0)), (3, .int (s_cls μ 10 t)), (4, .int (s_cls μ 11 t)), (5, .int (s_sts μ (t + 1))), (6, .int (nI t)), (7, .int (s_ten μ (μ 1) (μ (1 + (3 + 2 * t))) t I 2))]) hx hb dL_holds_258 rfl hl (by decide) rfl (fun ls hl => ?_)
            refine lv_iload_n hx hb dL_holds_259 rfl (lv_at hl 3 rfl) ?_
            refine lv_iload hx hb dL_holds_260 (lv_at hl 7 rfl) ?_
            refine lv_iconst (v := 3) hx hb dL_holds_262 (by decide) ?_
            refine lv_icmp_ne (tgt := 284) hx hb dL_holds_263 (by decide) (fun c_42 => ?_) (fun c_42 => ?_)
            · exact absurd c_41 c_42
            · refine lv_aload_n hx hb dL_holds_266 rfl (lv_at hl 2 rfl) ?_
              refine lv_iload hx hb dL_holds_267 (lv_at hl 6 rfl) ?_
              refine lv_iconst (v := 2) hx hb dL_holds_269 (by decide) ?_
              refine z_cVi (As := [.int (nI t), .int 2]) (rest := [.int (s_cls μ 10 t)]) hx hb hml hown hts hl hK hZ hS (c_X6_outcome l G (zr μ 242 q) (μ 1) (zr_at rfl (by decide)) T I hT hI hT6 hI24 t htt (μ (1 + (3 + 2 * t))) (zr_ne (by omega)) (μ (1 + (3 + 2 * t) + 1)) (zr_ne (by omega)) hr8 2 (by omega)) (z_G q354 q355 q356 q1 q357) hdX6_outcome ⟨Nat.le_of_ble_eq_true rfl, Nat.le_of_ble_eq_true rfl⟩ zk0 (by decide) rfl rfl rfl rfl (Nat.le_of_ble_eq_true rfl) dL_holds_270 ⟨(Nat.zero_le _), (Nat.zero_le _)⟩ (fun H locs hZ hS => ?_)
              obtain ⟨q, hq2⟩ := m_oc_242 (μ := μ) (fb := μ 1) (g := (μ (1 + (3 + 2 * t)))) (t := t) (I := I) q
              rw [hq2] at hZ
              rw [s_oc_cg (eqv_242 (T := T) hT6 hI24)]
              refine lv_aload_n hx hb dL_holds_273 rfl (lv_at hl 2 rfl) ?_
              refine lv_iload hx hb dL_holds_274 (lv_at hl 6 rfl) ?_
              refine lv_iconst (v := 3) hx hb dL_holds_276 (by decide) ?_
              refine z_cVi (As := [.int (nI t), .int 3]) (rest := [.int (s_oc μ (μ 1) (μ (1 + (3 + 2 * t))) (μ (1 + (3 + 2 * t) + 1)) t I 2), .int (s_cls μ 10 t)]) hx hb hml hown hts hl hK hZ hS (c_X6_outcome l G (zr μ 242 q) (μ 1) (zr_at rfl (by decide)) T I hT hI hT6 hI24 t htt (μ (1 + (3 + 2 * t))) (zr_ne (by omega)) (μ (1 + (3 + 2 * t) + 1)) (zr_ne (by omega)) hr8 3 (by omega)) (z_G q354 q355 q356 q1 q357) hdX6_outcome ⟨Nat.le_of_ble_eq_true rfl, Nat.le_of_ble_eq_true rfl⟩ zk0 (by decide) rfl rfl rfl rfl (Nat.le_of_ble_eq_true rfl) dL_holds_277 ⟨(Nat.zero_le _), (Nat.zero_le _)⟩ (fun H locs hZ hS => ?_)
              obtain ⟨q, hq2⟩ := m_oc_242 (μ := μ) (fb := μ 1) (g := (μ (1 + (3 + 2 * t)))) (t := t) (I := I) q
              rw [hq2] at hZ
              rw [s_oc_cg (eqv_242 (T := T) hT6 hI24)]
              refine lv_iadd hx hb dL_holds_280 ?_
              refine lv_goto (tgt := 285) hx hb dL_holds_281 (by decide) ?_
              refine lv_iadd hx hb dL_holds_285 ?_
              refine lv_istore_n (lv' := [(3, .int ((s_cls μ 10 t) + ((s_oc μ (μ 1) (μ (1 + (3 + 2 * t))) (μ (1 + (3 + 2 * t) + 1)) t I 2) + (s_oc μ (μ 1) (μ (1 + (3 + 2 * t))) (μ (1 + (3 + 2 * t) + 1)) t I 3)))), (2, .int ((s_cls μ 9 t) + (s_oc μ (μ 1) (μ (1 + (3 + 2 * t))) (μ (1 + (3 + 2 * t) + 1)) t I 1))), (1, .int ((s_cls μ 8 t) + (s_oc μ (μ 1) (μ (1 + (3 + 2 * t))) (μ (1 + (3 + 2 * t) + 1)) t I 0))), (0, .ref (G.1 + 0)), (4, .int (s_cls μ 11 t)), (5, .int (s_sts μ (t + 1))), (6, .int (nI t)), (7, .int (s_ten μ (μ 1) (μ (1 + (3 + 2 * t))) t I 2))]) hx hb dL_holds_286 rfl hl (by decide) rfl (fun ls hl => ?_)
              refine lv_iload hx hb dL_holds_287 (lv_at hl 4 rfl) ?_
              refine lv_iload hx hb dL_holds_289 (lv_at hl 7 rfl) ?_
              refine lv_iconst (v := 3) hx hb dL_holds_291 (by decide) ?_
              refine lv_icmp_ne (tgt := 305) hx hb dL_holds_292 (by decide) (fun c_43 => ?_) (fun c_43 => ?_)
              · exact absurd c_42 c_43
              · refine lv_aload_n hx hb dL_holds_295 rfl (lv_at hl 3 rfl) ?_
                refine lv_iload hx hb dL_holds_296 (lv_at hl 6 rfl) ?_
                refine lv_iconst (v := 4) hx hb dL_holds_298 (by decide) ?_
                refine z_cVi (As := [.int (nI t), .int 4]) (rest := [.int (s_cls μ 11 t)]) hx hb hml hown hts hl hK hZ hS (c_X6_outcome l G (zr μ 242 q) (μ 1) (zr_at rfl (by decide)) T I hT hI hT6 hI24 t htt (μ (1 + (3 + 2 * t))) (zr_ne (by omega)) (μ (1 + (3 + 2 * t) + 1)) (zr_ne (by omega)) hr8 4 (by omega)) (z_G q354 q355 q356 q1 q357) hdX6_outcome ⟨Nat.le_of_ble_eq_true rfl, Nat.le_of_ble_eq_true rfl⟩ zk0 (by decide) rfl rfl rfl rfl (Nat.le_of_ble_eq_true rfl) dL_holds_299 ⟨(Nat.zero_le _), (Nat.zero_le _)⟩ (fun H locs hZ hS => ?_)
                obtain ⟨q, hq2⟩ := m_oc_242 (μ := μ) (fb := μ 1) (g := (μ (1 + (3 + 2 * t)))) (t := t) (I := I) q
                rw [hq2] at hZ
                rw [s_oc_cg (eqv_242 (T := T) hT6 hI24)]
                refine lv_goto (tgt := 306) hx hb dL_holds_302 (by decide) ?_
                refine lv_iadd hx hb dL_holds_306 ?_
                refine lv_istore (lv' := [(4, .int ((s_cls μ 11 t) + (s_oc μ (μ 1) (μ (1 + (3 + 2 * t))) (μ (1 + (3 + 2 * t) + 1)) t I 4))), (3, .int ((s_cls μ 10 t) + ((s_oc μ (μ 1) (μ (1 + (3 + 2 * t))) (μ (1 + (3 + 2 * t) + 1)) t I 2) + (s_oc μ (μ 1) (μ (1 + (3 + 2 * t))) (μ (1 + (3 + 2 * t) + 1)) t I 3)))), (2, .int ((s_cls μ 9 t) + (s_oc μ (μ 1) (μ (1 + (3 + 2 * t))) (μ (1 + (3 + 2 * t) + 1)) t I 1))), (1, .int ((s_cls μ 8 t) + (s_oc μ (μ 1) (μ (1 + (3 + 2 * t))) (μ (1 + (3 + 2 * t) + 1)) t I 0))), (0, .ref (G.1 + 0)), (5, .int (s_sts μ (t + 1))), (6, .int (nI t)), (7, .int (s_ten μ (μ 1) (μ (1 + (3 + 2 * t))) t I 2))]) hx hb dL_holds_307 hl (by decide) rfl (fun ls hl => ?_)
                refine lv_iinc (v := (nI (t + 1))) (lv' := [(6, .int (nI (t + 1))), (4, .int ((s_cls μ 11 t) + (s_oc μ (μ 1) (μ (1 + (3 + 2 * t))) (μ (1 + (3 + 2 * t) + 1)) t I 4))), (3, .int ((s_cls μ 10 t) + ((s_oc μ (μ 1) (μ (1 + (3 + 2 * t))) (μ (1 + (3 + 2 * t) + 1)) t I 2) + (s_oc μ (μ 1) (μ (1 + (3 + 2 * t))) (μ (1 + (3 + 2 * t) + 1)) t I 3)))), (2, .int ((s_cls μ 9 t) + (s_oc μ (μ 1) (μ (1 + (3 + 2 * t))) (μ (1 + (3 + 2 * t) + 1)) t I 1))), (1, .int ((s_cls μ 8 t) + (s_oc μ (μ 1) (μ (1 + (3 + 2 * t))) (μ (1 + (3 + 2 * t) + 1)) t I 0))), (0, .ref (G.1 + 0)), (5, .int (s_sts μ (t + 1))), (7, .int (s_ten μ (μ 1) (μ (1 + (3 + 2 * t))) t I 2))]) hx hb dL_holds_309 hl (k := 6) rfl (nI_1 _) (by decide) rfl (fun ls hl => ?_)
                refine lv_goto (tgt := 15) hx hb dL_holds_312 (by decide) ?_
                rw [cls_8 c_43, cls_9 c_43, cls_10 c_43, cls_11 c_43] at hl
                exact ih (t + 1) (by omega) _ _ _ _ hZ hS (lv_sub hl [5, 4, 3, 2, 1, 6, 0] rfl)
      have j153 : ¬ s_ten μ (μ 1) (μ (1 + (3 + 2 * t))) t I 2 ≤ 0 → (∀ (q : Nat → Int32) (H : Heap) (locs : List Loc) (ls : Array Slot), zW G (zr μ 242 q) H → va_S (zA G) s.heap H locs → lv_has ls 12 [(0, .ref (G.1 + 0)), (1, .int (s_cls μ 8 t)), (2, .int (s_cls μ 9 t)), (3, .int (s_cls μ 10 t)), (4, .int (s_cls μ 11 t)), (5, .int (s_sts μ (t + 1))), (6, .int (nI t)), (7, .int (s_ten μ (μ 1) (μ (1 + (3 + 2 * t))) t I 2)), (8, .int (((s_oc μ (μ 1) (μ (1 + (3 + 2 * t))) (μ (1 + (3 + 2 * t) + 1)) t I 0) + (s_oc μ (μ 1) (μ (1 + (3 + 2 * t))) (μ (1 + (3 + 2 * t) + 1)) t I 1)) + (s_oc μ (μ 1) (μ (1 + (3 + 2 * t))) (μ (1 + (3 + 2 * t) + 1)) t I 2))), (9, .int ((s_oc μ (μ 1) (μ (1 + (3 + 2 * t))) (μ (1 + (3 + 2 * t) + 1)) t I 2) + (s_oc μ (μ 1) (μ (1 + (3 + 2 * t))) (μ (1 + (3 + 2 * t) + 1)) t I 3)))] → W p l e { frames := 6, cells := 0, slots := 0, locals := 138 } s m args below meth c H locs 0 0 (MQ below (zQiP G 1 (P242 μ)) args s 0 0 (zA G)) (F0 m 153 ls [])) := by
        intro hpos q H locs ls hZ hS hl
        refine lv_iconst (v := 1) hx hb dL_holds_153 (by decide) ?_
        refine lv_goto (tgt := 158) hx hb dL_holds_154 (by decide) ?_
        refine lv_istore (lv' := [(10, .int 1), (0, .ref (G.1 + 0)), (1, .int (s_cls μ 8 t)), (2, .int (s_cls μ 9 t)), (3, .int (s_cls μ 10 t)), (4, .int (s_cls μ 11 t)), (5, .int (s_sts μ (t + 1))), (6, .int (nI t)), (7, .int (s_ten μ (μ 1) (μ (1 + (3 + 2 * t))) t I 2)), (8, .int (((s_oc μ (μ 1) (μ (1 + (3 + 2 * t))) (μ (1 + (3 + 2 * t) + 1)) t I 0) + (s_oc μ (μ 1) (μ (1 + (3 + 2 * t))) (μ (1 + (3 + 2 * t) + 1)) t I 1)) + (s_oc μ (μ 1) (μ (1 + (3 + 2 * t))) (μ (1 + (3 + 2 * t) + 1)) t I 2))), (9, .int ((s_oc μ (μ 1) (μ (1 + (3 + 2 * t))) (μ (1 + (3 + 2 * t) + 1)) t I 2) + (s_oc μ (μ 1) (μ (1 + (3 + 2 * t))) (μ (1 + (3 + 2 * t) + 1)) t I 3)))]) hx hb dL_holds_158 hl (by decide) rfl (fun ls hl => ?_)
        refine lv_iload hx hb dL_holds_160 (lv_at hl 9 rfl) ?_
        refine lv_aload_n hx hb dL_holds_162 rfl (lv_at hl 1 rfl) ?_
        refine lv_iload hx hb dL_holds_163 (lv_at hl 7 rfl) ?_
        refine lv_iconst (v := 5) hx hb dL_holds_165 (by decide) ?_
        refine z_cVi (As := [.int (nI t), .int 5]) (rest := [.int (((s_oc μ (μ 1) (μ (1 + (3 + 2 * t))) (μ (1 + (3 + 2 * t) + 1)) t I 0) + (s_oc μ (μ 1) (μ (1 + (3 + 2 * t))) (μ (1 + (3 + 2 * t) + 1)) t I 1)) + (s_oc μ (μ 1) (μ (1 + (3 + 2 * t))) (μ (1 + (3 + 2 * t) + 1)) t I 2))]) hx hb hml hown hts hl hK hZ hS (c_X6_outcome l G (zr μ 242 q) (μ 1) (zr_at rfl (by decide)) T I hT hI hT6 hI24 t htt (μ (1 + (3 + 2 * t))) (zr_ne (by omega)) (μ (1 + (3 + 2 * t) + 1)) (zr_ne (by omega)) hr8 5 (by omega)) (z_G q354 q355 q356 q1 q357) hdX6_outcome ⟨Nat.le_of_ble_eq_true rfl, Nat.le_of_ble_eq_true rfl⟩ zk0 (by decide) rfl rfl rfl rfl (Nat.le_of_ble_eq_true rfl) dL_holds_166 ⟨(Nat.zero_le _), (Nat.zero_le _)⟩ (fun H locs hZ hS => ?_)
        obtain ⟨q, hq2⟩ := m_oc_242 (μ := μ) (fb := μ 1) (g := (μ (1 + (3 + 2 * t)))) (t := t) (I := I) q
        rw [hq2] at hZ
        rw [s_oc_cg (eqv_242 (T := T) hT6 hI24)]
        refine lv_icmp_ne (tgt := 217) hx hb dL_holds_169 (by decide) (fun c_44 => ?_) (fun c_44 => ?_)
        · exact absurd (hA8 t htt hpos).1 c_44
        · refine lv_iload hx hb dL_holds_172 (lv_at hl 9 rfl) ?_
          refine lv_aload_n hx hb dL_holds_174 rfl (lv_at hl 1 rfl) ?_
          refine lv_iload hx hb dL_holds_175 (lv_at hl 7 rfl) ?_
          refine lv_iconst (v := 0) hx hb dL_holds_177 (by decide) ?_
          refine z_cVi (As := [.int (nI t), .int 0]) (rest := [.int (((s_oc μ (μ 1) (μ (1 + (3 + 2 * t))) (μ (1 + (3 + 2 * t) + 1)) t I 0) + (s_oc μ (μ 1) (μ (1 + (3 + 2 * t))) (μ (1 + (3 + 2 * t) + 1)) t I 1)) + (s_oc μ (μ 1) (μ (1 + (3 + 2 * t))) (μ (1 + (3 + 2 * t) + 1)) t I 2))]) hx hb hml hown hts hl hK hZ hS (c_X6_tenancy l G (zr μ 242 q) (μ 1) (zr_at rfl (by decide)) T I hT hI hT6 hI24 t htt (μ (1 + (3 + 2 * t))) (zr_ne (by omega)) hr8 0 (by omega)) (z_G q324 q325 q326 q1 q327) hdX6_tenancy ⟨Nat.le_of_ble_eq_true rfl, Nat.le_of_ble_eq_true rfl⟩ zk0 (by decide) rfl rfl rfl rfl (Nat.le_of_ble_eq_true rfl) dL_holds_178 ⟨(Nat.zero_le _), (Nat.zero_le _)⟩ (fun H locs hZ hS => ?_)
          rw [s_ten_cg (eqv_242 (T := T) hT6 hI24)]
          refine lv_aload_n hx hb dL_holds_181 rfl (lv_at hl 1 rfl) ?_
          refine lv_iload hx hb dL_holds_182 (lv_at hl 7 rfl) ?_
          refine lv_iconst (v := 4) hx hb dL_holds_184 (by decide) ?_
          refine z_cVi (As := [.int (nI t), .int 4]) (rest := [.int (s_ten μ (μ 1) (μ (1 + (3 + 2 * t))) t I 0), .int (((s_oc μ (μ 1) (μ (1 + (3 + 2 * t))) (μ (1 + (3 + 2 * t) + 1)) t I 0) + (s_oc μ (μ 1) (μ (1 + (3 + 2 * t))) (μ (1 + (3 + 2 * t) + 1)) t I 1)) + (s_oc μ (μ 1) (μ (1 + (3 + 2 * t))) (μ (1 + (3 + 2 * t) + 1)) t I 2))]) hx hb hml hown hts hl hK hZ hS (c_X6_tenancy l G (zr μ 242 q) (μ 1) (zr_at rfl (by decide)) T I hT hI hT6 hI24 t htt (μ (1 + (3 + 2 * t))) (zr_ne (by omega)) hr8 4 (by omega)) (z_G q324 q325 q326 q1 q327) hdX6_tenancy ⟨Nat.le_of_ble_eq_true rfl, Nat.le_of_ble_eq_true rfl⟩ zk0 (by decide) rfl rfl rfl rfl (Nat.le_of_ble_eq_true rfl) dL_holds_185 ⟨(Nat.zero_le _), (Nat.zero_le _)⟩ (fun H locs hZ hS => ?_)
          rw [s_ten_cg (eqv_242 (T := T) hT6 hI24)]
          refine lv_iadd hx hb dL_holds_188 ?_
          refine lv_icmp_ne (tgt := 217) hx hb dL_holds_189 (by decide) (fun c_45 => ?_) (fun c_45 => ?_)
          · exact absurd (hA8 t htt hpos).2.1 c_45
          · refine lv_aload_n hx hb dL_holds_192 rfl (lv_at hl 1 rfl) ?_
            refine lv_iload hx hb dL_holds_193 (lv_at hl 7 rfl) ?_
            refine lv_iconst (v := 4) hx hb dL_holds_195 (by decide) ?_
            refine z_cVi (As := [.int (nI t), .int 4]) (rest := []) hx hb hml hown hts hl hK hZ hS (c_X6_outcome l G (zr μ 242 q) (μ 1) (zr_at rfl (by decide)) T I hT hI hT6 hI24 t htt (μ (1 + (3 + 2 * t))) (zr_ne (by omega)) (μ (1 + (3 + 2 * t) + 1)) (zr_ne (by omega)) hr8 4 (by omega)) (z_G q354 q355 q356 q1 q357) hdX6_outcome ⟨Nat.le_of_ble_eq_true rfl, Nat.le_of_ble_eq_true rfl⟩ zk0 (by decide) rfl rfl rfl rfl (Nat.le_of_ble_eq_true rfl) dL_holds_196 ⟨(Nat.zero_le _), (Nat.zero_le _)⟩ (fun H locs hZ hS => ?_)
            obtain ⟨q, hq2⟩ := m_oc_242 (μ := μ) (fb := μ 1) (g := (μ (1 + (3 + 2 * t)))) (t := t) (I := I) q
            rw [hq2] at hZ
            rw [s_oc_cg (eqv_242 (T := T) hT6 hI24)]
            refine lv_if_le (tgt := 212) hx hb dL_holds_199 (by decide) (fun c_46 => ?_) (fun c_46 => ?_)
            · refine lv_iload hx hb dL_holds_212 (lv_at hl 0 rfl) ?_
              refine lv_if_ne (tgt := 219) hx hb dL_holds_214 (by decide) (fun c_47 => ?_) (fun c_47 => ?_)
              · exact j219 _ _ _ _ hZ hS (lv_sub hl [1, 2, 3, 4, 5, 6, 7, 8] rfl)
              · exact absurd c_47 (by decide)
            · refine lv_aload_n hx hb dL_holds_202 rfl (lv_at hl 1 rfl) ?_
              refine lv_iload hx hb dL_holds_203 (lv_at hl 7 rfl) ?_
              refine lv_iconst (v := 0) hx hb dL_holds_205 (by decide) ?_
              refine z_cVi (As := [.int (nI t), .int 0]) (rest := []) hx hb hml hown hts hl hK hZ hS (c_X6_outcome l G (zr μ 242 q) (μ 1) (zr_at rfl (by decide)) T I hT hI hT6 hI24 t htt (μ (1 + (3 + 2 * t))) (zr_ne (by omega)) (μ (1 + (3 + 2 * t) + 1)) (zr_ne (by omega)) hr8 0 (by omega)) (z_G q354 q355 q356 q1 q357) hdX6_outcome ⟨Nat.le_of_ble_eq_true rfl, Nat.le_of_ble_eq_true rfl⟩ zk0 (by decide) rfl rfl rfl rfl (Nat.le_of_ble_eq_true rfl) dL_holds_206 ⟨(Nat.zero_le _), (Nat.zero_le _)⟩ (fun H locs hZ hS => ?_)
              obtain ⟨q, hq2⟩ := m_oc_242 (μ := μ) (fb := μ 1) (g := (μ (1 + (3 + 2 * t)))) (t := t) (I := I) q
              rw [hq2] at hZ
              rw [s_oc_cg (eqv_242 (T := T) hT6 hI24)]
              refine lv_if_gt (tgt := 217) hx hb dL_holds_209 (by decide) (fun c_48 => ?_) (fun c_48 => ?_)
              · exact absurd c_48 ((hA8 t htt hpos).2.2.1.resolve_left c_46)
              · refine lv_iload hx hb dL_holds_212 (lv_at hl 0 rfl) ?_
                refine lv_if_ne (tgt := 219) hx hb dL_holds_214 (by decide) (fun c_49 => ?_) (fun c_49 => ?_)
                · exact j219 _ _ _ _ hZ hS (lv_sub hl [1, 2, 3, 4, 5, 6, 7, 8] rfl)
                · exact absurd c_49 (by decide)
      refine lv_iload hx hb dL_holds_15 (lv_at hl 6 rfl) ?_
      refine lv_aload_n hx hb dL_holds_17 rfl (lv_at hl 0 rfl) ?_
      refine lv_iconst (v := 1) hx hb dL_holds_18 (by decide) ?_
      refine z_cVi (As := [.int 1]) (rest := [.int (nI t)]) hx hb hml hown hts hl hK hZ hS (L_cntT l G (zr μ 242 q) (μ 1) hh (zr_at rfl (by decide)) (zr_at hfh (by decide)) T I o z hT hI hT6 hI24 ho hz ho4 hz4) (z_G q294 q295 q296 q1 q297) hdX6_count ⟨Nat.le_of_ble_eq_true rfl, Nat.le_of_ble_eq_true rfl⟩ zk0 (by decide) rfl rfl rfl rfl (Nat.le_of_ble_eq_true rfl) dL_holds_19 ⟨(Nat.zero_le _), (Nat.zero_le _)⟩ (fun H locs hZ hS => ?_)
      refine lv_icmp_ge (tgt := 315) hx hb dL_holds_22 (by decide) (fun c_51 => ?_) (fun c_51 => ?_)
      · exact absurd (show nI T ≤ nI t from c_51) (nI_ge (by omega) (by omega))
      · refine lv_aload_n hx hb dL_holds_25 rfl (lv_at hl 0 rfl) ?_
        refine lv_iload hx hb dL_holds_26 (lv_at hl 6 rfl) ?_
        refine lv_iconst (v := 2) hx hb dL_holds_28 (by decide) ?_
        refine z_cVi (As := [.int (nI t), .int 2]) (rest := []) hx hb hml hown hts hl hK hZ hS (c_X6_tenancy l G (zr μ 242 q) (μ 1) (zr_at rfl (by decide)) T I hT hI hT6 hI24 t htt (μ (1 + (3 + 2 * t))) (zr_ne (by omega)) hr8 2 (by omega)) (z_G q324 q325 q326 q1 q327) hdX6_tenancy ⟨Nat.le_of_ble_eq_true rfl, Nat.le_of_ble_eq_true rfl⟩ zk0 (by decide) rfl rfl rfl rfl (Nat.le_of_ble_eq_true rfl) dL_holds_29 ⟨(Nat.zero_le _), (Nat.zero_le _)⟩ (fun H locs hZ hS => ?_)
        rw [s_ten_cg (eqv_242 (T := T) hT6 hI24)]
        refine lv_istore (lv' := [(7, .int (s_ten μ (μ 1) (μ (1 + (3 + 2 * t))) t I 2)), (0, .ref (G.1 + 0)), (1, .int (s_cls μ 8 t)), (2, .int (s_cls μ 9 t)), (3, .int (s_cls μ 10 t)), (4, .int (s_cls μ 11 t)), (5, .int (s_sts μ t)), (6, .int (nI t))]) hx hb dL_holds_32 hl (by decide) rfl (fun ls hl => ?_)
        refine lv_iload hx hb dL_holds_34 (lv_at hl 6 rfl) ?_
        refine lv_iload hx hb dL_holds_36 (lv_at hl 0 rfl) ?_
        refine lv_iadd hx hb dL_holds_38 ?_
        refine lv_istore (lv' := [(5, .int ((s_sts μ t) + (s_ten μ (μ 1) (μ (1 + (3 + 2 * t))) t I 2))), (7, .int (s_ten μ (μ 1) (μ (1 + (3 + 2 * t))) t I 2)), (0, .ref (G.1 + 0)), (1, .int (s_cls μ 8 t)), (2, .int (s_cls μ 9 t)), (3, .int (s_cls μ 10 t)), (4, .int (s_cls μ 11 t)), (6, .int (nI t))]) hx hb dL_holds_39 hl (by decide) rfl (fun ls hl => ?_)
        refine lv_iload hx hb dL_holds_41 (lv_at hl 1 rfl) ?_
        refine lv_if_le (tgt := 219) hx hb dL_holds_43 (by decide) (fun c_52 => ?_) (fun c_52 => ?_)
        · exact j219 _ _ _ _ hZ hS (lv_sub hl [2, 3, 4, 5, 6, 0, 7, 1] rfl)
        · refine lv_aload_n hx hb dL_holds_46 rfl (lv_at hl 2 rfl) ?_
          refine lv_iload hx hb dL_holds_47 (lv_at hl 7 rfl) ?_
          refine lv_iconst (v := 0) hx hb dL_holds_49 (by decide) ?_
          refine z_cVi (As := [.int (nI t), .int 0]) (rest := []) hx hb hml hown hts hl hK hZ hS (c_X6_outcome l G (zr μ 242 q) (μ 1) (zr_at rfl (by decide)) T I hT hI hT6 hI24 t htt (μ (1 + (3 + 2 * t))) (zr_ne (by omega)) (μ (1 + (3 + 2 * t) + 1)) (zr_ne (by omega)) hr8 0 (by omega)) (z_G q354 q355 q356 q1 q357) hdX6_outcome ⟨Nat.le_of_ble_eq_true rfl, Nat.le_of_ble_eq_true rfl⟩ zk0 (by decide) rfl rfl rfl rfl (Nat.le_of_ble_eq_true rfl) dL_holds_50 ⟨(Nat.zero_le _), (Nat.zero_le _)⟩ (fun H locs hZ hS => ?_)
          obtain ⟨q, hq2⟩ := m_oc_242 (μ := μ) (fb := μ 1) (g := (μ (1 + (3 + 2 * t)))) (t := t) (I := I) q
          rw [hq2] at hZ
          rw [s_oc_cg (eqv_242 (T := T) hT6 hI24)]
          refine lv_aload_n hx hb dL_holds_53 rfl (lv_at hl 2 rfl) ?_
          refine lv_iload hx hb dL_holds_54 (lv_at hl 7 rfl) ?_
          refine lv_iconst (v := 1) hx hb dL_holds_56 (by decide) ?_
          refine z_cVi (As := [.int (nI t), .int 1]) (rest := [.int (s_oc μ (μ 1) (μ (1 + (3 + 2 * t))) (μ (1 + (3 + 2 * t) + 1)) t I 0)]) hx hb hml hown hts hl hK hZ hS (c_X6_outcome l G (zr μ 242 q) (μ 1) (zr_at rfl (by decide)) T I hT hI hT6 hI24 t htt (μ (1 + (3 + 2 * t))) (zr_ne (by omega)) (μ (1 + (3 + 2 * t) + 1)) (zr_ne (by omega)) hr8 1 (by omega)) (z_G q354 q355 q356 q1 q357) hdX6_outcome ⟨Nat.le_of_ble_eq_true rfl, Nat.le_of_ble_eq_true rfl⟩ zk0 (by decide) rfl rfl rfl rfl (Nat.le_of_ble_eq_true rfl) dL_holds_57 ⟨(Nat.zero_le _), (Nat.zero_le _)⟩ (fun H locs hZ hS => ?_)
          obtain ⟨q, hq2⟩ := m_oc_242 (μ := μ) (fb := μ 1) (g := (μ (1 + (3 + 2 * t)))) (t := t) (I := I) q
          rw [hq2] at hZ
          rw [s_oc_cg (eqv_242 (T := T) hT6 hI24)]
          refine lv_iadd hx hb dL_holds_60 ?_
          refine lv_aload_n hx hb dL_holds_61 rfl (lv_at hl 2 rfl) ?_
          refine lv_iload hx hb dL_holds_62 (lv_at hl 7 rfl) ?_
          refine lv_iconst (v := 2) hx hb dL_holds_64 (by decide) ?_
          refine z_cVi (As := [.int (nI t), .int 2]) (rest := [.int ((s_oc μ (μ 1) (μ (1 + (3 + 2 * t))) (μ (1 + (3 + 2 * t) + 1)) t I 0) + (s_oc μ (μ 1) (μ (1 + (3 + 2 * t))) (μ (1 + (3 + 2 * t) + 1)) t I 1))]) hx hb hml hown hts hl hK hZ hS (c_X6_outcome l G (zr μ 242 q) (μ 1) (zr_at rfl (by decide)) T I hT hI hT6 hI24 t htt (μ (1 + (3 + 2 * t))) (zr_ne (by omega)) (μ (1 + (3 + 2 * t) + 1)) (zr_ne (by omega)) hr8 2 (by omega)) (z_G q354 q355 q356 q1 q357) hdX6_outcome ⟨Nat.le_of_ble_eq_true rfl, Nat.le_of_ble_eq_true rfl⟩ zk0 (by decide) rfl rfl rfl rfl (Nat.le_of_ble_eq_true rfl) dL_holds_65 ⟨(Nat.zero_le _), (Nat.zero_le _)⟩ (fun H locs hZ hS => ?_)
          obtain ⟨q, hq2⟩ := m_oc_242 (μ := μ) (fb := μ 1) (g := (μ (1 + (3 + 2 * t)))) (t := t) (I := I) q
          rw [hq2] at hZ
          rw [s_oc_cg (eqv_242 (T := T) hT6 hI24)]
          refine lv_iadd hx hb dL_holds_68 ?_
          refine lv_istore (lv' := [(8, .int (((s_oc μ (μ 1) (μ (1 + (3 + 2 * t))) (μ (1 + (3 + 2 * t) + 1)) t I 0) + (s_oc μ (μ 1) (μ (1 + (3 + 2 * t))) (μ (1 + (3 + 2 * t) + 1)) t I 1)) + (s_oc μ (μ 1) (μ (1 + (3 + 2 * t))) (μ (1 + (3 + 2 * t) + 1)) t I 2))), (5, .int ((s_sts μ t) + (s_ten μ (μ 1) (μ (1 + (3 + 2 * t))) t I 2))), (7, .int (s_ten μ (μ 1) (μ (1 + (3 + 2 * t))) t I 2)), (0, .ref (G.1 + 0)), (1, .int (s_cls μ 8 t)), (2, .int (s_cls μ 9 t)), (3, .int (s_cls μ 10 t)), (4, .int (s_cls μ 11 t)), (6, .int (nI t))]) hx hb dL_holds_69 hl (by decide) rfl (fun ls hl => ?_)
          refine lv_aload_n hx hb dL_holds_71 rfl (lv_at hl 3 rfl) ?_
          refine lv_iload hx hb dL_holds_72 (lv_at hl 8 rfl) ?_
          refine lv_iconst (v := 2) hx hb dL_holds_74 (by decide) ?_
          refine z_cVi (As := [.int (nI t), .int 2]) (rest := []) hx hb hml hown hts hl hK hZ hS (c_X6_outcome l G (zr μ 242 q) (μ 1) (zr_at rfl (by decide)) T I hT hI hT6 hI24 t htt (μ (1 + (3 + 2 * t))) (zr_ne (by omega)) (μ (1 + (3 + 2 * t) + 1)) (zr_ne (by omega)) hr8 2 (by omega)) (z_G q354 q355 q356 q1 q357) hdX6_outcome ⟨Nat.le_of_ble_eq_true rfl, Nat.le_of_ble_eq_true rfl⟩ zk0 (by decide) rfl rfl rfl rfl (Nat.le_of_ble_eq_true rfl) dL_holds_75 ⟨(Nat.zero_le _), (Nat.zero_le _)⟩ (fun H locs hZ hS => ?_)
          obtain ⟨q, hq2⟩ := m_oc_242 (μ := μ) (fb := μ 1) (g := (μ (1 + (3 + 2 * t)))) (t := t) (I := I) q
          rw [hq2] at hZ
          rw [s_oc_cg (eqv_242 (T := T) hT6 hI24)]
          refine lv_aload_n hx hb dL_holds_78 rfl (lv_at hl 3 rfl) ?_
          refine lv_iload hx hb dL_holds_79 (lv_at hl 8 rfl) ?_
          refine lv_iconst (v := 3) hx hb dL_holds_81 (by decide) ?_
          refine z_cVi (As := [.int (nI t), .int 3]) (rest := [.int (s_oc μ (μ 1) (μ (1 + (3 + 2 * t))) (μ (1 + (3 + 2 * t) + 1)) t I 2)]) hx hb hml hown hts hl hK hZ hS (c_X6_outcome l G (zr μ 242 q) (μ 1) (zr_at rfl (by decide)) T I hT hI hT6 hI24 t htt (μ (1 + (3 + 2 * t))) (zr_ne (by omega)) (μ (1 + (3 + 2 * t) + 1)) (zr_ne (by omega)) hr8 3 (by omega)) (z_G q354 q355 q356 q1 q357) hdX6_outcome ⟨Nat.le_of_ble_eq_true rfl, Nat.le_of_ble_eq_true rfl⟩ zk0 (by decide) rfl rfl rfl rfl (Nat.le_of_ble_eq_true rfl) dL_holds_82 ⟨(Nat.zero_le _), (Nat.zero_le _)⟩ (fun H locs hZ hS => ?_)
          obtain ⟨q, hq2⟩ := m_oc_242 (μ := μ) (fb := μ 1) (g := (μ (1 + (3 + 2 * t)))) (t := t) (I := I) q
          rw [hq2] at hZ
          rw [s_oc_cg (eqv_242 (T := T) hT6 hI24)]
          refine lv_iadd hx hb dL_holds_85 ?_
          refine lv_istore (lv' := [(9, .int ((s_oc μ (μ 1) (μ (1 + (3 + 2 * t))) (μ (1 + (3 + 2 * t) + 1)) t I 2) + (s_oc μ (μ 1) (μ (1 + (3 + 2 * t))) (μ (1 + (3 + 2 * t) + 1)) t I 3))), (8, .int (((s_oc μ (μ 1) (μ (1 + (3 + 2 * t))) (μ (1 + (3 + 2 * t) + 1)) t I 0) + (s_oc μ (μ 1) (μ (1 + (3 + 2 * t))) (μ (1 + (3 + 2 * t) + 1)) t I 1)) + (s_oc μ (μ 1) (μ (1 + (3 + 2 * t))) (μ (1 + (3 + 2 * t) + 1)) t I 2))), (5, .int ((s_sts μ t) + (s_ten μ (μ 1) (μ (1 + (3 + 2 * t))) t I 2))), (7, .int (s_ten μ (μ 1) (μ (1 + (3 + 2 * t))) t I 2)), (0, .ref (G.1 + 0)), (1, .int (s_cls μ 8 t)), (2, .int (s_cls μ 9 t)), (3, .int (s_cls μ 10 t)), (4, .int (s_cls μ 11 t)), (6, .int (nI t))]) hx hb dL_holds_86 hl (by decide) rfl (fun ls hl => ?_)
          refine lv_iload hx hb dL_holds_88 (lv_at hl 3 rfl) ?_
          refine lv_iconst (v := 3) hx hb dL_holds_90 (by decide) ?_
          refine lv_icmp_eq (tgt := 153) hx hb dL_holds_91 (by decide) (fun c_53 => ?_) (fun c_53 => ?_)
          · exact j153 c_52 _ _ _ _ hZ hS (lv_sub hl [4, 5, 6, 7, 8, 2, 9, 3, 1, 0] rfl)
          · refine lv_iload hx hb dL_holds_94 (lv_at hl 0 rfl) ?_
            refine lv_aload_n hx hb dL_holds_96 rfl (lv_at hl 4 rfl) ?_
            refine lv_bipush (v := 7) hx hb dL_holds_97 (by decide) ?_
            refine z_cVi (As := [.int 7]) (rest := [.int ((s_oc μ (μ 1) (μ (1 + (3 + 2 * t))) (μ (1 + (3 + 2 * t) + 1)) t I 2) + (s_oc μ (μ 1) (μ (1 + (3 + 2 * t))) (μ (1 + (3 + 2 * t) + 1)) t I 3))]) hx hb hml hown hts hl hK hZ hS (c_X6_count l G (zr μ 242 q) (μ 1) hh (zr_at rfl (by decide)) (zr_at hfh (by decide)) T I o z hT hI hT6 hI24 ho hz ho4 hz4 7 (by omega)) (z_G q294 q295 q296 q1 q297) hdX6_count ⟨Nat.le_of_ble_eq_true rfl, Nat.le_of_ble_eq_true rfl⟩ zk0 (by decide) rfl rfl rfl rfl (Nat.le_of_ble_eq_true rfl) dL_holds_99 ⟨(Nat.zero_le _), (Nat.zero_le _)⟩ (fun H locs hZ hS => ?_)
            rw [s_cnt_cg (eqv_242 hT6 hI24)]
            refine lv_icmp_gt (tgt := 157) hx hb dL_holds_102 (by decide) (fun c_54 => ?_) (fun c_54 => ?_)
            · exact absurd c_54 ((hA8 t htt c_52).2.2.2 c_53).1
            · refine lv_aload_n hx hb dL_holds_105 rfl (lv_at hl 4 rfl) ?_
              refine lv_iload hx hb dL_holds_106 (lv_at hl 9 rfl) ?_
              refine lv_bipush (v := 9) hx hb dL_holds_108 (by decide) ?_
              refine z_cVi (As := [.int (nI t), .int 9]) (rest := []) hx hb hml hown hts hl hK hZ hS (c_X6_tenancy l G (zr μ 242 q) (μ 1) (zr_at rfl (by decide)) T I hT hI hT6 hI24 t htt (μ (1 + (3 + 2 * t))) (zr_ne (by omega)) hr8 9 (by omega)) (z_G q324 q325 q326 q1 q327) hdX6_tenancy ⟨Nat.le_of_ble_eq_true rfl, Nat.le_of_ble_eq_true rfl⟩ zk0 (by decide) rfl rfl rfl rfl (Nat.le_of_ble_eq_true rfl) dL_holds_110 ⟨(Nat.zero_le _), (Nat.zero_le _)⟩ (fun H locs hZ hS => ?_)
              rw [s_ten_cg (eqv_242 (T := T) hT6 hI24)]
              refine lv_if_gt (tgt := 121) hx hb dL_holds_113 (by decide) (fun c_55 => ?_) (fun c_55 => ?_)
              · refine lv_aload_n hx hb dL_holds_121 rfl (lv_at hl 4 rfl) ?_
                refine lv_iload hx hb dL_holds_122 (lv_at hl 9 rfl) ?_
                refine lv_iconst (v := 4) hx hb dL_holds_124 (by decide) ?_
                refine z_cVi (As := [.int (nI t), .int 4]) (rest := []) hx hb hml hown hts hl hK hZ hS (c_X6_outcome l G (zr μ 242 q) (μ 1) (zr_at rfl (by decide)) T I hT hI hT6 hI24 t htt (μ (1 + (3 + 2 * t))) (zr_ne (by omega)) (μ (1 + (3 + 2 * t) + 1)) (zr_ne (by omega)) hr8 4 (by omega)) (z_G q354 q355 q356 q1 q357) hdX6_outcome ⟨Nat.le_of_ble_eq_true rfl, Nat.le_of_ble_eq_true rfl⟩ zk0 (by decide) rfl rfl rfl rfl (Nat.le_of_ble_eq_true rfl) dL_holds_125 ⟨(Nat.zero_le _), (Nat.zero_le _)⟩ (fun H locs hZ hS => ?_)
                obtain ⟨q, hq2⟩ := m_oc_242 (μ := μ) (fb := μ 1) (g := (μ (1 + (3 + 2 * t)))) (t := t) (I := I) q
                rw [hq2] at hZ
                rw [s_oc_cg (eqv_242 (T := T) hT6 hI24)]
                refine lv_if_gt (tgt := 153) hx hb dL_holds_128 (by decide) (fun c_56 => ?_) (fun c_56 => ?_)
                · exact j153 c_52 _ _ _ _ hZ hS (lv_sub hl [4, 5, 6, 7, 8, 2, 9, 3, 1, 0] rfl)
                · refine lv_aload_n hx hb dL_holds_131 rfl (lv_at hl 4 rfl) ?_
                  refine lv_iload hx hb dL_holds_132 (lv_at hl 9 rfl) ?_
                  refine lv_bipush (v := 9) hx hb dL_holds_134 (by decide) ?_
                  refine z_cVi (As := [.int (nI t), .int 9]) (rest := []) hx hb hml hown hts hl hK hZ hS (c_X6_tenancy l G (zr μ 242 q) (μ 1) (zr_at rfl (by decide)) T I hT hI hT6 hI24 t htt (μ (1 + (3 + 2 * t))) (zr_ne (by omega)) hr8 9 (by omega)) (z_G q324 q325 q326 q1 q327) hdX6_tenancy ⟨Nat.le_of_ble_eq_true rfl, Nat.le_of_ble_eq_true rfl⟩ zk0 (by decide) rfl rfl rfl rfl (Nat.le_of_ble_eq_true rfl) dL_holds_136 ⟨(Nat.zero_le _), (Nat.zero_le _)⟩ (fun H locs hZ hS => ?_)
                  rw [s_ten_cg (eqv_242 (T := T) hT6 hI24)]
                  refine lv_if_eq (tgt := 153) hx hb dL_holds_139 (by decide) (fun c_57 => ?_) (fun c_57 => ?_)
                  · exact j153 c_52 _ _ _ _ hZ hS (lv_sub hl [4, 5, 6, 7, 8, 2, 9, 3, 1, 0] rfl)
                  · refine lv_iload hx hb dL_holds_142 (lv_at hl 0 rfl) ?_
                    refine lv_aload_n hx hb dL_holds_144 rfl (lv_at hl 4 rfl) ?_
                    refine lv_bipush (v := 7) hx hb dL_holds_145 (by decide) ?_
                    refine z_cVi (As := [.int 7]) (rest := [.int ((s_oc μ (μ 1) (μ (1 + (3 + 2 * t))) (μ (1 + (3 + 2 * t) + 1)) t I 2) + (s_oc μ (μ 1) (μ (1 + (3 + 2 * t))) (μ (1 + (3 + 2 * t) + 1)) t I 3))]) hx hb hml hown hts hl hK hZ hS (c_X6_count l G (zr μ 242 q) (μ 1) hh (zr_at rfl (by decide)) (zr_at hfh (by decide)) T I o z hT hI hT6 hI24 ho hz ho4 hz4 7 (by omega)) (z_G q294 q295 q296 q1 q297) hdX6_count ⟨Nat.le_of_ble_eq_true rfl, Nat.le_of_ble_eq_true rfl⟩ zk0 (by decide) rfl rfl rfl rfl (Nat.le_of_ble_eq_true rfl) dL_holds_147 ⟨(Nat.zero_le _), (Nat.zero_le _)⟩ (fun H locs hZ hS => ?_)
                    rw [s_cnt_cg (eqv_242 hT6 hI24)]
                    refine lv_icmp_ne (tgt := 157) hx hb dL_holds_150 (by decide) (fun c_58 => ?_) (fun c_58 => ?_)
                    · exact absurd ((((hA8 t htt c_52).2.2.2 c_53).2.2.resolve_left c_56).resolve_left c_57) c_58
                    · exact j153 c_52 _ _ _ _ hZ hS (lv_sub hl [4, 5, 6, 7, 8, 2, 9, 3, 1, 0] rfl)
              · refine lv_iload hx hb dL_holds_116 (lv_at hl 0 rfl) ?_
                refine lv_if_ne (tgt := 157) hx hb dL_holds_118 (by decide) (fun c_59 => ?_) (fun c_59 => ?_)
                · exact absurd (((hA8 t htt c_52).2.2.2 c_53).2.1.resolve_left c_55) c_59
                · refine lv_aload_n hx hb dL_holds_121 rfl (lv_at hl 4 rfl) ?_
                  refine lv_iload hx hb dL_holds_122 (lv_at hl 9 rfl) ?_
                  refine lv_iconst (v := 4) hx hb dL_holds_124 (by decide) ?_
                  refine z_cVi (As := [.int (nI t), .int 4]) (rest := []) hx hb hml hown hts hl hK hZ hS (c_X6_outcome l G (zr μ 242 q) (μ 1) (zr_at rfl (by decide)) T I hT hI hT6 hI24 t htt (μ (1 + (3 + 2 * t))) (zr_ne (by omega)) (μ (1 + (3 + 2 * t) + 1)) (zr_ne (by omega)) hr8 4 (by omega)) (z_G q354 q355 q356 q1 q357) hdX6_outcome ⟨Nat.le_of_ble_eq_true rfl, Nat.le_of_ble_eq_true rfl⟩ zk0 (by decide) rfl rfl rfl rfl (Nat.le_of_ble_eq_true rfl) dL_holds_125 ⟨(Nat.zero_le _), (Nat.zero_le _)⟩ (fun H locs hZ hS => ?_)
                  obtain ⟨q, hq2⟩ := m_oc_242 (μ := μ) (fb := μ 1) (g := (μ (1 + (3 + 2 * t)))) (t := t) (I := I) q
                  rw [hq2] at hZ
                  rw [s_oc_cg (eqv_242 (T := T) hT6 hI24)]
                  refine lv_if_gt (tgt := 153) hx hb dL_holds_128 (by decide) (fun c_60 => ?_) (fun c_60 => ?_)
                  · exact j153 c_52 _ _ _ _ hZ hS (lv_sub hl [4, 5, 6, 7, 8, 2, 9, 3, 1, 0] rfl)
                  · refine lv_aload_n hx hb dL_holds_131 rfl (lv_at hl 4 rfl) ?_
                    refine lv_iload hx hb dL_holds_132 (lv_at hl 9 rfl) ?_
                    refine lv_bipush (v := 9) hx hb dL_holds_134 (by decide) ?_
                    refine z_cVi (As := [.int (nI t), .int 9]) (rest := []) hx hb hml hown hts hl hK hZ hS (c_X6_tenancy l G (zr μ 242 q) (μ 1) (zr_at rfl (by decide)) T I hT hI hT6 hI24 t htt (μ (1 + (3 + 2 * t))) (zr_ne (by omega)) hr8 9 (by omega)) (z_G q324 q325 q326 q1 q327) hdX6_tenancy ⟨Nat.le_of_ble_eq_true rfl, Nat.le_of_ble_eq_true rfl⟩ zk0 (by decide) rfl rfl rfl rfl (Nat.le_of_ble_eq_true rfl) dL_holds_136 ⟨(Nat.zero_le _), (Nat.zero_le _)⟩ (fun H locs hZ hS => ?_)
                    rw [s_ten_cg (eqv_242 (T := T) hT6 hI24)]
                    refine lv_if_eq (tgt := 153) hx hb dL_holds_139 (by decide) (fun c_61 => ?_) (fun c_61 => ?_)
                    · exact j153 c_52 _ _ _ _ hZ hS (lv_sub hl [4, 5, 6, 7, 8, 2, 9, 3, 1, 0] rfl)
                    · refine lv_iload hx hb dL_holds_142 (lv_at hl 0 rfl) ?_
                      refine lv_aload_n hx hb dL_holds_144 rfl (lv_at hl 4 rfl) ?_
                      refine lv_bipush (v := 7) hx hb dL_holds_145 (by decide) ?_
                      refine z_cVi (As := [.int 7]) (rest := [.int ((s_oc μ (μ 1) (μ (1 + (3 + 2 * t))) (μ (1 + (3 + 2 * t) + 1)) t I 2) + (s_oc μ (μ 1) (μ (1 + (3 + 2 * t))) (μ (1 + (3 + 2 * t) + 1)) t I 3))]) hx hb hml hown hts hl hK hZ hS (c_X6_count l G (zr μ 242 q) (μ 1) hh (zr_at rfl (by decide)) (zr_at hfh (by decide)) T I o z hT hI hT6 hI24 ho hz ho4 hz4 7 (by omega)) (z_G q294 q295 q296 q1 q297) hdX6_count ⟨Nat.le_of_ble_eq_true rfl, Nat.le_of_ble_eq_true rfl⟩ zk0 (by decide) rfl rfl rfl rfl (Nat.le_of_ble_eq_true rfl) dL_holds_147 ⟨(Nat.zero_le _), (Nat.zero_le _)⟩ (fun H locs hZ hS => ?_)
                      rw [s_cnt_cg (eqv_242 hT6 hI24)]
                      refine lv_icmp_ne (tgt := 157) hx hb dL_holds_150 (by decide) (fun c_62 => ?_) (fun c_62 => ?_)
                      · exact absurd ((((hA8 t htt c_52).2.2.2 c_53).2.2.resolve_left c_60).resolve_left c_61) c_62
                      · exact j153 c_52 _ _ _ _ hZ hS (lv_sub hl [4, 5, 6, 7, 8, 2, 9, 3, 1, 0] rfl)
  refine lv_iconst (v := 0) hx hb dL_holds_0 (by decide) ?_
  refine lv_istore_n (lv' := [(1, .int 0), (0, .ref (G.1 + 0))]) hx hb dL_holds_1 rfl hl (by decide) rfl (fun ls hl => ?_)
  refine lv_iconst (v := 0) hx hb dL_holds_2 (by decide) ?_
  refine lv_istore_n (lv' := [(2, .int 0), (1, .int 0), (0, .ref (G.1 + 0))]) hx hb dL_holds_3 rfl hl (by decide) rfl (fun ls hl => ?_)
  refine lv_iconst (v := 0) hx hb dL_holds_4 (by decide) ?_
  refine lv_istore_n (lv' := [(3, .int 0), (2, .int 0), (1, .int 0), (0, .ref (G.1 + 0))]) hx hb dL_holds_5 rfl hl (by decide) rfl (fun ls hl => ?_)
  refine lv_iconst (v := 0) hx hb dL_holds_6 (by decide) ?_
  refine lv_istore (lv' := [(4, .int 0), (3, .int 0), (2, .int 0), (1, .int 0), (0, .ref (G.1 + 0))]) hx hb dL_holds_7 hl (by decide) rfl (fun ls hl => ?_)
  refine lv_iconst (v := 0) hx hb dL_holds_9 (by decide) ?_
  refine lv_istore (lv' := [(5, .int 0), (4, .int 0), (3, .int 0), (2, .int 0), (1, .int 0), (0, .ref (G.1 + 0))]) hx hb dL_holds_10 hl (by decide) rfl (fun ls hl => ?_)
  refine lv_iconst (v := 0) hx hb dL_holds_12 (by decide) ?_
  refine lv_istore (lv' := [(6, .int 0), (5, .int 0), (4, .int 0), (3, .int 0), (2, .int 0), (1, .int 0), (0, .ref (G.1 + 0))]) hx hb dL_holds_13 hl (by decide) rfl (fun ls hl => ?_)
  exact tens T 0 (by omega) _ _ _ _ hZ hS (lv_sub hl [6, 5, 4, 3, 2, 1, 0] rfl)
end
