-- ===== PART A: goes FIRST, ahead of the names: the tables' words, and 'selects' of the private methods out of them =====
/-- a private method of a class that the tables say can be made, by its rows of tables_1 -/
def lw_okq (q : MethodName × Nat) : Prop := (q.1.cls ≠ "java/lang/invoke/MethodHandle" ∧ q.1.cls ≠ "java/lang/invoke/VarHandle") ∧ Cond.instantiable q.1.cls q.2 ∈ tables_1 ∧ Cond.privateMethod q.1 ∈ tables_1 ∧ Cond.instanceMethod q.1 ∈ tables_1
theorem lw_p0 : lw_okq (⟨"TenancyDeposits", "closedSum", "(I)I"⟩, 6) := ⟨⟨by decide +kernel, by decide +kernel⟩, List.mem_of_getElem? (i := 10) (by decide +kernel), List.mem_of_getElem? (i := 303) (by decide +kernel), List.mem_of_getElem? (i := 304) (by decide +kernel)⟩
theorem lw_p1 : lw_okq (⟨"TenancyDeposits", "conditionFact", "(LTenancyDeposits$Item;I)I"⟩, 6) := ⟨⟨by decide +kernel, by decide +kernel⟩, List.mem_of_getElem? (i := 10) (by decide +kernel), List.mem_of_getElem? (i := 408) (by decide +kernel), List.mem_of_getElem? (i := 409) (by decide +kernel)⟩
def lw_privs_1 : List (MethodName × Nat) := [(⟨"TenancyDeposits", "closedSum", "(I)I"⟩, 6), (⟨"TenancyDeposits", "conditionFact", "(LTenancyDeposits$Item;I)I"⟩, 6)]
theorem lw_r1 : ∀ q ∈ lw_privs_1, lw_okq q := List.forall_mem_cons.mpr ⟨lw_p0, List.forall_mem_cons.mpr ⟨lw_p1, fun _ h => absurd h List.not_mem_nil⟩⟩
def lw_privs : List (MethodName × Nat) := lw_privs_1
def lw_tbl : List Cond := k2_sels lw_privs ++ tables_1
theorem lw_privs_ok : ∀ q ∈ lw_privs, lw_okq q := lw_r1
/-- the streams that the claim lets the run draw from -/
abbrev lw_cs : List Choice := [Jvm.Choice.named "NaN.bits"]
theorem lw_bits : nanBits ∈ lw_cs := by first | decide | exact List.mem_cons_self | simp [lw_cs, nanBits]
def RX0 : String := "TenancyDeposits$AnswerText"
def TX0 : u_T := fun k => match k with
  | 0 => ("TenancyDeposits$AnswerText", "signs", "[C", true)
  | 1 => ("TenancyDeposits$AnswerText", "length", "I", false)
  | 2 => ("TenancyDeposits$AnswerText", "place", "I", false)
  | 3 => ("TenancyDeposits$AnswerText", "size", "I", false)
  | 4 => ("TenancyDeposits$AnswerText", "itemNumbers", "[I", true)
  | 5 => ("TenancyDeposits$AnswerText", "replies", "[I", true)
  | _ => ("TenancyDeposits$AnswerText", "tenantPoints", "[I", true)
def tyX0 : Nat → FieldType := fun k => match k with
  | 0 => .array .char
  | 1 => .int
  | 2 => .int
  | 3 => .int
  | 4 => .array .int
  | 5 => .array .int
  | _ => .array .int
theorem nmX0 : ∀ a, a < 7 → ∀ b, b < 7 → a ≠ b → (TX0 a).2.1 ≠ (TX0 b).2.1 := by decide +kernel
theorem tyX0_ok : ∀ k, k < 7 → parseFieldDescriptor (TX0 k).2.2.1 = some (tyX0 k) := by decide +kernel
abbrev cX0_init : ByteArray := prog_2_method_1_code
def yX0_init : MethodName := ⟨RX0, "<init>", "()V"⟩
def RX1 : String := "TenancyDeposits$Book"
def TX1 : u_T := fun k => match k with
  | 0 => ("TenancyDeposits$Book", "day", "I", false)
  | 1 => ("TenancyDeposits$Book", "fee", "I", false)
  | 2 => ("TenancyDeposits$Book", "rate", "F", false)
  | 3 => ("TenancyDeposits$Book", "tenancyCount", "I", false)
  | 4 => ("TenancyDeposits$Book", "itemCount", "I", false)
  | 5 => ("TenancyDeposits$Book", "tenancies", "[LTenancyDeposits$Tenancy;", true)
  | _ => ("TenancyDeposits$Book", "items", "[LTenancyDeposits$Item;", true)
def tyX1 : Nat → FieldType := fun k => match k with
  | 0 => .int
  | 1 => .int
  | 2 => .float
  | 3 => .int
  | 4 => .int
  | 5 => .array (.object "TenancyDeposits$Tenancy")
  | _ => .array (.object "TenancyDeposits$Item")
theorem nmX1 : ∀ a, a < 7 → ∀ b, b < 7 → a ≠ b → (TX1 a).2.1 ≠ (TX1 b).2.1 := by decide +kernel
theorem tyX1_ok : ∀ k, k < 7 → parseFieldDescriptor (TX1 k).2.2.1 = some (tyX1 k) := by decide +kernel
abbrev cX1_init : ByteArray := prog_3_method_1_code
def yX1_init : MethodName := ⟨RX1, "<init>", "()V"⟩
abbrev cX1_copyFrom : ByteArray := prog_3_method_2_code
def yX1_copyFrom : MethodName := ⟨RX1, "copyFrom", "(LTenancyDeposits$Book;)V"⟩
abbrev cX1_tenancyAt : ByteArray := prog_3_method_3_code
def yX1_tenancyAt : MethodName := ⟨RX1, "tenancyAt", "(I)LTenancyDeposits$Tenancy;"⟩
abbrev cX1_itemAt : ByteArray := prog_3_method_4_code
def yX1_itemAt : MethodName := ⟨RX1, "itemAt", "(I)LTenancyDeposits$Item;"⟩
abbrev cX1_addTenancy : ByteArray := prog_3_method_5_code
def yX1_addTenancy : MethodName := ⟨RX1, "addTenancy", "(I)I"⟩
abbrev cX1_newItem : ByteArray := prog_3_method_6_code
def yX1_newItem : MethodName := ⟨RX1, "newItem", "(IIIII)I"⟩
abbrev cX1_expectFairConditions : ByteArray := prog_3_method_7_code
def yX1_expectFairConditions : MethodName := ⟨RX1, "expectFairConditions", "(I)V"⟩
abbrev cX1_daysOf : ByteArray := prog_3_method_8_code
def yX1_daysOf : MethodName := ⟨RX1, "daysOf", "(LTenancyDeposits$Tenancy;)I"⟩
abbrev cX1_daysOfItem : ByteArray := prog_3_method_9_code
def yX1_daysOfItem : MethodName := ⟨RX1, "daysOfItem", "(LTenancyDeposits$Item;)I"⟩
abbrev cX1_stateOf : ByteArray := prog_3_method_10_code
def yX1_stateOf : MethodName := ⟨RX1, "stateOf", "(LTenancyDeposits$Item;)I"⟩
abbrev cX1_canBeAnswered : ByteArray := prog_3_method_11_code
def yX1_canBeAnswered : MethodName := ⟨RX1, "canBeAnswered", "(LTenancyDeposits$Item;)Z"⟩
abbrev cX1_interestOf : ByteArray := prog_3_method_12_code
def yX1_interestOf : MethodName := ⟨RX1, "interestOf", "(LTenancyDeposits$Tenancy;)I"⟩
abbrev cX1_total : ByteArray := prog_3_method_13_code
def yX1_total : MethodName := ⟨RX1, "total", "(II)I"⟩
abbrev cX1_shareOf : ByteArray := prog_3_method_14_code
def yX1_shareOf : MethodName := ⟨RX1, "shareOf", "(LTenancyDeposits$Item;I)I"⟩
abbrev cX1_tenanciesIn : ByteArray := prog_3_method_16_code
def yX1_tenanciesIn : MethodName := ⟨RX1, "tenanciesIn", "(I)I"⟩
abbrev cX1_settle : ByteArray := prog_3_method_17_code
def yX1_settle : MethodName := ⟨RX1, "settle", "(ILTenancyDeposits$Tenancy;LTenancyDeposits$Settlement;)V"⟩
def RX2 : String := "TenancyDeposits$History"
def TX2 : u_T := fun k => match k with
  | 0 => ("TenancyDeposits$History", "states", "[LTenancyDeposits$Book;", true)
  | 1 => ("TenancyDeposits$History", "oldest", "I", false)
  | _ => ("TenancyDeposits$History", "size", "I", false)
def tyX2 : Nat → FieldType := fun k => match k with
  | 0 => .array (.object "TenancyDeposits$Book")
  | 1 => .int
  | _ => .int
theorem nmX2 : ∀ a, a < 3 → ∀ b, b < 3 → a ≠ b → (TX2 a).2.1 ≠ (TX2 b).2.1 := by decide +kernel
theorem tyX2_ok : ∀ k, k < 3 → parseFieldDescriptor (TX2 k).2.2.1 = some (tyX2 k) := by decide +kernel
abbrev cX2_init : ByteArray := prog_4_method_1_code
def yX2_init : MethodName := ⟨RX2, "<init>", "()V"⟩
abbrev cX2_push : ByteArray := prog_4_method_2_code
def yX2_push : MethodName := ⟨RX2, "push", "(LTenancyDeposits$Book;)V"⟩
abbrev cX2_latest : ByteArray := prog_4_method_3_code
def yX2_latest : MethodName := ⟨RX2, "latest", "()LTenancyDeposits$Book;"⟩
abbrev cX2_stateAt : ByteArray := prog_4_method_4_code
def yX2_stateAt : MethodName := ⟨RX2, "stateAt", "(I)LTenancyDeposits$Book;"⟩
def RX3 : String := "TenancyDeposits$Item"
def TX3 : u_T := fun k => match k with
  | 0 => ("TenancyDeposits$Item", "home", "I", false)
  | 1 => ("TenancyDeposits$Item", "value", "I", false)
  | 2 => ("TenancyDeposits$Item", "life", "I", false)
  | 3 => ("TenancyDeposits$Item", "age", "I", false)
  | 4 => ("TenancyDeposits$Item", "condition", "I", false)
  | 5 => ("TenancyDeposits$Item", "endCondition", "I", false)
  | 6 => ("TenancyDeposits$Item", "due", "I", false)
  | 7 => ("TenancyDeposits$Item", "claimed", "I", false)
  | 8 => ("TenancyDeposits$Item", "reply", "I", false)
  | 9 => ("TenancyDeposits$Item", "landlordPoints", "I", false)
  | _ => ("TenancyDeposits$Item", "tenantPoints", "I", false)
def tyX3 : Nat → FieldType := fun k => match k with
  | 0 => .int
  | 1 => .int
  | 2 => .int
  | 3 => .int
  | 4 => .int
  | 5 => .int
  | 6 => .int
  | 7 => .int
  | 8 => .int
  | 9 => .int
  | _ => .int
theorem nmX3 : ∀ a, a < 11 → ∀ b, b < 11 → a ≠ b → (TX3 a).2.1 ≠ (TX3 b).2.1 := by decide +kernel
theorem tyX3_ok : ∀ k, k < 11 → parseFieldDescriptor (TX3 k).2.2.1 = some (tyX3 k) := by decide +kernel
abbrev cX3_init : ByteArray := prog_5_method_1_code
def yX3_init : MethodName := ⟨RX3, "<init>", "()V"⟩
abbrev cX3_start : ByteArray := prog_5_method_2_code
def yX3_start : MethodName := ⟨RX3, "start", "(IIIII)V"⟩
abbrev cX3_copyFrom : ByteArray := prog_5_method_3_code
def yX3_copyFrom : MethodName := ⟨RX3, "copyFrom", "(LTenancyDeposits$Item;)V"⟩
abbrev cX3_ageAfter : ByteArray := prog_5_method_4_code
def yX3_ageAfter : MethodName := ⟨RX3, "ageAfter", "(I)I"⟩
abbrev cX3_fairAfter : ByteArray := prog_5_method_5_code
def yX3_fairAfter : MethodName := ⟨RX3, "fairAfter", "(I)I"⟩
abbrev cX3_restAfter : ByteArray := prog_5_method_6_code
def yX3_restAfter : MethodName := ⟨RX3, "restAfter", "(I)F"⟩
abbrev cX3_damageAfter : ByteArray := prog_5_method_7_code
def yX3_damageAfter : MethodName := ⟨RX3, "damageAfter", "(II)I"⟩
abbrev cX3_dueAfter : ByteArray := prog_5_method_8_code
def yX3_dueAfter : MethodName := ⟨RX3, "dueAfter", "(II)I"⟩
abbrev cX3_tellEnd : ByteArray := prog_5_method_9_code
def yX3_tellEnd : MethodName := ⟨RX3, "tellEnd", "(II)V"⟩
abbrev cX3_award : ByteArray := prog_5_method_10_code
def yX3_award : MethodName := ⟨RX3, "award", "()I"⟩
abbrev cX3_landlordWeight : ByteArray := prog_5_method_11_code
def yX3_landlordWeight : MethodName := ⟨RX3, "landlordWeight", "()F"⟩
def RX4 : String := "TenancyDeposits$Settlement"
def TX4 : u_T := fun k => match k with
  | 0 => ("TenancyDeposits$Settlement", "pot", "I", false)
  | 1 => ("TenancyDeposits$Settlement", "left", "I", false)
  | 2 => ("TenancyDeposits$Settlement", "landlordGets", "I", false)
  | 3 => ("TenancyDeposits$Settlement", "tenantFee", "I", false)
  | 4 => ("TenancyDeposits$Settlement", "landlordFee", "I", false)
  | _ => ("TenancyDeposits$Settlement", "debt", "I", false)
def tyX4 : Nat → FieldType := fun k => match k with
  | 0 => .int
  | 1 => .int
  | 2 => .int
  | 3 => .int
  | 4 => .int
  | _ => .int
theorem nmX4 : ∀ a, a < 6 → ∀ b, b < 6 → a ≠ b → (TX4 a).2.1 ≠ (TX4 b).2.1 := by decide +kernel
theorem tyX4_ok : ∀ k, k < 6 → parseFieldDescriptor (TX4 k).2.2.1 = some (tyX4 k) := by decide +kernel
abbrev cX4_init : ByteArray := prog_6_method_1_code
def yX4_init : MethodName := ⟨RX4, "<init>", "()V"⟩
abbrev cX4_start : ByteArray := prog_6_method_2_code
def yX4_start : MethodName := ⟨RX4, "start", "(I)V"⟩
abbrev cX4_copyFrom : ByteArray := prog_6_method_3_code
def yX4_copyFrom : MethodName := ⟨RX4, "copyFrom", "(LTenancyDeposits$Settlement;)V"⟩
abbrev cX4_takeFee : ByteArray := prog_6_method_4_code
def yX4_takeFee : MethodName := ⟨RX4, "takeFee", "(II)V"⟩
abbrev cX4_payLandlord : ByteArray := prog_6_method_5_code
def yX4_payLandlord : MethodName := ⟨RX4, "payLandlord", "(I)V"⟩
abbrev cX4_take : ByteArray := prog_6_method_6_code
def yX4_take : MethodName := ⟨RX4, "take", "(I)I"⟩
abbrev cX4_fact : ByteArray := prog_6_method_7_code
def yX4_fact : MethodName := ⟨RX4, "fact", "(I)I"⟩
abbrev cX4_part : ByteArray := prog_6_method_8_code
def yX4_part : MethodName := ⟨RX4, "part", "(I)I"⟩
def RX5 : String := "TenancyDeposits$Tenancy"
def TX5 : u_T := fun k => match k with
  | 0 => ("TenancyDeposits$Tenancy", "deposit", "I", false)
  | 1 => ("TenancyDeposits$Tenancy", "beginDay", "I", false)
  | 2 => ("TenancyDeposits$Tenancy", "state", "I", false)
  | 3 => ("TenancyDeposits$Tenancy", "endDay", "I", false)
  | 4 => ("TenancyDeposits$Tenancy", "rent", "I", false)
  | 5 => ("TenancyDeposits$Tenancy", "closedInterest", "I", false)
  | _ => ("TenancyDeposits$Tenancy", "settlement", "LTenancyDeposits$Settlement;", true)
def tyX5 : Nat → FieldType := fun k => match k with
  | 0 => .int
  | 1 => .int
  | 2 => .int
  | 3 => .int
  | 4 => .int
  | 5 => .int
  | _ => .object "TenancyDeposits$Settlement"
theorem nmX5 : ∀ a, a < 7 → ∀ b, b < 7 → a ≠ b → (TX5 a).2.1 ≠ (TX5 b).2.1 := by decide +kernel
theorem tyX5_ok : ∀ k, k < 7 → parseFieldDescriptor (TX5 k).2.2.1 = some (tyX5 k) := by decide +kernel
abbrev cX5_init : ByteArray := prog_7_method_1_code
def yX5_init : MethodName := ⟨RX5, "<init>", "()V"⟩
abbrev cX5_start : ByteArray := prog_7_method_2_code
def yX5_start : MethodName := ⟨RX5, "start", "(II)V"⟩
abbrev cX5_copyFrom : ByteArray := prog_7_method_3_code
def yX5_copyFrom : MethodName := ⟨RX5, "copyFrom", "(LTenancyDeposits$Tenancy;)V"⟩
def RX6 : String := "TenancyDeposits"
def TX6 : u_T := fun k => match k with
  | 0 => ("TenancyDeposits", "book", "LTenancyDeposits$Book;", true)
  | 1 => ("TenancyDeposits", "snapshot", "LTenancyDeposits$Book;", true)
  | 2 => ("TenancyDeposits", "history", "LTenancyDeposits$History;", true)
  | 3 => ("TenancyDeposits", "text", "LTenancyDeposits$AnswerText;", true)
  | 4 => ("TenancyDeposits", "forecast", "LTenancyDeposits$Settlement;", true)
  | _ => ("TenancyDeposits", "kept", "Z", false)
def tyX6 : Nat → FieldType := fun k => match k with
  | 0 => .object "TenancyDeposits$Book"
  | 1 => .object "TenancyDeposits$Book"
  | 2 => .object "TenancyDeposits$History"
  | 3 => .object "TenancyDeposits$AnswerText"
  | 4 => .object "TenancyDeposits$Settlement"
  | _ => .boolean
theorem nmX6 : ∀ a, a < 6 → ∀ b, b < 6 → a ≠ b → (TX6 a).2.1 ≠ (TX6 b).2.1 := by decide +kernel
theorem tyX6_ok : ∀ k, k < 6 → parseFieldDescriptor (TX6 k).2.2.1 = some (tyX6 k) := by decide +kernel
abbrev cX6_init : ByteArray := prog_1_method_1_code
def yX6_init : MethodName := ⟨RX6, "<init>", "()V"⟩
abbrev cX6_setRate : ByteArray := prog_1_method_2_code
def yX6_setRate : MethodName := ⟨RX6, "setRate", "(I)I"⟩
abbrev cX6_setFee : ByteArray := prog_1_method_3_code
def yX6_setFee : MethodName := ⟨RX6, "setFee", "(I)I"⟩
abbrev cX6_pass : ByteArray := prog_1_method_4_code
def yX6_pass : MethodName := ⟨RX6, "pass", "(I)I"⟩
abbrev cX6_begin : ByteArray := prog_1_method_5_code
def yX6_begin : MethodName := ⟨RX6, "begin", "(I)I"⟩
abbrev cX6_addItem : ByteArray := prog_1_method_6_code
def yX6_addItem : MethodName := ⟨RX6, "addItem", "(IIIII)I"⟩
abbrev cX6_end : ByteArray := prog_1_method_7_code
def yX6_end : MethodName := ⟨RX6, "end", "(I)I"⟩
abbrev cX6_inspect : ByteArray := prog_1_method_8_code
def yX6_inspect : MethodName := ⟨RX6, "inspect", "(II)I"⟩
abbrev cX6_claim : ByteArray := prog_1_method_9_code
def yX6_claim : MethodName := ⟨RX6, "claim", "(II)I"⟩
abbrev cX6_claimRent : ByteArray := prog_1_method_10_code
def yX6_claimRent : MethodName := ⟨RX6, "claimRent", "(II)I"⟩
abbrev cX6_put : ByteArray := prog_1_method_11_code
def yX6_put : MethodName := ⟨RX6, "put", "(I)I"⟩
abbrev cX6_answer : ByteArray := prog_1_method_12_code
def yX6_answer : MethodName := ⟨RX6, "answer", "(IZ)I"⟩
abbrev cX6_setEvidence : ByteArray := prog_1_method_14_code
def yX6_setEvidence : MethodName := ⟨RX6, "setEvidence", "(III)I"⟩
abbrev cX6_close : ByteArray := prog_1_method_15_code
def yX6_close : MethodName := ⟨RX6, "close", "(I)I"⟩
abbrev cX6_undo : ByteArray := prog_1_method_18_code
def yX6_undo : MethodName := ⟨RX6, "undo", "()I"⟩
abbrev cX6_keep : ByteArray := prog_1_method_19_code
def yX6_keep : MethodName := ⟨RX6, "keep", "()I"⟩
abbrev cX6_restore : ByteArray := prog_1_method_20_code
def yX6_restore : MethodName := ⟨RX6, "restore", "()I"⟩
abbrev cX6_rate : ByteArray := prog_1_method_21_code
def yX6_rate : MethodName := ⟨RX6, "rate", "()F"⟩
abbrev cX6_tenancy : ByteArray := prog_1_method_22_code
def yX6_tenancy : MethodName := ⟨RX6, "tenancy", "(II)I"⟩
abbrev cX6_item : ByteArray := prog_1_method_23_code
def yX6_item : MethodName := ⟨RX6, "item", "(II)I"⟩
abbrev cX6_rest : ByteArray := prog_1_method_24_code
def yX6_rest : MethodName := ⟨RX6, "rest", "(I)F"⟩
abbrev cX6_weight : ByteArray := prog_1_method_25_code
def yX6_weight : MethodName := ⟨RX6, "weight", "(I)F"⟩
abbrev cX6_reason : ByteArray := prog_1_method_26_code
def yX6_reason : MethodName := ⟨RX6, "reason", "(I)I"⟩
abbrev cX6_outcome : ByteArray := prog_1_method_27_code
def yX6_outcome : MethodName := ⟨RX6, "outcome", "(II)I"⟩
abbrev cX6_count : ByteArray := prog_1_method_29_code
def yX6_count : MethodName := ⟨RX6, "count", "(I)I"⟩
abbrev cX6_outside : ByteArray := prog_1_method_30_code
def yX6_outside : MethodName := ⟨RX6, "outside", "(III)Z"⟩
abbrev cX6_floatOf : ByteArray := prog_1_method_31_code
def yX6_floatOf : MethodName := ⟨RX6, "floatOf", "(I)F"⟩
abbrev cX6_conditionFact : ByteArray := prog_1_method_34_code
def yX6_conditionFact : MethodName := ⟨RX6, "conditionFact", "(LTenancyDeposits$Item;I)I"⟩
abbrev cX6_closedSum : ByteArray := prog_1_method_35_code
def yX6_closedSum : MethodName := ⟨RX6, "closedSum", "(I)I"⟩
def RX7 : String := "TenancyDepositsModel"
def TX7 : u_T := fun k => match k with
  | _ => ("", "", "", false)
def tyX7 : Nat → FieldType := fun k => match k with
  | _ => .int
theorem nmX7 : ∀ a, a < 0 → ∀ b, b < 0 → a ≠ b → (TX7 a).2.1 ≠ (TX7 b).2.1 := by decide +kernel
theorem tyX7_ok : ∀ k, k < 0 → parseFieldDescriptor (TX7 k).2.2.1 = some (tyX7 k) := by decide +kernel
def RL : String := "TenancyDepositsLaw"
abbrev cL_cell : ByteArray := method_2_code
def yL_cell : MethodName := ⟨RL, "cell", "([II)I"⟩
abbrev cL_low : ByteArray := method_3_code
def yL_low : MethodName := ⟨RL, "low", "(II)I"⟩
abbrev cL_digest : ByteArray := method_4_code
def yL_digest : MethodName := ⟨RL, "digest", "(LTenancyDeposits;)J"⟩
abbrev cL_act : ByteArray := method_5_code
def yL_act : MethodName := ⟨RL, "act", "(LTenancyDeposits;II)I"⟩
abbrev cL_holds : ByteArray := method_6_code
def yL_holds : MethodName := ⟨RL, "holds", "(LTenancyDeposits;)Z"⟩
abbrev cL_law : ByteArray := code
def yL_law : MethodName := ⟨RL, "law", "([I)Z"⟩
abbrev vwCl : List vw_C := [(RX0, TX0, 7), (RX1, TX1, 7), (RX2, TX2, 3), (RX3, TX3, 11), (RX4, TX4, 6), (RX5, TX5, 7), (RX6, TX6, 6)]
/-! words: one list for all methods; each word by its place -/
def zall : List Cond := lw_tbl.filter goodWord
theorem zall_tbl {w : Cond} (h : w ∈ zall) : w ∈ lw_tbl := (List.mem_filter.mp h).1
theorem zall_good {w : Cond} (h : w ∈ zall) : goodWord w = true := (List.mem_filter.mp h).2
theorem z_in0 {w : Cond} {i : Nat} (h : (k2_sels lw_privs)[i]? = some w) (g : goodWord w = true) : w ∈ zall := List.mem_filter.mpr ⟨List.mem_append_left _ (List.mem_of_getElem? h), g⟩
theorem z_in1 {w : Cond} {i : Nat} (h : tables_1_1[i]? = some w) (g : goodWord w = true) : w ∈ zall := List.mem_filter.mpr ⟨List.mem_append_right _ (List.mem_append_left _ (List.mem_of_getElem? h)), g⟩
theorem z_in2 {w : Cond} {i : Nat} (h : tables_1_2[i]? = some w) (g : goodWord w = true) : w ∈ zall := List.mem_filter.mpr ⟨List.mem_append_right _ (List.mem_append_right _ (List.mem_append_left _ (List.mem_of_getElem? h))), g⟩
theorem z_in3 {w : Cond} {i : Nat} (h : tables_1_3[i]? = some w) (g : goodWord w = true) : w ∈ zall := List.mem_filter.mpr ⟨List.mem_append_right _ (List.mem_append_right _ (List.mem_append_right _ (List.mem_of_getElem? h))), g⟩
theorem z_t1 {w : Cond} {i : Nat} (h : tables_1_1[i]? = some w) : w ∈ lw_tbl := List.mem_append_right _ (List.mem_append_left _ (List.mem_of_getElem? h))
theorem z_t2 {w : Cond} {i : Nat} (h : tables_1_2[i]? = some w) : w ∈ lw_tbl := List.mem_append_right _ (List.mem_append_right _ (List.mem_append_left _ (List.mem_of_getElem? h)))
theorem z_t3 {w : Cond} {i : Nat} (h : tables_1_3[i]? = some w) : w ∈ lw_tbl := List.mem_append_right _ (List.mem_append_right _ (List.mem_append_right _ (List.mem_of_getElem? h)))
abbrev ws_ (y : MethodName) (cc : ByteArray) (n : Nat) (r : Option FieldType) : List Cond := Cond.code y cc n r :: zall
theorem z_G {own C : String} {idx : Nat} {y : MethodName} {cc : ByteArray} {n : Nat} {r : Option FieldType} (q1 : Cond.methodLink own idx y ∈ zall) (q2 : Cond.instanceMethod y ∈ zall) (q3 : Cond.selects C y y ∈ zall) (q4 : Cond.initialized C ∈ zall) (q5 : Cond.code y cc n r ∈ zall) : GoodIn zall (wsV own idx C y (ws_ y cc n r)) := by
  intro w h
  have hm : w ∈ zall := by
    simp only [wsV, ws_, List.mem_append, List.mem_cons, List.not_mem_nil, or_false] at h
    rcases h with (rfl | rfl | rfl | rfl) | rfl | h <;> assumption
  exact ⟨hm, good_of_word (zall_good hm)⟩
theorem z_GS {own : String} {idx : Nat} {y : MethodName} {cc : ByteArray} {n : Nat} {r : Option FieldType} (q1 : Cond.methodLink own idx y ∈ zall) (q2 : Cond.static y ∈ zall) (q4 : Cond.initialized own ∈ zall) (q5 : Cond.code y cc n r ∈ zall) : GoodIn zall (wsS own idx y (ws_ y cc n r)) := by
  intro w h
  have hm : w ∈ zall := by
    simp only [wsS, ws_, List.mem_append, List.mem_cons, List.not_mem_nil, or_false] at h
    rcases h with (rfl | rfl | rfl) | rfl | h <;> assumption
  exact ⟨hm, good_of_word (zall_good hm)⟩
theorem z_GI {y : MethodName} {cc : ByteArray} {n : Nat} {r : Option FieldType} (q5 : Cond.code y cc n r ∈ zall) : GoodIn zall (ws_ y cc n r) := by
  intro w h
  have hm : w ∈ zall := by
    simp only [ws_, List.mem_cons] at h
    rcases h with rfl | h <;> assumption
  exact ⟨hm, good_of_word (zall_good hm)⟩
theorem qs0 : Cond.selects RX6 yX6_closedSum yX6_closedSum ∈ zall := z_in0 (i := 0) rfl rfl
theorem qs1 : Cond.selects RX6 yX6_conditionFact yX6_conditionFact ∈ zall := z_in0 (i := 1) rfl rfl
theorem q0 : Cond.initialized RL ∈ zall := z_in1 (i := 0) rfl rfl
theorem q1 : Cond.initialized RX6 ∈ zall := z_in1 (i := 1) rfl rfl
theorem q2 : Cond.initialized RX1 ∈ zall := z_in1 (i := 2) rfl rfl
theorem q3 : Cond.initialized RX5 ∈ zall := z_in1 (i := 3) rfl rfl
theorem q4 : Cond.initialized RX4 ∈ zall := z_in1 (i := 4) rfl rfl
theorem q5 : Cond.initialized RX3 ∈ zall := z_in1 (i := 5) rfl rfl
theorem q6 : Cond.initialized RX2 ∈ zall := z_in1 (i := 6) rfl rfl
theorem q7 : Cond.initialized RX0 ∈ zall := z_in1 (i := 7) rfl rfl
theorem q8 : Cond.initialized "java/lang/Math" ∈ zall := z_in1 (i := 8) rfl rfl
theorem q9 : Cond.classLink RL 11 RX6 ∈ zall := z_in1 (i := 9) rfl rfl
theorem q10 : Cond.instantiable RX6 6 ∈ zall := z_in1 (i := 10) rfl rfl
theorem q11 : Cond.methodLink RL 99 yX6_init ∈ zall := z_in1 (i := 11) rfl rfl
theorem q12 : Cond.instanceMethod yX6_init ∈ zall := z_in1 (i := 12) rfl rfl
theorem q13 : Cond.code yX6_init cX6_init 1 none ∈ zall := z_in1 (i := 13) rfl rfl
theorem q14 : Cond.methodLink RX6 1 objectInit ∈ zall := z_in1 (i := 14) rfl rfl
theorem q15 : Cond.instanceMethod objectInit ∈ zall := z_in1 (i := 15) rfl rfl
theorem q16 : Cond.code objectInit object_method_1_code 1 none ∈ zall := z_in1 (i := 16) rfl rfl
theorem q17 : Cond.classLink RX6 7 RX1 ∈ zall := z_in1 (i := 17) rfl rfl
theorem q18 : Cond.instantiable RX1 7 ∈ zall := z_in1 (i := 18) rfl rfl
theorem q19 : Cond.methodLink RX6 9 yX1_init ∈ zall := z_in1 (i := 19) rfl rfl
theorem q20 : Cond.instanceMethod yX1_init ∈ zall := z_in1 (i := 20) rfl rfl
theorem q21 : Cond.code yX1_init cX1_init 2 none ∈ zall := z_in1 (i := 21) rfl rfl
theorem q22 : Cond.methodLink RX1 3 objectInit ∈ zall := z_in1 (i := 22) rfl rfl
theorem q23 : Cond.constantFloat RX1 18 1017370378 ∈ zall := z_in1 (i := 23) rfl rfl
theorem q24 : Cond.classLink RX1 29 RX5 ∈ zall := z_in1 (i := 24) rfl rfl
theorem q25 : Cond.arrayOver (.object "TenancyDeposits$Tenancy") ∈ lw_tbl := z_t1 (i := 25) rfl
theorem q26 : Cond.classLink RX1 35 RX3 ∈ zall := z_in1 (i := 26) rfl rfl
theorem q27 : Cond.arrayOver (.object "TenancyDeposits$Item") ∈ lw_tbl := z_t1 (i := 27) rfl
theorem q28 : Cond.instantiable RX5 7 ∈ zall := z_in1 (i := 28) rfl rfl
theorem q29 : Cond.methodLinkNest RX1 41 yX5_init "TenancyDeposits" ∈ lw_tbl := z_t1 (i := 29) rfl
theorem q30 : Cond.instanceMethod yX5_init ∈ zall := z_in1 (i := 30) rfl rfl
theorem q31 : Cond.code yX5_init cX5_init 1 none ∈ zall := z_in1 (i := 31) rfl rfl
theorem q32 : Cond.methodLink RX5 3 objectInit ∈ zall := z_in1 (i := 32) rfl rfl
theorem q33 : Cond.classLink RX5 30 RX4 ∈ zall := z_in1 (i := 33) rfl rfl
theorem q34 : Cond.instantiable RX4 6 ∈ zall := z_in1 (i := 34) rfl rfl
theorem q35 : Cond.methodLinkNest RX5 32 yX4_init "TenancyDeposits" ∈ lw_tbl := z_t1 (i := 35) rfl
theorem q36 : Cond.instanceMethod yX4_init ∈ zall := z_in1 (i := 36) rfl rfl
theorem q37 : Cond.code yX4_init cX4_init 1 none ∈ zall := z_in1 (i := 37) rfl rfl
theorem q38 : Cond.methodLink RX4 1 objectInit ∈ zall := z_in1 (i := 38) rfl rfl
theorem q39 : Cond.fieldLink RX4 7 "TenancyDeposits$Settlement" "pot" "I" ∈ zall := z_in1 (i := 39) rfl rfl
theorem q40 : Cond.fieldLink RX4 13 "TenancyDeposits$Settlement" "left" "I" ∈ zall := z_in1 (i := 40) rfl rfl
theorem q41 : Cond.fieldLink RX6 194 "TenancyDeposits$Settlement" "left" "I" ∈ zall := z_in1 (i := 41) rfl rfl
theorem q42 : Cond.fieldLink RX4 16 "TenancyDeposits$Settlement" "landlordGets" "I" ∈ zall := z_in1 (i := 42) rfl rfl
theorem q43 : Cond.fieldLink RX4 19 "TenancyDeposits$Settlement" "tenantFee" "I" ∈ zall := z_in1 (i := 43) rfl rfl
theorem q44 : Cond.fieldLink RX4 22 "TenancyDeposits$Settlement" "landlordFee" "I" ∈ zall := z_in1 (i := 44) rfl rfl
theorem q45 : Cond.fieldLink RX4 25 "TenancyDeposits$Settlement" "debt" "I" ∈ zall := z_in1 (i := 45) rfl rfl
theorem q46 : Cond.lays "TenancyDeposits$Settlement" "TenancyDeposits$Settlement" "pot" "I" ∈ zall := z_in1 (i := 46) rfl rfl
theorem q48 : Cond.lays "TenancyDeposits$Settlement" "TenancyDeposits$Settlement" "left" "I" ∈ zall := z_in1 (i := 48) rfl rfl
theorem q50 : Cond.lays "TenancyDeposits$Settlement" "TenancyDeposits$Settlement" "landlordGets" "I" ∈ zall := z_in1 (i := 50) rfl rfl
theorem q52 : Cond.lays "TenancyDeposits$Settlement" "TenancyDeposits$Settlement" "tenantFee" "I" ∈ zall := z_in1 (i := 52) rfl rfl
theorem q54 : Cond.lays "TenancyDeposits$Settlement" "TenancyDeposits$Settlement" "landlordFee" "I" ∈ zall := z_in1 (i := 54) rfl rfl
theorem q56 : Cond.lays "TenancyDeposits$Settlement" "TenancyDeposits$Settlement" "debt" "I" ∈ zall := z_in1 (i := 56) rfl rfl
theorem q59 : Cond.fieldLink RX5 9 "TenancyDeposits$Tenancy" "deposit" "I" ∈ zall := z_in1 (i := 59) rfl rfl
theorem q60 : Cond.fieldLink RX1 101 "TenancyDeposits$Tenancy" "deposit" "I" ∈ zall := z_in1 (i := 60) rfl rfl
theorem q61 : Cond.fieldLink RX6 212 "TenancyDeposits$Tenancy" "deposit" "I" ∈ zall := z_in1 (i := 61) rfl rfl
theorem q62 : Cond.fieldLink RX5 15 "TenancyDeposits$Tenancy" "beginDay" "I" ∈ zall := z_in1 (i := 62) rfl rfl
theorem q63 : Cond.fieldLink RX6 88 "TenancyDeposits$Tenancy" "beginDay" "I" ∈ zall := z_in1 (i := 63) rfl rfl
theorem q64 : Cond.fieldLink RX1 85 "TenancyDeposits$Tenancy" "beginDay" "I" ∈ zall := z_in1 (i := 64) rfl rfl
theorem q65 : Cond.fieldLink RX5 18 "TenancyDeposits$Tenancy" "state" "I" ∈ zall := z_in1 (i := 65) rfl rfl
theorem q66 : Cond.fieldLink RX6 83 "TenancyDeposits$Tenancy" "state" "I" ∈ zall := z_in1 (i := 66) rfl rfl
theorem q67 : Cond.fieldLink RX1 79 "TenancyDeposits$Tenancy" "state" "I" ∈ zall := z_in1 (i := 67) rfl rfl
theorem q68 : Cond.fieldLink RX5 21 "TenancyDeposits$Tenancy" "endDay" "I" ∈ zall := z_in1 (i := 68) rfl rfl
theorem q69 : Cond.fieldLink RX6 98 "TenancyDeposits$Tenancy" "endDay" "I" ∈ zall := z_in1 (i := 69) rfl rfl
theorem q70 : Cond.fieldLink RX1 82 "TenancyDeposits$Tenancy" "endDay" "I" ∈ zall := z_in1 (i := 70) rfl rfl
theorem q71 : Cond.fieldLink RX5 24 "TenancyDeposits$Tenancy" "rent" "I" ∈ zall := z_in1 (i := 71) rfl rfl
theorem q72 : Cond.fieldLink RX6 138 "TenancyDeposits$Tenancy" "rent" "I" ∈ zall := z_in1 (i := 72) rfl rfl
theorem q73 : Cond.fieldLink RX1 137 "TenancyDeposits$Tenancy" "rent" "I" ∈ zall := z_in1 (i := 73) rfl rfl
theorem q74 : Cond.fieldLink RX5 27 "TenancyDeposits$Tenancy" "closedInterest" "I" ∈ zall := z_in1 (i := 74) rfl rfl
theorem q75 : Cond.fieldLink RX1 98 "TenancyDeposits$Tenancy" "closedInterest" "I" ∈ zall := z_in1 (i := 75) rfl rfl
theorem q76 : Cond.fieldLink RX6 191 "TenancyDeposits$Tenancy" "closedInterest" "I" ∈ zall := z_in1 (i := 76) rfl rfl
theorem q77 : Cond.fieldLink RX5 33 "TenancyDeposits$Tenancy" "settlement" "LTenancyDeposits$Settlement;" ∈ zall := z_in1 (i := 77) rfl rfl
theorem q78 : Cond.fieldLink RX6 181 "TenancyDeposits$Tenancy" "settlement" "LTenancyDeposits$Settlement;" ∈ zall := z_in1 (i := 78) rfl rfl
theorem q79 : Cond.lays "TenancyDeposits$Tenancy" "TenancyDeposits$Tenancy" "deposit" "I" ∈ zall := z_in1 (i := 79) rfl rfl
theorem q81 : Cond.lays "TenancyDeposits$Tenancy" "TenancyDeposits$Tenancy" "beginDay" "I" ∈ zall := z_in1 (i := 81) rfl rfl
theorem q83 : Cond.lays "TenancyDeposits$Tenancy" "TenancyDeposits$Tenancy" "state" "I" ∈ zall := z_in1 (i := 83) rfl rfl
theorem q85 : Cond.lays "TenancyDeposits$Tenancy" "TenancyDeposits$Tenancy" "endDay" "I" ∈ zall := z_in1 (i := 85) rfl rfl
theorem q87 : Cond.lays "TenancyDeposits$Tenancy" "TenancyDeposits$Tenancy" "rent" "I" ∈ zall := z_in1 (i := 87) rfl rfl
theorem q89 : Cond.lays "TenancyDeposits$Tenancy" "TenancyDeposits$Tenancy" "closedInterest" "I" ∈ zall := z_in1 (i := 89) rfl rfl
theorem q91 : Cond.laysFinal "TenancyDeposits$Tenancy" "TenancyDeposits$Tenancy" "settlement" "LTenancyDeposits$Settlement;" ∈ zall := z_in1 (i := 91) rfl rfl
theorem q94 : Cond.instantiable RX3 11 ∈ zall := z_in1 (i := 94) rfl rfl
theorem q95 : Cond.methodLinkNest RX1 42 yX3_init "TenancyDeposits" ∈ lw_tbl := z_t1 (i := 95) rfl
theorem q96 : Cond.instanceMethod yX3_init ∈ zall := z_in1 (i := 96) rfl rfl
theorem q97 : Cond.code yX3_init cX3_init 1 none ∈ zall := z_in1 (i := 97) rfl rfl
theorem q98 : Cond.methodLink RX3 3 objectInit ∈ zall := z_in1 (i := 98) rfl rfl
theorem q99 : Cond.fieldLink RX3 9 "TenancyDeposits$Item" "home" "I" ∈ zall := z_in1 (i := 99) rfl rfl
theorem q100 : Cond.fieldLink RX1 65 "TenancyDeposits$Item" "home" "I" ∈ zall := z_in1 (i := 100) rfl rfl
theorem q101 : Cond.fieldLink RX6 215 "TenancyDeposits$Item" "home" "I" ∈ zall := z_in1 (i := 101) rfl rfl
theorem q102 : Cond.fieldLink RX3 15 "TenancyDeposits$Item" "value" "I" ∈ zall := z_in1 (i := 102) rfl rfl
theorem q103 : Cond.fieldLink RX6 132 "TenancyDeposits$Item" "value" "I" ∈ zall := z_in1 (i := 103) rfl rfl
theorem q104 : Cond.fieldLink RX3 18 "TenancyDeposits$Item" "life" "I" ∈ zall := z_in1 (i := 104) rfl rfl
theorem q105 : Cond.fieldLink RX3 21 "TenancyDeposits$Item" "age" "I" ∈ zall := z_in1 (i := 105) rfl rfl
theorem q106 : Cond.fieldLink RX3 24 "TenancyDeposits$Item" "condition" "I" ∈ zall := z_in1 (i := 106) rfl rfl
theorem q107 : Cond.fieldLink RX6 218 "TenancyDeposits$Item" "condition" "I" ∈ zall := z_in1 (i := 107) rfl rfl
theorem q108 : Cond.fieldLink RX3 27 "TenancyDeposits$Item" "endCondition" "I" ∈ zall := z_in1 (i := 108) rfl rfl
theorem q109 : Cond.fieldLink RX6 117 "TenancyDeposits$Item" "endCondition" "I" ∈ zall := z_in1 (i := 109) rfl rfl
theorem q110 : Cond.fieldLink RX3 30 "TenancyDeposits$Item" "due" "I" ∈ zall := z_in1 (i := 110) rfl rfl
theorem q111 : Cond.fieldLink RX6 129 "TenancyDeposits$Item" "due" "I" ∈ zall := z_in1 (i := 111) rfl rfl
theorem q112 : Cond.fieldLink RX1 112 "TenancyDeposits$Item" "due" "I" ∈ zall := z_in1 (i := 112) rfl rfl
theorem q113 : Cond.fieldLink RX3 33 "TenancyDeposits$Item" "claimed" "I" ∈ zall := z_in1 (i := 113) rfl rfl
theorem q114 : Cond.fieldLink RX6 135 "TenancyDeposits$Item" "claimed" "I" ∈ zall := z_in1 (i := 114) rfl rfl
theorem q115 : Cond.fieldLink RX1 95 "TenancyDeposits$Item" "claimed" "I" ∈ zall := z_in1 (i := 115) rfl rfl
theorem q116 : Cond.fieldLink RX3 36 "TenancyDeposits$Item" "reply" "I" ∈ zall := z_in1 (i := 116) rfl rfl
theorem q117 : Cond.fieldLink RX6 149 "TenancyDeposits$Item" "reply" "I" ∈ zall := z_in1 (i := 117) rfl rfl
theorem q118 : Cond.fieldLink RX1 109 "TenancyDeposits$Item" "reply" "I" ∈ zall := z_in1 (i := 118) rfl rfl
theorem q119 : Cond.fieldLink RX3 39 "TenancyDeposits$Item" "landlordPoints" "I" ∈ zall := z_in1 (i := 119) rfl rfl
theorem q120 : Cond.fieldLink RX6 172 "TenancyDeposits$Item" "landlordPoints" "I" ∈ zall := z_in1 (i := 120) rfl rfl
theorem q121 : Cond.fieldLink RX3 42 "TenancyDeposits$Item" "tenantPoints" "I" ∈ zall := z_in1 (i := 121) rfl rfl
theorem q122 : Cond.fieldLink RX6 175 "TenancyDeposits$Item" "tenantPoints" "I" ∈ zall := z_in1 (i := 122) rfl rfl
theorem q123 : Cond.lays "TenancyDeposits$Item" "TenancyDeposits$Item" "home" "I" ∈ zall := z_in1 (i := 123) rfl rfl
theorem q125 : Cond.lays "TenancyDeposits$Item" "TenancyDeposits$Item" "value" "I" ∈ zall := z_in1 (i := 125) rfl rfl
theorem q127 : Cond.lays "TenancyDeposits$Item" "TenancyDeposits$Item" "life" "I" ∈ zall := z_in1 (i := 127) rfl rfl
theorem q129 : Cond.lays "TenancyDeposits$Item" "TenancyDeposits$Item" "age" "I" ∈ zall := z_in1 (i := 129) rfl rfl
theorem q131 : Cond.lays "TenancyDeposits$Item" "TenancyDeposits$Item" "condition" "I" ∈ zall := z_in1 (i := 131) rfl rfl
theorem q133 : Cond.lays "TenancyDeposits$Item" "TenancyDeposits$Item" "endCondition" "I" ∈ zall := z_in1 (i := 133) rfl rfl
theorem q135 : Cond.lays "TenancyDeposits$Item" "TenancyDeposits$Item" "due" "I" ∈ zall := z_in1 (i := 135) rfl rfl
theorem q137 : Cond.lays "TenancyDeposits$Item" "TenancyDeposits$Item" "claimed" "I" ∈ zall := z_in1 (i := 137) rfl rfl
theorem q139 : Cond.lays "TenancyDeposits$Item" "TenancyDeposits$Item" "reply" "I" ∈ zall := z_in1 (i := 139) rfl rfl
theorem q141 : Cond.lays "TenancyDeposits$Item" "TenancyDeposits$Item" "landlordPoints" "I" ∈ zall := z_in1 (i := 141) rfl rfl
theorem q143 : Cond.lays "TenancyDeposits$Item" "TenancyDeposits$Item" "tenantPoints" "I" ∈ zall := z_in1 (i := 143) rfl rfl
theorem q146 : Cond.fieldLink RX1 9 "TenancyDeposits$Book" "day" "I" ∈ zall := z_in1 (i := 146) rfl rfl
theorem q147 : Cond.fieldLink RX6 66 "TenancyDeposits$Book" "day" "I" ∈ zall := z_in1 (i := 147) rfl rfl
theorem q148 : Cond.fieldLink RX1 15 "TenancyDeposits$Book" "fee" "I" ∈ zall := z_in1 (i := 148) rfl rfl
theorem q149 : Cond.fieldLink RX6 62 "TenancyDeposits$Book" "fee" "I" ∈ zall := z_in1 (i := 149) rfl rfl
theorem q150 : Cond.fieldLink RX1 19 "TenancyDeposits$Book" "rate" "F" ∈ zall := z_in1 (i := 150) rfl rfl
theorem q151 : Cond.fieldLink RX6 53 "TenancyDeposits$Book" "rate" "F" ∈ zall := z_in1 (i := 151) rfl rfl
theorem q152 : Cond.fieldLink RX1 23 "TenancyDeposits$Book" "tenancyCount" "I" ∈ zall := z_in1 (i := 152) rfl rfl
theorem q153 : Cond.fieldLink RX6 71 "TenancyDeposits$Book" "tenancyCount" "I" ∈ zall := z_in1 (i := 153) rfl rfl
theorem q154 : Cond.fieldLink RX1 26 "TenancyDeposits$Book" "itemCount" "I" ∈ zall := z_in1 (i := 154) rfl rfl
theorem q155 : Cond.fieldLink RX6 91 "TenancyDeposits$Book" "itemCount" "I" ∈ zall := z_in1 (i := 155) rfl rfl
theorem q156 : Cond.fieldLink RX1 31 "TenancyDeposits$Book" "tenancies" "[LTenancyDeposits$Tenancy;" ∈ zall := z_in1 (i := 156) rfl rfl
theorem q157 : Cond.fieldLink RX1 37 "TenancyDeposits$Book" "items" "[LTenancyDeposits$Item;" ∈ zall := z_in1 (i := 157) rfl rfl
theorem q158 : Cond.lays "TenancyDeposits$Book" "TenancyDeposits$Book" "day" "I" ∈ zall := z_in1 (i := 158) rfl rfl
theorem q160 : Cond.lays "TenancyDeposits$Book" "TenancyDeposits$Book" "fee" "I" ∈ zall := z_in1 (i := 160) rfl rfl
theorem q162 : Cond.lays "TenancyDeposits$Book" "TenancyDeposits$Book" "rate" "F" ∈ zall := z_in1 (i := 162) rfl rfl
theorem q164 : Cond.lays "TenancyDeposits$Book" "TenancyDeposits$Book" "tenancyCount" "I" ∈ zall := z_in1 (i := 164) rfl rfl
theorem q166 : Cond.lays "TenancyDeposits$Book" "TenancyDeposits$Book" "itemCount" "I" ∈ zall := z_in1 (i := 166) rfl rfl
theorem q168 : Cond.laysFinal "TenancyDeposits$Book" "TenancyDeposits$Book" "tenancies" "[LTenancyDeposits$Tenancy;" ∈ zall := z_in1 (i := 168) rfl rfl
theorem q170 : Cond.laysFinal "TenancyDeposits$Book" "TenancyDeposits$Book" "items" "[LTenancyDeposits$Item;" ∈ zall := z_in1 (i := 170) rfl rfl
theorem q173 : Cond.classLink RX6 19 RX2 ∈ zall := z_in1 (i := 173) rfl rfl
theorem q174 : Cond.instantiable RX2 3 ∈ zall := z_in1 (i := 174) rfl rfl
theorem q175 : Cond.methodLink RX6 21 yX2_init ∈ zall := z_in1 (i := 175) rfl rfl
theorem q176 : Cond.instanceMethod yX2_init ∈ zall := z_in1 (i := 176) rfl rfl
theorem q177 : Cond.code yX2_init cX2_init 2 none ∈ zall := z_in1 (i := 177) rfl rfl
theorem q178 : Cond.methodLink RX2 3 objectInit ∈ zall := z_in1 (i := 178) rfl rfl
theorem q179 : Cond.classLink RX2 9 RX1 ∈ zall := z_in1 (i := 179) rfl rfl
theorem q180 : Cond.arrayOver (.object "TenancyDeposits$Book") ∈ lw_tbl := z_t1 (i := 180) rfl
theorem q181 : Cond.methodLink RX2 24 yX1_init ∈ zall := z_in1 (i := 181) rfl rfl
theorem q182 : Cond.fieldLink RX2 11 "TenancyDeposits$History" "states" "[LTenancyDeposits$Book;" ∈ zall := z_in1 (i := 182) rfl rfl
theorem q183 : Cond.fieldLink RX2 17 "TenancyDeposits$History" "oldest" "I" ∈ zall := z_in1 (i := 183) rfl rfl
theorem q184 : Cond.fieldLink RX2 21 "TenancyDeposits$History" "size" "I" ∈ zall := z_in1 (i := 184) rfl rfl
theorem q185 : Cond.fieldLink RX6 211 "TenancyDeposits$History" "size" "I" ∈ zall := z_in1 (i := 185) rfl rfl
theorem q186 : Cond.laysFinal "TenancyDeposits$History" "TenancyDeposits$History" "states" "[LTenancyDeposits$Book;" ∈ zall := z_in1 (i := 186) rfl rfl
theorem q188 : Cond.lays "TenancyDeposits$History" "TenancyDeposits$History" "oldest" "I" ∈ zall := z_in1 (i := 188) rfl rfl
theorem q190 : Cond.lays "TenancyDeposits$History" "TenancyDeposits$History" "size" "I" ∈ zall := z_in1 (i := 190) rfl rfl
theorem q193 : Cond.classLink RX6 26 RX0 ∈ zall := z_in1 (i := 193) rfl rfl
theorem q194 : Cond.instantiable RX0 7 ∈ zall := z_in1 (i := 194) rfl rfl
theorem q195 : Cond.methodLinkNest RX6 28 yX0_init "TenancyDeposits" ∈ lw_tbl := z_t1 (i := 195) rfl
theorem q196 : Cond.instanceMethod yX0_init ∈ zall := z_in1 (i := 196) rfl rfl
theorem q197 : Cond.code yX0_init cX0_init 1 none ∈ zall := z_in1 (i := 197) rfl rfl
theorem q198 : Cond.methodLink RX0 3 objectInit ∈ zall := z_in1 (i := 198) rfl rfl
theorem q199 : Cond.fieldLink RX0 9 "TenancyDeposits$AnswerText" "signs" "[C" ∈ zall := z_in1 (i := 199) rfl rfl
theorem q200 : Cond.fieldLink RX0 15 "TenancyDeposits$AnswerText" "length" "I" ∈ zall := z_in1 (i := 200) rfl rfl
theorem q201 : Cond.fieldLink RX6 201 "TenancyDeposits$AnswerText" "length" "I" ∈ zall := z_in1 (i := 201) rfl rfl
theorem q202 : Cond.fieldLink RX0 19 "TenancyDeposits$AnswerText" "place" "I" ∈ zall := z_in1 (i := 202) rfl rfl
theorem q203 : Cond.fieldLink RX0 22 "TenancyDeposits$AnswerText" "size" "I" ∈ zall := z_in1 (i := 203) rfl rfl
theorem q204 : Cond.fieldLink RX0 25 "TenancyDeposits$AnswerText" "itemNumbers" "[I" ∈ zall := z_in1 (i := 204) rfl rfl
theorem q205 : Cond.fieldLink RX0 29 "TenancyDeposits$AnswerText" "replies" "[I" ∈ zall := z_in1 (i := 205) rfl rfl
theorem q206 : Cond.fieldLink RX0 32 "TenancyDeposits$AnswerText" "tenantPoints" "[I" ∈ zall := z_in1 (i := 206) rfl rfl
theorem q207 : Cond.laysFinal "TenancyDeposits$AnswerText" "TenancyDeposits$AnswerText" "signs" "[C" ∈ zall := z_in1 (i := 207) rfl rfl
theorem q209 : Cond.lays "TenancyDeposits$AnswerText" "TenancyDeposits$AnswerText" "length" "I" ∈ zall := z_in1 (i := 209) rfl rfl
theorem q211 : Cond.lays "TenancyDeposits$AnswerText" "TenancyDeposits$AnswerText" "place" "I" ∈ zall := z_in1 (i := 211) rfl rfl
theorem q213 : Cond.lays "TenancyDeposits$AnswerText" "TenancyDeposits$AnswerText" "size" "I" ∈ zall := z_in1 (i := 213) rfl rfl
theorem q215 : Cond.laysFinal "TenancyDeposits$AnswerText" "TenancyDeposits$AnswerText" "itemNumbers" "[I" ∈ zall := z_in1 (i := 215) rfl rfl
theorem q217 : Cond.laysFinal "TenancyDeposits$AnswerText" "TenancyDeposits$AnswerText" "replies" "[I" ∈ zall := z_in1 (i := 217) rfl rfl
theorem q219 : Cond.laysFinal "TenancyDeposits$AnswerText" "TenancyDeposits$AnswerText" "tenantPoints" "[I" ∈ zall := z_in1 (i := 219) rfl rfl
theorem q222 : Cond.arrayClass .char ∈ zall := z_in1 (i := 222) rfl rfl
theorem q223 : Cond.arrayClass .int ∈ zall := z_in1 (i := 223) rfl rfl
theorem q224 : Cond.classLink RX6 33 RX4 ∈ zall := z_in1 (i := 224) rfl rfl
theorem q225 : Cond.methodLinkNest RX6 35 yX4_init "TenancyDeposits" ∈ lw_tbl := z_t1 (i := 225) rfl
theorem q226 : Cond.fieldLink RX6 10 "TenancyDeposits" "book" "LTenancyDeposits$Book;" ∈ zall := z_in1 (i := 226) rfl rfl
theorem q227 : Cond.fieldLink RX6 16 "TenancyDeposits" "snapshot" "LTenancyDeposits$Book;" ∈ zall := z_in1 (i := 227) rfl rfl
theorem q228 : Cond.fieldLink RX6 22 "TenancyDeposits" "history" "LTenancyDeposits$History;" ∈ zall := z_in1 (i := 228) rfl rfl
theorem q229 : Cond.fieldLink RX6 29 "TenancyDeposits" "text" "LTenancyDeposits$AnswerText;" ∈ zall := z_in1 (i := 229) rfl rfl
theorem q230 : Cond.fieldLink RX6 36 "TenancyDeposits" "forecast" "LTenancyDeposits$Settlement;" ∈ zall := z_in1 (i := 230) rfl rfl
theorem q231 : Cond.fieldLink RX6 40 "TenancyDeposits" "kept" "Z" ∈ zall := z_in1 (i := 231) rfl rfl
theorem q232 : Cond.laysFinal "TenancyDeposits" "TenancyDeposits" "book" "LTenancyDeposits$Book;" ∈ zall := z_in1 (i := 232) rfl rfl
theorem q234 : Cond.laysFinal "TenancyDeposits" "TenancyDeposits" "snapshot" "LTenancyDeposits$Book;" ∈ zall := z_in1 (i := 234) rfl rfl
theorem q236 : Cond.laysFinal "TenancyDeposits" "TenancyDeposits" "history" "LTenancyDeposits$History;" ∈ zall := z_in1 (i := 236) rfl rfl
theorem q238 : Cond.laysFinal "TenancyDeposits" "TenancyDeposits" "text" "LTenancyDeposits$AnswerText;" ∈ zall := z_in1 (i := 238) rfl rfl
theorem q240 : Cond.laysFinal "TenancyDeposits" "TenancyDeposits" "forecast" "LTenancyDeposits$Settlement;" ∈ zall := z_in2 (i := 0) rfl rfl
theorem q242 : Cond.lays "TenancyDeposits" "TenancyDeposits" "kept" "Z" ∈ zall := z_in2 (i := 2) rfl rfl
theorem q245 : Cond.methodLink RL 100 yX6_undo ∈ zall := z_in2 (i := 5) rfl rfl
theorem q246 : Cond.instanceMethod yX6_undo ∈ zall := z_in2 (i := 6) rfl rfl
theorem q247 : Cond.selects RX6 yX6_undo yX6_undo ∈ zall := z_in2 (i := 7) rfl rfl
theorem q248 : Cond.code yX6_undo cX6_undo 2 (some .int) ∈ zall := z_in2 (i := 8) rfl rfl
theorem q249 : Cond.methodLink RX6 204 yX2_latest ∈ zall := z_in2 (i := 9) rfl rfl
theorem q250 : Cond.instanceMethod yX2_latest ∈ zall := z_in2 (i := 10) rfl rfl
theorem q251 : Cond.selects RX2 yX2_latest yX2_latest ∈ zall := z_in2 (i := 11) rfl rfl
theorem q252 : Cond.code yX2_latest cX2_latest 1 (some (.object "TenancyDeposits$Book")) ∈ zall := z_in2 (i := 12) rfl rfl
theorem q253 : Cond.methodLink RX2 25 yX2_stateAt ∈ zall := z_in2 (i := 13) rfl rfl
theorem q254 : Cond.instanceMethod yX2_stateAt ∈ zall := z_in2 (i := 14) rfl rfl
theorem q255 : Cond.selects RX2 yX2_stateAt yX2_stateAt ∈ zall := z_in2 (i := 15) rfl rfl
theorem q256 : Cond.code yX2_stateAt cX2_stateAt 3 (some (.object "TenancyDeposits$Book")) ∈ zall := z_in2 (i := 16) rfl rfl
theorem q257 : Cond.methodLink RX6 208 yX1_copyFrom ∈ zall := z_in2 (i := 17) rfl rfl
theorem q258 : Cond.instanceMethod yX1_copyFrom ∈ zall := z_in2 (i := 18) rfl rfl
theorem q259 : Cond.selects RX1 yX1_copyFrom yX1_copyFrom ∈ zall := z_in2 (i := 19) rfl rfl
theorem q260 : Cond.code yX1_copyFrom cX1_copyFrom 5 none ∈ zall := z_in2 (i := 20) rfl rfl
theorem q261 : Cond.methodLink RX1 43 yX1_tenancyAt ∈ zall := z_in2 (i := 21) rfl rfl
theorem q262 : Cond.instanceMethod yX1_tenancyAt ∈ zall := z_in2 (i := 22) rfl rfl
theorem q263 : Cond.selects RX1 yX1_tenancyAt yX1_tenancyAt ∈ zall := z_in2 (i := 23) rfl rfl
theorem q264 : Cond.code yX1_tenancyAt cX1_tenancyAt 2 (some (.object "TenancyDeposits$Tenancy")) ∈ zall := z_in2 (i := 24) rfl rfl
theorem q265 : Cond.methodLink RX1 47 yX5_copyFrom ∈ zall := z_in2 (i := 25) rfl rfl
theorem q266 : Cond.instanceMethod yX5_copyFrom ∈ zall := z_in2 (i := 26) rfl rfl
theorem q267 : Cond.selects RX5 yX5_copyFrom yX5_copyFrom ∈ zall := z_in2 (i := 27) rfl rfl
theorem q268 : Cond.code yX5_copyFrom cX5_copyFrom 2 none ∈ zall := z_in2 (i := 28) rfl rfl
theorem q269 : Cond.methodLink RX5 41 yX4_copyFrom ∈ zall := z_in2 (i := 29) rfl rfl
theorem q270 : Cond.instanceMethod yX4_copyFrom ∈ zall := z_in2 (i := 30) rfl rfl
theorem q271 : Cond.selects RX4 yX4_copyFrom yX4_copyFrom ∈ zall := z_in2 (i := 31) rfl rfl
theorem q272 : Cond.code yX4_copyFrom cX4_copyFrom 2 none ∈ zall := z_in2 (i := 32) rfl rfl
theorem q273 : Cond.methodLink RX1 51 yX1_itemAt ∈ zall := z_in2 (i := 33) rfl rfl
theorem q274 : Cond.instanceMethod yX1_itemAt ∈ zall := z_in2 (i := 34) rfl rfl
theorem q275 : Cond.selects RX1 yX1_itemAt yX1_itemAt ∈ zall := z_in2 (i := 35) rfl rfl
theorem q276 : Cond.code yX1_itemAt cX1_itemAt 2 (some (.object "TenancyDeposits$Item")) ∈ zall := z_in2 (i := 36) rfl rfl
theorem q277 : Cond.methodLink RX1 55 yX3_copyFrom ∈ zall := z_in2 (i := 37) rfl rfl
theorem q278 : Cond.instanceMethod yX3_copyFrom ∈ zall := z_in2 (i := 38) rfl rfl
theorem q279 : Cond.selects RX3 yX3_copyFrom yX3_copyFrom ∈ zall := z_in2 (i := 39) rfl rfl
theorem q280 : Cond.code yX3_copyFrom cX3_copyFrom 2 none ∈ zall := z_in2 (i := 40) rfl rfl
theorem q281 : Cond.methodLink RL 103 yX6_keep ∈ zall := z_in2 (i := 41) rfl rfl
theorem q282 : Cond.instanceMethod yX6_keep ∈ zall := z_in2 (i := 42) rfl rfl
theorem q283 : Cond.selects RX6 yX6_keep yX6_keep ∈ zall := z_in2 (i := 43) rfl rfl
theorem q284 : Cond.code yX6_keep cX6_keep 1 (some .int) ∈ zall := z_in2 (i := 44) rfl rfl
theorem q285 : Cond.methodLink RL 89 yX6_restore ∈ zall := z_in2 (i := 45) rfl rfl
theorem q286 : Cond.instanceMethod yX6_restore ∈ zall := z_in2 (i := 46) rfl rfl
theorem q287 : Cond.selects RX6 yX6_restore yX6_restore ∈ zall := z_in2 (i := 47) rfl rfl
theorem q288 : Cond.code yX6_restore cX6_restore 1 (some .int) ∈ zall := z_in2 (i := 48) rfl rfl
theorem q289 : Cond.methodLink RX6 57 yX2_push ∈ zall := z_in2 (i := 49) rfl rfl
theorem q290 : Cond.instanceMethod yX2_push ∈ zall := z_in2 (i := 50) rfl rfl
theorem q291 : Cond.selects RX2 yX2_push yX2_push ∈ zall := z_in2 (i := 51) rfl rfl
theorem q292 : Cond.code yX2_push cX2_push 3 none ∈ zall := z_in2 (i := 52) rfl rfl
theorem q293 : Cond.methodLink RX2 29 yX1_copyFrom ∈ zall := z_in2 (i := 53) rfl rfl
theorem q294 : Cond.methodLink RL 19 yX6_count ∈ zall := z_in2 (i := 54) rfl rfl
theorem q295 : Cond.instanceMethod yX6_count ∈ zall := z_in2 (i := 55) rfl rfl
theorem q296 : Cond.selects RX6 yX6_count yX6_count ∈ zall := z_in2 (i := 56) rfl rfl
theorem q297 : Cond.code yX6_count cX6_count 2 (some .int) ∈ zall := z_in2 (i := 57) rfl rfl
theorem q298 : Cond.methodLink RX6 245 yX1_tenanciesIn ∈ zall := z_in2 (i := 58) rfl rfl
theorem q299 : Cond.instanceMethod yX1_tenanciesIn ∈ zall := z_in2 (i := 59) rfl rfl
theorem q300 : Cond.selects RX1 yX1_tenanciesIn yX1_tenanciesIn ∈ zall := z_in2 (i := 60) rfl rfl
theorem q301 : Cond.code yX1_tenanciesIn cX1_tenanciesIn 5 (some .int) ∈ zall := z_in2 (i := 61) rfl rfl
theorem q302 : Cond.methodLink RX6 248 yX6_closedSum ∈ zall := z_in2 (i := 62) rfl rfl
theorem q303 : Cond.privateMethod yX6_closedSum ∈ lw_tbl := z_t2 (i := 63) rfl
theorem q304 : Cond.instanceMethod yX6_closedSum ∈ zall := z_in2 (i := 64) rfl rfl
theorem q305 : Cond.code yX6_closedSum cX6_closedSum 5 (some .int) ∈ zall := z_in2 (i := 65) rfl rfl
theorem q306 : Cond.methodLink RX6 78 yX1_tenancyAt ∈ zall := z_in2 (i := 66) rfl rfl
theorem q307 : Cond.methodLink RX6 265 yX4_part ∈ zall := z_in2 (i := 67) rfl rfl
theorem q308 : Cond.instanceMethod yX4_part ∈ zall := z_in2 (i := 68) rfl rfl
theorem q309 : Cond.selects RX4 yX4_part yX4_part ∈ zall := z_in2 (i := 69) rfl rfl
theorem q310 : Cond.code yX4_part cX4_part 2 (some .int) ∈ zall := z_in2 (i := 70) rfl rfl
theorem q311 : Cond.methodLink RL 110 yL_cell ∈ zall := z_in2 (i := 71) rfl rfl
theorem q312 : Cond.static yL_cell ∈ zall := z_in2 (i := 72) rfl rfl
theorem q313 : Cond.code yL_cell cL_cell 2 (some .int) ∈ zall := z_in2 (i := 73) rfl rfl
theorem q314 : Cond.methodLink RL 106 yL_digest ∈ zall := z_in2 (i := 74) rfl rfl
theorem q315 : Cond.static yL_digest ∈ zall := z_in2 (i := 75) rfl rfl
theorem q316 : Cond.code yL_digest cL_digest 5 (some .long) ∈ zall := z_in2 (i := 76) rfl rfl
theorem q317 : Cond.constantLong RL 8 93 ∈ zall := z_in2 (i := 77) rfl rfl
theorem q318 : Cond.methodLink RL 10 yX6_rate ∈ zall := z_in2 (i := 78) rfl rfl
theorem q319 : Cond.instanceMethod yX6_rate ∈ zall := z_in2 (i := 79) rfl rfl
theorem q320 : Cond.selects RX6 yX6_rate yX6_rate ∈ zall := z_in2 (i := 80) rfl rfl
theorem q321 : Cond.code yX6_rate cX6_rate 1 (some .float) ∈ zall := z_in2 (i := 81) rfl rfl
theorem q322 : Cond.constantFloat RL 16 1315859240 ∈ zall := z_in2 (i := 82) rfl rfl
theorem q323 : Cond.constantLong RL 17 31 ∈ zall := z_in2 (i := 83) rfl rfl
theorem q324 : Cond.methodLink RL 23 yX6_tenancy ∈ zall := z_in2 (i := 84) rfl rfl
theorem q325 : Cond.instanceMethod yX6_tenancy ∈ zall := z_in2 (i := 85) rfl rfl
theorem q326 : Cond.selects RX6 yX6_tenancy yX6_tenancy ∈ zall := z_in2 (i := 86) rfl rfl
theorem q327 : Cond.code yX6_tenancy cX6_tenancy 4 (some .int) ∈ zall := z_in2 (i := 87) rfl rfl
theorem q328 : Cond.methodLink RX6 105 yX1_daysOf ∈ zall := z_in2 (i := 88) rfl rfl
theorem q329 : Cond.instanceMethod yX1_daysOf ∈ zall := z_in2 (i := 89) rfl rfl
theorem q330 : Cond.selects RX1 yX1_daysOf yX1_daysOf ∈ zall := z_in2 (i := 90) rfl rfl
theorem q331 : Cond.code yX1_daysOf cX1_daysOf 3 (some .int) ∈ zall := z_in2 (i := 91) rfl rfl
theorem q332 : Cond.methodLink RX6 188 yX1_interestOf ∈ zall := z_in2 (i := 92) rfl rfl
theorem q333 : Cond.instanceMethod yX1_interestOf ∈ zall := z_in2 (i := 93) rfl rfl
theorem q334 : Cond.selects RX1 yX1_interestOf yX1_interestOf ∈ zall := z_in2 (i := 94) rfl rfl
theorem q335 : Cond.code yX1_interestOf cX1_interestOf 3 (some .int) ∈ zall := z_in2 (i := 95) rfl rfl
theorem q336 : Cond.constantFloat RX1 104 1136033792 ∈ zall := z_in2 (i := 96) rfl rfl
theorem q337 : Cond.methodLink RX6 141 yX1_total ∈ zall := z_in2 (i := 97) rfl rfl
theorem q338 : Cond.instanceMethod yX1_total ∈ zall := z_in2 (i := 98) rfl rfl
theorem q339 : Cond.selects RX1 yX1_total yX1_total ∈ zall := z_in2 (i := 99) rfl rfl
theorem q340 : Cond.code yX1_total cX1_total 6 (some .int) ∈ zall := z_in2 (i := 100) rfl rfl
theorem q341 : Cond.methodLink RX1 105 yX1_shareOf ∈ zall := z_in2 (i := 101) rfl rfl
theorem q342 : Cond.instanceMethod yX1_shareOf ∈ zall := z_in2 (i := 102) rfl rfl
theorem q343 : Cond.selects RX1 yX1_shareOf yX1_shareOf ∈ zall := z_in2 (i := 103) rfl rfl
theorem q344 : Cond.code yX1_shareOf cX1_shareOf 4 (some .int) ∈ zall := z_in2 (i := 104) rfl rfl
theorem q345 : Cond.methodLink RX1 115 yX3_award ∈ zall := z_in2 (i := 105) rfl rfl
theorem q346 : Cond.instanceMethod yX3_award ∈ zall := z_in2 (i := 106) rfl rfl
theorem q347 : Cond.selects RX3 yX3_award yX3_award ∈ zall := z_in2 (i := 107) rfl rfl
theorem q348 : Cond.code yX3_award cX3_award 1 (some .int) ∈ zall := z_in2 (i := 108) rfl rfl
theorem q349 : Cond.methodLink RX3 69 yX3_landlordWeight ∈ zall := z_in2 (i := 109) rfl rfl
theorem q350 : Cond.instanceMethod yX3_landlordWeight ∈ zall := z_in2 (i := 110) rfl rfl
theorem q351 : Cond.selects RX3 yX3_landlordWeight yX3_landlordWeight ∈ zall := z_in2 (i := 111) rfl rfl
theorem q352 : Cond.code yX3_landlordWeight cX3_landlordWeight 2 (some .float) ∈ zall := z_in2 (i := 112) rfl rfl
theorem q353 : Cond.constantFloat RX3 73 1056964608 ∈ zall := z_in2 (i := 113) rfl rfl
theorem q354 : Cond.methodLink RL 27 yX6_outcome ∈ zall := z_in2 (i := 114) rfl rfl
theorem q355 : Cond.instanceMethod yX6_outcome ∈ zall := z_in2 (i := 115) rfl rfl
theorem q356 : Cond.selects RX6 yX6_outcome yX6_outcome ∈ zall := z_in2 (i := 116) rfl rfl
theorem q357 : Cond.code yX6_outcome cX6_outcome 4 (some .int) ∈ zall := z_in2 (i := 117) rfl rfl
theorem q358 : Cond.methodLink RX6 45 yX6_outside ∈ zall := z_in2 (i := 118) rfl rfl
theorem q359 : Cond.static yX6_outside ∈ zall := z_in2 (i := 119) rfl rfl
theorem q360 : Cond.code yX6_outside cX6_outside 3 (some .boolean) ∈ zall := z_in2 (i := 120) rfl rfl
theorem q361 : Cond.methodLink RX6 239 yX4_fact ∈ zall := z_in2 (i := 121) rfl rfl
theorem q362 : Cond.instanceMethod yX4_fact ∈ zall := z_in2 (i := 122) rfl rfl
theorem q363 : Cond.selects RX4 yX4_fact yX4_fact ∈ zall := z_in2 (i := 123) rfl rfl
theorem q364 : Cond.code yX4_fact cX4_fact 2 (some .int) ∈ zall := z_in2 (i := 124) rfl rfl
theorem q365 : Cond.methodLink RX6 184 yX1_settle ∈ zall := z_in2 (i := 125) rfl rfl
theorem q366 : Cond.instanceMethod yX1_settle ∈ zall := z_in2 (i := 126) rfl rfl
theorem q367 : Cond.selects RX1 yX1_settle yX1_settle ∈ zall := z_in2 (i := 127) rfl rfl
theorem q368 : Cond.code yX1_settle cX1_settle 7 none ∈ zall := z_in2 (i := 128) rfl rfl
theorem q369 : Cond.methodLink RX1 123 yX1_interestOf ∈ zall := z_in2 (i := 129) rfl rfl
theorem q370 : Cond.methodLink RX1 126 yX4_start ∈ zall := z_in2 (i := 130) rfl rfl
theorem q371 : Cond.instanceMethod yX4_start ∈ zall := z_in2 (i := 131) rfl rfl
theorem q372 : Cond.selects RX4 yX4_start yX4_start ∈ zall := z_in2 (i := 132) rfl rfl
theorem q373 : Cond.code yX4_start cX4_start 2 none ∈ zall := z_in2 (i := 133) rfl rfl
theorem q374 : Cond.methodLink RX1 119 yX1_total ∈ zall := z_in2 (i := 134) rfl rfl
theorem q375 : Cond.methodLink RX1 131 yX4_takeFee ∈ zall := z_in2 (i := 135) rfl rfl
theorem q376 : Cond.instanceMethod yX4_takeFee ∈ zall := z_in2 (i := 136) rfl rfl
theorem q377 : Cond.selects RX4 yX4_takeFee yX4_takeFee ∈ zall := z_in2 (i := 137) rfl rfl
theorem q378 : Cond.code yX4_takeFee cX4_takeFee 3 none ∈ zall := z_in2 (i := 138) rfl rfl
theorem q379 : Cond.methodLink RX4 28 yX4_take ∈ zall := z_in2 (i := 139) rfl rfl
theorem q380 : Cond.instanceMethod yX4_take ∈ zall := z_in2 (i := 140) rfl rfl
theorem q381 : Cond.selects RX4 yX4_take yX4_take ∈ zall := z_in2 (i := 141) rfl rfl
theorem q382 : Cond.code yX4_take cX4_take 3 (some .int) ∈ zall := z_in2 (i := 142) rfl rfl
theorem q383 : Cond.methodLink RX4 32 Lib.Math.min.name ∈ zall := z_in2 (i := 143) rfl rfl
theorem q384 : Cond.static Lib.Math.min.name ∈ zall := z_in2 (i := 144) rfl rfl
theorem q385 : Cond.code Lib.Math.min.name Lib.Math.min.code 2 (some .int) ∈ zall := z_in2 (i := 145) rfl rfl
theorem q386 : Cond.methodLink RX1 134 yX4_payLandlord ∈ zall := z_in2 (i := 146) rfl rfl
theorem q387 : Cond.instanceMethod yX4_payLandlord ∈ zall := z_in2 (i := 147) rfl rfl
theorem q388 : Cond.selects RX4 yX4_payLandlord yX4_payLandlord ∈ zall := z_in2 (i := 148) rfl rfl
theorem q389 : Cond.code yX4_payLandlord cX4_payLandlord 2 none ∈ zall := z_in2 (i := 149) rfl rfl
theorem q390 : Cond.methodLink RL 30 yX6_item ∈ zall := z_in2 (i := 150) rfl rfl
theorem q391 : Cond.instanceMethod yX6_item ∈ zall := z_in2 (i := 151) rfl rfl
theorem q392 : Cond.selects RX6 yX6_item yX6_item ∈ zall := z_in2 (i := 152) rfl rfl
theorem q393 : Cond.code yX6_item cX6_item 4 (some .int) ∈ zall := z_in2 (i := 153) rfl rfl
theorem q394 : Cond.methodLink RX6 109 yX1_itemAt ∈ zall := z_in2 (i := 154) rfl rfl
theorem q395 : Cond.methodLink RX6 122 yX1_daysOfItem ∈ zall := z_in2 (i := 155) rfl rfl
theorem q396 : Cond.instanceMethod yX1_daysOfItem ∈ zall := z_in2 (i := 156) rfl rfl
theorem q397 : Cond.selects RX1 yX1_daysOfItem yX1_daysOfItem ∈ zall := z_in2 (i := 157) rfl rfl
theorem q398 : Cond.code yX1_daysOfItem cX1_daysOfItem 3 (some .int) ∈ zall := z_in2 (i := 158) rfl rfl
theorem q399 : Cond.methodLink RX1 88 yX1_daysOf ∈ zall := z_in2 (i := 159) rfl rfl
theorem q400 : Cond.methodLink RX6 221 yX3_fairAfter ∈ zall := z_in2 (i := 160) rfl rfl
theorem q401 : Cond.instanceMethod yX3_fairAfter ∈ zall := z_in2 (i := 161) rfl rfl
theorem q402 : Cond.selects RX3 yX3_fairAfter yX3_fairAfter ∈ zall := z_in2 (i := 162) rfl rfl
theorem q403 : Cond.code yX3_fairAfter cX3_fairAfter 2 (some .int) ∈ zall := z_in2 (i := 163) rfl rfl
theorem q404 : Cond.methodLink RX3 45 Lib.Math.max.name ∈ zall := z_in2 (i := 164) rfl rfl
theorem q405 : Cond.static Lib.Math.max.name ∈ zall := z_in2 (i := 165) rfl rfl
theorem q406 : Cond.code Lib.Math.max.name Lib.Math.max.code 2 (some .int) ∈ zall := z_in2 (i := 166) rfl rfl
theorem q407 : Cond.methodLink RX6 224 yX6_conditionFact ∈ zall := z_in2 (i := 167) rfl rfl
theorem q408 : Cond.privateMethod yX6_conditionFact ∈ lw_tbl := z_t2 (i := 168) rfl
theorem q409 : Cond.instanceMethod yX6_conditionFact ∈ zall := z_in2 (i := 169) rfl rfl
theorem q410 : Cond.code yX6_conditionFact cX6_conditionFact 3 (some .int) ∈ zall := z_in2 (i := 170) rfl rfl
theorem q411 : Cond.methodLink RX6 113 yX1_stateOf ∈ zall := z_in2 (i := 171) rfl rfl
theorem q412 : Cond.instanceMethod yX1_stateOf ∈ zall := z_in2 (i := 172) rfl rfl
theorem q413 : Cond.selects RX1 yX1_stateOf yX1_stateOf ∈ zall := z_in2 (i := 173) rfl rfl
theorem q414 : Cond.code yX1_stateOf cX1_stateOf 3 (some .int) ∈ zall := z_in2 (i := 174) rfl rfl
theorem q415 : Cond.methodLink RX6 262 yX3_damageAfter ∈ zall := z_in2 (i := 175) rfl rfl
theorem q416 : Cond.instanceMethod yX3_damageAfter ∈ zall := z_in2 (i := 176) rfl rfl
theorem q417 : Cond.selects RX3 yX3_damageAfter yX3_damageAfter ∈ zall := z_in2 (i := 177) rfl rfl
theorem q418 : Cond.code yX3_damageAfter cX3_damageAfter 3 (some .int) ∈ zall := z_in2 (i := 178) rfl rfl
theorem q419 : Cond.methodLink RX3 55 yX3_fairAfter ∈ zall := z_in2 (i := 179) rfl rfl
theorem q420 : Cond.methodLink RX6 178 yX3_award ∈ zall := z_in2 (i := 180) rfl rfl
theorem q421 : Cond.methodLink RX6 228 yX3_ageAfter ∈ zall := z_in2 (i := 181) rfl rfl
theorem q422 : Cond.instanceMethod yX3_ageAfter ∈ zall := z_in2 (i := 182) rfl rfl
theorem q423 : Cond.selects RX3 yX3_ageAfter yX3_ageAfter ∈ zall := z_in2 (i := 183) rfl rfl
theorem q424 : Cond.code yX3_ageAfter cX3_ageAfter 2 (some .int) ∈ zall := z_in2 (i := 184) rfl rfl
theorem q425 : Cond.methodLink RL 33 yX6_weight ∈ zall := z_in2 (i := 185) rfl rfl
theorem q426 : Cond.instanceMethod yX6_weight ∈ zall := z_in2 (i := 186) rfl rfl
theorem q427 : Cond.selects RX6 yX6_weight yX6_weight ∈ zall := z_in2 (i := 187) rfl rfl
theorem q428 : Cond.code yX6_weight cX6_weight 3 (some .float) ∈ zall := z_in2 (i := 188) rfl rfl
theorem q429 : Cond.constantFloat RX6 231 2143289344 ∈ zall := z_in2 (i := 189) rfl rfl
theorem q430 : Cond.methodLink RX6 235 yX3_landlordWeight ∈ zall := z_in2 (i := 190) rfl rfl
theorem q431 : Cond.constantFloat RL 37 1232348160 ∈ zall := z_in2 (i := 191) rfl rfl
theorem q432 : Cond.methodLink RL 38 yX6_reason ∈ zall := z_in2 (i := 192) rfl rfl
theorem q433 : Cond.instanceMethod yX6_reason ∈ zall := z_in2 (i := 193) rfl rfl
theorem q434 : Cond.selects RX6 yX6_reason yX6_reason ∈ zall := z_in2 (i := 194) rfl rfl
theorem q435 : Cond.code yX6_reason cX6_reason 3 (some .int) ∈ zall := z_in2 (i := 195) rfl rfl
theorem q436 : Cond.methodLink RL 114 yL_act ∈ zall := z_in2 (i := 196) rfl rfl
theorem q437 : Cond.static yL_act ∈ zall := z_in2 (i := 197) rfl rfl
theorem q438 : Cond.code yL_act cL_act 5 (some .int) ∈ zall := z_in2 (i := 198) rfl rfl
theorem q439 : Cond.methodLink RL 41 yL_low ∈ zall := z_in2 (i := 199) rfl rfl
theorem q440 : Cond.static yL_low ∈ zall := z_in2 (i := 200) rfl rfl
theorem q441 : Cond.code yL_low cL_low 2 (some .int) ∈ zall := z_in2 (i := 201) rfl rfl
theorem q442 : Cond.constant RL 7 2147483647 ∈ zall := z_in2 (i := 202) rfl rfl
theorem q443 : Cond.constant RL 46 60000 ∈ zall := z_in2 (i := 203) rfl rfl
theorem q444 : Cond.methodLink RL 47 yX6_begin ∈ zall := z_in2 (i := 204) rfl rfl
theorem q445 : Cond.instanceMethod yX6_begin ∈ zall := z_in2 (i := 205) rfl rfl
theorem q446 : Cond.selects RX6 yX6_begin yX6_begin ∈ zall := z_in2 (i := 206) rfl rfl
theorem q447 : Cond.code yX6_begin cX6_begin 2 (some .int) ∈ zall := z_in2 (i := 207) rfl rfl
theorem q448 : Cond.constant RX6 70 1000000 ∈ zall := z_in2 (i := 208) rfl rfl
theorem q449 : Cond.methodLink RX6 74 yX1_addTenancy ∈ zall := z_in2 (i := 209) rfl rfl
theorem q450 : Cond.instanceMethod yX1_addTenancy ∈ zall := z_in2 (i := 210) rfl rfl
theorem q451 : Cond.selects RX1 yX1_addTenancy yX1_addTenancy ∈ zall := z_in2 (i := 211) rfl rfl
theorem q452 : Cond.code yX1_addTenancy cX1_addTenancy 4 (some .int) ∈ zall := z_in2 (i := 212) rfl rfl
theorem q453 : Cond.methodLink RX1 58 yX5_start ∈ zall := z_in2 (i := 213) rfl rfl
theorem q454 : Cond.instanceMethod yX5_start ∈ zall := z_in2 (i := 214) rfl rfl
theorem q455 : Cond.selects RX5 yX5_start yX5_start ∈ zall := z_in2 (i := 215) rfl rfl
theorem q456 : Cond.code yX5_start cX5_start 3 none ∈ zall := z_in2 (i := 216) rfl rfl
theorem q457 : Cond.methodLink RX5 37 yX4_start ∈ zall := z_in2 (i := 217) rfl rfl
theorem q458 : Cond.methodLink RL 50 yX6_addItem ∈ zall := z_in2 (i := 218) rfl rfl
theorem q459 : Cond.instanceMethod yX6_addItem ∈ zall := z_in2 (i := 219) rfl rfl
theorem q460 : Cond.selects RX6 yX6_addItem yX6_addItem ∈ zall := z_in2 (i := 220) rfl rfl
theorem q461 : Cond.code yX6_addItem cX6_addItem 7 (some .int) ∈ zall := z_in2 (i := 221) rfl rfl
theorem q462 : Cond.constant RX6 82 500000 ∈ zall := z_in2 (i := 222) rfl rfl
theorem q463 : Cond.methodLink RX6 94 yX1_newItem ∈ zall := z_in2 (i := 223) rfl rfl
theorem q464 : Cond.instanceMethod yX1_newItem ∈ zall := z_in2 (i := 224) rfl rfl
theorem q465 : Cond.selects RX1 yX1_newItem yX1_newItem ∈ zall := z_in2 (i := 225) rfl rfl
theorem q466 : Cond.code yX1_newItem cX1_newItem 8 (some .int) ∈ zall := z_in2 (i := 226) rfl rfl
theorem q467 : Cond.methodLink RX1 62 yX3_start ∈ zall := z_in2 (i := 227) rfl rfl
theorem q468 : Cond.instanceMethod yX3_start ∈ zall := z_in2 (i := 228) rfl rfl
theorem q469 : Cond.selects RX3 yX3_start yX3_start ∈ zall := z_in2 (i := 229) rfl rfl
theorem q470 : Cond.code yX3_start cX3_start 6 none ∈ zall := z_in2 (i := 230) rfl rfl
theorem q471 : Cond.methodLink RL 54 yX6_pass ∈ zall := z_in2 (i := 231) rfl rfl
theorem q472 : Cond.instanceMethod yX6_pass ∈ zall := z_in2 (i := 232) rfl rfl
theorem q473 : Cond.selects RX6 yX6_pass yX6_pass ∈ zall := z_in2 (i := 233) rfl rfl
theorem q474 : Cond.code yX6_pass cX6_pass 2 (some .int) ∈ zall := z_in2 (i := 234) rfl rfl
theorem q475 : Cond.constant RX6 69 99999 ∈ zall := z_in2 (i := 235) rfl rfl
theorem q476 : Cond.methodLink RL 57 yX6_end ∈ zall := z_in2 (i := 236) rfl rfl
theorem q477 : Cond.instanceMethod yX6_end ∈ zall := z_in2 (i := 237) rfl rfl
theorem q478 : Cond.selects RX6 yX6_end yX6_end ∈ zall := z_in2 (i := 238) rfl rfl
theorem q479 : Cond.code yX6_end cX6_end 3 (some .int) ∈ zall := z_in2 (i := 239) rfl rfl
theorem q480 : Cond.methodLink RX6 101 yX1_expectFairConditions ∈ zall := z_in3 (i := 0) rfl rfl
theorem q481 : Cond.instanceMethod yX1_expectFairConditions ∈ zall := z_in3 (i := 1) rfl rfl
theorem q482 : Cond.selects RX1 yX1_expectFairConditions yX1_expectFairConditions ∈ zall := z_in3 (i := 2) rfl rfl
theorem q483 : Cond.code yX1_expectFairConditions cX1_expectFairConditions 5 none ∈ zall := z_in3 (i := 3) rfl rfl
theorem q484 : Cond.methodLink RX1 68 yX1_daysOfItem ∈ zall := z_in3 (i := 4) rfl rfl
theorem q485 : Cond.methodLink RX1 72 yX3_fairAfter ∈ zall := z_in3 (i := 5) rfl rfl
theorem q486 : Cond.methodLink RX1 76 yX3_tellEnd ∈ zall := z_in3 (i := 6) rfl rfl
theorem q487 : Cond.instanceMethod yX3_tellEnd ∈ zall := z_in3 (i := 7) rfl rfl
theorem q488 : Cond.selects RX3 yX3_tellEnd yX3_tellEnd ∈ zall := z_in3 (i := 8) rfl rfl
theorem q489 : Cond.code yX3_tellEnd cX3_tellEnd 3 none ∈ zall := z_in3 (i := 9) rfl rfl
theorem q490 : Cond.methodLink RX3 66 yX3_dueAfter ∈ zall := z_in3 (i := 10) rfl rfl
theorem q491 : Cond.instanceMethod yX3_dueAfter ∈ zall := z_in3 (i := 11) rfl rfl
theorem q492 : Cond.selects RX3 yX3_dueAfter yX3_dueAfter ∈ zall := z_in3 (i := 12) rfl rfl
theorem q493 : Cond.code yX3_dueAfter cX3_dueAfter 4 (some .int) ∈ zall := z_in3 (i := 13) rfl rfl
theorem q494 : Cond.methodLink RX3 58 yX3_damageAfter ∈ zall := z_in3 (i := 14) rfl rfl
theorem q495 : Cond.constantFloat RX3 61 1120403456 ∈ zall := z_in3 (i := 15) rfl rfl
theorem q496 : Cond.methodLink RX3 62 yX3_restAfter ∈ zall := z_in3 (i := 16) rfl rfl
theorem q497 : Cond.instanceMethod yX3_restAfter ∈ zall := z_in3 (i := 17) rfl rfl
theorem q498 : Cond.selects RX3 yX3_restAfter yX3_restAfter ∈ zall := z_in3 (i := 18) rfl rfl
theorem q499 : Cond.code yX3_restAfter cX3_restAfter 3 (some .float) ∈ zall := z_in3 (i := 19) rfl rfl
theorem q500 : Cond.methodLink RX3 51 yX3_ageAfter ∈ zall := z_in3 (i := 20) rfl rfl
theorem q501 : Cond.methodLink RL 60 yX6_inspect ∈ zall := z_in3 (i := 21) rfl rfl
theorem q502 : Cond.instanceMethod yX6_inspect ∈ zall := z_in3 (i := 22) rfl rfl
theorem q503 : Cond.selects RX6 yX6_inspect yX6_inspect ∈ zall := z_in3 (i := 23) rfl rfl
theorem q504 : Cond.code yX6_inspect cX6_inspect 4 (some .int) ∈ zall := z_in3 (i := 24) rfl rfl
theorem q505 : Cond.methodLink RX6 125 yX3_tellEnd ∈ zall := z_in3 (i := 25) rfl rfl
theorem q506 : Cond.methodLink RL 63 yX6_claim ∈ zall := z_in3 (i := 26) rfl rfl
theorem q507 : Cond.instanceMethod yX6_claim ∈ zall := z_in3 (i := 27) rfl rfl
theorem q508 : Cond.selects RX6 yX6_claim yX6_claim ∈ zall := z_in3 (i := 28) rfl rfl
theorem q509 : Cond.code yX6_claim cX6_claim 5 (some .int) ∈ zall := z_in3 (i := 29) rfl rfl
theorem q510 : Cond.constant RL 66 90000 ∈ zall := z_in3 (i := 30) rfl rfl
theorem q511 : Cond.methodLink RL 67 yX6_claimRent ∈ zall := z_in3 (i := 31) rfl rfl
theorem q512 : Cond.instanceMethod yX6_claimRent ∈ zall := z_in3 (i := 32) rfl rfl
theorem q513 : Cond.selects RX6 yX6_claimRent yX6_claimRent ∈ zall := z_in3 (i := 33) rfl rfl
theorem q514 : Cond.code yX6_claimRent cX6_claimRent 5 (some .int) ∈ zall := z_in3 (i := 34) rfl rfl
theorem q515 : Cond.methodLink RL 70 yX6_put ∈ zall := z_in3 (i := 35) rfl rfl
theorem q516 : Cond.instanceMethod yX6_put ∈ zall := z_in3 (i := 36) rfl rfl
theorem q517 : Cond.selects RX6 yX6_put yX6_put ∈ zall := z_in3 (i := 37) rfl rfl
theorem q518 : Cond.code yX6_put cX6_put 3 (some .int) ∈ zall := z_in3 (i := 38) rfl rfl
theorem q519 : Cond.methodLink RL 73 yX6_answer ∈ zall := z_in3 (i := 39) rfl rfl
theorem q520 : Cond.instanceMethod yX6_answer ∈ zall := z_in3 (i := 40) rfl rfl
theorem q521 : Cond.selects RX6 yX6_answer yX6_answer ∈ zall := z_in3 (i := 41) rfl rfl
theorem q522 : Cond.code yX6_answer cX6_answer 6 (some .int) ∈ zall := z_in3 (i := 42) rfl rfl
theorem q523 : Cond.methodLink RX6 145 yX1_canBeAnswered ∈ zall := z_in3 (i := 43) rfl rfl
theorem q524 : Cond.instanceMethod yX1_canBeAnswered ∈ zall := z_in3 (i := 44) rfl rfl
theorem q525 : Cond.selects RX1 yX1_canBeAnswered yX1_canBeAnswered ∈ zall := z_in3 (i := 45) rfl rfl
theorem q526 : Cond.code yX1_canBeAnswered cX1_canBeAnswered 2 (some .boolean) ∈ zall := z_in3 (i := 46) rfl rfl
theorem q527 : Cond.methodLink RX1 92 yX1_stateOf ∈ zall := z_in3 (i := 47) rfl rfl
theorem q528 : Cond.methodLink RL 77 yX6_setEvidence ∈ zall := z_in3 (i := 48) rfl rfl
theorem q529 : Cond.instanceMethod yX6_setEvidence ∈ zall := z_in3 (i := 49) rfl rfl
theorem q530 : Cond.selects RX6 yX6_setEvidence yX6_setEvidence ∈ zall := z_in3 (i := 50) rfl rfl
theorem q531 : Cond.code yX6_setEvidence cX6_setEvidence 6 (some .int) ∈ zall := z_in3 (i := 51) rfl rfl
theorem q532 : Cond.constant RL 81 50002 ∈ zall := z_in3 (i := 52) rfl rfl
theorem q533 : Cond.methodLink RL 82 yX6_setFee ∈ zall := z_in3 (i := 53) rfl rfl
theorem q534 : Cond.instanceMethod yX6_setFee ∈ zall := z_in3 (i := 54) rfl rfl
theorem q535 : Cond.selects RX6 yX6_setFee yX6_setFee ∈ zall := z_in3 (i := 55) rfl rfl
theorem q536 : Cond.code yX6_setFee cX6_setFee 3 (some .int) ∈ zall := z_in3 (i := 56) rfl rfl
theorem q537 : Cond.constant RX6 61 50000 ∈ zall := z_in3 (i := 57) rfl rfl
theorem q538 : Cond.constant RL 85 1045220557 ∈ zall := z_in3 (i := 58) rfl rfl
theorem q539 : Cond.methodLink RL 86 yX6_setRate ∈ zall := z_in3 (i := 59) rfl rfl
theorem q540 : Cond.instanceMethod yX6_setRate ∈ zall := z_in3 (i := 60) rfl rfl
theorem q541 : Cond.selects RX6 yX6_setRate yX6_setRate ∈ zall := z_in3 (i := 61) rfl rfl
theorem q542 : Cond.code yX6_setRate cX6_setRate 3 (some .int) ∈ zall := z_in3 (i := 62) rfl rfl
theorem q543 : Cond.constant RX6 44 1045220557 ∈ zall := z_in3 (i := 63) rfl rfl
theorem q544 : Cond.methodLink RX6 49 yX6_floatOf ∈ zall := z_in3 (i := 64) rfl rfl
theorem q545 : Cond.static yX6_floatOf ∈ zall := z_in3 (i := 65) rfl rfl
theorem q546 : Cond.code yX6_floatOf cX6_floatOf 5 (some .float) ∈ zall := z_in3 (i := 66) rfl rfl
theorem q547 : Cond.constant RX6 251 8388607 ∈ zall := z_in3 (i := 67) rfl rfl
theorem q548 : Cond.constant RX6 252 8388608 ∈ zall := z_in3 (i := 68) rfl rfl
theorem q549 : Cond.methodLink RL 93 yX6_close ∈ zall := z_in3 (i := 69) rfl rfl
theorem q550 : Cond.instanceMethod yX6_close ∈ zall := z_in3 (i := 70) rfl rfl
theorem q551 : Cond.selects RX6 yX6_close yX6_close ∈ zall := z_in3 (i := 71) rfl rfl
theorem q552 : Cond.code yX6_close cX6_close 3 (some .int) ∈ zall := z_in3 (i := 72) rfl rfl
theorem q553 : Cond.methodLink RL 118 yL_holds ∈ zall := z_in3 (i := 73) rfl rfl
theorem q554 : Cond.static yL_holds ∈ zall := z_in3 (i := 74) rfl rfl
theorem q555 : Cond.code yL_holds cL_holds 12 (some .boolean) ∈ zall := z_in3 (i := 75) rfl rfl
theorem q556 : Cond.methodLink RL 96 yX6_rest ∈ zall := z_in3 (i := 76) rfl rfl
theorem q557 : Cond.instanceMethod yX6_rest ∈ zall := z_in3 (i := 77) rfl rfl
theorem q558 : Cond.selects RX6 yX6_rest yX6_rest ∈ zall := z_in3 (i := 78) rfl rfl
theorem q559 : Cond.code yX6_rest cX6_rest 3 (some .float) ∈ zall := z_in3 (i := 79) rfl rfl
theorem q560 : Cond.methodLink RX6 232 yX3_restAfter ∈ zall := z_in3 (i := 80) rfl rfl
theorem inX0 : ∀ w ∈ u_ws RX0 TX0 7, w ∈ zall := by
  show ∀ w ∈ [u_lay RX0 TX0 0, u_lay RX0 TX0 1, u_lay RX0 TX0 2, u_lay RX0 TX0 3, u_lay RX0 TX0 4, u_lay RX0 TX0 5, u_lay RX0 TX0 6], w ∈ zall
  exact List.forall_mem_cons.mpr ⟨q207, List.forall_mem_cons.mpr ⟨q209, List.forall_mem_cons.mpr ⟨q211, List.forall_mem_cons.mpr ⟨q213, List.forall_mem_cons.mpr ⟨q215, List.forall_mem_cons.mpr ⟨q217, List.forall_mem_cons.mpr ⟨q219, (fun _ h => absurd h List.not_mem_nil)⟩⟩⟩⟩⟩⟩⟩
theorem inX1 : ∀ w ∈ u_ws RX1 TX1 7, w ∈ zall := by
  show ∀ w ∈ [u_lay RX1 TX1 0, u_lay RX1 TX1 1, u_lay RX1 TX1 2, u_lay RX1 TX1 3, u_lay RX1 TX1 4, u_lay RX1 TX1 5, u_lay RX1 TX1 6], w ∈ zall
  exact List.forall_mem_cons.mpr ⟨q158, List.forall_mem_cons.mpr ⟨q160, List.forall_mem_cons.mpr ⟨q162, List.forall_mem_cons.mpr ⟨q164, List.forall_mem_cons.mpr ⟨q166, List.forall_mem_cons.mpr ⟨q168, List.forall_mem_cons.mpr ⟨q170, (fun _ h => absurd h List.not_mem_nil)⟩⟩⟩⟩⟩⟩⟩
theorem inX2 : ∀ w ∈ u_ws RX2 TX2 3, w ∈ zall := by
  show ∀ w ∈ [u_lay RX2 TX2 0, u_lay RX2 TX2 1, u_lay RX2 TX2 2], w ∈ zall
  exact List.forall_mem_cons.mpr ⟨q186, List.forall_mem_cons.mpr ⟨q188, List.forall_mem_cons.mpr ⟨q190, (fun _ h => absurd h List.not_mem_nil)⟩⟩⟩
theorem inX3 : ∀ w ∈ u_ws RX3 TX3 11, w ∈ zall := by
  show ∀ w ∈ [u_lay RX3 TX3 0, u_lay RX3 TX3 1, u_lay RX3 TX3 2, u_lay RX3 TX3 3, u_lay RX3 TX3 4, u_lay RX3 TX3 5, u_lay RX3 TX3 6, u_lay RX3 TX3 7, u_lay RX3 TX3 8, u_lay RX3 TX3 9, u_lay RX3 TX3 10], w ∈ zall
  exact List.forall_mem_cons.mpr ⟨q123, List.forall_mem_cons.mpr ⟨q125, List.forall_mem_cons.mpr ⟨q127, List.forall_mem_cons.mpr ⟨q129, List.forall_mem_cons.mpr ⟨q131, List.forall_mem_cons.mpr ⟨q133, List.forall_mem_cons.mpr ⟨q135, List.forall_mem_cons.mpr ⟨q137, List.forall_mem_cons.mpr ⟨q139, List.forall_mem_cons.mpr ⟨q141, List.forall_mem_cons.mpr ⟨q143, (fun _ h => absurd h List.not_mem_nil)⟩⟩⟩⟩⟩⟩⟩⟩⟩⟩⟩
theorem inX4 : ∀ w ∈ u_ws RX4 TX4 6, w ∈ zall := by
  show ∀ w ∈ [u_lay RX4 TX4 0, u_lay RX4 TX4 1, u_lay RX4 TX4 2, u_lay RX4 TX4 3, u_lay RX4 TX4 4, u_lay RX4 TX4 5], w ∈ zall
  exact List.forall_mem_cons.mpr ⟨q46, List.forall_mem_cons.mpr ⟨q48, List.forall_mem_cons.mpr ⟨q50, List.forall_mem_cons.mpr ⟨q52, List.forall_mem_cons.mpr ⟨q54, List.forall_mem_cons.mpr ⟨q56, (fun _ h => absurd h List.not_mem_nil)⟩⟩⟩⟩⟩⟩
theorem inX5 : ∀ w ∈ u_ws RX5 TX5 7, w ∈ zall := by
  show ∀ w ∈ [u_lay RX5 TX5 0, u_lay RX5 TX5 1, u_lay RX5 TX5 2, u_lay RX5 TX5 3, u_lay RX5 TX5 4, u_lay RX5 TX5 5, u_lay RX5 TX5 6], w ∈ zall
  exact List.forall_mem_cons.mpr ⟨q79, List.forall_mem_cons.mpr ⟨q81, List.forall_mem_cons.mpr ⟨q83, List.forall_mem_cons.mpr ⟨q85, List.forall_mem_cons.mpr ⟨q87, List.forall_mem_cons.mpr ⟨q89, List.forall_mem_cons.mpr ⟨q91, (fun _ h => absurd h List.not_mem_nil)⟩⟩⟩⟩⟩⟩⟩
theorem inX6 : ∀ w ∈ u_ws RX6 TX6 6, w ∈ zall := by
  show ∀ w ∈ [u_lay RX6 TX6 0, u_lay RX6 TX6 1, u_lay RX6 TX6 2, u_lay RX6 TX6 3, u_lay RX6 TX6 4, u_lay RX6 TX6 5], w ∈ zall
  exact List.forall_mem_cons.mpr ⟨q232, List.forall_mem_cons.mpr ⟨q234, List.forall_mem_cons.mpr ⟨q236, List.forall_mem_cons.mpr ⟨q238, List.forall_mem_cons.mpr ⟨q240, List.forall_mem_cons.mpr ⟨q242, (fun _ h => absurd h List.not_mem_nil)⟩⟩⟩⟩⟩⟩
theorem inX7 : ∀ w ∈ u_ws RX7 TX7 0, w ∈ zall := by
  show ∀ w ∈ [], w ∈ zall
  exact (fun _ h => absurd h List.not_mem_nil)
