def RX0 : String := "LineKeeper$Caches"
def TX0 : u_T := fun k => match k with
  | 0 => ("LineKeeper$Caches", "states", "[C", true)
  | 1 => ("LineKeeper$Caches", "uses", "[I", true)
  | 2 => ("LineKeeper$Caches", "leavings", "[I", true)
  | 3 => ("LineKeeper$Caches", "untried", "[Z", true)
  | 4 => ("LineKeeper$Caches", "aheads", "[Z", true)
  | 5 => ("LineKeeper$Caches", "missLines", "[I", true)
  | 6 => ("LineKeeper$Caches", "steps", "[I", true)
  | 7 => ("LineKeeper$Caches", "fetchedLines", "[I", true)
  | 8 => ("LineKeeper$Caches", "usefulLines", "[I", true)
  | 9 => ("LineKeeper$Caches", "wrongLines", "[I", true)
  | _ => ("LineKeeper$Caches", "now", "I", false)
def tyX0 : Nat → FieldType := fun k => match k with
  | 0 => .array .char
  | 1 => .array .int
  | 2 => .array .int
  | 3 => .array .boolean
  | 4 => .array .boolean
  | 5 => .array .int
  | 6 => .array .int
  | 7 => .array .int
  | 8 => .array .int
  | 9 => .array .int
  | _ => .int
theorem nmX0 : ∀ a, a < 11 → ∀ b, b < 11 → a ≠ b → (TX0 a).2.1 ≠ (TX0 b).2.1 := by decide +kernel
theorem tyX0_ok : ∀ k, k < 11 → parseFieldDescriptor (TX0 k).2.2.1 = some (tyX0 k) := by decide +kernel
abbrev cX0_init : ByteArray := prog_2_method_1_code
def yX0_init : MethodName := ⟨RX0, "<init>", "()V"⟩
abbrev cX0_clear : ByteArray := prog_2_method_2_code
def yX0_clear : MethodName := ⟨RX0, "clear", "()V"⟩
abbrev cX0_isAhead : ByteArray := prog_2_method_3_code
def yX0_isAhead : MethodName := ⟨RX0, "isAhead", "(I)Z"⟩
abbrev cX0_tellAhead : ByteArray := prog_2_method_4_code
def yX0_tellAhead : MethodName := ⟨RX0, "tellAhead", "(IZ)V"⟩
abbrev cX0_countFetched : ByteArray := prog_2_method_5_code
def yX0_countFetched : MethodName := ⟨RX0, "countFetched", "(I)I"⟩
abbrev cX0_countUseful : ByteArray := prog_2_method_6_code
def yX0_countUseful : MethodName := ⟨RX0, "countUseful", "(I)I"⟩
abbrev cX0_countWrong : ByteArray := prog_2_method_7_code
def yX0_countWrong : MethodName := ⟨RX0, "countWrong", "(I)I"⟩
abbrev cX0_stateOf : ByteArray := prog_2_method_8_code
def yX0_stateOf : MethodName := ⟨RX0, "stateOf", "(II)C"⟩
abbrev cX0_ownerOf : ByteArray := prog_2_method_9_code
def yX0_ownerOf : MethodName := ⟨RX0, "ownerOf", "(I)I"⟩
abbrev cX0_countHolders : ByteArray := prog_2_method_10_code
def yX0_countHolders : MethodName := ⟨RX0, "countHolders", "(I)I"⟩
abbrev cX0_countLines : ByteArray := prog_2_method_11_code
def yX0_countLines : MethodName := ⟨RX0, "countLines", "(II)I"⟩
abbrev cX0_oldestOf : ByteArray := prog_2_method_12_code
def yX0_oldestOf : MethodName := ⟨RX0, "oldestOf", "(II)I"⟩
abbrev cX0_hasLoneOwners : ByteArray := prog_2_method_13_code
def yX0_hasLoneOwners : MethodName := ⟨RX0, "hasLoneOwners", "()Z"⟩
abbrev cX0_hasStatesOf : ByteArray := prog_2_method_14_code
def yX0_hasStatesOf : MethodName := ⟨RX0, "hasStatesOf", "(LLineKeeper$Caches;)Z"⟩
abbrev cX0_causeOfNext : ByteArray := prog_2_method_15_code
def yX0_causeOfNext : MethodName := ⟨RX0, "causeOfNext", "(IIIZ)C"⟩
abbrev cX0_makeAccess : ByteArray := prog_2_method_16_code
def yX0_makeAccess : MethodName := ⟨RX0, "makeAccess", "(IIIZ)I"⟩
abbrev cX0_dropAll : ByteArray := prog_2_method_17_code
def yX0_dropAll : MethodName := ⟨RX0, "dropAll", "(I)I"⟩
abbrev cX0_costOfNext : ByteArray := prog_2_method_18_code
def yX0_costOfNext : MethodName := ⟨RX0, "costOfNext", "(IIZ)I"⟩
abbrev cX0_makeRoom : ByteArray := prog_2_method_19_code
def yX0_makeRoom : MethodName := ⟨RX0, "makeRoom", "(II)Z"⟩
abbrev cX0_shareAll : ByteArray := prog_2_method_20_code
def yX0_shareAll : MethodName := ⟨RX0, "shareAll", "(I)V"⟩
abbrev cX0_bring : ByteArray := prog_2_method_21_code
def yX0_bring : MethodName := ⟨RX0, "bring", "(II)V"⟩
abbrev cX0_use : ByteArray := prog_2_method_22_code
def yX0_use : MethodName := ⟨RX0, "use", "(II)V"⟩
abbrev cX0_drop : ByteArray := prog_2_method_23_code
def yX0_drop : MethodName := ⟨RX0, "drop", "(III)V"⟩
abbrev cX0_dropElsewhere : ByteArray := prog_2_method_24_code
def yX0_dropElsewhere : MethodName := ⟨RX0, "dropElsewhere", "(III)V"⟩
abbrev cX0_learn : ByteArray := prog_2_method_25_code
def yX0_learn : MethodName := ⟨RX0, "learn", "(II)I"⟩
abbrev cX0_canFetch : ByteArray := prog_2_method_26_code
def yX0_canFetch : MethodName := ⟨RX0, "canFetch", "(II)Z"⟩
abbrev cX0_fetch : ByteArray := prog_2_method_27_code
def yX0_fetch : MethodName := ⟨RX0, "fetch", "(II)V"⟩
def RX1 : String := "LineKeeper$Event"
def TX1 : u_T := fun k => match k with
  | 0 => ("LineKeeper$Event", "kind", "I", true)
  | 1 => ("LineKeeper$Event", "core", "I", true)
  | 2 => ("LineKeeper$Event", "name", "I", true)
  | 3 => ("LineKeeper$Event", "line", "I", true)
  | 4 => ("LineKeeper$Event", "cost", "I", true)
  | _ => ("LineKeeper$Event", "cause", "C", true)
def tyX1 : Nat → FieldType := fun k => match k with
  | 0 => .int
  | 1 => .int
  | 2 => .int
  | 3 => .int
  | 4 => .int
  | _ => .char
theorem nmX1 : ∀ a, a < 6 → ∀ b, b < 6 → a ≠ b → (TX1 a).2.1 ≠ (TX1 b).2.1 := by decide +kernel
theorem tyX1_ok : ∀ k, k < 6 → parseFieldDescriptor (TX1 k).2.2.1 = some (tyX1 k) := by decide +kernel
abbrev cX1_init : ByteArray := prog_3_method_1_code
def yX1_init : MethodName := ⟨RX1, "<init>", "(II)V"⟩
abbrev cX1_init_ : ByteArray := prog_3_method_2_code
def yX1_init_ : MethodName := ⟨RX1, "<init>", "(IIIIIC)V"⟩
abbrev cX1_isAccess : ByteArray := prog_3_method_3_code
def yX1_isAccess : MethodName := ⟨RX1, "isAccess", "()Z"⟩
abbrev cX1_isWrite : ByteArray := prog_3_method_4_code
def yX1_isWrite : MethodName := ⟨RX1, "isWrite", "()Z"⟩
def RX2 : String := "LineKeeper$Layout"
def TX2 : u_T := fun k => match k with
  | 0 => ("LineKeeper$Layout", "sizes", "[I", true)
  | 1 => ("LineKeeper$Layout", "starts", "[I", true)
  | 2 => ("LineKeeper$Layout", "startsBefore", "[I", true)
  | _ => ("LineKeeper$Layout", "names", "I", false)
def tyX2 : Nat → FieldType := fun k => match k with
  | 0 => .array .int
  | 1 => .array .int
  | 2 => .array .int
  | _ => .int
theorem nmX2 : ∀ a, a < 4 → ∀ b, b < 4 → a ≠ b → (TX2 a).2.1 ≠ (TX2 b).2.1 := by decide +kernel
theorem tyX2_ok : ∀ k, k < 4 → parseFieldDescriptor (TX2 k).2.2.1 = some (tyX2 k) := by decide +kernel
abbrev cX2_init : ByteArray := prog_4_method_1_code
def yX2_init : MethodName := ⟨RX2, "<init>", "()V"⟩
abbrev cX2_isFull : ByteArray := prog_4_method_2_code
def yX2_isFull : MethodName := ⟨RX2, "isFull", "()Z"⟩
abbrev cX2_countNames : ByteArray := prog_4_method_3_code
def yX2_countNames : MethodName := ⟨RX2, "countNames", "()I"⟩
abbrev cX2_hasName : ByteArray := prog_4_method_4_code
def yX2_hasName : MethodName := ⟨RX2, "hasName", "(I)Z"⟩
abbrev cX2_isPlaced : ByteArray := prog_4_method_5_code
def yX2_isPlaced : MethodName := ⟨RX2, "isPlaced", "(I)Z"⟩
abbrev cX2_hasWord : ByteArray := prog_4_method_6_code
def yX2_hasWord : MethodName := ⟨RX2, "hasWord", "(II)Z"⟩
abbrev cX2_startOf : ByteArray := prog_4_method_7_code
def yX2_startOf : MethodName := ⟨RX2, "startOf", "(I)I"⟩
abbrev cX2_setStart : ByteArray := prog_4_method_8_code
def yX2_setStart : MethodName := ⟨RX2, "setStart", "(II)V"⟩
abbrev cX2_addUnplaced : ByteArray := prog_4_method_9_code
def yX2_addUnplaced : MethodName := ⟨RX2, "addUnplaced", "(I)I"⟩
abbrev cX2_isInMemory : ByteArray := prog_4_method_10_code
def yX2_isInMemory : MethodName := ⟨RX2, "isInMemory", "(II)Z"⟩
abbrev cX2_isFree : ByteArray := prog_4_method_11_code
def yX2_isFree : MethodName := ⟨RX2, "isFree", "(II)Z"⟩
abbrev cX2_findAt : ByteArray := prog_4_method_12_code
def yX2_findAt : MethodName := ⟨RX2, "findAt", "(I)I"⟩
abbrev cX2_isOnOneLine : ByteArray := prog_4_method_13_code
def yX2_isOnOneLine : MethodName := ⟨RX2, "isOnOneLine", "(II)Z"⟩
abbrev cX2_lastLineOf : ByteArray := prog_4_method_14_code
def yX2_lastLineOf : MethodName := ⟨RX2, "lastLineOf", "(I)I"⟩
abbrev cX2_placeAll : ByteArray := prog_4_method_15_code
def yX2_placeAll : MethodName := ⟨RX2, "placeAll", "(I)I"⟩
abbrev cX2_lowestFor : ByteArray := prog_4_method_16_code
def yX2_lowestFor : MethodName := ⟨RX2, "lowestFor", "(II)I"⟩
def RX3 : String := "LineKeeper"
def TX3 : u_T := fun k => match k with
  | 0 => ("LineKeeper", "layout", "LLineKeeper$Layout;", true)
  | 1 => ("LineKeeper", "caches", "LLineKeeper$Caches;", true)
  | 2 => ("LineKeeper", "replayed", "LLineKeeper$Caches;", true)
  | 3 => ("LineKeeper", "events", "Ljava/util/List;", true)
  | _ => ("LineKeeper", "accesses", "Ljava/util/List;", true)
def tyX3 : Nat → FieldType := fun k => match k with
  | 0 => .object "LineKeeper$Layout"
  | 1 => .object "LineKeeper$Caches"
  | 2 => .object "LineKeeper$Caches"
  | 3 => .object "java/util/List"
  | _ => .object "java/util/List"
theorem nmX3 : ∀ a, a < 5 → ∀ b, b < 5 → a ≠ b → (TX3 a).2.1 ≠ (TX3 b).2.1 := by decide +kernel
theorem tyX3_ok : ∀ k, k < 5 → parseFieldDescriptor (TX3 k).2.2.1 = some (tyX3 k) := by decide +kernel
abbrev cX3_init : ByteArray := prog_1_method_1_code
def yX3_init : MethodName := ⟨RX3, "<init>", "()V"⟩
abbrev cX3_addName : ByteArray := prog_1_method_2_code
def yX3_addName : MethodName := ⟨RX3, "addName", "(I)I"⟩
abbrev cX3_place : ByteArray := prog_1_method_3_code
def yX3_place : MethodName := ⟨RX3, "place", "(II)I"⟩
abbrev cX3_link : ByteArray := prog_1_method_4_code
def yX3_link : MethodName := ⟨RX3, "link", "(I)I"⟩
abbrev cX3_take : ByteArray := prog_1_method_5_code
def yX3_take : MethodName := ⟨RX3, "take", "(I)I"⟩
abbrev cX3_addressOf : ByteArray := prog_1_method_6_code
def yX3_addressOf : MethodName := ⟨RX3, "addressOf", "(II)I"⟩
abbrev cX3_nameAt : ByteArray := prog_1_method_7_code
def yX3_nameAt : MethodName := ⟨RX3, "nameAt", "(I)I"⟩
abbrev cX3_meet : ByteArray := prog_1_method_8_code
def yX3_meet : MethodName := ⟨RX3, "meet", "(II)Z"⟩
abbrev cX3_read : ByteArray := prog_1_method_9_code
def yX3_read : MethodName := ⟨RX3, "read", "(III)I"⟩
abbrev cX3_write : ByteArray := prog_1_method_10_code
def yX3_write : MethodName := ⟨RX3, "write", "(III)I"⟩
abbrev cX3_empty : ByteArray := prog_1_method_11_code
def yX3_empty : MethodName := ⟨RX3, "empty", "(I)I"⟩
abbrev cX3_setAhead : ByteArray := prog_1_method_12_code
def yX3_setAhead : MethodName := ⟨RX3, "setAhead", "(IZ)Z"⟩
abbrev cX3_accesses : ByteArray := prog_1_method_13_code
def yX3_accesses : MethodName := ⟨RX3, "accesses", "()I"⟩
abbrev cX3_costOf : ByteArray := prog_1_method_14_code
def yX3_costOf : MethodName := ⟨RX3, "costOf", "(I)I"⟩
abbrev cX3_costByReplay : ByteArray := prog_1_method_15_code
def yX3_costByReplay : MethodName := ⟨RX3, "costByReplay", "(I)I"⟩
abbrev cX3_causeOf : ByteArray := prog_1_method_16_code
def yX3_causeOf : MethodName := ⟨RX3, "causeOf", "(I)C"⟩
abbrev cX3_state : ByteArray := prog_1_method_17_code
def yX3_state : MethodName := ⟨RX3, "state", "(II)C"⟩
abbrev cX3_owner : ByteArray := prog_1_method_18_code
def yX3_owner : MethodName := ⟨RX3, "owner", "(I)I"⟩
abbrev cX3_holders : ByteArray := prog_1_method_19_code
def yX3_holders : MethodName := ⟨RX3, "holders", "(I)I"⟩
abbrev cX3_lines : ByteArray := prog_1_method_20_code
def yX3_lines : MethodName := ⟨RX3, "lines", "(I)I"⟩
abbrev cX3_oldest : ByteArray := prog_1_method_21_code
def yX3_oldest : MethodName := ⟨RX3, "oldest", "(II)I"⟩
abbrev cX3_count : ByteArray := prog_1_method_22_code
def yX3_count : MethodName := ⟨RX3, "count", "(IC)I"⟩
abbrev cX3_bill : ByteArray := prog_1_method_23_code
def yX3_bill : MethodName := ⟨RX3, "bill", "(I)J"⟩
abbrev cX3_worst : ByteArray := prog_1_method_24_code
def yX3_worst : MethodName := ⟨RX3, "worst", "()I"⟩
abbrev cX3_cycles : ByteArray := prog_1_method_25_code
def yX3_cycles : MethodName := ⟨RX3, "cycles", "(I)J"⟩
abbrev cX3_fetched : ByteArray := prog_1_method_26_code
def yX3_fetched : MethodName := ⟨RX3, "fetched", "(I)I"⟩
abbrev cX3_useful : ByteArray := prog_1_method_27_code
def yX3_useful : MethodName := ⟨RX3, "useful", "(I)I"⟩
abbrev cX3_wrong : ByteArray := prog_1_method_28_code
def yX3_wrong : MethodName := ⟨RX3, "wrong", "(I)I"⟩
abbrev cX3_missShare : ByteArray := prog_1_method_29_code
def yX3_missShare : MethodName := ⟨RX3, "missShare", "()F"⟩
abbrev cX3_meanCost : ByteArray := prog_1_method_30_code
def yX3_meanCost : MethodName := ⟨RX3, "meanCost", "()D"⟩
abbrev cX3_isCoherent : ByteArray := prog_1_method_31_code
def yX3_isCoherent : MethodName := ⟨RX3, "isCoherent", "()Z"⟩
abbrev cX3_checkCore : ByteArray := prog_1_method_32_code
def yX3_checkCore : MethodName := ⟨RX3, "checkCore", "(I)V"⟩
abbrev cX3_checkLine : ByteArray := prog_1_method_33_code
def yX3_checkLine : MethodName := ⟨RX3, "checkLine", "(I)V"⟩
abbrev cX3_checkName : ByteArray := prog_1_method_34_code
def yX3_checkName : MethodName := ⟨RX3, "checkName", "(I)V"⟩
abbrev cX3_checkPlacedName : ByteArray := prog_1_method_35_code
def yX3_checkPlacedName : MethodName := ⟨RX3, "checkPlacedName", "(I)V"⟩
abbrev cX3_checkWord : ByteArray := prog_1_method_36_code
def yX3_checkWord : MethodName := ⟨RX3, "checkWord", "(II)V"⟩
abbrev cX3_checkIndex : ByteArray := prog_1_method_37_code
def yX3_checkIndex : MethodName := ⟨RX3, "checkIndex", "(I)V"⟩
abbrev cX3_isCause : ByteArray := prog_1_method_38_code
def yX3_isCause : MethodName := ⟨RX3, "isCause", "(C)Z"⟩
abbrev cX3_isFull : ByteArray := prog_1_method_39_code
def yX3_isFull : MethodName := ⟨RX3, "isFull", "()Z"⟩
abbrev cX3_access : ByteArray := prog_1_method_40_code
def yX3_access : MethodName := ⟨RX3, "access", "(IIII)I"⟩
abbrev cX3_sumOfName : ByteArray := prog_1_method_41_code
def yX3_sumOfName : MethodName := ⟨RX3, "sumOfName", "(I)J"⟩
abbrev cX3_replayUpTo : ByteArray := prog_1_method_42_code
def yX3_replayUpTo : MethodName := ⟨RX3, "replayUpTo", "(I)I"⟩
abbrev cX3_isSameByReplay : ByteArray := prog_1_method_43_code
def yX3_isSameByReplay : MethodName := ⟨RX3, "isSameByReplay", "()Z"⟩
abbrev cX3_replay : ByteArray := prog_1_method_44_code
def yX3_replay : MethodName := ⟨RX3, "replay", "(LLineKeeper$Event;)I"⟩
def RX4 : String := "LineKeeperModel"
def TX4 : u_T := fun k => match k with
  | 0 => ("LineKeeperModel", "words", "[I", true)
  | 1 => ("LineKeeperModel", "places", "[I", true)
  | 2 => ("LineKeeperModel", "states", "[C", true)
  | 3 => ("LineKeeperModel", "usedAt", "[I", true)
  | 4 => ("LineKeeperModel", "leftBy", "[I", true)
  | 5 => ("LineKeeperModel", "isNew", "[Z", true)
  | 6 => ("LineKeeperModel", "areAhead", "[Z", true)
  | 7 => ("LineKeeperModel", "misses", "[I", true)
  | 8 => ("LineKeeperModel", "lastMiss", "[I", true)
  | 9 => ("LineKeeperModel", "lastStep", "[I", true)
  | 10 => ("LineKeeperModel", "fetchedBy", "[I", true)
  | 11 => ("LineKeeperModel", "usefulFor", "[I", true)
  | 12 => ("LineKeeperModel", "wrongFor", "[I", true)
  | 13 => ("LineKeeperModel", "costs", "[I", false)
  | 14 => ("LineKeeperModel", "namesOf", "[I", false)
  | 15 => ("LineKeeperModel", "coresOf", "[I", false)
  | 16 => ("LineKeeperModel", "causes", "[C", false)
  | 17 => ("LineKeeperModel", "thrown", "I", false)
  | 18 => ("LineKeeperModel", "names", "I", false)
  | 19 => ("LineKeeperModel", "accesses", "I", false)
  | _ => ("LineKeeperModel", "clock", "I", false)
def tyX4 : Nat → FieldType := fun k => match k with
  | 0 => .array .int
  | 1 => .array .int
  | 2 => .array .char
  | 3 => .array .int
  | 4 => .array .int
  | 5 => .array .boolean
  | 6 => .array .boolean
  | 7 => .array .int
  | 8 => .array .int
  | 9 => .array .int
  | 10 => .array .int
  | 11 => .array .int
  | 12 => .array .int
  | 13 => .array .int
  | 14 => .array .int
  | 15 => .array .int
  | 16 => .array .char
  | 17 => .int
  | 18 => .int
  | 19 => .int
  | _ => .int
theorem nmX4 : ∀ a, a < 21 → ∀ b, b < 21 → a ≠ b → (TX4 a).2.1 ≠ (TX4 b).2.1 := by decide +kernel
theorem tyX4_ok : ∀ k, k < 21 → parseFieldDescriptor (TX4 k).2.2.1 = some (tyX4 k) := by decide +kernel
abbrev cX4_init : ByteArray := prog_6_method_1_code
def yX4_init : MethodName := ⟨RX4, "<init>", "()V"⟩
abbrev cX4_thrown : ByteArray := prog_6_method_2_code
def yX4_thrown : MethodName := ⟨RX4, "thrown", "()I"⟩
abbrev cX4_in : ByteArray := prog_6_method_3_code
def yX4_in : MethodName := ⟨RX4, "in", "(III)Z"⟩
abbrev cX4_checked : ByteArray := prog_6_method_4_code
def yX4_checked : MethodName := ⟨RX4, "checked", "(Z)I"⟩
abbrev cX4_isName : ByteArray := prog_6_method_5_code
def yX4_isName : MethodName := ⟨RX4, "isName", "(I)Z"⟩
abbrev cX4_isCore : ByteArray := prog_6_method_6_code
def yX4_isCore : MethodName := ⟨RX4, "isCore", "(I)Z"⟩
abbrev cX4_at : ByteArray := prog_6_method_7_code
def yX4_at : MethodName := ⟨RX4, "at", "(II)I"⟩
abbrev cX4_addName : ByteArray := prog_6_method_8_code
def yX4_addName : MethodName := ⟨RX4, "addName", "(I)I"⟩
abbrev cX4_nameOn : ByteArray := prog_6_method_9_code
def yX4_nameOn : MethodName := ⟨RX4, "nameOn", "(I)I"⟩
abbrev cX4_fits : ByteArray := prog_6_method_10_code
def yX4_fits : MethodName := ⟨RX4, "fits", "(II)Z"⟩
abbrev cX4_place : ByteArray := prog_6_method_11_code
def yX4_place : MethodName := ⟨RX4, "place", "(II)I"⟩
abbrev cX4_lowest : ByteArray := prog_6_method_12_code
def yX4_lowest : MethodName := ⟨RX4, "lowest", "(II)I"⟩
abbrev cX4_link : ByteArray := prog_6_method_13_code
def yX4_link : MethodName := ⟨RX4, "link", "(I)I"⟩
abbrev cX4_take : ByteArray := prog_6_method_14_code
def yX4_take : MethodName := ⟨RX4, "take", "(I)I"⟩
abbrev cX4_addressOf : ByteArray := prog_6_method_15_code
def yX4_addressOf : MethodName := ⟨RX4, "addressOf", "(II)I"⟩
abbrev cX4_nameAt : ByteArray := prog_6_method_16_code
def yX4_nameAt : MethodName := ⟨RX4, "nameAt", "(I)I"⟩
abbrev cX4_meet : ByteArray := prog_6_method_17_code
def yX4_meet : MethodName := ⟨RX4, "meet", "(II)Z"⟩
abbrev cX4_has : ByteArray := prog_6_method_18_code
def yX4_has : MethodName := ⟨RX4, "has", "(II)Z"⟩
abbrev cX4_oldestIn : ByteArray := prog_6_method_19_code
def yX4_oldestIn : MethodName := ⟨RX4, "oldestIn", "(II)I"⟩
abbrev cX4_manyIn : ByteArray := prog_6_method_20_code
def yX4_manyIn : MethodName := ⟨RX4, "manyIn", "(II)I"⟩
abbrev cX4_leaves : ByteArray := prog_6_method_21_code
def yX4_leaves : MethodName := ⟨RX4, "leaves", "(III)V"⟩
abbrev cX4_comes : ByteArray := prog_6_method_22_code
def yX4_comes : MethodName := ⟨RX4, "comes", "(IIC)Z"⟩
abbrev cX4_othersWith : ByteArray := prog_6_method_23_code
def yX4_othersWith : MethodName := ⟨RX4, "othersWith", "(II)I"⟩
abbrev cX4_ownerOf : ByteArray := prog_6_method_24_code
def yX4_ownerOf : MethodName := ⟨RX4, "ownerOf", "(I)I"⟩
abbrev cX4_causeFor : ByteArray := prog_6_method_25_code
def yX4_causeFor : MethodName := ⟨RX4, "causeFor", "(III)C"⟩
abbrev cX4_longer : ByteArray := prog_6_method_26_code
def yX4_longer : MethodName := ⟨RX4, "longer", "([I)[I"⟩
abbrev cX4_notes : ByteArray := prog_6_method_27_code
def yX4_notes : MethodName := ⟨RX4, "notes", "(IIIC)I"⟩
abbrev cX4_uses : ByteArray := prog_6_method_28_code
def yX4_uses : MethodName := ⟨RX4, "uses", "(II)V"⟩
abbrev cX4_learns : ByteArray := prog_6_method_29_code
def yX4_learns : MethodName := ⟨RX4, "learns", "(II)V"⟩
abbrev cX4_wrongAccess : ByteArray := prog_6_method_30_code
def yX4_wrongAccess : MethodName := ⟨RX4, "wrongAccess", "(III)I"⟩
abbrev cX4_read : ByteArray := prog_6_method_31_code
def yX4_read : MethodName := ⟨RX4, "read", "(III)I"⟩
abbrev cX4_takesFromOthers : ByteArray := prog_6_method_32_code
def yX4_takesFromOthers : MethodName := ⟨RX4, "takesFromOthers", "(III)V"⟩
abbrev cX4_write : ByteArray := prog_6_method_33_code
def yX4_write : MethodName := ⟨RX4, "write", "(III)I"⟩
abbrev cX4_empty : ByteArray := prog_6_method_34_code
def yX4_empty : MethodName := ⟨RX4, "empty", "(I)I"⟩
abbrev cX4_setAhead : ByteArray := prog_6_method_35_code
def yX4_setAhead : MethodName := ⟨RX4, "setAhead", "(IZ)Z"⟩
abbrev cX4_accesses : ByteArray := prog_6_method_36_code
def yX4_accesses : MethodName := ⟨RX4, "accesses", "()I"⟩
abbrev cX4_isAccess : ByteArray := prog_6_method_37_code
def yX4_isAccess : MethodName := ⟨RX4, "isAccess", "(I)Z"⟩
abbrev cX4_costOf : ByteArray := prog_6_method_38_code
def yX4_costOf : MethodName := ⟨RX4, "costOf", "(I)I"⟩
abbrev cX4_costByReplay : ByteArray := prog_6_method_39_code
def yX4_costByReplay : MethodName := ⟨RX4, "costByReplay", "(I)I"⟩
abbrev cX4_causeOf : ByteArray := prog_6_method_40_code
def yX4_causeOf : MethodName := ⟨RX4, "causeOf", "(I)C"⟩
abbrev cX4_isLine : ByteArray := prog_6_method_41_code
def yX4_isLine : MethodName := ⟨RX4, "isLine", "(I)Z"⟩
abbrev cX4_state : ByteArray := prog_6_method_42_code
def yX4_state : MethodName := ⟨RX4, "state", "(II)C"⟩
abbrev cX4_owner : ByteArray := prog_6_method_43_code
def yX4_owner : MethodName := ⟨RX4, "owner", "(I)I"⟩
abbrev cX4_holders : ByteArray := prog_6_method_44_code
def yX4_holders : MethodName := ⟨RX4, "holders", "(I)I"⟩
abbrev cX4_lines : ByteArray := prog_6_method_45_code
def yX4_lines : MethodName := ⟨RX4, "lines", "(I)I"⟩
abbrev cX4_oldest : ByteArray := prog_6_method_46_code
def yX4_oldest : MethodName := ⟨RX4, "oldest", "(II)I"⟩
abbrev cX4_isCause : ByteArray := prog_6_method_47_code
def yX4_isCause : MethodName := ⟨RX4, "isCause", "(C)Z"⟩
abbrev cX4_count : ByteArray := prog_6_method_48_code
def yX4_count : MethodName := ⟨RX4, "count", "(IC)I"⟩
abbrev cX4_billFor : ByteArray := prog_6_method_49_code
def yX4_billFor : MethodName := ⟨RX4, "billFor", "(I)J"⟩
abbrev cX4_bill : ByteArray := prog_6_method_50_code
def yX4_bill : MethodName := ⟨RX4, "bill", "(I)J"⟩
abbrev cX4_worst : ByteArray := prog_6_method_51_code
def yX4_worst : MethodName := ⟨RX4, "worst", "()I"⟩
abbrev cX4_cycles : ByteArray := prog_6_method_52_code
def yX4_cycles : MethodName := ⟨RX4, "cycles", "(I)J"⟩
abbrev cX4_fetched : ByteArray := prog_6_method_53_code
def yX4_fetched : MethodName := ⟨RX4, "fetched", "(I)I"⟩
abbrev cX4_useful : ByteArray := prog_6_method_54_code
def yX4_useful : MethodName := ⟨RX4, "useful", "(I)I"⟩
abbrev cX4_wrong : ByteArray := prog_6_method_55_code
def yX4_wrong : MethodName := ⟨RX4, "wrong", "(I)I"⟩
abbrev cX4_missShare : ByteArray := prog_6_method_56_code
def yX4_missShare : MethodName := ⟨RX4, "missShare", "()F"⟩
abbrev cX4_meanCost : ByteArray := prog_6_method_57_code
def yX4_meanCost : MethodName := ⟨RX4, "meanCost", "()D"⟩
abbrev cX4_isCoherent : ByteArray := prog_6_method_58_code
def yX4_isCoherent : MethodName := ⟨RX4, "isCoherent", "()Z"⟩
def RJx145de : String := "java/io/Serializable"
def TJx145de : u_T := fun k => match k with
  | _ => ("", "", "", false)
def tyJx145de : Nat → FieldType := fun k => match k with
  | _ => .int
theorem nmJx145de : ∀ a, a < 0 → ∀ b, b < 0 → a ≠ b → (TJx145de a).2.1 ≠ (TJx145de b).2.1 := by decide +kernel
theorem tyJx145de_ok : ∀ k, k < 0 → parseFieldDescriptor (TJx145de k).2.2.1 = some (tyJx145de k) := by decide +kernel
def RJx00060 : String := "java/lang/ArrayIndexOutOfBoundsException"
def TJx00060 : u_T := fun k => match k with
  | 0 => ("java/lang/Throwable", "backtrace", "Ljava/lang/Object;", false)
  | 1 => ("java/lang/Throwable", "detailMessage", "Ljava/lang/String;", false)
  | 2 => ("java/lang/Throwable", "cause", "Ljava/lang/Throwable;", false)
  | 3 => ("java/lang/Throwable", "stackTrace", "[Ljava/lang/StackTraceElement;", false)
  | 4 => ("java/lang/Throwable", "depth", "I", false)
  | _ => ("java/lang/Throwable", "suppressedExceptions", "Ljava/util/List;", false)
def tyJx00060 : Nat → FieldType := fun k => match k with
  | 0 => .object "java/lang/Object"
  | 1 => .object "java/lang/String"
  | 2 => .object "java/lang/Throwable"
  | 3 => .array (.object "java/lang/StackTraceElement")
  | 4 => .int
  | _ => .object "java/util/List"
theorem nmJx00060 : ∀ a, a < 6 → ∀ b, b < 6 → a ≠ b → (TJx00060 a).2.1 ≠ (TJx00060 b).2.1 := by decide +kernel
theorem tyJx00060_ok : ∀ k, k < 6 → parseFieldDescriptor (TJx00060 k).2.2.1 = some (tyJx00060 k) := by decide +kernel
abbrev cJx00060_init_a7421 : ByteArray := prog_9_method_2_code
def yJx00060_init_a7421 : MethodName := ⟨RJx00060, "<init>", "(Ljava/lang/String;)V"⟩
def RJx8e188 : String := "java/lang/Cloneable"
def TJx8e188 : u_T := fun k => match k with
  | _ => ("", "", "", false)
def tyJx8e188 : Nat → FieldType := fun k => match k with
  | _ => .int
theorem nmJx8e188 : ∀ a, a < 0 → ∀ b, b < 0 → a ≠ b → (TJx8e188 a).2.1 ≠ (TJx8e188 b).2.1 := by decide +kernel
theorem tyJx8e188_ok : ∀ k, k < 0 → parseFieldDescriptor (TJx8e188 k).2.2.1 = some (tyJx8e188 k) := by decide +kernel
def RJxab1ab : String := "java/lang/Iterable"
def TJxab1ab : u_T := fun k => match k with
  | _ => ("", "", "", false)
def tyJxab1ab : Nat → FieldType := fun k => match k with
  | _ => .int
theorem nmJxab1ab : ∀ a, a < 0 → ∀ b, b < 0 → a ≠ b → (TJxab1ab a).2.1 ≠ (TJxab1ab b).2.1 := by decide +kernel
theorem tyJxab1ab_ok : ∀ k, k < 0 → parseFieldDescriptor (TJxab1ab k).2.2.1 = some (tyJxab1ab k) := by decide +kernel
def RJ9 : String := "java/lang/Math"
def TJ9 : u_T := fun k => match k with
  | _ => ("", "", "", false)
def tyJ9 : Nat → FieldType := fun k => match k with
  | _ => .int
theorem nmJ9 : ∀ a, a < 0 → ∀ b, b < 0 → a ≠ b → (TJ9 a).2.1 ≠ (TJ9 b).2.1 := by decide +kernel
theorem tyJ9_ok : ∀ k, k < 0 → parseFieldDescriptor (TJ9 k).2.2.1 = some (tyJ9 k) := by decide +kernel
abbrev cJ9_max_7cf53 : ByteArray := prog_16_method_65_code
def yJ9_max_7cf53 : MethodName := ⟨RJ9, "max", "(II)I"⟩
abbrev cJ9_min_7cf53 : ByteArray := prog_16_method_69_code
def yJ9_min_7cf53 : MethodName := ⟨RJ9, "min", "(II)I"⟩
def RJ0 : String := "java/lang/String"
def TJ0 : u_T := fun k => match k with
  | 0 => ("java/lang/String", "value", "[B", true)
  | _ => ("java/lang/String", "coder", "B", true)
def tyJ0 : Nat → FieldType := fun k => match k with
  | 0 => .array .byte
  | _ => .byte
theorem nmJ0 : ∀ a, a < 2 → ∀ b, b < 2 → a ≠ b → (TJ0 a).2.1 ≠ (TJ0 b).2.1 := by decide +kernel
theorem tyJ0_ok : ∀ k, k < 2 → parseFieldDescriptor (TJ0 k).2.2.1 = some (tyJ0 k) := by decide +kernel
def RJ10 : String := "java/lang/System"
def TJ10 : u_T := fun k => match k with
  | _ => ("", "", "", false)
def tyJ10 : Nat → FieldType := fun k => match k with
  | _ => .int
theorem nmJ10 : ∀ a, a < 0 → ∀ b, b < 0 → a ≠ b → (TJ10 a).2.1 ≠ (TJ10 b).2.1 := by decide +kernel
theorem tyJ10_ok : ∀ k, k < 0 → parseFieldDescriptor (TJ10 k).2.2.1 = some (tyJ10 k) := by decide +kernel
def RJxa1e45 : String := "java/util/AbstractCollection"
def TJxa1e45 : u_T := fun k => match k with
  | _ => ("", "", "", false)
def tyJxa1e45 : Nat → FieldType := fun k => match k with
  | _ => .int
theorem nmJxa1e45 : ∀ a, a < 0 → ∀ b, b < 0 → a ≠ b → (TJxa1e45 a).2.1 ≠ (TJxa1e45 b).2.1 := by decide +kernel
theorem tyJxa1e45_ok : ∀ k, k < 0 → parseFieldDescriptor (TJxa1e45 k).2.2.1 = some (tyJxa1e45 k) := by decide +kernel
abbrev cJxa1e45_init_da8c8 : ByteArray := prog_22_method_1_code
def yJxa1e45_init_da8c8 : MethodName := ⟨RJxa1e45, "<init>", "()V"⟩
def RJxc12de : String := "java/util/AbstractList"
def TJxc12de : u_T := fun k => match k with
  | _ => ("", "", "", false)
def tyJxc12de : Nat → FieldType := fun k => match k with
  | _ => .int
theorem nmJxc12de : ∀ a, a < 0 → ∀ b, b < 0 → a ≠ b → (TJxc12de a).2.1 ≠ (TJxc12de b).2.1 := by decide +kernel
theorem tyJxc12de_ok : ∀ k, k < 0 → parseFieldDescriptor (TJxc12de k).2.2.1 = some (tyJxc12de k) := by decide +kernel
abbrev cJxc12de_init_da8c8 : ByteArray := prog_23_method_1_code
def yJxc12de_init_da8c8 : MethodName := ⟨RJxc12de, "<init>", "()V"⟩
def RJx4a65c : String := "java/util/ArrayList"
def TJx4a65c : u_T := fun k => match k with
  | 0 => ("java/util/AbstractList", "modCount", "I", false)
  | 1 => ("java/util/ArrayList", "elementData", "[Ljava/lang/Object;", false)
  | _ => ("java/util/ArrayList", "size", "I", false)
def tyJx4a65c : Nat → FieldType := fun k => match k with
  | 0 => .int
  | 1 => .array (.object "java/lang/Object")
  | _ => .int
theorem nmJx4a65c : ∀ a, a < 3 → ∀ b, b < 3 → a ≠ b → (TJx4a65c a).2.1 ≠ (TJx4a65c b).2.1 := by decide +kernel
theorem tyJx4a65c_ok : ∀ k, k < 3 → parseFieldDescriptor (TJx4a65c k).2.2.1 = some (tyJx4a65c k) := by decide +kernel
abbrev cJx4a65c_init_da8c8 : ByteArray := prog_24_method_2_code
def yJx4a65c_init_da8c8 : MethodName := ⟨RJx4a65c, "<init>", "()V"⟩
abbrev cJx4a65c_grow_92f84 : ByteArray := prog_24_method_6_code
def yJx4a65c_grow_92f84 : MethodName := ⟨RJx4a65c, "grow", "(I)[Ljava/lang/Object;"⟩
abbrev cJx4a65c_grow_d5877 : ByteArray := prog_24_method_7_code
def yJx4a65c_grow_d5877 : MethodName := ⟨RJx4a65c, "grow", "()[Ljava/lang/Object;"⟩
abbrev cJx4a65c_size_8abf5 : ByteArray := prog_24_method_8_code
def yJx4a65c_size_8abf5 : MethodName := ⟨RJx4a65c, "size", "()I"⟩
abbrev cJx4a65c_isEmpty_aae02 : ByteArray := prog_24_method_9_code
def yJx4a65c_isEmpty_aae02 : MethodName := ⟨RJx4a65c, "isEmpty", "()Z"⟩
abbrev cJx4a65c_elementData_915e3 : ByteArray := prog_24_method_18_code
def yJx4a65c_elementData_915e3 : MethodName := ⟨RJx4a65c, "elementData", "(I)Ljava/lang/Object;"⟩
abbrev cJx4a65c_get_915e3 : ByteArray := prog_24_method_20_code
def yJx4a65c_get_915e3 : MethodName := ⟨RJx4a65c, "get", "(I)Ljava/lang/Object;"⟩
abbrev cJx4a65c_add_72be8 : ByteArray := prog_24_method_24_code
def yJx4a65c_add_72be8 : MethodName := ⟨RJx4a65c, "add", "(Ljava/lang/Object;[Ljava/lang/Object;I)V"⟩
abbrev cJx4a65c_add_9ea2d : ByteArray := prog_24_method_25_code
def yJx4a65c_add_9ea2d : MethodName := ⟨RJx4a65c, "add", "(Ljava/lang/Object;)Z"⟩
def RJ7 : String := "java/util/Arrays"
def TJ7 : u_T := fun k => match k with
  | _ => ("", "", "", false)
def tyJ7 : Nat → FieldType := fun k => match k with
  | _ => .int
theorem nmJ7 : ∀ a, a < 0 → ∀ b, b < 0 → a ≠ b → (TJ7 a).2.1 ≠ (TJ7 b).2.1 := by decide +kernel
theorem tyJ7_ok : ∀ k, k < 0 → parseFieldDescriptor (TJ7 k).2.2.1 = some (tyJ7 k) := by decide +kernel
abbrev cJ7_copyOf_1904c : ByteArray := prog_25_method_119_code
def yJ7_copyOf_1904c : MethodName := ⟨RJ7, "copyOf", "([Ljava/lang/Object;I)[Ljava/lang/Object;"⟩
abbrev cJ7_copyOf_6403c : ByteArray := prog_25_method_120_code
def yJ7_copyOf_6403c : MethodName := ⟨RJ7, "copyOf", "([Ljava/lang/Object;ILjava/lang/Class;)[Ljava/lang/Object;"⟩
def RJx5ef63 : String := "java/util/Collection"
def TJx5ef63 : u_T := fun k => match k with
  | _ => ("", "", "", false)
def tyJx5ef63 : Nat → FieldType := fun k => match k with
  | _ => .int
theorem nmJx5ef63 : ∀ a, a < 0 → ∀ b, b < 0 → a ≠ b → (TJx5ef63 a).2.1 ≠ (TJx5ef63 b).2.1 := by decide +kernel
theorem tyJx5ef63_ok : ∀ k, k < 0 → parseFieldDescriptor (TJx5ef63 k).2.2.1 = some (tyJx5ef63 k) := by decide +kernel
def RJxbd725 : String := "java/util/List"
def TJxbd725 : u_T := fun k => match k with
  | _ => ("", "", "", false)
def tyJxbd725 : Nat → FieldType := fun k => match k with
  | _ => .int
theorem nmJxbd725 : ∀ a, a < 0 → ∀ b, b < 0 → a ≠ b → (TJxbd725 a).2.1 ≠ (TJxbd725 b).2.1 := by decide +kernel
theorem tyJxbd725_ok : ∀ k, k < 0 → parseFieldDescriptor (TJxbd725 k).2.2.1 = some (tyJxbd725 k) := by decide +kernel
def RJ15 : String := "java/util/Objects"
def TJ15 : u_T := fun k => match k with
  | _ => ("", "", "", false)
def tyJ15 : Nat → FieldType := fun k => match k with
  | _ => .int
theorem nmJ15 : ∀ a, a < 0 → ∀ b, b < 0 → a ≠ b → (TJ15 a).2.1 ≠ (TJ15 b).2.1 := by decide +kernel
theorem tyJ15_ok : ∀ k, k < 0 → parseFieldDescriptor (TJ15 k).2.2.1 = some (tyJ15 k) := by decide +kernel
abbrev cJ15_checkIndex_7cf53 : ByteArray := prog_29_method_17_code
def yJ15_checkIndex_7cf53 : MethodName := ⟨RJ15, "checkIndex", "(II)I"⟩
def RJxf0a74 : String := "java/util/RandomAccess"
def TJxf0a74 : u_T := fun k => match k with
  | _ => ("", "", "", false)
def tyJxf0a74 : Nat → FieldType := fun k => match k with
  | _ => .int
theorem nmJxf0a74 : ∀ a, a < 0 → ∀ b, b < 0 → a ≠ b → (TJxf0a74 a).2.1 ≠ (TJxf0a74 b).2.1 := by decide +kernel
theorem tyJxf0a74_ok : ∀ k, k < 0 → parseFieldDescriptor (TJxf0a74 k).2.2.1 = some (tyJxf0a74 k) := by decide +kernel
def RJxa66e6 : String := "java/util/SequencedCollection"
def TJxa66e6 : u_T := fun k => match k with
  | _ => ("", "", "", false)
def tyJxa66e6 : Nat → FieldType := fun k => match k with
  | _ => .int
theorem nmJxa66e6 : ∀ a, a < 0 → ∀ b, b < 0 → a ≠ b → (TJxa66e6 a).2.1 ≠ (TJxa66e6 b).2.1 := by decide +kernel
theorem tyJxa66e6_ok : ∀ k, k < 0 → parseFieldDescriptor (TJxa66e6 k).2.2.1 = some (tyJxa66e6 k) := by decide +kernel
def RJ8 : String := "jdk/internal/util/ArraysSupport"
def TJ8 : u_T := fun k => match k with
  | _ => ("", "", "", false)
def tyJ8 : Nat → FieldType := fun k => match k with
  | _ => .int
theorem nmJ8 : ∀ a, a < 0 → ∀ b, b < 0 → a ≠ b → (TJ8 a).2.1 ≠ (TJ8 b).2.1 := by decide +kernel
theorem tyJ8_ok : ∀ k, k < 0 → parseFieldDescriptor (TJ8 k).2.2.1 = some (tyJ8 k) := by decide +kernel
abbrev cJ8_newLength_cabcc : ByteArray := prog_32_method_27_code
def yJ8_newLength_cabcc : MethodName := ⟨RJ8, "newLength", "(III)I"⟩
abbrev cJ8_hugeLength_7cf53 : ByteArray := prog_32_method_28_code
def yJ8_hugeLength_7cf53 : MethodName := ⟨RJ8, "hugeLength", "(II)I"⟩
def RJ3 : String := "jdk/internal/util/Preconditions"
def TJ3 : u_T := fun k => match k with
  | _ => ("", "", "", false)
def tyJ3 : Nat → FieldType := fun k => match k with
  | _ => .int
theorem nmJ3 : ∀ a, a < 0 → ∀ b, b < 0 → a ≠ b → (TJ3 a).2.1 ≠ (TJ3 b).2.1 := by decide +kernel
theorem tyJ3_ok : ∀ k, k < 0 → parseFieldDescriptor (TJ3 k).2.2.1 = some (tyJ3 k) := by decide +kernel
abbrev cJ3_checkIndex_8e157 : ByteArray := prog_33_method_11_code
def yJ3_checkIndex_8e157 : MethodName := ⟨RJ3, "checkIndex", "(IILjava/util/function/BiFunction;)I"⟩
def RL : String := "LineKeeperLaw"
abbrev cL_addName : ByteArray := method_3_code
def yL_addName : MethodName := ⟨RL, "addName", "(LLineKeeper;I[J)I"⟩
abbrev cL_place : ByteArray := method_4_code
def yL_place : MethodName := ⟨RL, "place", "(LLineKeeper;II[J)I"⟩
abbrev cL_link : ByteArray := method_5_code
def yL_link : MethodName := ⟨RL, "link", "(LLineKeeper;I[J)I"⟩
abbrev cL_take : ByteArray := method_6_code
def yL_take : MethodName := ⟨RL, "take", "(LLineKeeper;I[J)I"⟩
abbrev cL_addressOf : ByteArray := method_7_code
def yL_addressOf : MethodName := ⟨RL, "addressOf", "(LLineKeeper;II[J)I"⟩
abbrev cL_nameAt : ByteArray := method_8_code
def yL_nameAt : MethodName := ⟨RL, "nameAt", "(LLineKeeper;I[J)I"⟩
abbrev cL_meet : ByteArray := method_9_code
def yL_meet : MethodName := ⟨RL, "meet", "(LLineKeeper;II[J)I"⟩
abbrev cL_read : ByteArray := method_10_code
def yL_read : MethodName := ⟨RL, "read", "(LLineKeeper;III[J)I"⟩
abbrev cL_write : ByteArray := method_11_code
def yL_write : MethodName := ⟨RL, "write", "(LLineKeeper;III[J)I"⟩
abbrev cL_empty : ByteArray := method_12_code
def yL_empty : MethodName := ⟨RL, "empty", "(LLineKeeper;I[J)I"⟩
abbrev cL_setAhead : ByteArray := method_13_code
def yL_setAhead : MethodName := ⟨RL, "setAhead", "(LLineKeeper;IZ[J)I"⟩
abbrev cL_costOf : ByteArray := method_14_code
def yL_costOf : MethodName := ⟨RL, "costOf", "(LLineKeeper;I[J)I"⟩
abbrev cL_costByReplay : ByteArray := method_15_code
def yL_costByReplay : MethodName := ⟨RL, "costByReplay", "(LLineKeeper;I[J)I"⟩
abbrev cL_causeOf : ByteArray := method_16_code
def yL_causeOf : MethodName := ⟨RL, "causeOf", "(LLineKeeper;I[J)I"⟩
abbrev cL_state : ByteArray := method_17_code
def yL_state : MethodName := ⟨RL, "state", "(LLineKeeper;II[J)I"⟩
abbrev cL_owner : ByteArray := method_18_code
def yL_owner : MethodName := ⟨RL, "owner", "(LLineKeeper;I[J)I"⟩
abbrev cL_holders : ByteArray := method_19_code
def yL_holders : MethodName := ⟨RL, "holders", "(LLineKeeper;I[J)I"⟩
abbrev cL_lines : ByteArray := method_20_code
def yL_lines : MethodName := ⟨RL, "lines", "(LLineKeeper;I[J)I"⟩
abbrev cL_oldest : ByteArray := method_21_code
def yL_oldest : MethodName := ⟨RL, "oldest", "(LLineKeeper;II[J)I"⟩
abbrev cL_count : ByteArray := method_22_code
def yL_count : MethodName := ⟨RL, "count", "(LLineKeeper;IC[J)I"⟩
abbrev cL_bill : ByteArray := method_23_code
def yL_bill : MethodName := ⟨RL, "bill", "(LLineKeeper;I[J)I"⟩
abbrev cL_worst : ByteArray := method_24_code
def yL_worst : MethodName := ⟨RL, "worst", "(LLineKeeper;[J)I"⟩
abbrev cL_cycles : ByteArray := method_25_code
def yL_cycles : MethodName := ⟨RL, "cycles", "(LLineKeeper;I[J)I"⟩
abbrev cL_fetched : ByteArray := method_26_code
def yL_fetched : MethodName := ⟨RL, "fetched", "(LLineKeeper;I[J)I"⟩
abbrev cL_useful : ByteArray := method_27_code
def yL_useful : MethodName := ⟨RL, "useful", "(LLineKeeper;I[J)I"⟩
abbrev cL_wrong : ByteArray := method_28_code
def yL_wrong : MethodName := ⟨RL, "wrong", "(LLineKeeper;I[J)I"⟩
abbrev cL_missShare : ByteArray := method_29_code
def yL_missShare : MethodName := ⟨RL, "missShare", "(LLineKeeper;[D)I"⟩
abbrev cL_meanCost : ByteArray := method_30_code
def yL_meanCost : MethodName := ⟨RL, "meanCost", "(LLineKeeper;[D)I"⟩
abbrev cL_law : ByteArray := code
def yL_law : MethodName := ⟨RL, "law", "([I)Z"⟩
abbrev vwCl : List vw_C := [(RJ0, TJ0, 2), (RJx00060, TJx00060, 6), (RJx4a65c, TJx4a65c, 3), (RX0, TX0, 11), (RX1, TX1, 6), (RX2, TX2, 4), (RX3, TX3, 5), (RX4, TX4, 21)]
