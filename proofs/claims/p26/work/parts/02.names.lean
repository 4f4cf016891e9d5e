theorem goodIn_r {big : List Cond} (ws : List Cond) (ps : List Nat) (hp : ws = ps.filterMap (fun i => big[i]?)) (h : ws.all goodWord = true) : GoodIn big ws := by
  intro w hw
  have h1 := List.all_eq_true.mp h w hw
  rw [hp] at hw
  obtain ⟨i, -, hi⟩ := List.mem_filterMap.mp hw
  have hm : w ∈ big := by first | exact List.mem_of_getElem? hi | exact List.getElem?_mem hi
  exact ⟨hm, good_of_word h1⟩
theorem goodIn_app {big a b : List Cond} (ha : GoodIn big a) (hb : GoodIn big b) : GoodIn big (a ++ b) := fun w h => (List.mem_append.mp h).elim (ha w) (hb w)
theorem goodIn_ca {big a b : List Cond} {c : Cond} (ha : GoodIn big (c :: a)) (hb : GoodIn big b) : GoodIn big (c :: (a ++ b)) := fun w h => (List.mem_cons.mp h).elim (fun e => ha w (List.mem_cons.mpr (Or.inl e))) (fun h => (List.mem_append.mp h).elim (fun h => ha w (List.mem_cons.mpr (Or.inr h))) (hb w))
theorem goodIn_sub {big ws : List Cond} (hm : ∀ w ∈ ws, w ∈ big) (h : ws.all goodWord = true) : GoodIn big ws := fun w hw => ⟨hm w hw, good_of_word (List.all_eq_true.mp h w hw)⟩

def RX0 : String := "HalfFair$FairReader"
def TX0 : u_T := fun k => match k with
  | 0 => ("HalfFair$FairReader", "tape", "LHalfFair$Tape;", false)
  | 1 => ("HalfFair$FairReader", "told", "LHalfFair$Told;", false)
  | _ => ("HalfFair$FairReader", "kindsTold", "I", false)
def tyX0 : Nat → FieldType := fun k => match k with
  | 0 => .object "HalfFair$Tape"
  | 1 => .object "HalfFair$Told"
  | _ => .int
abbrev wsX00 : List Cond := u_ws RX0 TX0 3
theorem nmX0 : ∀ a, a < 3 → ∀ b, b < 3 → a ≠ b → (TX0 a).2.1 ≠ (TX0 b).2.1 := by decide +kernel
theorem tyX0_ok : ∀ k, k < 3 → parseFieldDescriptor (TX0 k).2.2.1 = some (tyX0 k) := by decide +kernel
abbrev cX0_init : ByteArray := prog_2_method_1_code
def yX0_init : MethodName := ⟨RX0, "<init>", "()V"⟩
abbrev cX0_readFair : ByteArray := prog_2_method_2_code
def yX0_readFair : MethodName := ⟨RX0, "readFair", "(LHalfFair$Tape;)LHalfFair$Told;"⟩
abbrev cX0_readClause : ByteArray := prog_2_method_3_code
def yX0_readClause : MethodName := ⟨RX0, "readClause", "(I)V"⟩
abbrev cX0_isTooMany : ByteArray := prog_2_method_4_code
def yX0_isTooMany : MethodName := ⟨RX0, "isTooMany", "(I)Z"⟩
abbrev cX0_numberTold : ByteArray := prog_2_method_5_code
def yX0_numberTold : MethodName := ⟨RX0, "numberTold", "(II)I"⟩
abbrev cX0_readHalf : ByteArray := prog_2_method_6_code
def yX0_readHalf : MethodName := ⟨RX0, "readHalf", "()V"⟩
abbrev cX0_readForged : ByteArray := prog_2_method_7_code
def yX0_readForged : MethodName := ⟨RX0, "readForged", "()V"⟩
abbrev cX0_readBuyer : ByteArray := prog_2_method_8_code
def yX0_readBuyer : MethodName := ⟨RX0, "readBuyer", "()V"⟩
abbrev cX0_readClub : ByteArray := prog_2_method_9_code
def yX0_readClub : MethodName := ⟨RX0, "readClub", "()V"⟩
def RX1 : String := "HalfFair$Image"
def TX1 : u_T := fun k => match k with
  | 0 => ("HalfFair$Image", "told", "LHalfFair$Told;", false)
  | 1 => ("HalfFair$Image", "scene", "LHalfFair$Scene;", true)
  | 2 => ("HalfFair$Image", "trials", "LHalfFair$Trials;", true)
  | _ => ("HalfFair$Image", "x", "I", false)
def tyX1 : Nat → FieldType := fun k => match k with
  | 0 => .object "HalfFair$Told"
  | 1 => .object "HalfFair$Scene"
  | 2 => .object "HalfFair$Trials"
  | _ => .int
abbrev wsX10 : List Cond := u_ws RX1 TX1 4
theorem nmX1 : ∀ a, a < 4 → ∀ b, b < 4 → a ≠ b → (TX1 a).2.1 ≠ (TX1 b).2.1 := by decide +kernel
theorem tyX1_ok : ∀ k, k < 4 → parseFieldDescriptor (TX1 k).2.2.1 = some (tyX1 k) := by decide +kernel
abbrev cX1_init : ByteArray := prog_3_method_1_code
def yX1_init : MethodName := ⟨RX1, "<init>", "()V"⟩
def RX2 : String := "HalfFair$Market"
def TX2 : u_T := fun k => match k with
  | 0 => ("HalfFair$Market", "stack", "[J", true)
  | 1 => ("HalfFair$Market", "told", "LHalfFair$Told;", false)
  | 2 => ("HalfFair$Market", "scene", "LHalfFair$Scene;", false)
  | 3 => ("HalfFair$Market", "rule", "LHalfFair$Rule;", false)
  | 4 => ("HalfFair$Market", "words", "[I", true)
  | 5 => ("HalfFair$Market", "buyer", "I", false)
  | 6 => ("HalfFair$Market", "saw", "I", false)
  | 7 => ("HalfFair$Market", "stalls", "I", false)
  | 8 => ("HalfFair$Market", "bought", "I", false)
  | _ => ("HalfFair$Market", "x", "I", false)
def tyX2 : Nat → FieldType := fun k => match k with
  | 0 => .array .long
  | 1 => .object "HalfFair$Told"
  | 2 => .object "HalfFair$Scene"
  | 3 => .object "HalfFair$Rule"
  | 4 => .array .int
  | 5 => .int
  | 6 => .int
  | 7 => .int
  | 8 => .int
  | _ => .int
abbrev wsX20 : List Cond := u_ws RX2 TX2 10
theorem nmX2 : ∀ a, a < 10 → ∀ b, b < 10 → a ≠ b → (TX2 a).2.1 ≠ (TX2 b).2.1 := by decide +kernel
theorem tyX2_ok : ∀ k, k < 10 → parseFieldDescriptor (TX2 k).2.2.1 = some (tyX2 k) := by decide +kernel
abbrev cX2_init : ByteArray := prog_4_method_1_code
def yX2_init : MethodName := ⟨RX2, "<init>", "()V"⟩
abbrev cX2_openFor : ByteArray := prog_4_method_2_code
def yX2_openFor : MethodName := ⟨RX2, "openFor", "(LHalfFair$Told;LHalfFair$Scene;LHalfFair$Rule;)V"⟩
abbrev cX2_passByRule : ByteArray := prog_4_method_3_code
def yX2_passByRule : MethodName := ⟨RX2, "passByRule", "(I)V"⟩
abbrev cX2_drawnWay : ByteArray := prog_4_method_4_code
def yX2_drawnWay : MethodName := ⟨RX2, "drawnWay", "(I)I"⟩
abbrev cX2_nextDraw : ByteArray := prog_4_method_5_code
def yX2_nextDraw : MethodName := ⟨RX2, "nextDraw", "()I"⟩
abbrev cX2_buyAll : ByteArray := prog_4_method_6_code
def yX2_buyAll : MethodName := ⟨RX2, "buyAll", "()V"⟩
abbrev cX2_wantedAt : ByteArray := prog_4_method_7_code
def yX2_wantedAt : MethodName := ⟨RX2, "wantedAt", "(I)I"⟩
abbrev cX2_wayByRule : ByteArray := prog_4_method_8_code
def yX2_wayByRule : MethodName := ⟨RX2, "wayByRule", "()I"⟩
abbrev cX2_sumByRule : ByteArray := prog_4_method_9_code
def yX2_sumByRule : MethodName := ⟨RX2, "sumByRule", "(I)J"⟩
abbrev cX2_valueOf : ByteArray := prog_4_method_10_code
def yX2_valueOf : MethodName := ⟨RX2, "valueOf", "(II)J"⟩
abbrev cX2_joined : ByteArray := prog_4_method_11_code
def yX2_joined : MethodName := ⟨RX2, "joined", "(IJJ)J"⟩
abbrev cX2_holds : ByteArray := prog_4_method_12_code
def yX2_holds : MethodName := ⟨RX2, "holds", "(IJJ)Z"⟩
abbrev cX2_tellWords : ByteArray := prog_4_method_13_code
def yX2_tellWords : MethodName := ⟨RX2, "tellWords", "(I)V"⟩
def RX3 : String := "HalfFair$Pairs"
def TX3 : u_T := fun k => match k with
  | 0 => ("HalfFair$Pairs", "told", "LHalfFair$Told;", false)
  | _ => ("HalfFair$Pairs", "known", "[I", true)
def tyX3 : Nat → FieldType := fun k => match k with
  | 0 => .object "HalfFair$Told"
  | _ => .array .int
abbrev wsX30 : List Cond := u_ws RX3 TX3 2
theorem nmX3 : ∀ a, a < 2 → ∀ b, b < 2 → a ≠ b → (TX3 a).2.1 ≠ (TX3 b).2.1 := by decide +kernel
theorem tyX3_ok : ∀ k, k < 2 → parseFieldDescriptor (TX3 k).2.2.1 = some (tyX3 k) := by decide +kernel
abbrev cX3_init : ByteArray := prog_5_method_1_code
def yX3_init : MethodName := ⟨RX3, "<init>", "()V"⟩
abbrev cX3_startOn : ByteArray := prog_5_method_2_code
def yX3_startOn : MethodName := ⟨RX3, "startOn", "(LHalfFair$Told;)V"⟩
abbrev cX3_mostOf : ByteArray := prog_5_method_3_code
def yX3_mostOf : MethodName := ⟨RX3, "mostOf", "(I)I"⟩
abbrev cX3_bestOf : ByteArray := prog_5_method_4_code
def yX3_bestOf : MethodName := ⟨RX3, "bestOf", "(II)I"⟩
abbrev cX3_pairWorth : ByteArray := prog_5_method_5_code
def yX3_pairWorth : MethodName := ⟨RX3, "pairWorth", "(II)I"⟩
abbrev cX3_partnerOf : ByteArray := prog_5_method_6_code
def yX3_partnerOf : MethodName := ⟨RX3, "partnerOf", "(II)I"⟩
abbrev cX3_firstPartner : ByteArray := prog_5_method_7_code
def yX3_firstPartner : MethodName := ⟨RX3, "firstPartner", "(II)I"⟩
def RX4 : String := "HalfFair$Rule"
def TX4 : u_T := fun k => match k with
  | 0 => ("HalfFair$Rule", "clauses", "I", false)
  | 1 => ("HalfFair$Rule", "kind", "[I", true)
  | 2 => ("HalfFair$Rule", "start", "[I", true)
  | 3 => ("HalfFair$Rule", "middle", "[I", true)
  | 4 => ("HalfFair$Rule", "end", "[I", true)
  | _ => ("HalfFair$Rule", "code", "[I", false)
def tyX4 : Nat → FieldType := fun k => match k with
  | 0 => .int
  | 1 => .array .int
  | 2 => .array .int
  | 3 => .array .int
  | 4 => .array .int
  | _ => .array .int
abbrev wsX40 : List Cond := u_ws RX4 TX4 6
theorem nmX4 : ∀ a, a < 6 → ∀ b, b < 6 → a ≠ b → (TX4 a).2.1 ≠ (TX4 b).2.1 := by decide +kernel
theorem tyX4_ok : ∀ k, k < 6 → parseFieldDescriptor (TX4 k).2.2.1 = some (tyX4 k) := by decide +kernel
abbrev cX4_init : ByteArray := prog_6_method_1_code
def yX4_init : MethodName := ⟨RX4, "<init>", "()V"⟩
def RX5 : String := "HalfFair$RuleReader"
def TX5 : u_T := fun k => match k with
  | 0 => ("HalfFair$RuleReader", "tape", "LHalfFair$Tape;", false)
  | 1 => ("HalfFair$RuleReader", "code", "[I", true)
  | 2 => ("HalfFair$RuleReader", "length", "I", false)
  | _ => ("HalfFair$RuleReader", "parts", "I", false)
def tyX5 : Nat → FieldType := fun k => match k with
  | 0 => .object "HalfFair$Tape"
  | 1 => .array .int
  | 2 => .int
  | _ => .int
abbrev wsX50 : List Cond := u_ws RX5 TX5 4
theorem nmX5 : ∀ a, a < 4 → ∀ b, b < 4 → a ≠ b → (TX5 a).2.1 ≠ (TX5 b).2.1 := by decide +kernel
theorem tyX5_ok : ∀ k, k < 4 → parseFieldDescriptor (TX5 k).2.2.1 = some (tyX5 k) := by decide +kernel
abbrev cX5_init : ByteArray := prog_7_method_1_code
def yX5_init : MethodName := ⟨RX5, "<init>", "()V"⟩
abbrev cX5_emit : ByteArray := prog_7_method_4_code
def yX5_emit : MethodName := ⟨RX5, "emit", "(I)V"⟩
abbrev cX5_countPart : ByteArray := prog_7_method_5_code
def yX5_countPart : MethodName := ⟨RX5, "countPart", "(I)V"⟩
abbrev cX5_takeJoint : ByteArray := prog_7_method_7_code
def yX5_takeJoint : MethodName := ⟨RX5, "takeJoint", "()I"⟩
abbrev cX5_closeBracket : ByteArray := prog_7_method_9_code
def yX5_closeBracket : MethodName := ⟨RX5, "closeBracket", "()V"⟩
abbrev cX5_takeComparison : ByteArray := prog_7_method_10_code
def yX5_takeComparison : MethodName := ⟨RX5, "takeComparison", "()I"⟩
abbrev cX5_takeSign : ByteArray := prog_7_method_11_code
def yX5_takeSign : MethodName := ⟨RX5, "takeSign", "()I"⟩
abbrev cX5_readSum : ByteArray := prog_7_method_12_code
def yX5_readSum : MethodName := ⟨RX5, "readSum", "()V"⟩
abbrev cX5_takeOperation : ByteArray := prog_7_method_13_code
def yX5_takeOperation : MethodName := ⟨RX5, "takeOperation", "()I"⟩
abbrev cX5_readValue : ByteArray := prog_7_method_14_code
def yX5_readValue : MethodName := ⟨RX5, "readValue", "()V"⟩
def RX6 : String := "HalfFair$Scene"
def TX6 : u_T := fun k => match k with
  | 0 => ("HalfFair$Scene", "hour", "I", false)
  | 1 => ("HalfFair$Scene", "purse", "[I", true)
  | 2 => ("HalfFair$Scene", "spot", "[I", true)
  | 3 => ("HalfFair$Scene", "seen", "[I", true)
  | 4 => ("HalfFair$Scene", "has", "[I", true)
  | _ => ("HalfFair$Scene", "at", "[I", true)
def tyX6 : Nat → FieldType := fun k => match k with
  | 0 => .int
  | 1 => .array .int
  | 2 => .array .int
  | 3 => .array .int
  | 4 => .array .int
  | _ => .array .int
abbrev wsX60 : List Cond := u_ws RX6 TX6 6
theorem nmX6 : ∀ a, a < 6 → ∀ b, b < 6 → a ≠ b → (TX6 a).2.1 ≠ (TX6 b).2.1 := by decide +kernel
theorem tyX6_ok : ∀ k, k < 6 → parseFieldDescriptor (TX6 k).2.2.1 = some (tyX6 k) := by decide +kernel
abbrev cX6_init : ByteArray := prog_8_method_1_code
def yX6_init : MethodName := ⟨RX6, "<init>", "()V"⟩
abbrev cX6_copyFrom : ByteArray := prog_8_method_2_code
def yX6_copyFrom : MethodName := ⟨RX6, "copyFrom", "(LHalfFair$Scene;)V"⟩
abbrev cX6_open : ByteArray := prog_8_method_3_code
def yX6_open : MethodName := ⟨RX6, "open", "(LHalfFair$Told;)V"⟩
abbrev cX6_passHour : ByteArray := prog_8_method_4_code
def yX6_passHour : MethodName := ⟨RX6, "passHour", "(LHalfFair$Told;)V"⟩
abbrev cX6_look : ByteArray := prog_8_method_5_code
def yX6_look : MethodName := ⟨RX6, "look", "(LHalfFair$Told;)V"⟩
abbrev cX6_sell : ByteArray := prog_8_method_6_code
def yX6_sell : MethodName := ⟨RX6, "sell", "(IIII)V"⟩
abbrev cX6_moveTo : ByteArray := prog_8_method_7_code
def yX6_moveTo : MethodName := ⟨RX6, "moveTo", "(II)V"⟩
abbrev cX6_atStalls : ByteArray := prog_8_method_8_code
def yX6_atStalls : MethodName := ⟨RX6, "atStalls", "()I"⟩
abbrev cX6_whereIs : ByteArray := prog_8_method_9_code
def yX6_whereIs : MethodName := ⟨RX6, "whereIs", "(I)I"⟩
abbrev cX6_sawBy : ByteArray := prog_8_method_10_code
def yX6_sawBy : MethodName := ⟨RX6, "sawBy", "(I)I"⟩
abbrev cX6_withinHearing : ByteArray := prog_8_method_11_code
def yX6_withinHearing : MethodName := ⟨RX6, "withinHearing", "(LHalfFair$Told;I)I"⟩
def RX7 : String := "HalfFair$Tape"
def TX7 : u_T := fun k => match k with
  | 0 => ("HalfFair$Tape", "bytes", "[I", true)
  | 1 => ("HalfFair$Tape", "length", "I", false)
  | 2 => ("HalfFair$Tape", "place", "I", false)
  | _ => ("HalfFair$Tape", "fault", "I", false)
def tyX7 : Nat → FieldType := fun k => match k with
  | 0 => .array .int
  | 1 => .int
  | 2 => .int
  | _ => .int
abbrev wsX70 : List Cond := u_ws RX7 TX7 4
theorem nmX7 : ∀ a, a < 4 → ∀ b, b < 4 → a ≠ b → (TX7 a).2.1 ≠ (TX7 b).2.1 := by decide +kernel
theorem tyX7_ok : ∀ k, k < 4 → parseFieldDescriptor (TX7 k).2.2.1 = some (tyX7 k) := by decide +kernel
abbrev cX7_init : ByteArray := prog_9_method_1_code
def yX7_init : MethodName := ⟨RX7, "<init>", "()V"⟩
abbrev cX7_append : ByteArray := prog_9_method_2_code
def yX7_append : MethodName := ⟨RX7, "append", "(I)V"⟩
abbrev cX7_rewind : ByteArray := prog_9_method_3_code
def yX7_rewind : MethodName := ⟨RX7, "rewind", "()V"⟩
abbrev cX7_isSound : ByteArray := prog_9_method_4_code
def yX7_isSound : MethodName := ⟨RX7, "isSound", "()Z"⟩
abbrev cX7_fail : ByteArray := prog_9_method_5_code
def yX7_fail : MethodName := ⟨RX7, "fail", "(II)V"⟩
abbrev cX7_skipBlanks : ByteArray := prog_9_method_6_code
def yX7_skipBlanks : MethodName := ⟨RX7, "skipBlanks", "()V"⟩
abbrev cX7_peek : ByteArray := prog_9_method_7_code
def yX7_peek : MethodName := ⟨RX7, "peek", "()I"⟩
abbrev cX7_take : ByteArray := prog_9_method_8_code
def yX7_take : MethodName := ⟨RX7, "take", "(C)Z"⟩
abbrev cX7_takeNextClause : ByteArray := prog_9_method_9_code
def yX7_takeNextClause : MethodName := ⟨RX7, "takeNextClause", "()Z"⟩
abbrev cX7_takeWord : ByteArray := prog_9_method_10_code
def yX7_takeWord : MethodName := ⟨RX7, "takeWord", "(Ljava/lang/String;)I"⟩
abbrev cX7_takeNumber : ByteArray := prog_9_method_11_code
def yX7_takeNumber : MethodName := ⟨RX7, "takeNumber", "(II)I"⟩
def RX8 : String := "HalfFair$Told"
def TX8 : u_T := fun k => match k with
  | 0 => ("HalfFair$Told", "stalls", "I", false)
  | 1 => ("HalfFair$Told", "shift", "I", false)
  | 2 => ("HalfFair$Told", "halves", "I", false)
  | 3 => ("HalfFair$Told", "buyers", "I", false)
  | 4 => ("HalfFair$Told", "near", "I", false)
  | 5 => ("HalfFair$Told", "dusk", "I", false)
  | 6 => ("HalfFair$Told", "duskPrice", "I", false)
  | 7 => ("HalfFair$Told", "hear", "I", false)
  | 8 => ("HalfFair$Told", "forged", "I", false)
  | 9 => ("HalfFair$Told", "stall", "[I", true)
  | 10 => ("HalfFair$Told", "shape", "[I", true)
  | 11 => ("HalfFair$Told", "side", "[I", true)
  | 12 => ("HalfFair$Told", "price", "[I", true)
  | 13 => ("HalfFair$Told", "purse", "[I", true)
  | 14 => ("HalfFair$Told", "spot", "[I", true)
  | 15 => ("HalfFair$Told", "club", "[I", true)
  | 16 => ("HalfFair$Told", "fitting", "[I", true)
  | _ => ("HalfFair$Told", "nearly", "[I", true)
def tyX8 : Nat → FieldType := fun k => match k with
  | 0 => .int
  | 1 => .int
  | 2 => .int
  | 3 => .int
  | 4 => .int
  | 5 => .int
  | 6 => .int
  | 7 => .int
  | 8 => .int
  | 9 => .array .int
  | 10 => .array .int
  | 11 => .array .int
  | 12 => .array .int
  | 13 => .array .int
  | 14 => .array .int
  | 15 => .array .int
  | 16 => .array .int
  | _ => .array .int
abbrev wsX80 : List Cond := u_ws RX8 TX8 18
theorem nmX8 : ∀ a, a < 18 → ∀ b, b < 18 → a ≠ b → (TX8 a).2.1 ≠ (TX8 b).2.1 := by decide +kernel
theorem tyX8_ok : ∀ k, k < 18 → parseFieldDescriptor (TX8 k).2.2.1 = some (tyX8 k) := by decide +kernel
abbrev cX8_init : ByteArray := prog_10_method_1_code
def yX8_init : MethodName := ⟨RX8, "<init>", "()V"⟩
abbrev cX8_isHalf : ByteArray := prog_10_method_2_code
def yX8_isHalf : MethodName := ⟨RX8, "isHalf", "(I)Z"⟩
abbrev cX8_isBuyer : ByteArray := prog_10_method_3_code
def yX8_isBuyer : MethodName := ⟨RX8, "isBuyer", "(I)Z"⟩
abbrev cX8_spotOf : ByteArray := prog_10_method_4_code
def yX8_spotOf : MethodName := ⟨RX8, "spotOf", "(II)I"⟩
abbrev cX8_stallAt : ByteArray := prog_10_method_5_code
def yX8_stallAt : MethodName := ⟨RX8, "stallAt", "(II)I"⟩
abbrev cX8_beside : ByteArray := prog_10_method_6_code
def yX8_beside : MethodName := ⟨RX8, "beside", "(II)I"⟩
abbrev cX8_far : ByteArray := prog_10_method_7_code
def yX8_far : MethodName := ⟨RX8, "far", "(II)I"⟩
abbrev cX8_left : ByteArray := prog_10_method_8_code
def yX8_left : MethodName := ⟨RX8, "left", "(I)I"⟩
abbrev cX8_priceAt : ByteArray := prog_10_method_9_code
def yX8_priceAt : MethodName := ⟨RX8, "priceAt", "(II)I"⟩
abbrev cX8_fitOf : ByteArray := prog_10_method_10_code
def yX8_fitOf : MethodName := ⟨RX8, "fitOf", "(II)I"⟩
abbrev cX8_fitsByShape : ByteArray := prog_10_method_11_code
def yX8_fitsByShape : MethodName := ⟨RX8, "fitsByShape", "(II)Z"⟩
abbrev cX8_shapedLike : ByteArray := prog_10_method_12_code
def yX8_shapedLike : MethodName := ⟨RX8, "shapedLike", "(I)I"⟩
abbrev cX8_joinClubs : ByteArray := prog_10_method_13_code
def yX8_joinClubs : MethodName := ⟨RX8, "joinClubs", "(II)V"⟩
abbrev cX8_matchHalves : ByteArray := prog_10_method_14_code
def yX8_matchHalves : MethodName := ⟨RX8, "matchHalves", "()V"⟩
def RX9 : String := "HalfFair$Trials"
def TX9 : u_T := fun k => match k with
  | 0 => ("HalfFair$Trials", "size", "I", false)
  | 1 => ("HalfFair$Trials", "fewest", "I", false)
  | 2 => ("HalfFair$Trials", "honest", "I", false)
  | 3 => ("HalfFair$Trials", "pair", "[I", true)
  | 4 => ("HalfFair$Trials", "one", "[I", true)
  | 5 => ("HalfFair$Trials", "other", "[I", true)
  | _ => ("HalfFair$Trials", "fitted", "[Z", true)
def tyX9 : Nat → FieldType := fun k => match k with
  | 0 => .int
  | 1 => .int
  | 2 => .int
  | 3 => .array .int
  | 4 => .array .int
  | 5 => .array .int
  | _ => .array .boolean
abbrev wsX90 : List Cond := u_ws RX9 TX9 7
theorem nmX9 : ∀ a, a < 7 → ∀ b, b < 7 → a ≠ b → (TX9 a).2.1 ≠ (TX9 b).2.1 := by decide +kernel
theorem tyX9_ok : ∀ k, k < 7 → parseFieldDescriptor (TX9 k).2.2.1 = some (tyX9 k) := by decide +kernel
abbrev cX9_init : ByteArray := prog_11_method_1_code
def yX9_init : MethodName := ⟨RX9, "<init>", "()V"⟩
abbrev cX9_isFull : ByteArray := prog_11_method_2_code
def yX9_isFull : MethodName := ⟨RX9, "isFull", "()Z"⟩
abbrev cX9_add : ByteArray := prog_11_method_3_code
def yX9_add : MethodName := ⟨RX9, "add", "(IIZ)V"⟩
abbrev cX9_copyFrom : ByteArray := prog_11_method_4_code
def yX9_copyFrom : MethodName := ⟨RX9, "copyFrom", "(LHalfFair$Trials;)V"⟩
abbrev cX9_seekForgers : ByteArray := prog_11_method_5_code
def yX9_seekForgers : MethodName := ⟨RX9, "seekForgers", "(LHalfFair$Told;)V"⟩
abbrev cX9_gatherPairs : ByteArray := prog_11_method_6_code
def yX9_gatherPairs : MethodName := ⟨RX9, "gatherPairs", "(LHalfFair$Told;)I"⟩
abbrev cX9_clearedByTrials : ByteArray := prog_11_method_7_code
def yX9_clearedByTrials : MethodName := ⟨RX9, "clearedByTrials", "()I"⟩
abbrev cX9_hitsAll : ByteArray := prog_11_method_8_code
def yX9_hitsAll : MethodName := ⟨RX9, "hitsAll", "(II)Z"⟩
def RX10 : String := "HalfFair$Walker"
def TX10 : u_T := fun k => match k with
  | 0 => ("HalfFair$Walker", "here", "[I", false)
  | 1 => ("HalfFair$Walker", "next", "[I", false)
  | 2 => ("HalfFair$Walker", "ways", "[I", true)
  | 3 => ("HalfFair$Walker", "stallOf", "[I", true)
  | 4 => ("HalfFair$Walker", "told", "LHalfFair$Told;", false)
  | 5 => ("HalfFair$Walker", "pairs", "LHalfFair$Pairs;", false)
  | 6 => ("HalfFair$Walker", "has", "I", false)
  | 7 => ("HalfFair$Walker", "purse", "I", false)
  | 8 => ("HalfFair$Walker", "bestWays", "I", false)
  | 9 => ("HalfFair$Walker", "most", "I", false)
  | _ => ("HalfFair$Walker", "bought", "I", false)
def tyX10 : Nat → FieldType := fun k => match k with
  | 0 => .array .int
  | 1 => .array .int
  | 2 => .array .int
  | 3 => .array .int
  | 4 => .object "HalfFair$Told"
  | 5 => .object "HalfFair$Pairs"
  | 6 => .int
  | 7 => .int
  | 8 => .int
  | 9 => .int
  | _ => .int
abbrev wsX100 : List Cond := u_ws RX10 TX10 11
theorem nmX10 : ∀ a, a < 11 → ∀ b, b < 11 → a ≠ b → (TX10 a).2.1 ≠ (TX10 b).2.1 := by decide +kernel
theorem tyX10_ok : ∀ k, k < 11 → parseFieldDescriptor (TX10 k).2.2.1 = some (tyX10 k) := by decide +kernel
abbrev cX10_init : ByteArray := prog_12_method_1_code
def yX10_init : MethodName := ⟨RX10, "<init>", "()V"⟩
abbrev cX10_seek : ByteArray := prog_12_method_2_code
def yX10_seek : MethodName := ⟨RX10, "seek", "(LHalfFair$Told;LHalfFair$Scene;LHalfFair$Pairs;I)V"⟩
abbrev cX10_firstGoing : ByteArray := prog_12_method_3_code
def yX10_firstGoing : MethodName := ⟨RX10, "firstGoing", "()I"⟩
abbrev cX10_spread : ByteArray := prog_12_method_4_code
def yX10_spread : MethodName := ⟨RX10, "spread", "(II)V"⟩
abbrev cX10_goOn : ByteArray := prog_12_method_5_code
def yX10_goOn : MethodName := ⟨RX10, "goOn", "(Z)V"⟩
abbrev cX10_choose : ByteArray := prog_12_method_6_code
def yX10_choose : MethodName := ⟨RX10, "choose", "(IIII)V"⟩
abbrev cX10_weigh : ByteArray := prog_12_method_7_code
def yX10_weigh : MethodName := ⟨RX10, "weigh", "(III)V"⟩
def RX11 : String := "HalfFair"
def TX11 : u_T := fun k => match k with
  | 0 => ("HalfFair", "tape", "LHalfFair$Tape;", true)
  | 1 => ("HalfFair", "fairReader", "LHalfFair$FairReader;", true)
  | 2 => ("HalfFair", "ruleReader", "LHalfFair$RuleReader;", true)
  | 3 => ("HalfFair", "rules", "[LHalfFair$Rule;", true)
  | 4 => ("HalfFair", "ruleCount", "I", false)
  | 5 => ("HalfFair", "told", "LHalfFair$Told;", false)
  | 6 => ("HalfFair", "scene", "LHalfFair$Scene;", true)
  | 7 => ("HalfFair", "spare", "LHalfFair$Scene;", true)
  | 8 => ("HalfFair", "past", "[LHalfFair$Scene;", true)
  | 9 => ("HalfFair", "pastFirst", "I", false)
  | 10 => ("HalfFair", "pastCount", "I", false)
  | 11 => ("HalfFair", "trials", "LHalfFair$Trials;", true)
  | 12 => ("HalfFair", "images", "[LHalfFair$Image;", true)
  | 13 => ("HalfFair", "pairs", "LHalfFair$Pairs;", true)
  | 14 => ("HalfFair", "walker", "LHalfFair$Walker;", true)
  | 15 => ("HalfFair", "market", "LHalfFair$Market;", true)
  | _ => ("HalfFair", "x", "I", false)
def tyX11 : Nat → FieldType := fun k => match k with
  | 0 => .object "HalfFair$Tape"
  | 1 => .object "HalfFair$FairReader"
  | 2 => .object "HalfFair$RuleReader"
  | 3 => .array (.object "HalfFair$Rule")
  | 4 => .int
  | 5 => .object "HalfFair$Told"
  | 6 => .object "HalfFair$Scene"
  | 7 => .object "HalfFair$Scene"
  | 8 => .array (.object "HalfFair$Scene")
  | 9 => .int
  | 10 => .int
  | 11 => .object "HalfFair$Trials"
  | 12 => .array (.object "HalfFair$Image")
  | 13 => .object "HalfFair$Pairs"
  | 14 => .object "HalfFair$Walker"
  | 15 => .object "HalfFair$Market"
  | _ => .int
abbrev wsX110 : List Cond := u_ws RX11 TX11 17
theorem nmX11 : ∀ a, a < 17 → ∀ b, b < 17 → a ≠ b → (TX11 a).2.1 ≠ (TX11 b).2.1 := by decide +kernel
theorem tyX11_ok : ∀ k, k < 17 → parseFieldDescriptor (TX11 k).2.2.1 = some (tyX11 k) := by decide +kernel
def RX12 : String := "HalfFairModel"
def TX12 : u_T := fun k => match k with
  | 0 => ("HalfFairModel", "tape", "[B", true)
  | 1 => ("HalfFairModel", "taped", "I", false)
  | 2 => ("HalfFairModel", "rules", "I", false)
  | 3 => ("HalfFairModel", "sign", "[I", true)
  | 4 => ("HalfFairModel", "length", "[I", true)
  | 5 => ("HalfFairModel", "clause", "[I", true)
  | 6 => ("HalfFairModel", "clauses", "[I", true)
  | 7 => ("HalfFairModel", "read", "[I", true)
  | 8 => ("HalfFairModel", "next", "I", false)
  | 9 => ("HalfFairModel", "wrong", "I", false)
  | 10 => ("HalfFairModel", "number", "I", false)
  | 11 => ("HalfFairModel", "text", "I", false)
  | 12 => ("HalfFairModel", "made", "I", false)
  | 13 => ("HalfFairModel", "deep", "I", false)
  | 14 => ("HalfFairModel", "lines", "I", false)
  | 15 => ("HalfFairModel", "open", "[I", true)
  | 16 => ("HalfFairModel", "opened", "I", false)
  | 17 => ("HalfFairModel", "stack", "[J", true)
  | 18 => ("HalfFairModel", "top", "I", false)
  | 19 => ("HalfFairModel", "word", "[J", true)
  | 20 => ("HalfFairModel", "said", "[I", true)
  | 21 => ("HalfFairModel", "x", "I", false)
  | 22 => ("HalfFairModel", "worth", "[I", true)
  | 23 => ("HalfFairModel", "mate", "[I", true)
  | 24 => ("HalfFairModel", "wasSaid", "[I", true)
  | 25 => ("HalfFairModel", "undone", "I", false)
  | 26 => ("HalfFairModel", "boughtNow", "I", false)
  | 27 => ("HalfFairModel", "wayBy", "[I", true)
  | 28 => ("HalfFairModel", "wayThen", "[I", true)
  | 29 => ("HalfFairModel", "walkMost", "I", false)
  | 30 => ("HalfFairModel", "walkGoing", "I", false)
  | 31 => ("HalfFairModel", "walkSet", "I", false)
  | 32 => ("HalfFairModel", "kept", "[I", true)
  | 33 => ("HalfFairModel", "drawX", "J", false)
  | 34 => ("HalfFairModel", "images", "[I", true)
  | 35 => ("HalfFairModel", "imageX", "[I", true)
  | _ => ("HalfFairModel", "isMade", "[Z", true)
def tyX12 : Nat → FieldType := fun k => match k with
  | 0 => .array .byte
  | 1 => .int
  | 2 => .int
  | 3 => .array .int
  | 4 => .array .int
  | 5 => .array .int
  | 6 => .array .int
  | 7 => .array .int
  | 8 => .int
  | 9 => .int
  | 10 => .int
  | 11 => .int
  | 12 => .int
  | 13 => .int
  | 14 => .int
  | 15 => .array .int
  | 16 => .int
  | 17 => .array .long
  | 18 => .int
  | 19 => .array .long
  | 20 => .array .int
  | 21 => .int
  | 22 => .array .int
  | 23 => .array .int
  | 24 => .array .int
  | 25 => .int
  | 26 => .int
  | 27 => .array .int
  | 28 => .array .int
  | 29 => .int
  | 30 => .int
  | 31 => .int
  | 32 => .array .int
  | 33 => .long
  | 34 => .array .int
  | 35 => .array .int
  | _ => .array .boolean
abbrev wsX120 : List Cond := u_ws RX12 TX12 37
theorem nmX12 : ∀ a, a < 37 → ∀ b, b < 37 → a ≠ b → (TX12 a).2.1 ≠ (TX12 b).2.1 := by decide +kernel
theorem tyX12_ok : ∀ k, k < 37 → parseFieldDescriptor (TX12 k).2.2.1 = some (tyX12 k) := by decide +kernel
def RJ0 : String := "java/lang/String"
def TJ0 : u_T := fun k => match k with
  | _ => ("", "", "", false)
def tyJ0 : Nat → FieldType := fun k => match k with
  | _ => .int
abbrev wsJ00 : List Cond := u_ws RJ0 TJ0 0
theorem nmJ0 : ∀ a, a < 0 → ∀ b, b < 0 → a ≠ b → (TJ0 a).2.1 ≠ (TJ0 b).2.1 := by decide +kernel
theorem tyJ0_ok : ∀ k, k < 0 → parseFieldDescriptor (TJ0 k).2.2.1 = some (tyJ0 k) := by decide +kernel
abbrev cJ0_length_8abf5 : ByteArray := prog_18_method_54_code
def yJ0_length_8abf5 : MethodName := ⟨RJ0, "length", "()I"⟩
abbrev cJ0_charAt_5068e : ByteArray := prog_18_method_56_code
def yJ0_charAt_5068e : MethodName := ⟨RJ0, "charAt", "(I)C"⟩
abbrev cJ0_coder_7d493 : ByteArray := prog_18_method_152_code
def yJ0_coder_7d493 : MethodName := ⟨RJ0, "coder", "()B"⟩
abbrev cJ0_isLatin1_aae02 : ByteArray := prog_18_method_154_code
def yJ0_isLatin1_aae02 : MethodName := ⟨RJ0, "isLatin1", "()Z"⟩
abbrev cJ0_checkIndex_df160 : ByteArray := prog_18_method_155_code
def yJ0_checkIndex_df160 : MethodName := ⟨RJ0, "checkIndex", "(II)V"⟩
def RJ1 : String := "java/lang/StringLatin1"
def TJ1 : u_T := fun k => match k with
  | _ => ("", "", "", false)
def tyJ1 : Nat → FieldType := fun k => match k with
  | _ => .int
abbrev wsJ10 : List Cond := u_ws RJ1 TJ1 0
theorem nmJ1 : ∀ a, a < 0 → ∀ b, b < 0 → a ≠ b → (TJ1 a).2.1 ≠ (TJ1 b).2.1 := by decide +kernel
theorem tyJ1_ok : ∀ k, k < 0 → parseFieldDescriptor (TJ1 k).2.2.1 = some (tyJ1 k) := by decide +kernel
abbrev cJ1_charAt_3b067 : ByteArray := prog_19_method_2_code
def yJ1_charAt_3b067 : MethodName := ⟨RJ1, "charAt", "([BI)C"⟩
def RJ3 : String := "jdk/internal/util/Preconditions"
def TJ3 : u_T := fun k => match k with
  | _ => ("", "", "", false)
def tyJ3 : Nat → FieldType := fun k => match k with
  | _ => .int
abbrev wsJ30 : List Cond := u_ws RJ3 TJ3 0
theorem nmJ3 : ∀ a, a < 0 → ∀ b, b < 0 → a ≠ b → (TJ3 a).2.1 ≠ (TJ3 b).2.1 := by decide +kernel
theorem tyJ3_ok : ∀ k, k < 0 → parseFieldDescriptor (TJ3 k).2.2.1 = some (tyJ3 k) := by decide +kernel
abbrev cJ3_checkIndex_8e157 : ByteArray := prog_23_method_11_code
def yJ3_checkIndex_8e157 : MethodName := ⟨RJ3, "checkIndex", "(IILjava/util/function/BiFunction;)I"⟩
def RJ6 : String := "java/lang/Integer"
def TJ6 : u_T := fun k => match k with
  | _ => ("", "", "", false)
def tyJ6 : Nat → FieldType := fun k => match k with
  | _ => .int
abbrev wsJ60 : List Cond := u_ws RJ6 TJ6 0
theorem nmJ6 : ∀ a, a < 0 → ∀ b, b < 0 → a ≠ b → (TJ6 a).2.1 ≠ (TJ6 b).2.1 := by decide +kernel
theorem tyJ6_ok : ∀ k, k < 0 → parseFieldDescriptor (TJ6 k).2.2.1 = some (tyJ6 k) := by decide +kernel
abbrev cJ6_bitCount_0f7a4 : ByteArray := prog_16_method_49_code
def yJ6_bitCount_0f7a4 : MethodName := ⟨RJ6, "bitCount", "(I)I"⟩
def RJ7 : String := "java/util/Arrays"
def TJ7 : u_T := fun k => match k with
  | _ => ("", "", "", false)
def tyJ7 : Nat → FieldType := fun k => match k with
  | _ => .int
abbrev wsJ70 : List Cond := u_ws RJ7 TJ7 0
theorem nmJ7 : ∀ a, a < 0 → ∀ b, b < 0 → a ≠ b → (TJ7 a).2.1 ≠ (TJ7 b).2.1 := by decide +kernel
theorem tyJ7_ok : ∀ k, k < 0 → parseFieldDescriptor (TJ7 k).2.2.1 = some (tyJ7 k) := by decide +kernel
abbrev cJ7_fill_53178 : ByteArray := prog_22_method_103_code
def yJ7_fill_53178 : MethodName := ⟨RJ7, "fill", "([II)V"⟩
def RJ9 : String := "java/lang/Math"
def TJ9 : u_T := fun k => match k with
  | _ => ("", "", "", false)
def tyJ9 : Nat → FieldType := fun k => match k with
  | _ => .int
abbrev wsJ90 : List Cond := u_ws RJ9 TJ9 0
theorem nmJ9 : ∀ a, a < 0 → ∀ b, b < 0 → a ≠ b → (TJ9 a).2.1 ≠ (TJ9 b).2.1 := by decide +kernel
theorem tyJ9_ok : ∀ k, k < 0 → parseFieldDescriptor (TJ9 k).2.2.1 = some (tyJ9 k) := by decide +kernel
abbrev cJ9_floorMod_7cf53 : ByteArray := prog_17_method_50_code
def yJ9_floorMod_7cf53 : MethodName := ⟨RJ9, "floorMod", "(II)I"⟩
abbrev cJ9_abs_0f7a4 : ByteArray := prog_17_method_59_code
def yJ9_abs_0f7a4 : MethodName := ⟨RJ9, "abs", "(I)I"⟩
abbrev cJ9_max_7cf53 : ByteArray := prog_17_method_65_code
def yJ9_max_7cf53 : MethodName := ⟨RJ9, "max", "(II)I"⟩
abbrev cJ9_min_7cf53 : ByteArray := prog_17_method_69_code
def yJ9_min_7cf53 : MethodName := ⟨RJ9, "min", "(II)I"⟩
def RL : String := "HalfFairLaw"
abbrev cL_law : ByteArray := code
