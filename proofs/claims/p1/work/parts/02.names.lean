theorem goodIn_r {big : List Cond} (ws : List Cond) (ps : List Nat) (hp : ws = ps.filterMap (fun i => big[i]?)) (h : ws.all goodWord = true) : GoodIn big ws := by
  intro w hw
  have h1 := List.all_eq_true.mp h w hw
  rw [hp] at hw
  obtain ⟨i, -, hi⟩ := List.mem_filterMap.mp hw
  have hm : w ∈ big := by first | exact List.mem_of_getElem? hi | exact List.getElem?_mem hi
  exact ⟨hm, good_of_word h1⟩
theorem goodIn_app {big a b : List Cond} (ha : GoodIn big a) (hb : GoodIn big b) : GoodIn big (a ++ b) := fun w h => (List.mem_append.mp h).elim (ha w) (hb w)
theorem goodIn_ca {big a b : List Cond} {c : Cond} (ha : GoodIn big (c :: a)) (hb : GoodIn big b) : GoodIn big (c :: (a ++ b)) := fun w h => (List.mem_cons.mp h).elim (fun e => ha w (List.mem_cons.mpr (Or.inl e))) (fun h => (List.mem_append.mp h).elim (fun h => ha w (List.mem_cons.mpr (Or.inr h))) (hb w))
theorem goodIn_sub {big ws : List Cond} (hm : ∀ w ∈ ws, w ∈ big) (h : ws.all goodWord = true) : GoodIn big ws := fun w hw => ⟨hm w hw, good_of_word (List.all_eq_true.mp h w hw)⟩

def RX0 : String := "HalfFair$FairReader"
def TX0 : u_T := fun k => match k with
  | 0 => ("HalfFair$FairReader", "tape", "LHalfFair$Tape;", false)
  | 1 => ("HalfFair$FairReader", "told", "LHalfFair$Told;", false)
  | _ => ("HalfFair$FairReader", "kindsTold", "I", false)
def tyX0 : Nat → FieldType := fun k => match k with
  | 0 => .object "HalfFair$Tape"
  | 1 => .object "HalfFair$Told"
  | _ => .int
abbrev wsX00 : List Cond := u_ws RX0 TX0 3
theorem nmX0 : ∀ a, a < 3 → ∀ b, b < 3 → a ≠ b → (TX0 a).2.1 ≠ (TX0 b).2.1 := by decide +kernel
theorem tyX0_ok : ∀ k, k < 3 → parseFieldDescriptor (TX0 k).2.2.1 = some (tyX0 k) := by decide +kernel
abbrev cX0_init : ByteArray := prog_2_method_1_code
def yX0_init : MethodName := ⟨RX0, "<init>", "()V"⟩
def RX1 : String := "HalfFair$Image"
def TX1 : u_T := fun k => match k with
  | 0 => ("HalfFair$Image", "told", "LHalfFair$Told;", false)
  | 1 => ("HalfFair$Image", "scene", "LHalfFair$Scene;", true)
  | 2 => ("HalfFair$Image", "trials", "LHalfFair$Trials;", true)
  | _ => ("HalfFair$Image", "x", "I", false)
def tyX1 : Nat → FieldType := fun k => match k with
  | 0 => .object "HalfFair$Told"
  | 1 => .object "HalfFair$Scene"
  | 2 => .object "HalfFair$Trials"
  | _ => .int
abbrev wsX10 : List Cond := u_ws RX1 TX1 4
theorem nmX1 : ∀ a, a < 4 → ∀ b, b < 4 → a ≠ b → (TX1 a).2.1 ≠ (TX1 b).2.1 := by decide +kernel
theorem tyX1_ok : ∀ k, k < 4 → parseFieldDescriptor (TX1 k).2.2.1 = some (tyX1 k) := by decide +kernel
abbrev cX1_init : ByteArray := prog_3_method_1_code
def yX1_init : MethodName := ⟨RX1, "<init>", "()V"⟩
def RX2 : String := "HalfFair$Market"
def TX2 : u_T := fun k => match k with
  | 0 => ("HalfFair$Market", "stack", "[J", true)
  | 1 => ("HalfFair$Market", "told", "LHalfFair$Told;", false)
  | 2 => ("HalfFair$Market", "scene", "LHalfFair$Scene;", false)
  | 3 => ("HalfFair$Market", "rule", "LHalfFair$Rule;", false)
  | 4 => ("HalfFair$Market", "words", "[I", true)
  | 5 => ("HalfFair$Market", "buyer", "I", false)
  | 6 => ("HalfFair$Market", "saw", "I", false)
  | 7 => ("HalfFair$Market", "stalls", "I", false)
  | 8 => ("HalfFair$Market", "bought", "I", false)
  | _ => ("HalfFair$Market", "x", "I", false)
def tyX2 : Nat → FieldType := fun k => match k with
  | 0 => .array .long
  | 1 => .object "HalfFair$Told"
  | 2 => .object "HalfFair$Scene"
  | 3 => .object "HalfFair$Rule"
  | 4 => .array .int
  | 5 => .int
  | 6 => .int
  | 7 => .int
  | 8 => .int
  | _ => .int
abbrev wsX20 : List Cond := u_ws RX2 TX2 10
theorem nmX2 : ∀ a, a < 10 → ∀ b, b < 10 → a ≠ b → (TX2 a).2.1 ≠ (TX2 b).2.1 := by decide +kernel
theorem tyX2_ok : ∀ k, k < 10 → parseFieldDescriptor (TX2 k).2.2.1 = some (tyX2 k) := by decide +kernel
abbrev cX2_init : ByteArray := prog_4_method_1_code
def yX2_init : MethodName := ⟨RX2, "<init>", "()V"⟩
def RX3 : String := "HalfFair$Pairs"
def TX3 : u_T := fun k => match k with
  | 0 => ("HalfFair$Pairs", "told", "LHalfFair$Told;", false)
  | _ => ("HalfFair$Pairs", "known", "[I", true)
def tyX3 : Nat → FieldType := fun k => match k with
  | 0 => .object "HalfFair$Told"
  | _ => .array .int
abbrev wsX30 : List Cond := u_ws RX3 TX3 2
theorem nmX3 : ∀ a, a < 2 → ∀ b, b < 2 → a ≠ b → (TX3 a).2.1 ≠ (TX3 b).2.1 := by decide +kernel
theorem tyX3_ok : ∀ k, k < 2 → parseFieldDescriptor (TX3 k).2.2.1 = some (tyX3 k) := by decide +kernel
abbrev cX3_init : ByteArray := prog_5_method_1_code
def yX3_init : MethodName := ⟨RX3, "<init>", "()V"⟩
def RX4 : String := "HalfFair$Rule"
def TX4 : u_T := fun k => match k with
  | 0 => ("HalfFair$Rule", "clauses", "I", false)
  | 1 => ("HalfFair$Rule", "kind", "[I", true)
  | 2 => ("HalfFair$Rule", "start", "[I", true)
  | 3 => ("HalfFair$Rule", "middle", "[I", true)
  | 4 => ("HalfFair$Rule", "end", "[I", true)
  | _ => ("HalfFair$Rule", "code", "[I", false)
def tyX4 : Nat → FieldType := fun k => match k with
  | 0 => .int
  | 1 => .array .int
  | 2 => .array .int
  | 3 => .array .int
  | 4 => .array .int
  | _ => .array .int
abbrev wsX40 : List Cond := u_ws RX4 TX4 6
theorem nmX4 : ∀ a, a < 6 → ∀ b, b < 6 → a ≠ b → (TX4 a).2.1 ≠ (TX4 b).2.1 := by decide +kernel
theorem tyX4_ok : ∀ k, k < 6 → parseFieldDescriptor (TX4 k).2.2.1 = some (tyX4 k) := by decide +kernel
abbrev cX4_init : ByteArray := prog_6_method_1_code
def yX4_init : MethodName := ⟨RX4, "<init>", "()V"⟩
def RX5 : String := "HalfFair$RuleReader"
def TX5 : u_T := fun k => match k with
  | 0 => ("HalfFair$RuleReader", "tape", "LHalfFair$Tape;", false)
  | 1 => ("HalfFair$RuleReader", "code", "[I", true)
  | 2 => ("HalfFair$RuleReader", "length", "I", false)
  | _ => ("HalfFair$RuleReader", "parts", "I", false)
def tyX5 : Nat → FieldType := fun k => match k with
  | 0 => .object "HalfFair$Tape"
  | 1 => .array .int
  | 2 => .int
  | _ => .int
abbrev wsX50 : List Cond := u_ws RX5 TX5 4
theorem nmX5 : ∀ a, a < 4 → ∀ b, b < 4 → a ≠ b → (TX5 a).2.1 ≠ (TX5 b).2.1 := by decide +kernel
theorem tyX5_ok : ∀ k, k < 4 → parseFieldDescriptor (TX5 k).2.2.1 = some (tyX5 k) := by decide +kernel
abbrev cX5_init : ByteArray := prog_7_method_1_code
def yX5_init : MethodName := ⟨RX5, "<init>", "()V"⟩
def RX6 : String := "HalfFair$Scene"
def TX6 : u_T := fun k => match k with
  | 0 => ("HalfFair$Scene", "hour", "I", false)
  | 1 => ("HalfFair$Scene", "purse", "[I", true)
  | 2 => ("HalfFair$Scene", "spot", "[I", true)
  | 3 => ("HalfFair$Scene", "seen", "[I", true)
  | 4 => ("HalfFair$Scene", "has", "[I", true)
  | _ => ("HalfFair$Scene", "at", "[I", true)
def tyX6 : Nat → FieldType := fun k => match k with
  | 0 => .int
  | 1 => .array .int
  | 2 => .array .int
  | 3 => .array .int
  | 4 => .array .int
  | _ => .array .int
abbrev wsX60 : List Cond := u_ws RX6 TX6 6
theorem nmX6 : ∀ a, a < 6 → ∀ b, b < 6 → a ≠ b → (TX6 a).2.1 ≠ (TX6 b).2.1 := by decide +kernel
theorem tyX6_ok : ∀ k, k < 6 → parseFieldDescriptor (TX6 k).2.2.1 = some (tyX6 k) := by decide +kernel
abbrev cX6_init : ByteArray := prog_8_method_1_code
def yX6_init : MethodName := ⟨RX6, "<init>", "()V"⟩
def RX7 : String := "HalfFair$Tape"
def TX7 : u_T := fun k => match k with
  | 0 => ("HalfFair$Tape", "bytes", "[I", true)
  | 1 => ("HalfFair$Tape", "length", "I", false)
  | 2 => ("HalfFair$Tape", "place", "I", false)
  | _ => ("HalfFair$Tape", "fault", "I", false)
def tyX7 : Nat → FieldType := fun k => match k with
  | 0 => .array .int
  | 1 => .int
  | 2 => .int
  | _ => .int
abbrev wsX70 : List Cond := u_ws RX7 TX7 4
theorem nmX7 : ∀ a, a < 4 → ∀ b, b < 4 → a ≠ b → (TX7 a).2.1 ≠ (TX7 b).2.1 := by decide +kernel
theorem tyX7_ok : ∀ k, k < 4 → parseFieldDescriptor (TX7 k).2.2.1 = some (tyX7 k) := by decide +kernel
abbrev cX7_init : ByteArray := prog_9_method_1_code
def yX7_init : MethodName := ⟨RX7, "<init>", "()V"⟩
def RX8 : String := "HalfFair$Told"
def TX8 : u_T := fun k => match k with
  | 0 => ("HalfFair$Told", "stalls", "I", false)
  | 1 => ("HalfFair$Told", "shift", "I", false)
  | 2 => ("HalfFair$Told", "halves", "I", false)
  | 3 => ("HalfFair$Told", "buyers", "I", false)
  | 4 => ("HalfFair$Told", "near", "I", false)
  | 5 => ("HalfFair$Told", "dusk", "I", false)
  | 6 => ("HalfFair$Told", "duskPrice", "I", false)
  | 7 => ("HalfFair$Told", "hear", "I", false)
  | 8 => ("HalfFair$Told", "forged", "I", false)
  | 9 => ("HalfFair$Told", "stall", "[I", true)
  | 10 => ("HalfFair$Told", "shape", "[I", true)
  | 11 => ("HalfFair$Told", "side", "[I", true)
  | 12 => ("HalfFair$Told", "price", "[I", true)
  | 13 => ("HalfFair$Told", "purse", "[I", true)
  | 14 => ("HalfFair$Told", "spot", "[I", true)
  | 15 => ("HalfFair$Told", "club", "[I", true)
  | 16 => ("HalfFair$Told", "fitting", "[I", true)
  | _ => ("HalfFair$Told", "nearly", "[I", true)
def tyX8 : Nat → FieldType := fun k => match k with
  | 0 => .int
  | 1 => .int
  | 2 => .int
  | 3 => .int
  | 4 => .int
  | 5 => .int
  | 6 => .int
  | 7 => .int
  | 8 => .int
  | 9 => .array .int
  | 10 => .array .int
  | 11 => .array .int
  | 12 => .array .int
  | 13 => .array .int
  | 14 => .array .int
  | 15 => .array .int
  | 16 => .array .int
  | _ => .array .int
abbrev wsX80 : List Cond := u_ws RX8 TX8 18
theorem nmX8 : ∀ a, a < 18 → ∀ b, b < 18 → a ≠ b → (TX8 a).2.1 ≠ (TX8 b).2.1 := by decide +kernel
theorem tyX8_ok : ∀ k, k < 18 → parseFieldDescriptor (TX8 k).2.2.1 = some (tyX8 k) := by decide +kernel
abbrev cX8_init : ByteArray := prog_10_method_1_code
def yX8_init : MethodName := ⟨RX8, "<init>", "()V"⟩
def RX9 : String := "HalfFair$Trials"
def TX9 : u_T := fun k => match k with
  | 0 => ("HalfFair$Trials", "size", "I", false)
  | 1 => ("HalfFair$Trials", "fewest", "I", false)
  | 2 => ("HalfFair$Trials", "honest", "I", false)
  | 3 => ("HalfFair$Trials", "pair", "[I", true)
  | 4 => ("HalfFair$Trials", "one", "[I", true)
  | 5 => ("HalfFair$Trials", "other", "[I", true)
  | _ => ("HalfFair$Trials", "fitted", "[Z", true)
def tyX9 : Nat → FieldType := fun k => match k with
  | 0 => .int
  | 1 => .int
  | 2 => .int
  | 3 => .array .int
  | 4 => .array .int
  | 5 => .array .int
  | _ => .array .boolean
abbrev wsX90 : List Cond := u_ws RX9 TX9 7
theorem nmX9 : ∀ a, a < 7 → ∀ b, b < 7 → a ≠ b → (TX9 a).2.1 ≠ (TX9 b).2.1 := by decide +kernel
theorem tyX9_ok : ∀ k, k < 7 → parseFieldDescriptor (TX9 k).2.2.1 = some (tyX9 k) := by decide +kernel
abbrev cX9_init : ByteArray := prog_11_method_1_code
def yX9_init : MethodName := ⟨RX9, "<init>", "()V"⟩
def RX10 : String := "HalfFair$Walker"
def TX10 : u_T := fun k => match k with
  | 0 => ("HalfFair$Walker", "here", "[I", false)
  | 1 => ("HalfFair$Walker", "next", "[I", false)
  | 2 => ("HalfFair$Walker", "ways", "[I", true)
  | 3 => ("HalfFair$Walker", "stallOf", "[I", true)
  | 4 => ("HalfFair$Walker", "told", "LHalfFair$Told;", false)
  | 5 => ("HalfFair$Walker", "pairs", "LHalfFair$Pairs;", false)
  | 6 => ("HalfFair$Walker", "has", "I", false)
  | 7 => ("HalfFair$Walker", "purse", "I", false)
  | 8 => ("HalfFair$Walker", "bestWays", "I", false)
  | 9 => ("HalfFair$Walker", "most", "I", false)
  | _ => ("HalfFair$Walker", "bought", "I", false)
def tyX10 : Nat → FieldType := fun k => match k with
  | 0 => .array .int
  | 1 => .array .int
  | 2 => .array .int
  | 3 => .array .int
  | 4 => .object "HalfFair$Told"
  | 5 => .object "HalfFair$Pairs"
  | 6 => .int
  | 7 => .int
  | 8 => .int
  | 9 => .int
  | _ => .int
abbrev wsX100 : List Cond := u_ws RX10 TX10 11
theorem nmX10 : ∀ a, a < 11 → ∀ b, b < 11 → a ≠ b → (TX10 a).2.1 ≠ (TX10 b).2.1 := by decide +kernel
theorem tyX10_ok : ∀ k, k < 11 → parseFieldDescriptor (TX10 k).2.2.1 = some (tyX10 k) := by decide +kernel
abbrev cX10_init : ByteArray := prog_12_method_1_code
def yX10_init : MethodName := ⟨RX10, "<init>", "()V"⟩
def RX11 : String := "HalfFair"
def TX11 : u_T := fun k => match k with
  | 0 => ("HalfFair", "tape", "LHalfFair$Tape;", true)
  | 1 => ("HalfFair", "fairReader", "LHalfFair$FairReader;", true)
  | 2 => ("HalfFair", "ruleReader", "LHalfFair$RuleReader;", true)
  | 3 => ("HalfFair", "rules", "[LHalfFair$Rule;", true)
  | 4 => ("HalfFair", "ruleCount", "I", false)
  | 5 => ("HalfFair", "told", "LHalfFair$Told;", false)
  | 6 => ("HalfFair", "scene", "LHalfFair$Scene;", true)
  | 7 => ("HalfFair", "spare", "LHalfFair$Scene;", true)
  | 8 => ("HalfFair", "past", "[LHalfFair$Scene;", true)
  | 9 => ("HalfFair", "pastFirst", "I", false)
  | 10 => ("HalfFair", "pastCount", "I", false)
  | 11 => ("HalfFair", "trials", "LHalfFair$Trials;", true)
  | 12 => ("HalfFair", "images", "[LHalfFair$Image;", true)
  | 13 => ("HalfFair", "pairs", "LHalfFair$Pairs;", true)
  | 14 => ("HalfFair", "walker", "LHalfFair$Walker;", true)
  | 15 => ("HalfFair", "market", "LHalfFair$Market;", true)
  | _ => ("HalfFair", "x", "I", false)
def tyX11 : Nat → FieldType := fun k => match k with
  | 0 => .object "HalfFair$Tape"
  | 1 => .object "HalfFair$FairReader"
  | 2 => .object "HalfFair$RuleReader"
  | 3 => .array (.object "HalfFair$Rule")
  | 4 => .int
  | 5 => .object "HalfFair$Told"
  | 6 => .object "HalfFair$Scene"
  | 7 => .object "HalfFair$Scene"
  | 8 => .array (.object "HalfFair$Scene")
  | 9 => .int
  | 10 => .int
  | 11 => .object "HalfFair$Trials"
  | 12 => .array (.object "HalfFair$Image")
  | 13 => .object "HalfFair$Pairs"
  | 14 => .object "HalfFair$Walker"
  | 15 => .object "HalfFair$Market"
  | _ => .int
abbrev wsX110 : List Cond := u_ws RX11 TX11 17
theorem nmX11 : ∀ a, a < 17 → ∀ b, b < 17 → a ≠ b → (TX11 a).2.1 ≠ (TX11 b).2.1 := by decide +kernel
theorem tyX11_ok : ∀ k, k < 17 → parseFieldDescriptor (TX11 k).2.2.1 = some (tyX11 k) := by decide +kernel
def RX12 : String := "HalfFairModel"
def TX12 : u_T := fun k => match k with
  | 0 => ("HalfFairModel", "tape", "[B", true)
  | 1 => ("HalfFairModel", "taped", "I", false)
  | 2 => ("HalfFairModel", "rules", "I", false)
  | 3 => ("HalfFairModel", "sign", "[I", true)
  | 4 => ("HalfFairModel", "length", "[I", true)
  | 5 => ("HalfFairModel", "clause", "[I", true)
  | 6 => ("HalfFairModel", "clauses", "[I", true)
  | 7 => ("HalfFairModel", "read", "[I", true)
  | 8 => ("HalfFairModel", "next", "I", false)
  | 9 => ("HalfFairModel", "wrong", "I", false)
  | 10 => ("HalfFairModel", "number", "I", false)
  | 11 => ("HalfFairModel", "text", "I", false)
  | 12 => ("HalfFairModel", "made", "I", false)
  | 13 => ("HalfFairModel", "deep", "I", false)
  | 14 => ("HalfFairModel", "lines", "I", false)
  | 15 => ("HalfFairModel", "open", "[I", true)
  | 16 => ("HalfFairModel", "opened", "I", false)
  | 17 => ("HalfFairModel", "stack", "[J", true)
  | 18 => ("HalfFairModel", "top", "I", false)
  | 19 => ("HalfFairModel", "word", "[J", true)
  | 20 => ("HalfFairModel", "said", "[I", true)
  | 21 => ("HalfFairModel", "x", "I", false)
  | 22 => ("HalfFairModel", "worth", "[I", true)
  | 23 => ("HalfFairModel", "mate", "[I", true)
  | 24 => ("HalfFairModel", "wasSaid", "[I", true)
  | 25 => ("HalfFairModel", "undone", "I", false)
  | 26 => ("HalfFairModel", "boughtNow", "I", false)
  | 27 => ("HalfFairModel", "wayBy", "[I", true)
  | 28 => ("HalfFairModel", "wayThen", "[I", true)
  | 29 => ("HalfFairModel", "walkMost", "I", false)
  | 30 => ("HalfFairModel", "walkGoing", "I", false)
  | 31 => ("HalfFairModel", "walkSet", "I", false)
  | 32 => ("HalfFairModel", "kept", "[I", true)
  | 33 => ("HalfFairModel", "drawX", "J", false)
  | 34 => ("HalfFairModel", "images", "[I", true)
  | 35 => ("HalfFairModel", "imageX", "[I", true)
  | _ => ("HalfFairModel", "isMade", "[Z", true)
def tyX12 : Nat → FieldType := fun k => match k with
  | 0 => .array .byte
  | 1 => .int
  | 2 => .int
  | 3 => .array .int
  | 4 => .array .int
  | 5 => .array .int
  | 6 => .array .int
  | 7 => .array .int
  | 8 => .int
  | 9 => .int
  | 10 => .int
  | 11 => .int
  | 12 => .int
  | 13 => .int
  | 14 => .int
  | 15 => .array .int
  | 16 => .int
  | 17 => .array .long
  | 18 => .int
  | 19 => .array .long
  | 20 => .array .int
  | 21 => .int
  | 22 => .array .int
  | 23 => .array .int
  | 24 => .array .int
  | 25 => .int
  | 26 => .int
  | 27 => .array .int
  | 28 => .array .int
  | 29 => .int
  | 30 => .int
  | 31 => .int
  | 32 => .array .int
  | 33 => .long
  | 34 => .array .int
  | 35 => .array .int
  | _ => .array .boolean
abbrev wsX120 : List Cond := u_ws RX12 TX12 37
theorem nmX12 : ∀ a, a < 37 → ∀ b, b < 37 → a ≠ b → (TX12 a).2.1 ≠ (TX12 b).2.1 := by decide +kernel
theorem tyX12_ok : ∀ k, k < 37 → parseFieldDescriptor (TX12 k).2.2.1 = some (tyX12 k) := by decide +kernel
def RJ0 : String := "java/lang/String"
def TJ0 : u_T := fun k => match k with
  | _ => ("", "", "", false)
def tyJ0 : Nat → FieldType := fun k => match k with
  | _ => .int
abbrev wsJ00 : List Cond := u_ws RJ0 TJ0 0
theorem nmJ0 : ∀ a, a < 0 → ∀ b, b < 0 → a ≠ b → (TJ0 a).2.1 ≠ (TJ0 b).2.1 := by decide +kernel
theorem tyJ0_ok : ∀ k, k < 0 → parseFieldDescriptor (TJ0 k).2.2.1 = some (tyJ0 k) := by decide +kernel
def RJ1 : String := "java/lang/StringLatin1"
def TJ1 : u_T := fun k => match k with
  | _ => ("", "", "", false)
def tyJ1 : Nat → FieldType := fun k => match k with
  | _ => .int
abbrev wsJ10 : List Cond := u_ws RJ1 TJ1 0
theorem nmJ1 : ∀ a, a < 0 → ∀ b, b < 0 → a ≠ b → (TJ1 a).2.1 ≠ (TJ1 b).2.1 := by decide +kernel
theorem tyJ1_ok : ∀ k, k < 0 → parseFieldDescriptor (TJ1 k).2.2.1 = some (tyJ1 k) := by decide +kernel
def RJ3 : String := "jdk/internal/util/Preconditions"
def TJ3 : u_T := fun k => match k with
  | _ => ("", "", "", false)
def tyJ3 : Nat → FieldType := fun k => match k with
  | _ => .int
abbrev wsJ30 : List Cond := u_ws RJ3 TJ3 0
theorem nmJ3 : ∀ a, a < 0 → ∀ b, b < 0 → a ≠ b → (TJ3 a).2.1 ≠ (TJ3 b).2.1 := by decide +kernel
theorem tyJ3_ok : ∀ k, k < 0 → parseFieldDescriptor (TJ3 k).2.2.1 = some (tyJ3 k) := by decide +kernel
def RJ6 : String := "java/lang/Integer"
def TJ6 : u_T := fun k => match k with
  | _ => ("", "", "", false)
def tyJ6 : Nat → FieldType := fun k => match k with
  | _ => .int
abbrev wsJ60 : List Cond := u_ws RJ6 TJ6 0
theorem nmJ6 : ∀ a, a < 0 → ∀ b, b < 0 → a ≠ b → (TJ6 a).2.1 ≠ (TJ6 b).2.1 := by decide +kernel
theorem tyJ6_ok : ∀ k, k < 0 → parseFieldDescriptor (TJ6 k).2.2.1 = some (tyJ6 k) := by decide +kernel
def RL : String := "HalfFairLaw"
abbrev cL_law : ByteArray := code
