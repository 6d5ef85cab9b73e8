def lw_okq (q : MethodName × Nat) : Prop := (q.1.cls ≠ "java/lang/invoke/MethodHandle" ∧ q.1.cls ≠ "java/lang/invoke/VarHandle") ∧ Cond.instantiable q.1.cls q.2 ∈ tables_1 ∧ Cond.privateMethod q.1 ∈ tables_1 ∧ Cond.instanceMethod q.1 ∈ tables_1
theorem lw_p0 : lw_okq (⟨"CoinRows$Sums", "sumBeginnings", "(LCoinRows$Model;)V"⟩, 5) := ⟨⟨by decide +kernel, by decide +kernel⟩, List.mem_of_getElem? (i := 64) (by decide +kernel), List.mem_of_getElem? (i := 207) (by decide +kernel), List.mem_of_getElem? (i := 208) (by decide +kernel)⟩
theorem lw_p1 : lw_okq (⟨"CoinRows$Sums", "arrive", "(LCoinRows$Model;II)J"⟩, 5) := ⟨⟨by decide +kernel, by decide +kernel⟩, List.mem_of_getElem? (i := 64) (by decide +kernel), List.mem_of_getElem? (i := 211) (by decide +kernel), List.mem_of_getElem? (i := 212) (by decide +kernel)⟩
theorem lw_p2 : lw_okq (⟨"CoinRows$Sums", "sumRests", "(LCoinRows$Model;)V"⟩, 5) := ⟨⟨by decide +kernel, by decide +kernel⟩, List.mem_of_getElem? (i := 64) (by decide +kernel), List.mem_of_getElem? (i := 223) (by decide +kernel), List.mem_of_getElem? (i := 224) (by decide +kernel)⟩
theorem lw_p3 : lw_okq (⟨"CoinRows$Sums", "sumRestsBehind", "(LCoinRows$Model;II)V"⟩, 5) := ⟨⟨by decide +kernel, by decide +kernel⟩, List.mem_of_getElem? (i := 64) (by decide +kernel), List.mem_of_getElem? (i := 227) (by decide +kernel), List.mem_of_getElem? (i := 228) (by decide +kernel)⟩
theorem lw_p4 : lw_okq (⟨"CoinRows$Walk", "chooseByNumber", "(LCoinRows$Model;LCoinRows$Sums;III)I"⟩, 4) := ⟨⟨by decide +kernel, by decide +kernel⟩, List.mem_of_getElem? (i := 95) (by decide +kernel), List.mem_of_getElem? (i := 324) (by decide +kernel), List.mem_of_getElem? (i := 325) (by decide +kernel)⟩
theorem lw_p5 : lw_okq (⟨"CoinRows$Walk", "chooseBest", "(LCoinRows$Model;LCoinRows$Sums;II)I"⟩, 4) := ⟨⟨by decide +kernel, by decide +kernel⟩, List.mem_of_getElem? (i := 95) (by decide +kernel), List.mem_of_getElem? (i := 351) (by decide +kernel), List.mem_of_getElem? (i := 352) (by decide +kernel)⟩
theorem lw_p6 : lw_okq (⟨"CoinRows", "remember", "()V"⟩, 8) := ⟨⟨by decide +kernel, by decide +kernel⟩, List.mem_of_getElem? (i := 10) (by decide +kernel), List.mem_of_getElem? (i := 378) (by decide +kernel), List.mem_of_getElem? (i := 379) (by decide +kernel)⟩
theorem lw_p7 : lw_okq (⟨"CoinRows$Trainer", "improveGroup", "(LCoinRows$Model;II)I"⟩, 1) := ⟨⟨by decide +kernel, by decide +kernel⟩, List.mem_of_getElem? (i := 115) (by decide +kernel), List.mem_of_getElem? (i := 417) (by decide +kernel), List.mem_of_getElem? (i := 418) (by decide +kernel)⟩
def lw_privs_1 : List (MethodName × Nat) := [(⟨"CoinRows$Sums", "sumBeginnings", "(LCoinRows$Model;)V"⟩, 5), (⟨"CoinRows$Sums", "arrive", "(LCoinRows$Model;II)J"⟩, 5), (⟨"CoinRows$Sums", "sumRests", "(LCoinRows$Model;)V"⟩, 5), (⟨"CoinRows$Sums", "sumRestsBehind", "(LCoinRows$Model;II)V"⟩, 5), (⟨"CoinRows$Walk", "chooseByNumber", "(LCoinRows$Model;LCoinRows$Sums;III)I"⟩, 4), (⟨"CoinRows$Walk", "chooseBest", "(LCoinRows$Model;LCoinRows$Sums;II)I"⟩, 4), (⟨"CoinRows", "remember", "()V"⟩, 8), (⟨"CoinRows$Trainer", "improveGroup", "(LCoinRows$Model;II)I"⟩, 1)]
theorem lw_r1 : ∀ q ∈ lw_privs_1, lw_okq q := List.forall_mem_cons.mpr ⟨lw_p0, List.forall_mem_cons.mpr ⟨lw_p1, List.forall_mem_cons.mpr ⟨lw_p2, List.forall_mem_cons.mpr ⟨lw_p3, List.forall_mem_cons.mpr ⟨lw_p4, List.forall_mem_cons.mpr ⟨lw_p5, List.forall_mem_cons.mpr ⟨lw_p6, List.forall_mem_cons.mpr ⟨lw_p7, fun _ h => absurd h List.not_mem_nil⟩⟩⟩⟩⟩⟩⟩⟩
def lw_privs : List (MethodName × Nat) := lw_privs_1
def lw_tbl : List Cond := k2_sels lw_privs ++ tables_1
theorem lw_privs_ok : ∀ q ∈ lw_privs, lw_okq q := lw_r1
abbrev lw_cs : List Choice := [Jvm.Choice.named "NaN.bits"]
theorem lw_bits : nanBits ∈ lw_cs := by first | decide | exact List.mem_cons_self | simp [lw_cs, nanBits]

def RX0 : String := "CoinRows$Model"
def TX0 : u_T := fun k => match k with
  | 0 => ("CoinRows$Model", "weights", "[I", true)
  | 1 => ("CoinRows$Model", "row", "[I", true)
  | _ => ("CoinRows$Model", "length", "I", false)
def tyX0 : Nat → FieldType := fun k => match k with
  | 0 => .array .int
  | 1 => .array .int
  | _ => .int
abbrev wsX00 : List Cond := u_ws RX0 TX0 3
theorem nmX0 : ∀ a, a < 3 → ∀ b, b < 3 → a ≠ b → (TX0 a).2.1 ≠ (TX0 b).2.1 := by decide +kernel
theorem tyX0_ok : ∀ k, k < 3 → parseFieldDescriptor (TX0 k).2.2.1 = some (tyX0 k) := by decide +kernel
abbrev cX0_init : ByteArray := prog_2_method_1_code
def yX0_init : MethodName := ⟨RX0, "<init>", "()V"⟩
abbrev cX0_copyFrom : ByteArray := prog_2_method_2_code
def yX0_copyFrom : MethodName := ⟨RX0, "copyFrom", "(LCoinRows$Model;)V"⟩
abbrev cX0_hasPlace : ByteArray := prog_2_method_3_code
def yX0_hasPlace : MethodName := ⟨RX0, "hasPlace", "(I)Z"⟩
abbrev cX0_append : ByteArray := prog_2_method_4_code
def yX0_append : MethodName := ⟨RX0, "append", "(I)V"⟩
abbrev cX0_countWeights : ByteArray := prog_2_method_5_code
def yX0_countWeights : MethodName := ⟨RX0, "countWeights", "()I"⟩
abbrev cX0_stepWeight : ByteArray := prog_2_method_6_code
def yX0_stepWeight : MethodName := ⟨RX0, "stepWeight", "(II)I"⟩
abbrev cX0_letterWeight : ByteArray := prog_2_method_7_code
def yX0_letterWeight : MethodName := ⟨RX0, "letterWeight", "(II)I"⟩
abbrev cX0_moveWeight : ByteArray := prog_2_method_8_code
def yX0_moveWeight : MethodName := ⟨RX0, "moveWeight", "(III)I"⟩
def RX1 : String := "CoinRows$Pad"
def TX1 : u_T := fun k => match k with
  | 0 => ("CoinRows$Pad", "signs", "[C", true)
  | 1 => ("CoinRows$Pad", "length", "I", false)
  | 2 => ("CoinRows$Pad", "at", "I", false)
  | _ => ("CoinRows$Pad", "parts", "I", false)
def tyX1 : Nat → FieldType := fun k => match k with
  | 0 => .array .char
  | 1 => .int
  | 2 => .int
  | _ => .int
abbrev wsX10 : List Cond := u_ws RX1 TX1 4
theorem nmX1 : ∀ a, a < 4 → ∀ b, b < 4 → a ≠ b → (TX1 a).2.1 ≠ (TX1 b).2.1 := by decide +kernel
theorem tyX1_ok : ∀ k, k < 4 → parseFieldDescriptor (TX1 k).2.2.1 = some (tyX1 k) := by decide +kernel
abbrev cX1_init : ByteArray := prog_3_method_1_code
def yX1_init : MethodName := ⟨RX1, "<init>", "()V"⟩
def RX2 : String := "CoinRows$Sums"
def TX2 : u_T := fun k => match k with
  | 0 => ("CoinRows$Sums", "before", "[[J", true)
  | 1 => ("CoinRows$Sums", "reach", "[[J", true)
  | 2 => ("CoinRows$Sums", "after", "[[J", true)
  | 3 => ("CoinRows$Sums", "best", "[[J", true)
  | _ => ("CoinRows$Sums", "rests", "[[I", true)
def tyX2 : Nat → FieldType := fun k => match k with
  | 0 => .array (.array .long)
  | 1 => .array (.array .long)
  | 2 => .array (.array .long)
  | 3 => .array (.array .long)
  | _ => .array (.array .int)
abbrev wsX20 : List Cond := u_ws RX2 TX2 5
theorem nmX2 : ∀ a, a < 5 → ∀ b, b < 5 → a ≠ b → (TX2 a).2.1 ≠ (TX2 b).2.1 := by decide +kernel
theorem tyX2_ok : ∀ k, k < 5 → parseFieldDescriptor (TX2 k).2.2.1 = some (tyX2 k) := by decide +kernel
abbrev cX2_init : ByteArray := prog_4_method_1_code
def yX2_init : MethodName := ⟨RX2, "<init>", "()V"⟩
abbrev cX2_measure : ByteArray := prog_4_method_2_code
def yX2_measure : MethodName := ⟨RX2, "measure", "(LCoinRows$Model;)V"⟩
abbrev cX2_whole : ByteArray := prog_4_method_3_code
def yX2_whole : MethodName := ⟨RX2, "whole", "()J"⟩
abbrev cX2_number : ByteArray := prog_4_method_4_code
def yX2_number : MethodName := ⟨RX2, "number", "()I"⟩
abbrev cX2_greatest : ByteArray := prog_4_method_5_code
def yX2_greatest : MethodName := ⟨RX2, "greatest", "()J"⟩
abbrev cX2_through : ByteArray := prog_4_method_6_code
def yX2_through : MethodName := ⟨RX2, "through", "(II)J"⟩
abbrev cX2_ofStep : ByteArray := prog_4_method_7_code
def yX2_ofStep : MethodName := ⟨RX2, "ofStep", "(LCoinRows$Model;II)J"⟩
abbrev cX2_ofLetter : ByteArray := prog_4_method_8_code
def yX2_ofLetter : MethodName := ⟨RX2, "ofLetter", "(LCoinRows$Model;II)J"⟩
abbrev cX2_sumBeginnings : ByteArray := prog_4_method_11_code
def yX2_sumBeginnings : MethodName := ⟨RX2, "sumBeginnings", "(LCoinRows$Model;)V"⟩
abbrev cX2_arrive : ByteArray := prog_4_method_12_code
def yX2_arrive : MethodName := ⟨RX2, "arrive", "(LCoinRows$Model;II)J"⟩
abbrev cX2_sumRests : ByteArray := prog_4_method_13_code
def yX2_sumRests : MethodName := ⟨RX2, "sumRests", "(LCoinRows$Model;)V"⟩
abbrev cX2_sumRestsBehind : ByteArray := prog_4_method_14_code
def yX2_sumRestsBehind : MethodName := ⟨RX2, "sumRestsBehind", "(LCoinRows$Model;II)V"⟩
def RX3 : String := "CoinRows$Trainer"
def TX3 : u_T := fun k => match k with
  | _ => ("CoinRows$Trainer", "expectations", "[J", true)
def tyX3 : Nat → FieldType := fun k => match k with
  | _ => .array .long
abbrev wsX30 : List Cond := u_ws RX3 TX3 1
theorem nmX3 : ∀ a, a < 1 → ∀ b, b < 1 → a ≠ b → (TX3 a).2.1 ≠ (TX3 b).2.1 := by decide +kernel
theorem tyX3_ok : ∀ k, k < 1 → parseFieldDescriptor (TX3 k).2.2.1 = some (tyX3 k) := by decide +kernel
abbrev cX3_init : ByteArray := prog_5_method_1_code
def yX3_init : MethodName := ⟨RX3, "<init>", "()V"⟩
abbrev cX3_improve : ByteArray := prog_5_method_2_code
def yX3_improve : MethodName := ⟨RX3, "improve", "(LCoinRows$Model;LCoinRows$Sums;)I"⟩
abbrev cX3_improveGroup : ByteArray := prog_5_method_3_code
def yX3_improveGroup : MethodName := ⟨RX3, "improveGroup", "(LCoinRows$Model;II)I"⟩
def RX4 : String := "CoinRows$Walk"
def TX4 : u_T := fun k => match k with
  | 0 => ("CoinRows$Walk", "coins", "[I", true)
  | 1 => ("CoinRows$Walk", "size", "I", false)
  | 2 => ("CoinRows$Walk", "product", "J", false)
  | _ => ("CoinRows$Walk", "skipped", "I", false)
def tyX4 : Nat → FieldType := fun k => match k with
  | 0 => .array .int
  | 1 => .int
  | 2 => .long
  | _ => .int
abbrev wsX40 : List Cond := u_ws RX4 TX4 4
theorem nmX4 : ∀ a, a < 4 → ∀ b, b < 4 → a ≠ b → (TX4 a).2.1 ≠ (TX4 b).2.1 := by decide +kernel
theorem tyX4_ok : ∀ k, k < 4 → parseFieldDescriptor (TX4 k).2.2.1 = some (tyX4 k) := by decide +kernel
abbrev cX4_init : ByteArray := prog_6_method_1_code
def yX4_init : MethodName := ⟨RX4, "<init>", "()V"⟩
abbrev cX4_follow : ByteArray := prog_6_method_2_code
def yX4_follow : MethodName := ⟨RX4, "follow", "(LCoinRows$Model;LCoinRows$Sums;I)V"⟩
abbrev cX4_findBest : ByteArray := prog_6_method_3_code
def yX4_findBest : MethodName := ⟨RX4, "findBest", "(LCoinRows$Model;LCoinRows$Sums;)I"⟩
abbrev cX4_tell : ByteArray := prog_6_method_4_code
def yX4_tell : MethodName := ⟨RX4, "tell", "(I)I"⟩
abbrev cX4_chooseByNumber : ByteArray := prog_6_method_5_code
def yX4_chooseByNumber : MethodName := ⟨RX4, "chooseByNumber", "(LCoinRows$Model;LCoinRows$Sums;III)I"⟩
abbrev cX4_chooseBest : ByteArray := prog_6_method_6_code
def yX4_chooseBest : MethodName := ⟨RX4, "chooseBest", "(LCoinRows$Model;LCoinRows$Sums;II)I"⟩
abbrev cX4_restsThrough : ByteArray := prog_6_method_7_code
def yX4_restsThrough : MethodName := ⟨RX4, "restsThrough", "(LCoinRows$Model;LCoinRows$Sums;III)I"⟩
def RX5 : String := "CoinRows"
def TX5 : u_T := fun k => match k with
  | 0 => ("CoinRows", "model", "LCoinRows$Model;", true)
  | 1 => ("CoinRows", "history", "[LCoinRows$Model;", true)
  | 2 => ("CoinRows", "remembered", "I", false)
  | 3 => ("CoinRows", "slots", "[LCoinRows$Model;", true)
  | 4 => ("CoinRows", "pad", "LCoinRows$Pad;", true)
  | 5 => ("CoinRows", "sums", "LCoinRows$Sums;", true)
  | 6 => ("CoinRows", "walk", "LCoinRows$Walk;", true)
  | _ => ("CoinRows", "trainer", "LCoinRows$Trainer;", true)
def tyX5 : Nat → FieldType := fun k => match k with
  | 0 => .object "CoinRows$Model"
  | 1 => .array (.object "CoinRows$Model")
  | 2 => .int
  | 3 => .array (.object "CoinRows$Model")
  | 4 => .object "CoinRows$Pad"
  | 5 => .object "CoinRows$Sums"
  | 6 => .object "CoinRows$Walk"
  | _ => .object "CoinRows$Trainer"
abbrev wsX50 : List Cond := u_ws RX5 TX5 8
theorem nmX5 : ∀ a, a < 8 → ∀ b, b < 8 → a ≠ b → (TX5 a).2.1 ≠ (TX5 b).2.1 := by decide +kernel
theorem tyX5_ok : ∀ k, k < 8 → parseFieldDescriptor (TX5 k).2.2.1 = some (tyX5 k) := by decide +kernel
abbrev cX5_init : ByteArray := prog_1_method_1_code
def yX5_init : MethodName := ⟨RX5, "<init>", "()V"⟩
abbrev cX5_give : ByteArray := prog_1_method_2_code
def yX5_give : MethodName := ⟨RX5, "give", "(IIII)I"⟩
abbrev cX5_weight : ByteArray := prog_1_method_3_code
def yX5_weight : MethodName := ⟨RX5, "weight", "(III)I"⟩
abbrev cX5_add : ByteArray := prog_1_method_4_code
def yX5_add : MethodName := ⟨RX5, "add", "(I)I"⟩
abbrev cX5_cut : ByteArray := prog_1_method_5_code
def yX5_cut : MethodName := ⟨RX5, "cut", "()I"⟩
abbrev cX5_letter : ByteArray := prog_1_method_6_code
def yX5_letter : MethodName := ⟨RX5, "letter", "(I)I"⟩
abbrev cX5_train : ByteArray := prog_1_method_7_code
def yX5_train : MethodName := ⟨RX5, "train", "()I"⟩
abbrev cX5_total : ByteArray := prog_1_method_12_code
def yX5_total : MethodName := ⟨RX5, "total", "()J"⟩
abbrev cX5_forward : ByteArray := prog_1_method_13_code
def yX5_forward : MethodName := ⟨RX5, "forward", "(II)J"⟩
abbrev cX5_backward : ByteArray := prog_1_method_14_code
def yX5_backward : MethodName := ⟨RX5, "backward", "(II)J"⟩
abbrev cX5_ways : ByteArray := prog_1_method_15_code
def yX5_ways : MethodName := ⟨RX5, "ways", "()I"⟩
abbrev cX5_way : ByteArray := prog_1_method_16_code
def yX5_way : MethodName := ⟨RX5, "way", "(II)I"⟩
abbrev cX5_weighs : ByteArray := prog_1_method_17_code
def yX5_weighs : MethodName := ⟨RX5, "weighs", "(I)J"⟩
abbrev cX5_likeliest : ByteArray := prog_1_method_18_code
def yX5_likeliest : MethodName := ⟨RX5, "likeliest", "(I)I"⟩
abbrev cX5_odds : ByteArray := prog_1_method_19_code
def yX5_odds : MethodName := ⟨RX5, "odds", "(III)J"⟩
abbrev cX5_likelyAt : ByteArray := prog_1_method_20_code
def yX5_likelyAt : MethodName := ⟨RX5, "likelyAt", "(I)I"⟩
abbrev cX5_expected : ByteArray := prog_1_method_21_code
def yX5_expected : MethodName := ⟨RX5, "expected", "(IIII)J"⟩
abbrev cX5_shareBits : ByteArray := prog_1_method_22_code
def yX5_shareBits : MethodName := ⟨RX5, "shareBits", "()I"⟩
abbrev cX5_count : ByteArray := prog_1_method_25_code
def yX5_count : MethodName := ⟨RX5, "count", "(I)I"⟩
abbrev cX5_remember : ByteArray := prog_1_method_29_code
def yX5_remember : MethodName := ⟨RX5, "remember", "()V"⟩
abbrev cX5_isKind : ByteArray := prog_1_method_30_code
def yX5_isKind : MethodName := ⟨RX5, "isKind", "(I)Z"⟩
abbrev cX5_isPart : ByteArray := prog_1_method_31_code
def yX5_isPart : MethodName := ⟨RX5, "isPart", "(I)Z"⟩
abbrev cX5_isLoud : ByteArray := prog_1_method_32_code
def yX5_isLoud : MethodName := ⟨RX5, "isLoud", "(I)Z"⟩
abbrev cX5_isCoin : ByteArray := prog_1_method_33_code
def yX5_isCoin : MethodName := ⟨RX5, "isCoin", "(I)Z"⟩
abbrev cX5_isBarred : ByteArray := prog_1_method_34_code
def yX5_isBarred : MethodName := ⟨RX5, "isBarred", "(II)Z"⟩
abbrev cX5_indexOf : ByteArray := prog_1_method_35_code
def yX5_indexOf : MethodName := ⟨RX5, "indexOf", "(III)I"⟩
abbrev cX5_inLowestTerms : ByteArray := prog_1_method_36_code
def yX5_inLowestTerms : MethodName := ⟨RX5, "inLowestTerms", "(JJI)J"⟩
abbrev cX5_commonDivisor : ByteArray := prog_1_method_37_code
def yX5_commonDivisor : MethodName := ⟨RX5, "commonDivisor", "(JJ)J"⟩
abbrev cX5_bitsOf : ByteArray := prog_1_method_38_code
def yX5_bitsOf : MethodName := ⟨RX5, "bitsOf", "(F)I"⟩
def RL : String := "CoinRowsLaw"
abbrev cL_cell : ByteArray := method_2_code
def yL_cell : MethodName := ⟨RL, "cell", "([III)I"⟩
abbrev cL_over : ByteArray := method_3_code
def yL_over : MethodName := ⟨RL, "over", "(LCoinRows;II)J"⟩
abbrev cL_manners : ByteArray := method_4_code
def yL_manners : MethodName := ⟨RL, "manners", "(LCoinRows;II)I"⟩
abbrev cL_areAhead : ByteArray := method_5_code
def yL_areAhead : MethodName := ⟨RL, "areAhead", "(LCoinRows;[J[J)Z"⟩
abbrev cL_divisor : ByteArray := method_6_code
def yL_divisor : MethodName := ⟨RL, "divisor", "(JJ)J"⟩
abbrev cL_isPart : ByteArray := method_7_code
def yL_isPart : MethodName := ⟨RL, "isPart", "(JJJJ)Z"⟩
abbrev cL_areOdds : ByteArray := method_8_code
def yL_areOdds : MethodName := ⟨RL, "areOdds", "(LCoinRows;[J[JJ)Z"⟩
abbrev cL_areExpected : ByteArray := method_9_code
def yL_areExpected : MethodName := ⟨RL, "areExpected", "(LCoinRows;[J[JJ)Z"⟩
abbrev cL_numberOf : ByteArray := method_10_code
def yL_numberOf : MethodName := ⟨RL, "numberOf", "(LCoinRows;IIIJ)J"⟩
abbrev cL_areWays : ByteArray := method_11_code
def yL_areWays : MethodName := ⟨RL, "areWays", "(LCoinRows;J)Z"⟩
abbrev cL_isBehind : ByteArray := method_12_code
def yL_isBehind : MethodName := ⟨RL, "isBehind", "(LCoinRows;I)Z"⟩
abbrev cL_agree : ByteArray := method_13_code
def yL_agree : MethodName := ⟨RL, "agree", "(LCoinRows;)Z"⟩
abbrev cL_isTrained : ByteArray := method_14_code
def yL_isTrained : MethodName := ⟨RL, "isTrained", "(LCoinRows;)Z"⟩
abbrev cL_at : ByteArray := method_15_code
def yL_at : MethodName := ⟨RL, "at", "(II)I"⟩
abbrev cL_weight : ByteArray := method_16_code
def yL_weight : MethodName := ⟨RL, "weight", "(LCoinRows;II)I"⟩
abbrev cL_number : ByteArray := method_17_code
def yL_number : MethodName := ⟨RL, "number", "(LCoinRows;IIJ)J"⟩
abbrev cL_isGiven : ByteArray := method_18_code
def yL_isGiven : MethodName := ⟨RL, "isGiven", "(LCoinRows;IIII)Z"⟩
abbrev cL_isAct : ByteArray := method_19_code
def yL_isAct : MethodName := ⟨RL, "isAct", "(LCoinRows;[II)Z"⟩
abbrev cL_law : ByteArray := code
def yL_law : MethodName := ⟨RL, "law", "([I)Z"⟩
abbrev vwCl : List vw_C := [(RX0, TX0, 3), (RX1, TX1, 4), (RX2, TX2, 5), (RX3, TX3, 1), (RX4, TX4, 4), (RX5, TX5, 8)]
