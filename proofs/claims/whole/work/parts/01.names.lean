def lw_okq (q : MethodName × Nat) : Prop := (q.1.cls ≠ "java/lang/invoke/MethodHandle" ∧ q.1.cls ≠ "java/lang/invoke/VarHandle") ∧ Cond.instantiable q.1.cls q.2 ∈ tables_1 ∧ Cond.privateMethod q.1 ∈ tables_1 ∧ Cond.instanceMethod q.1 ∈ tables_1
theorem lw_p0 : lw_okq (⟨"CoinRows", "remember", "()V"⟩, 8) := ⟨⟨by decide +kernel, by decide +kernel⟩, List.mem_of_getElem? (i := 12) (by decide +kernel), List.mem_of_getElem? (i := 175) (by decide +kernel), List.mem_of_getElem? (i := 176) (by decide +kernel)⟩
theorem lw_p1 : lw_okq (⟨"CoinRows$Sums", "sumBeginnings", "(LCoinRows$Model;)V"⟩, 5) := ⟨⟨by decide +kernel, by decide +kernel⟩, List.mem_of_getElem? (i := 70) (by decide +kernel), List.mem_of_getElem? (i := 218) (by decide +kernel), List.mem_of_getElem? (i := 219) (by decide +kernel)⟩
theorem lw_p2 : lw_okq (⟨"CoinRows$Sums", "arrive", "(LCoinRows$Model;II)J"⟩, 5) := ⟨⟨by decide +kernel, by decide +kernel⟩, List.mem_of_getElem? (i := 70) (by decide +kernel), List.mem_of_getElem? (i := 222) (by decide +kernel), List.mem_of_getElem? (i := 223) (by decide +kernel)⟩
theorem lw_p3 : lw_okq (⟨"CoinRows$Sums", "sumRests", "(LCoinRows$Model;)V"⟩, 5) := ⟨⟨by decide +kernel, by decide +kernel⟩, List.mem_of_getElem? (i := 70) (by decide +kernel), List.mem_of_getElem? (i := 234) (by decide +kernel), List.mem_of_getElem? (i := 235) (by decide +kernel)⟩
theorem lw_p4 : lw_okq (⟨"CoinRows$Sums", "sumRestsBehind", "(LCoinRows$Model;II)V"⟩, 5) := ⟨⟨by decide +kernel, by decide +kernel⟩, List.mem_of_getElem? (i := 70) (by decide +kernel), List.mem_of_getElem? (i := 238) (by decide +kernel), List.mem_of_getElem? (i := 239) (by decide +kernel)⟩
theorem lw_p5 : lw_okq (⟨"CoinRows$Trainer", "improveGroup", "(LCoinRows$Model;II)I"⟩, 1) := ⟨⟨by decide +kernel, by decide +kernel⟩, List.mem_of_getElem? (i := 121) (by decide +kernel), List.mem_of_getElem? (i := 271) (by decide +kernel), List.mem_of_getElem? (i := 272) (by decide +kernel)⟩
theorem lw_p6 : lw_okq (⟨"CoinRows$Pad", "readPart", "(LCoinRows$Model;)Z"⟩, 4) := ⟨⟨by decide +kernel, by decide +kernel⟩, List.mem_of_getElem? (i := 47) (by decide +kernel), List.mem_of_getElem? (i := 308) (by decide +kernel), List.mem_of_getElem? (i := 309) (by decide +kernel)⟩
theorem lw_p7 : lw_okq (⟨"CoinRows$Pad", "accept", "(II)Z"⟩, 4) := ⟨⟨by decide +kernel, by decide +kernel⟩, List.mem_of_getElem? (i := 47) (by decide +kernel), List.mem_of_getElem? (i := 312) (by decide +kernel), List.mem_of_getElem? (i := 313) (by decide +kernel)⟩
theorem lw_p8 : lw_okq (⟨"CoinRows$Pad", "readBegin", "(LCoinRows$Model;)Z"⟩, 4) := ⟨⟨by decide +kernel, by decide +kernel⟩, List.mem_of_getElem? (i := 47) (by decide +kernel), List.mem_of_getElem? (i := 316) (by decide +kernel), List.mem_of_getElem? (i := 317) (by decide +kernel)⟩
theorem lw_p9 : lw_okq (⟨"CoinRows$Pad", "latest", "()I"⟩, 4) := ⟨⟨by decide +kernel, by decide +kernel⟩, List.mem_of_getElem? (i := 47) (by decide +kernel), List.mem_of_getElem? (i := 320) (by decide +kernel), List.mem_of_getElem? (i := 321) (by decide +kernel)⟩
theorem lw_p10 : lw_okq (⟨"CoinRows$Pad", "readWeight", "(LCoinRows$Model;II)Z"⟩, 4) := ⟨⟨by decide +kernel, by decide +kernel⟩, List.mem_of_getElem? (i := 47) (by decide +kernel), List.mem_of_getElem? (i := 324) (by decide +kernel), List.mem_of_getElem? (i := 325) (by decide +kernel)⟩
theorem lw_p11 : lw_okq (⟨"CoinRows$Pad", "readRow", "(LCoinRows$Model;)Z"⟩, 4) := ⟨⟨by decide +kernel, by decide +kernel⟩, List.mem_of_getElem? (i := 47) (by decide +kernel), List.mem_of_getElem? (i := 328) (by decide +kernel), List.mem_of_getElem? (i := 329) (by decide +kernel)⟩
theorem lw_p12 : lw_okq (⟨"CoinRows$Pad", "readStep", "(LCoinRows$Model;I)Z"⟩, 4) := ⟨⟨by decide +kernel, by decide +kernel⟩, List.mem_of_getElem? (i := 47) (by decide +kernel), List.mem_of_getElem? (i := 333) (by decide +kernel), List.mem_of_getElem? (i := 334) (by decide +kernel)⟩
theorem lw_p13 : lw_okq (⟨"CoinRows$Pad", "readLetter", "(LCoinRows$Model;I)Z"⟩, 4) := ⟨⟨by decide +kernel, by decide +kernel⟩, List.mem_of_getElem? (i := 47) (by decide +kernel), List.mem_of_getElem? (i := 338) (by decide +kernel), List.mem_of_getElem? (i := 339) (by decide +kernel)⟩
theorem lw_p14 : lw_okq (⟨"CoinRows$Walk", "chooseByNumber", "(LCoinRows$Model;LCoinRows$Sums;III)I"⟩, 4) := ⟨⟨by decide +kernel, by decide +kernel⟩, List.mem_of_getElem? (i := 101) (by decide +kernel), List.mem_of_getElem? (i := 375) (by decide +kernel), List.mem_of_getElem? (i := 376) (by decide +kernel)⟩
theorem lw_p15 : lw_okq (⟨"CoinRows$Walk", "chooseBest", "(LCoinRows$Model;LCoinRows$Sums;II)I"⟩, 4) := ⟨⟨by decide +kernel, by decide +kernel⟩, List.mem_of_getElem? (i := 101) (by decide +kernel), List.mem_of_getElem? (i := 399) (by decide +kernel), List.mem_of_getElem? (i := 400) (by decide +kernel)⟩
def lw_privs_1 : List (MethodName × Nat) := [(⟨"CoinRows", "remember", "()V"⟩, 8), (⟨"CoinRows$Sums", "sumBeginnings", "(LCoinRows$Model;)V"⟩, 5), (⟨"CoinRows$Sums", "arrive", "(LCoinRows$Model;II)J"⟩, 5), (⟨"CoinRows$Sums", "sumRests", "(LCoinRows$Model;)V"⟩, 5), (⟨"CoinRows$Sums", "sumRestsBehind", "(LCoinRows$Model;II)V"⟩, 5), (⟨"CoinRows$Trainer", "improveGroup", "(LCoinRows$Model;II)I"⟩, 1), (⟨"CoinRows$Pad", "readPart", "(LCoinRows$Model;)Z"⟩, 4), (⟨"CoinRows$Pad", "accept", "(II)Z"⟩, 4), (⟨"CoinRows$Pad", "readBegin", "(LCoinRows$Model;)Z"⟩, 4), (⟨"CoinRows$Pad", "latest", "()I"⟩, 4), (⟨"CoinRows$Pad", "readWeight", "(LCoinRows$Model;II)Z"⟩, 4), (⟨"CoinRows$Pad", "readRow", "(LCoinRows$Model;)Z"⟩, 4), (⟨"CoinRows$Pad", "readStep", "(LCoinRows$Model;I)Z"⟩, 4), (⟨"CoinRows$Pad", "readLetter", "(LCoinRows$Model;I)Z"⟩, 4), (⟨"CoinRows$Walk", "chooseByNumber", "(LCoinRows$Model;LCoinRows$Sums;III)I"⟩, 4), (⟨"CoinRows$Walk", "chooseBest", "(LCoinRows$Model;LCoinRows$Sums;II)I"⟩, 4)]
theorem lw_r1 : ∀ q ∈ lw_privs_1, lw_okq q := List.forall_mem_cons.mpr ⟨lw_p0, List.forall_mem_cons.mpr ⟨lw_p1, List.forall_mem_cons.mpr ⟨lw_p2, List.forall_mem_cons.mpr ⟨lw_p3, List.forall_mem_cons.mpr ⟨lw_p4, List.forall_mem_cons.mpr ⟨lw_p5, List.forall_mem_cons.mpr ⟨lw_p6, List.forall_mem_cons.mpr ⟨lw_p7, List.forall_mem_cons.mpr ⟨lw_p8, List.forall_mem_cons.mpr ⟨lw_p9, List.forall_mem_cons.mpr ⟨lw_p10, List.forall_mem_cons.mpr ⟨lw_p11, List.forall_mem_cons.mpr ⟨lw_p12, List.forall_mem_cons.mpr ⟨lw_p13, List.forall_mem_cons.mpr ⟨lw_p14, List.forall_mem_cons.mpr ⟨lw_p15, fun _ h => absurd h List.not_mem_nil⟩⟩⟩⟩⟩⟩⟩⟩⟩⟩⟩⟩⟩⟩⟩⟩
theorem lw_p16 : lw_okq (⟨"CoinRowsModel", "record", "()V"⟩, 16) := ⟨⟨by decide +kernel, by decide +kernel⟩, List.mem_of_getElem? (i := 478) (by decide +kernel), List.mem_of_getElem? (i := 547) (by decide +kernel), List.mem_of_getElem? (i := 548) (by decide +kernel)⟩
theorem lw_p17 : lw_okq (⟨"CoinRowsModel", "isPlace", "(I)Z"⟩, 16) := ⟨⟨by decide +kernel, by decide +kernel⟩, List.mem_of_getElem? (i := 478) (by decide +kernel), List.mem_of_getElem? (i := 567) (by decide +kernel), List.mem_of_getElem? (i := 568) (by decide +kernel)⟩
theorem lw_p18 : lw_okq (⟨"CoinRowsModel", "totalNow", "()J"⟩, 16) := ⟨⟨by decide +kernel, by decide +kernel⟩, List.mem_of_getElem? (i := 478) (by decide +kernel), List.mem_of_getElem? (i := 575) (by decide +kernel), List.mem_of_getElem? (i := 576) (by decide +kernel)⟩
theorem lw_p19 : lw_okq (⟨"CoinRowsModel", "layBehind", "()V"⟩, 16) := ⟨⟨by decide +kernel, by decide +kernel⟩, List.mem_of_getElem? (i := 478) (by decide +kernel), List.mem_of_getElem? (i := 579) (by decide +kernel), List.mem_of_getElem? (i := 580) (by decide +kernel)⟩
theorem lw_p20 : lw_okq (⟨"CoinRowsModel", "layBehindOf", "(II)V"⟩, 16) := ⟨⟨by decide +kernel, by decide +kernel⟩, List.mem_of_getElem? (i := 478) (by decide +kernel), List.mem_of_getElem? (i := 583) (by decide +kernel), List.mem_of_getElem? (i := 584) (by decide +kernel)⟩
theorem lw_p21 : lw_okq (⟨"CoinRowsModel", "step", "(II)I"⟩, 16) := ⟨⟨by decide +kernel, by decide +kernel⟩, List.mem_of_getElem? (i := 478) (by decide +kernel), List.mem_of_getElem? (i := 587) (by decide +kernel), List.mem_of_getElem? (i := 588) (by decide +kernel)⟩
theorem lw_p22 : lw_okq (⟨"CoinRowsModel", "going", "(III)I"⟩, 16) := ⟨⟨by decide +kernel, by decide +kernel⟩, List.mem_of_getElem? (i := 478) (by decide +kernel), List.mem_of_getElem? (i := 591) (by decide +kernel), List.mem_of_getElem? (i := 592) (by decide +kernel)⟩
theorem lw_p23 : lw_okq (⟨"CoinRowsModel", "tells", "(II)I"⟩, 16) := ⟨⟨by decide +kernel, by decide +kernel⟩, List.mem_of_getElem? (i := 478) (by decide +kernel), List.mem_of_getElem? (i := 595) (by decide +kernel), List.mem_of_getElem? (i := 596) (by decide +kernel)⟩
theorem lw_p24 : lw_okq (⟨"CoinRowsModel", "layAhead", "()V"⟩, 16) := ⟨⟨by decide +kernel, by decide +kernel⟩, List.mem_of_getElem? (i := 478) (by decide +kernel), List.mem_of_getElem? (i := 607) (by decide +kernel), List.mem_of_getElem? (i := 608) (by decide +kernel)⟩
theorem lw_p25 : lw_okq (⟨"CoinRowsModel", "addAhead", "(JII)V"⟩, 16) := ⟨⟨by decide +kernel, by decide +kernel⟩, List.mem_of_getElem? (i := 478) (by decide +kernel), List.mem_of_getElem? (i := 611) (by decide +kernel), List.mem_of_getElem? (i := 612) (by decide +kernel)⟩
theorem lw_p26 : lw_okq (⟨"CoinRowsModel", "spread", "(II)V"⟩, 16) := ⟨⟨by decide +kernel, by decide +kernel⟩, List.mem_of_getElem? (i := 478) (by decide +kernel), List.mem_of_getElem? (i := 615) (by decide +kernel), List.mem_of_getElem? (i := 616) (by decide +kernel)⟩
theorem lw_p27 : lw_okq (⟨"CoinRowsModel", "waysNow", "()I"⟩, 16) := ⟨⟨by decide +kernel, by decide +kernel⟩, List.mem_of_getElem? (i := 478) (by decide +kernel), List.mem_of_getElem? (i := 627) (by decide +kernel), List.mem_of_getElem? (i := 628) (by decide +kernel)⟩
theorem lw_p28 : lw_okq (⟨"CoinRowsModel", "isWay", "(I)Z"⟩, 16) := ⟨⟨by decide +kernel, by decide +kernel⟩, List.mem_of_getElem? (i := 478) (by decide +kernel), List.mem_of_getElem? (i := 635) (by decide +kernel), List.mem_of_getElem? (i := 636) (by decide +kernel)⟩
theorem lw_p29 : lw_okq (⟨"CoinRowsModel", "layWay", "(I)I"⟩, 16) := ⟨⟨by decide +kernel, by decide +kernel⟩, List.mem_of_getElem? (i := 478) (by decide +kernel), List.mem_of_getElem? (i := 639) (by decide +kernel), List.mem_of_getElem? (i := 640) (by decide +kernel)⟩
theorem lw_p30 : lw_okq (⟨"CoinRowsModel", "ofLaid", "(I)I"⟩, 16) := ⟨⟨by decide +kernel, by decide +kernel⟩, List.mem_of_getElem? (i := 478) (by decide +kernel), List.mem_of_getElem? (i := 643) (by decide +kernel), List.mem_of_getElem? (i := 644) (by decide +kernel)⟩
theorem lw_p31 : lw_okq (⟨"CoinRowsModel", "through", "(II)J"⟩, 16) := ⟨⟨by decide +kernel, by decide +kernel⟩, List.mem_of_getElem? (i := 478) (by decide +kernel), List.mem_of_getElem? (i := 661) (by decide +kernel), List.mem_of_getElem? (i := 662) (by decide +kernel)⟩
def lw_privs_2 : List (MethodName × Nat) := [(⟨"CoinRowsModel", "record", "()V"⟩, 16), (⟨"CoinRowsModel", "isPlace", "(I)Z"⟩, 16), (⟨"CoinRowsModel", "totalNow", "()J"⟩, 16), (⟨"CoinRowsModel", "layBehind", "()V"⟩, 16), (⟨"CoinRowsModel", "layBehindOf", "(II)V"⟩, 16), (⟨"CoinRowsModel", "step", "(II)I"⟩, 16), (⟨"CoinRowsModel", "going", "(III)I"⟩, 16), (⟨"CoinRowsModel", "tells", "(II)I"⟩, 16), (⟨"CoinRowsModel", "layAhead", "()V"⟩, 16), (⟨"CoinRowsModel", "addAhead", "(JII)V"⟩, 16), (⟨"CoinRowsModel", "spread", "(II)V"⟩, 16), (⟨"CoinRowsModel", "waysNow", "()I"⟩, 16), (⟨"CoinRowsModel", "isWay", "(I)Z"⟩, 16), (⟨"CoinRowsModel", "layWay", "(I)I"⟩, 16), (⟨"CoinRowsModel", "ofLaid", "(I)I"⟩, 16), (⟨"CoinRowsModel", "through", "(II)J"⟩, 16)]
theorem lw_r2 : ∀ q ∈ lw_privs_2, lw_okq q := List.forall_mem_cons.mpr ⟨lw_p16, List.forall_mem_cons.mpr ⟨lw_p17, List.forall_mem_cons.mpr ⟨lw_p18, List.forall_mem_cons.mpr ⟨lw_p19, List.forall_mem_cons.mpr ⟨lw_p20, List.forall_mem_cons.mpr ⟨lw_p21, List.forall_mem_cons.mpr ⟨lw_p22, List.forall_mem_cons.mpr ⟨lw_p23, List.forall_mem_cons.mpr ⟨lw_p24, List.forall_mem_cons.mpr ⟨lw_p25, List.forall_mem_cons.mpr ⟨lw_p26, List.forall_mem_cons.mpr ⟨lw_p27, List.forall_mem_cons.mpr ⟨lw_p28, List.forall_mem_cons.mpr ⟨lw_p29, List.forall_mem_cons.mpr ⟨lw_p30, List.forall_mem_cons.mpr ⟨lw_p31, fun _ h => absurd h List.not_mem_nil⟩⟩⟩⟩⟩⟩⟩⟩⟩⟩⟩⟩⟩⟩⟩⟩
theorem lw_p32 : lw_okq (⟨"CoinRowsModel", "numberOf", "(III)J"⟩, 16) := ⟨⟨by decide +kernel, by decide +kernel⟩, List.mem_of_getElem? (i := 478) (by decide +kernel), List.mem_of_getElem? (i := 679) (by decide +kernel), List.mem_of_getElem? (i := 680) (by decide +kernel)⟩
theorem lw_p33 : lw_okq (⟨"CoinRowsModel", "trainGroup", "(II)I"⟩, 16) := ⟨⟨by decide +kernel, by decide +kernel⟩, List.mem_of_getElem? (i := 478) (by decide +kernel), List.mem_of_getElem? (i := 701) (by decide +kernel), List.mem_of_getElem? (i := 702) (by decide +kernel)⟩
theorem lw_p34 : lw_okq (⟨"CoinRowsModel", "read", "(Z)I"⟩, 16) := ⟨⟨by decide +kernel, by decide +kernel⟩, List.mem_of_getElem? (i := 478) (by decide +kernel), List.mem_of_getElem? (i := 733) (by decide +kernel), List.mem_of_getElem? (i := 734) (by decide +kernel)⟩
theorem lw_p35 : lw_okq (⟨"CoinRowsModel", "lay", "(ZII)V"⟩, 16) := ⟨⟨by decide +kernel, by decide +kernel⟩, List.mem_of_getElem? (i := 478) (by decide +kernel), List.mem_of_getElem? (i := 737) (by decide +kernel), List.mem_of_getElem? (i := 738) (by decide +kernel)⟩
def lw_privs_3 : List (MethodName × Nat) := [(⟨"CoinRowsModel", "numberOf", "(III)J"⟩, 16), (⟨"CoinRowsModel", "trainGroup", "(II)I"⟩, 16), (⟨"CoinRowsModel", "read", "(Z)I"⟩, 16), (⟨"CoinRowsModel", "lay", "(ZII)V"⟩, 16)]
theorem lw_r3 : ∀ q ∈ lw_privs_3, lw_okq q := List.forall_mem_cons.mpr ⟨lw_p32, List.forall_mem_cons.mpr ⟨lw_p33, List.forall_mem_cons.mpr ⟨lw_p34, List.forall_mem_cons.mpr ⟨lw_p35, fun _ h => absurd h List.not_mem_nil⟩⟩⟩⟩
def lw_privs : List (MethodName × Nat) := lw_privs_1 ++ (lw_privs_2 ++ (lw_privs_3))
def lw_tbl : List Cond := k2_sels lw_privs ++ tables_1
theorem lw_privs_ok : ∀ q ∈ lw_privs, lw_okq q := by
  show ∀ q ∈ lw_privs_1 ++ (lw_privs_2 ++ (lw_privs_3)), lw_okq q
  exact List.forall_mem_append.mpr ⟨lw_r1, List.forall_mem_append.mpr ⟨lw_r2, lw_r3⟩⟩
abbrev lw_cs : List Choice := [Jvm.Choice.named "NaN.bits"]
theorem lw_bits : nanBits ∈ lw_cs := by first | decide | exact List.mem_cons_self | simp [lw_cs, nanBits]

def RX0 : String := "CoinRows$Model"
def TX0 : u_T := fun k => match k with
  | 0 => ("CoinRows$Model", "weights", "[I", true)
  | 1 => ("CoinRows$Model", "row", "[I", true)
  | _ => ("CoinRows$Model", "length", "I", false)
def tyX0 : Nat → FieldType := fun k => match k with
  | 0 => .array .int
  | 1 => .array .int
  | _ => .int
abbrev wsX00 : List Cond := u_ws RX0 TX0 3
theorem nmX0 : ∀ a, a < 3 → ∀ b, b < 3 → a ≠ b → (TX0 a).2.1 ≠ (TX0 b).2.1 := by decide +kernel
theorem tyX0_ok : ∀ k, k < 3 → parseFieldDescriptor (TX0 k).2.2.1 = some (tyX0 k) := by decide +kernel
abbrev cX0_init : ByteArray := prog_2_method_1_code
def yX0_init : MethodName := ⟨RX0, "<init>", "()V"⟩
abbrev cX0_copyFrom : ByteArray := prog_2_method_2_code
def yX0_copyFrom : MethodName := ⟨RX0, "copyFrom", "(LCoinRows$Model;)V"⟩
abbrev cX0_hasPlace : ByteArray := prog_2_method_3_code
def yX0_hasPlace : MethodName := ⟨RX0, "hasPlace", "(I)Z"⟩
abbrev cX0_append : ByteArray := prog_2_method_4_code
def yX0_append : MethodName := ⟨RX0, "append", "(I)V"⟩
abbrev cX0_countWeights : ByteArray := prog_2_method_5_code
def yX0_countWeights : MethodName := ⟨RX0, "countWeights", "()I"⟩
abbrev cX0_stepWeight : ByteArray := prog_2_method_6_code
def yX0_stepWeight : MethodName := ⟨RX0, "stepWeight", "(II)I"⟩
abbrev cX0_letterWeight : ByteArray := prog_2_method_7_code
def yX0_letterWeight : MethodName := ⟨RX0, "letterWeight", "(II)I"⟩
abbrev cX0_moveWeight : ByteArray := prog_2_method_8_code
def yX0_moveWeight : MethodName := ⟨RX0, "moveWeight", "(III)I"⟩
def RX1 : String := "CoinRows$Pad"
def TX1 : u_T := fun k => match k with
  | 0 => ("CoinRows$Pad", "signs", "[C", true)
  | 1 => ("CoinRows$Pad", "length", "I", false)
  | 2 => ("CoinRows$Pad", "at", "I", false)
  | _ => ("CoinRows$Pad", "parts", "I", false)
def tyX1 : Nat → FieldType := fun k => match k with
  | 0 => .array .char
  | 1 => .int
  | 2 => .int
  | _ => .int
abbrev wsX10 : List Cond := u_ws RX1 TX1 4
theorem nmX1 : ∀ a, a < 4 → ∀ b, b < 4 → a ≠ b → (TX1 a).2.1 ≠ (TX1 b).2.1 := by decide +kernel
theorem tyX1_ok : ∀ k, k < 4 → parseFieldDescriptor (TX1 k).2.2.1 = some (tyX1 k) := by decide +kernel
abbrev cX1_init : ByteArray := prog_3_method_1_code
def yX1_init : MethodName := ⟨RX1, "<init>", "()V"⟩
abbrev cX1_countSigns : ByteArray := prog_3_method_2_code
def yX1_countSigns : MethodName := ⟨RX1, "countSigns", "(J)I"⟩
abbrev cX1_append : ByteArray := prog_3_method_3_code
def yX1_append : MethodName := ⟨RX1, "append", "(JI)V"⟩
abbrev cX1_clear : ByteArray := prog_3_method_4_code
def yX1_clear : MethodName := ⟨RX1, "clear", "()I"⟩
abbrev cX1_read : ByteArray := prog_3_method_5_code
def yX1_read : MethodName := ⟨RX1, "read", "(LCoinRows$Model;)Z"⟩
abbrev cX1_readPart : ByteArray := prog_3_method_6_code
def yX1_readPart : MethodName := ⟨RX1, "readPart", "(LCoinRows$Model;)Z"⟩
abbrev cX1_readBegin : ByteArray := prog_3_method_7_code
def yX1_readBegin : MethodName := ⟨RX1, "readBegin", "(LCoinRows$Model;)Z"⟩
abbrev cX1_readStep : ByteArray := prog_3_method_8_code
def yX1_readStep : MethodName := ⟨RX1, "readStep", "(LCoinRows$Model;I)Z"⟩
abbrev cX1_readLetter : ByteArray := prog_3_method_9_code
def yX1_readLetter : MethodName := ⟨RX1, "readLetter", "(LCoinRows$Model;I)Z"⟩
abbrev cX1_readWeight : ByteArray := prog_3_method_10_code
def yX1_readWeight : MethodName := ⟨RX1, "readWeight", "(LCoinRows$Model;II)Z"⟩
abbrev cX1_readRow : ByteArray := prog_3_method_11_code
def yX1_readRow : MethodName := ⟨RX1, "readRow", "(LCoinRows$Model;)Z"⟩
abbrev cX1_accept : ByteArray := prog_3_method_12_code
def yX1_accept : MethodName := ⟨RX1, "accept", "(II)Z"⟩
abbrev cX1_latest : ByteArray := prog_3_method_13_code
def yX1_latest : MethodName := ⟨RX1, "latest", "()I"⟩
def RX2 : String := "CoinRows$Sums"
def TX2 : u_T := fun k => match k with
  | 0 => ("CoinRows$Sums", "before", "[[J", true)
  | 1 => ("CoinRows$Sums", "reach", "[[J", true)
  | 2 => ("CoinRows$Sums", "after", "[[J", true)
  | 3 => ("CoinRows$Sums", "best", "[[J", true)
  | _ => ("CoinRows$Sums", "rests", "[[I", true)
def tyX2 : Nat → FieldType := fun k => match k with
  | 0 => .array (.array .long)
  | 1 => .array (.array .long)
  | 2 => .array (.array .long)
  | 3 => .array (.array .long)
  | _ => .array (.array .int)
abbrev wsX20 : List Cond := u_ws RX2 TX2 5
theorem nmX2 : ∀ a, a < 5 → ∀ b, b < 5 → a ≠ b → (TX2 a).2.1 ≠ (TX2 b).2.1 := by decide +kernel
theorem tyX2_ok : ∀ k, k < 5 → parseFieldDescriptor (TX2 k).2.2.1 = some (tyX2 k) := by decide +kernel
abbrev cX2_init : ByteArray := prog_4_method_1_code
def yX2_init : MethodName := ⟨RX2, "<init>", "()V"⟩
abbrev cX2_measure : ByteArray := prog_4_method_2_code
def yX2_measure : MethodName := ⟨RX2, "measure", "(LCoinRows$Model;)V"⟩
abbrev cX2_whole : ByteArray := prog_4_method_3_code
def yX2_whole : MethodName := ⟨RX2, "whole", "()J"⟩
abbrev cX2_number : ByteArray := prog_4_method_4_code
def yX2_number : MethodName := ⟨RX2, "number", "()I"⟩
abbrev cX2_greatest : ByteArray := prog_4_method_5_code
def yX2_greatest : MethodName := ⟨RX2, "greatest", "()J"⟩
abbrev cX2_through : ByteArray := prog_4_method_6_code
def yX2_through : MethodName := ⟨RX2, "through", "(II)J"⟩
abbrev cX2_ofStep : ByteArray := prog_4_method_7_code
def yX2_ofStep : MethodName := ⟨RX2, "ofStep", "(LCoinRows$Model;II)J"⟩
abbrev cX2_ofLetter : ByteArray := prog_4_method_8_code
def yX2_ofLetter : MethodName := ⟨RX2, "ofLetter", "(LCoinRows$Model;II)J"⟩
abbrev cX2_wholeIfNext : ByteArray := prog_4_method_9_code
def yX2_wholeIfNext : MethodName := ⟨RX2, "wholeIfNext", "(LCoinRows$Model;I)J"⟩
abbrev cX2_wholeIfChanged : ByteArray := prog_4_method_10_code
def yX2_wholeIfChanged : MethodName := ⟨RX2, "wholeIfChanged", "(LCoinRows$Model;II)J"⟩
abbrev cX2_sumBeginnings : ByteArray := prog_4_method_11_code
def yX2_sumBeginnings : MethodName := ⟨RX2, "sumBeginnings", "(LCoinRows$Model;)V"⟩
abbrev cX2_arrive : ByteArray := prog_4_method_12_code
def yX2_arrive : MethodName := ⟨RX2, "arrive", "(LCoinRows$Model;II)J"⟩
abbrev cX2_sumRests : ByteArray := prog_4_method_13_code
def yX2_sumRests : MethodName := ⟨RX2, "sumRests", "(LCoinRows$Model;)V"⟩
abbrev cX2_sumRestsBehind : ByteArray := prog_4_method_14_code
def yX2_sumRestsBehind : MethodName := ⟨RX2, "sumRestsBehind", "(LCoinRows$Model;II)V"⟩
def RX3 : String := "CoinRows$Trainer"
def TX3 : u_T := fun k => match k with
  | _ => ("CoinRows$Trainer", "expectations", "[J", true)
def tyX3 : Nat → FieldType := fun k => match k with
  | _ => .array .long
abbrev wsX30 : List Cond := u_ws RX3 TX3 1
theorem nmX3 : ∀ a, a < 1 → ∀ b, b < 1 → a ≠ b → (TX3 a).2.1 ≠ (TX3 b).2.1 := by decide +kernel
theorem tyX3_ok : ∀ k, k < 1 → parseFieldDescriptor (TX3 k).2.2.1 = some (tyX3 k) := by decide +kernel
abbrev cX3_init : ByteArray := prog_5_method_1_code
def yX3_init : MethodName := ⟨RX3, "<init>", "()V"⟩
abbrev cX3_improve : ByteArray := prog_5_method_2_code
def yX3_improve : MethodName := ⟨RX3, "improve", "(LCoinRows$Model;LCoinRows$Sums;)I"⟩
abbrev cX3_improveGroup : ByteArray := prog_5_method_3_code
def yX3_improveGroup : MethodName := ⟨RX3, "improveGroup", "(LCoinRows$Model;II)I"⟩
def RX4 : String := "CoinRows$Walk"
def TX4 : u_T := fun k => match k with
  | 0 => ("CoinRows$Walk", "coins", "[I", true)
  | 1 => ("CoinRows$Walk", "size", "I", false)
  | 2 => ("CoinRows$Walk", "product", "J", false)
  | _ => ("CoinRows$Walk", "skipped", "I", false)
def tyX4 : Nat → FieldType := fun k => match k with
  | 0 => .array .int
  | 1 => .int
  | 2 => .long
  | _ => .int
abbrev wsX40 : List Cond := u_ws RX4 TX4 4
theorem nmX4 : ∀ a, a < 4 → ∀ b, b < 4 → a ≠ b → (TX4 a).2.1 ≠ (TX4 b).2.1 := by decide +kernel
theorem tyX4_ok : ∀ k, k < 4 → parseFieldDescriptor (TX4 k).2.2.1 = some (tyX4 k) := by decide +kernel
abbrev cX4_init : ByteArray := prog_6_method_1_code
def yX4_init : MethodName := ⟨RX4, "<init>", "()V"⟩
abbrev cX4_follow : ByteArray := prog_6_method_2_code
def yX4_follow : MethodName := ⟨RX4, "follow", "(LCoinRows$Model;LCoinRows$Sums;I)V"⟩
abbrev cX4_findBest : ByteArray := prog_6_method_3_code
def yX4_findBest : MethodName := ⟨RX4, "findBest", "(LCoinRows$Model;LCoinRows$Sums;)I"⟩
abbrev cX4_tell : ByteArray := prog_6_method_4_code
def yX4_tell : MethodName := ⟨RX4, "tell", "(I)I"⟩
abbrev cX4_chooseByNumber : ByteArray := prog_6_method_5_code
def yX4_chooseByNumber : MethodName := ⟨RX4, "chooseByNumber", "(LCoinRows$Model;LCoinRows$Sums;III)I"⟩
abbrev cX4_chooseBest : ByteArray := prog_6_method_6_code
def yX4_chooseBest : MethodName := ⟨RX4, "chooseBest", "(LCoinRows$Model;LCoinRows$Sums;II)I"⟩
abbrev cX4_restsThrough : ByteArray := prog_6_method_7_code
def yX4_restsThrough : MethodName := ⟨RX4, "restsThrough", "(LCoinRows$Model;LCoinRows$Sums;III)I"⟩
def RX5 : String := "CoinRows"
def TX5 : u_T := fun k => match k with
  | 0 => ("CoinRows", "model", "LCoinRows$Model;", true)
  | 1 => ("CoinRows", "history", "[LCoinRows$Model;", true)
  | 2 => ("CoinRows", "remembered", "I", false)
  | 3 => ("CoinRows", "slots", "[LCoinRows$Model;", true)
  | 4 => ("CoinRows", "pad", "LCoinRows$Pad;", true)
  | 5 => ("CoinRows", "sums", "LCoinRows$Sums;", true)
  | 6 => ("CoinRows", "walk", "LCoinRows$Walk;", true)
  | _ => ("CoinRows", "trainer", "LCoinRows$Trainer;", true)
def tyX5 : Nat → FieldType := fun k => match k with
  | 0 => .object "CoinRows$Model"
  | 1 => .array (.object "CoinRows$Model")
  | 2 => .int
  | 3 => .array (.object "CoinRows$Model")
  | 4 => .object "CoinRows$Pad"
  | 5 => .object "CoinRows$Sums"
  | 6 => .object "CoinRows$Walk"
  | _ => .object "CoinRows$Trainer"
abbrev wsX50 : List Cond := u_ws RX5 TX5 8
theorem nmX5 : ∀ a, a < 8 → ∀ b, b < 8 → a ≠ b → (TX5 a).2.1 ≠ (TX5 b).2.1 := by decide +kernel
theorem tyX5_ok : ∀ k, k < 8 → parseFieldDescriptor (TX5 k).2.2.1 = some (tyX5 k) := by decide +kernel
abbrev cX5_init : ByteArray := prog_1_method_1_code
def yX5_init : MethodName := ⟨RX5, "<init>", "()V"⟩
abbrev cX5_give : ByteArray := prog_1_method_2_code
def yX5_give : MethodName := ⟨RX5, "give", "(IIII)I"⟩
abbrev cX5_weight : ByteArray := prog_1_method_3_code
def yX5_weight : MethodName := ⟨RX5, "weight", "(III)I"⟩
abbrev cX5_add : ByteArray := prog_1_method_4_code
def yX5_add : MethodName := ⟨RX5, "add", "(I)I"⟩
abbrev cX5_cut : ByteArray := prog_1_method_5_code
def yX5_cut : MethodName := ⟨RX5, "cut", "()I"⟩
abbrev cX5_letter : ByteArray := prog_1_method_6_code
def yX5_letter : MethodName := ⟨RX5, "letter", "(I)I"⟩
abbrev cX5_train : ByteArray := prog_1_method_7_code
def yX5_train : MethodName := ⟨RX5, "train", "()I"⟩
abbrev cX5_put : ByteArray := prog_1_method_8_code
def yX5_put : MethodName := ⟨RX5, "put", "(J)I"⟩
abbrev cX5_wipe : ByteArray := prog_1_method_9_code
def yX5_wipe : MethodName := ⟨RX5, "wipe", "()I"⟩
abbrev cX5_fault : ByteArray := prog_1_method_10_code
def yX5_fault : MethodName := ⟨RX5, "fault", "()I"⟩
abbrev cX5_load : ByteArray := prog_1_method_11_code
def yX5_load : MethodName := ⟨RX5, "load", "()I"⟩
abbrev cX5_total : ByteArray := prog_1_method_12_code
def yX5_total : MethodName := ⟨RX5, "total", "()J"⟩
abbrev cX5_forward : ByteArray := prog_1_method_13_code
def yX5_forward : MethodName := ⟨RX5, "forward", "(II)J"⟩
abbrev cX5_backward : ByteArray := prog_1_method_14_code
def yX5_backward : MethodName := ⟨RX5, "backward", "(II)J"⟩
abbrev cX5_ways : ByteArray := prog_1_method_15_code
def yX5_ways : MethodName := ⟨RX5, "ways", "()I"⟩
abbrev cX5_way : ByteArray := prog_1_method_16_code
def yX5_way : MethodName := ⟨RX5, "way", "(II)I"⟩
abbrev cX5_weighs : ByteArray := prog_1_method_17_code
def yX5_weighs : MethodName := ⟨RX5, "weighs", "(I)J"⟩
abbrev cX5_likeliest : ByteArray := prog_1_method_18_code
def yX5_likeliest : MethodName := ⟨RX5, "likeliest", "(I)I"⟩
abbrev cX5_odds : ByteArray := prog_1_method_19_code
def yX5_odds : MethodName := ⟨RX5, "odds", "(III)J"⟩
abbrev cX5_likelyAt : ByteArray := prog_1_method_20_code
def yX5_likelyAt : MethodName := ⟨RX5, "likelyAt", "(I)I"⟩
abbrev cX5_expected : ByteArray := prog_1_method_21_code
def yX5_expected : MethodName := ⟨RX5, "expected", "(IIII)J"⟩
abbrev cX5_shareBits : ByteArray := prog_1_method_22_code
def yX5_shareBits : MethodName := ⟨RX5, "shareBits", "()I"⟩
abbrev cX5_next : ByteArray := prog_1_method_23_code
def yX5_next : MethodName := ⟨RX5, "next", "(I)J"⟩
abbrev cX5_slip : ByteArray := prog_1_method_24_code
def yX5_slip : MethodName := ⟨RX5, "slip", "(I)J"⟩
abbrev cX5_count : ByteArray := prog_1_method_25_code
def yX5_count : MethodName := ⟨RX5, "count", "(I)I"⟩
abbrev cX5_undo : ByteArray := prog_1_method_26_code
def yX5_undo : MethodName := ⟨RX5, "undo", "()I"⟩
abbrev cX5_save : ByteArray := prog_1_method_27_code
def yX5_save : MethodName := ⟨RX5, "save", "(I)I"⟩
abbrev cX5_restore : ByteArray := prog_1_method_28_code
def yX5_restore : MethodName := ⟨RX5, "restore", "(I)I"⟩
abbrev cX5_remember : ByteArray := prog_1_method_29_code
def yX5_remember : MethodName := ⟨RX5, "remember", "()V"⟩
abbrev cX5_isKind : ByteArray := prog_1_method_30_code
def yX5_isKind : MethodName := ⟨RX5, "isKind", "(I)Z"⟩
abbrev cX5_isPart : ByteArray := prog_1_method_31_code
def yX5_isPart : MethodName := ⟨RX5, "isPart", "(I)Z"⟩
abbrev cX5_isLoud : ByteArray := prog_1_method_32_code
def yX5_isLoud : MethodName := ⟨RX5, "isLoud", "(I)Z"⟩
abbrev cX5_isCoin : ByteArray := prog_1_method_33_code
def yX5_isCoin : MethodName := ⟨RX5, "isCoin", "(I)Z"⟩
abbrev cX5_isBarred : ByteArray := prog_1_method_34_code
def yX5_isBarred : MethodName := ⟨RX5, "isBarred", "(II)Z"⟩
abbrev cX5_indexOf : ByteArray := prog_1_method_35_code
def yX5_indexOf : MethodName := ⟨RX5, "indexOf", "(III)I"⟩
abbrev cX5_inLowestTerms : ByteArray := prog_1_method_36_code
def yX5_inLowestTerms : MethodName := ⟨RX5, "inLowestTerms", "(JJI)J"⟩
abbrev cX5_commonDivisor : ByteArray := prog_1_method_37_code
def yX5_commonDivisor : MethodName := ⟨RX5, "commonDivisor", "(JJ)J"⟩
abbrev cX5_bitsOf : ByteArray := prog_1_method_38_code
def yX5_bitsOf : MethodName := ⟨RX5, "bitsOf", "(F)I"⟩
def RX6 : String := "CoinRowsModel"
def TX6 : u_T := fun k => match k with
  | 0 => ("CoinRowsModel", "now", "[I", true)
  | 1 => ("CoinRowsModel", "history", "[I", true)
  | 2 => ("CoinRowsModel", "undos", "I", false)
  | 3 => ("CoinRowsModel", "saved", "[I", true)
  | 4 => ("CoinRowsModel", "isSaved", "[Z", true)
  | 5 => ("CoinRowsModel", "pad", "[I", true)
  | 6 => ("CoinRowsModel", "signs", "I", false)
  | 7 => ("CoinRowsModel", "ahead", "[J", true)
  | 8 => ("CoinRowsModel", "behind", "[J", true)
  | 9 => ("CoinRowsModel", "many", "[I", true)
  | 10 => ("CoinRowsModel", "heaviest", "[J", true)
  | 11 => ("CoinRowsModel", "coins", "[I", true)
  | 12 => ("CoinRowsModel", "length", "I", false)
  | 13 => ("CoinRowsModel", "weighs", "J", false)
  | 14 => ("CoinRowsModel", "numbers", "[J", true)
  | _ => ("CoinRowsModel", "parts", "I", false)
def tyX6 : Nat → FieldType := fun k => match k with
  | 0 => .array .int
  | 1 => .array .int
  | 2 => .int
  | 3 => .array .int
  | 4 => .array .boolean
  | 5 => .array .int
  | 6 => .int
  | 7 => .array .long
  | 8 => .array .long
  | 9 => .array .int
  | 10 => .array .long
  | 11 => .array .int
  | 12 => .int
  | 13 => .long
  | 14 => .array .long
  | _ => .int
abbrev wsX60 : List Cond := u_ws RX6 TX6 16
theorem nmX6 : ∀ a, a < 16 → ∀ b, b < 16 → a ≠ b → (TX6 a).2.1 ≠ (TX6 b).2.1 := by decide +kernel
theorem tyX6_ok : ∀ k, k < 16 → parseFieldDescriptor (TX6 k).2.2.1 = some (tyX6 k) := by decide +kernel
abbrev cX6_init : ByteArray := prog_8_method_1_code
def yX6_init : MethodName := ⟨RX6, "<init>", "()V"⟩
abbrev cX6_in : ByteArray := prog_8_method_2_code
def yX6_in : MethodName := ⟨RX6, "in", "(III)Z"⟩
abbrev cX6_record : ByteArray := prog_8_method_3_code
def yX6_record : MethodName := ⟨RX6, "record", "()V"⟩
abbrev cX6_placeOf : ByteArray := prog_8_method_4_code
def yX6_placeOf : MethodName := ⟨RX6, "placeOf", "(III)I"⟩
abbrev cX6_isNought : ByteArray := prog_8_method_5_code
def yX6_isNought : MethodName := ⟨RX6, "isNought", "(II)Z"⟩
abbrev cX6_give : ByteArray := prog_8_method_6_code
def yX6_give : MethodName := ⟨RX6, "give", "(IIII)I"⟩
abbrev cX6_weight : ByteArray := prog_8_method_7_code
def yX6_weight : MethodName := ⟨RX6, "weight", "(III)I"⟩
abbrev cX6_add : ByteArray := prog_8_method_8_code
def yX6_add : MethodName := ⟨RX6, "add", "(I)I"⟩
abbrev cX6_cut : ByteArray := prog_8_method_9_code
def yX6_cut : MethodName := ⟨RX6, "cut", "()I"⟩
abbrev cX6_isPlace : ByteArray := prog_8_method_10_code
def yX6_isPlace : MethodName := ⟨RX6, "isPlace", "(I)Z"⟩
abbrev cX6_letter : ByteArray := prog_8_method_11_code
def yX6_letter : MethodName := ⟨RX6, "letter", "(I)I"⟩
abbrev cX6_step : ByteArray := prog_8_method_12_code
def yX6_step : MethodName := ⟨RX6, "step", "(II)I"⟩
abbrev cX6_tells : ByteArray := prog_8_method_13_code
def yX6_tells : MethodName := ⟨RX6, "tells", "(II)I"⟩
abbrev cX6_going : ByteArray := prog_8_method_14_code
def yX6_going : MethodName := ⟨RX6, "going", "(III)I"⟩
abbrev cX6_toldThen : ByteArray := prog_8_method_15_code
def yX6_toldThen : MethodName := ⟨RX6, "toldThen", "(II)I"⟩
abbrev cX6_addAhead : ByteArray := prog_8_method_16_code
def yX6_addAhead : MethodName := ⟨RX6, "addAhead", "(JII)V"⟩
abbrev cX6_spread : ByteArray := prog_8_method_17_code
def yX6_spread : MethodName := ⟨RX6, "spread", "(II)V"⟩
abbrev cX6_layAhead : ByteArray := prog_8_method_18_code
def yX6_layAhead : MethodName := ⟨RX6, "layAhead", "()V"⟩
abbrev cX6_layBehindOf : ByteArray := prog_8_method_19_code
def yX6_layBehindOf : MethodName := ⟨RX6, "layBehindOf", "(II)V"⟩
abbrev cX6_layBehind : ByteArray := prog_8_method_20_code
def yX6_layBehind : MethodName := ⟨RX6, "layBehind", "()V"⟩
abbrev cX6_totalNow : ByteArray := prog_8_method_21_code
def yX6_totalNow : MethodName := ⟨RX6, "totalNow", "()J"⟩
abbrev cX6_total : ByteArray := prog_8_method_22_code
def yX6_total : MethodName := ⟨RX6, "total", "()J"⟩
abbrev cX6_forward : ByteArray := prog_8_method_23_code
def yX6_forward : MethodName := ⟨RX6, "forward", "(II)J"⟩
abbrev cX6_backward : ByteArray := prog_8_method_24_code
def yX6_backward : MethodName := ⟨RX6, "backward", "(II)J"⟩
abbrev cX6_waysNow : ByteArray := prog_8_method_25_code
def yX6_waysNow : MethodName := ⟨RX6, "waysNow", "()I"⟩
abbrev cX6_layWay : ByteArray := prog_8_method_26_code
def yX6_layWay : MethodName := ⟨RX6, "layWay", "(I)I"⟩
abbrev cX6_ways : ByteArray := prog_8_method_27_code
def yX6_ways : MethodName := ⟨RX6, "ways", "()I"⟩
abbrev cX6_isWay : ByteArray := prog_8_method_28_code
def yX6_isWay : MethodName := ⟨RX6, "isWay", "(I)Z"⟩
abbrev cX6_ofLaid : ByteArray := prog_8_method_29_code
def yX6_ofLaid : MethodName := ⟨RX6, "ofLaid", "(I)I"⟩
abbrev cX6_way : ByteArray := prog_8_method_30_code
def yX6_way : MethodName := ⟨RX6, "way", "(II)I"⟩
abbrev cX6_weighs : ByteArray := prog_8_method_31_code
def yX6_weighs : MethodName := ⟨RX6, "weighs", "(I)J"⟩
abbrev cX6_likeliest : ByteArray := prog_8_method_32_code
def yX6_likeliest : MethodName := ⟨RX6, "likeliest", "(I)I"⟩
abbrev cX6_divisor : ByteArray := prog_8_method_33_code
def yX6_divisor : MethodName := ⟨RX6, "divisor", "(JJ)J"⟩
abbrev cX6_lowest : ByteArray := prog_8_method_34_code
def yX6_lowest : MethodName := ⟨RX6, "lowest", "(JJI)J"⟩
abbrev cX6_through : ByteArray := prog_8_method_35_code
def yX6_through : MethodName := ⟨RX6, "through", "(II)J"⟩
abbrev cX6_odds : ByteArray := prog_8_method_36_code
def yX6_odds : MethodName := ⟨RX6, "odds", "(III)J"⟩
abbrev cX6_likelyAt : ByteArray := prog_8_method_37_code
def yX6_likelyAt : MethodName := ⟨RX6, "likelyAt", "(I)I"⟩
abbrev cX6_numberOf : ByteArray := prog_8_method_38_code
def yX6_numberOf : MethodName := ⟨RX6, "numberOf", "(III)J"⟩
abbrev cX6_expected : ByteArray := prog_8_method_39_code
def yX6_expected : MethodName := ⟨RX6, "expected", "(IIII)J"⟩
abbrev cX6_shareBits : ByteArray := prog_8_method_40_code
def yX6_shareBits : MethodName := ⟨RX6, "shareBits", "()I"⟩
abbrev cX6_trainGroup : ByteArray := prog_8_method_41_code
def yX6_trainGroup : MethodName := ⟨RX6, "trainGroup", "(II)I"⟩
abbrev cX6_train : ByteArray := prog_8_method_42_code
def yX6_train : MethodName := ⟨RX6, "train", "()I"⟩
abbrev cX6_next : ByteArray := prog_8_method_43_code
def yX6_next : MethodName := ⟨RX6, "next", "(I)J"⟩
abbrev cX6_slip : ByteArray := prog_8_method_44_code
def yX6_slip : MethodName := ⟨RX6, "slip", "(I)J"⟩
abbrev cX6_count : ByteArray := prog_8_method_45_code
def yX6_count : MethodName := ⟨RX6, "count", "(I)I"⟩
abbrev cX6_read : ByteArray := prog_8_method_46_code
def yX6_read : MethodName := ⟨RX6, "read", "(Z)I"⟩
abbrev cX6_lay : ByteArray := prog_8_method_47_code
def yX6_lay : MethodName := ⟨RX6, "lay", "(ZII)V"⟩
abbrev cX6_put : ByteArray := prog_8_method_48_code
def yX6_put : MethodName := ⟨RX6, "put", "(J)I"⟩
abbrev cX6_wipe : ByteArray := prog_8_method_49_code
def yX6_wipe : MethodName := ⟨RX6, "wipe", "()I"⟩
abbrev cX6_fault : ByteArray := prog_8_method_50_code
def yX6_fault : MethodName := ⟨RX6, "fault", "()I"⟩
abbrev cX6_load : ByteArray := prog_8_method_51_code
def yX6_load : MethodName := ⟨RX6, "load", "()I"⟩
abbrev cX6_undo : ByteArray := prog_8_method_52_code
def yX6_undo : MethodName := ⟨RX6, "undo", "()I"⟩
abbrev cX6_save : ByteArray := prog_8_method_53_code
def yX6_save : MethodName := ⟨RX6, "save", "(I)I"⟩
abbrev cX6_restore : ByteArray := prog_8_method_54_code
def yX6_restore : MethodName := ⟨RX6, "restore", "(I)I"⟩
def RL : String := "CoinRowsLaw"
abbrev cL_law : ByteArray := code
def yL_law : MethodName := ⟨RL, "law", "([I)Z"⟩
abbrev vwCl : List vw_C := [(RX0, TX0, 3), (RX1, TX1, 4), (RX2, TX2, 5), (RX3, TX3, 1), (RX4, TX4, 4), (RX5, TX5, 8), (RX6, TX6, 16)]
