section
theorem zw_multi : True := by
  have h := @Jvm.Stand.multianewarray2F
  trivial
end
section
def lw_okq (q : MethodName × Nat) : Prop := (q.1.cls ≠ "java/lang/invoke/MethodHandle" ∧ q.1.cls ≠ "java/lang/invoke/VarHandle") ∧ Cond.instantiable q.1.cls q.2 ∈ tables_1 ∧ Cond.privateMethod q.1 ∈ tables_1 ∧ Cond.instanceMethod q.1 ∈ tables_1
theorem lw_p0 : lw_okq (⟨"CoinRows", "remember", "()V"⟩, 8) := ⟨⟨by decide +kernel, by decide +kernel⟩, List.mem_of_getElem? (i := 12) (by decide +kernel), List.mem_of_getElem? (i := 175) (by decide +kernel), List.mem_of_getElem? (i := 176) (by decide +kernel)⟩
theorem lw_p1 : lw_okq (⟨"CoinRows$Sums", "sumBeginnings", "(LCoinRows$Model;)V"⟩, 5) := ⟨⟨by decide +kernel, by decide +kernel⟩, List.mem_of_getElem? (i := 70) (by decide +kernel), List.mem_of_getElem? (i := 218) (by decide +kernel), List.mem_of_getElem? (i := 219) (by decide +kernel)⟩
theorem lw_p2 : lw_okq (⟨"CoinRows$Sums", "arrive", "(LCoinRows$Model;II)J"⟩, 5) := ⟨⟨by decide +kernel, by decide +kernel⟩, List.mem_of_getElem? (i := 70) (by decide +kernel), List.mem_of_getElem? (i := 222) (by decide +kernel), List.mem_of_getElem? (i := 223) (by decide +kernel)⟩
theorem lw_p3 : lw_okq (⟨"CoinRows$Sums", "sumRests", "(LCoinRows$Model;)V"⟩, 5) := ⟨⟨by decide +kernel, by decide +kernel⟩, List.mem_of_getElem? (i := 70) (by decide +kernel), List.mem_of_getElem? (i := 234) (by decide +kernel), List.mem_of_getElem? (i := 235) (by decide +kernel)⟩
theorem lw_p4 : lw_okq (⟨"CoinRows$Sums", "sumRestsBehind", "(LCoinRows$Model;II)V"⟩, 5) := ⟨⟨by decide +kernel, by decide +kernel⟩, List.mem_of_getElem? (i := 70) (by decide +kernel), List.mem_of_getElem? (i := 238) (by decide +kernel), List.mem_of_getElem? (i := 239) (by decide +kernel)⟩
theorem lw_p5 : lw_okq (⟨"CoinRows$Trainer", "improveGroup", "(LCoinRows$Model;II)I"⟩, 1) := ⟨⟨by decide +kernel, by decide +kernel⟩, List.mem_of_getElem? (i := 121) (by decide +kernel), List.mem_of_getElem? (i := 271) (by decide +kernel), List.mem_of_getElem? (i := 272) (by decide +kernel)⟩
theorem lw_p6 : lw_okq (⟨"CoinRows$Pad", "readPart", "(LCoinRows$Model;)Z"⟩, 4) := ⟨⟨by decide +kernel, by decide +kernel⟩, List.mem_of_getElem? (i := 47) (by decide +kernel), List.mem_of_getElem? (i := 308) (by decide +kernel), List.mem_of_getElem? (i := 309) (by decide +kernel)⟩
theorem lw_p7 : lw_okq (⟨"CoinRows$Pad", "accept", "(II)Z"⟩, 4) := ⟨⟨by decide +kernel, by decide +kernel⟩, List.mem_of_getElem? (i := 47) (by decide +kernel), List.mem_of_getElem? (i := 312) (by decide +kernel), List.mem_of_getElem? (i := 313) (by decide +kernel)⟩
theorem lw_p8 : lw_okq (⟨"CoinRows$Pad", "readBegin", "(LCoinRows$Model;)Z"⟩, 4) := ⟨⟨by decide +kernel, by decide +kernel⟩, List.mem_of_getElem? (i := 47) (by decide +kernel), List.mem_of_getElem? (i := 316) (by decide +kernel), List.mem_of_getElem? (i := 317) (by decide +kernel)⟩
theorem lw_p9 : lw_okq (⟨"CoinRows$Pad", "latest", "()I"⟩, 4) := ⟨⟨by decide +kernel, by decide +kernel⟩, List.mem_of_getElem? (i := 47) (by decide +kernel), List.mem_of_getElem? (i := 320) (by decide +kernel), List.mem_of_getElem? (i := 321) (by decide +kernel)⟩
theorem lw_p10 : lw_okq (⟨"CoinRows$Pad", "readWeight", "(LCoinRows$Model;II)Z"⟩, 4) := ⟨⟨by decide +kernel, by decide +kernel⟩, List.mem_of_getElem? (i := 47) (by decide +kernel), List.mem_of_getElem? (i := 324) (by decide +kernel), List.mem_of_getElem? (i := 325) (by decide +kernel)⟩
theorem lw_p11 : lw_okq (⟨"CoinRows$Pad", "readRow", "(LCoinRows$Model;)Z"⟩, 4) := ⟨⟨by decide +kernel, by decide +kernel⟩, List.mem_of_getElem? (i := 47) (by decide +kernel), List.mem_of_getElem? (i := 328) (by decide +kernel), List.mem_of_getElem? (i := 329) (by decide +kernel)⟩
theorem lw_p12 : lw_okq (⟨"CoinRows$Pad", "readStep", "(LCoinRows$Model;I)Z"⟩, 4) := ⟨⟨by decide +kernel, by decide +kernel⟩, List.mem_of_getElem? (i := 47) (by decide +kernel), List.mem_of_getElem? (i := 333) (by decide +kernel), List.mem_of_getElem? (i := 334) (by decide +kernel)⟩
theorem lw_p13 : lw_okq (⟨"CoinRows$Pad", "readLetter", "(LCoinRows$Model;I)Z"⟩, 4) := ⟨⟨by decide +kernel, by decide +kernel⟩, List.mem_of_getElem? (i := 47) (by decide +kernel), List.mem_of_getElem? (i := 338) (by decide +kernel), List.mem_of_getElem? (i := 339) (by decide +kernel)⟩
theorem lw_p14 : lw_okq (⟨"CoinRows$Walk", "chooseByNumber", "(LCoinRows$Model;LCoinRows$Sums;III)I"⟩, 4) := ⟨⟨by decide +kernel, by decide +kernel⟩, List.mem_of_getElem? (i := 101) (by decide +kernel), List.mem_of_getElem? (i := 375) (by decide +kernel), List.mem_of_getElem? (i := 376) (by decide +kernel)⟩
theorem lw_p15 : lw_okq (⟨"CoinRows$Walk", "chooseBest", "(LCoinRows$Model;LCoinRows$Sums;II)I"⟩, 4) := ⟨⟨by decide +kernel, by decide +kernel⟩, List.mem_of_getElem? (i := 101) (by decide +kernel), List.mem_of_getElem? (i := 399) (by decide +kernel), List.mem_of_getElem? (i := 400) (by decide +kernel)⟩
def lw_privs_1 : List (MethodName × Nat) := [(⟨"CoinRows", "remember", "()V"⟩, 8), (⟨"CoinRows$Sums", "sumBeginnings", "(LCoinRows$Model;)V"⟩, 5), (⟨"CoinRows$Sums", "arrive", "(LCoinRows$Model;II)J"⟩, 5), (⟨"CoinRows$Sums", "sumRests", "(LCoinRows$Model;)V"⟩, 5), (⟨"CoinRows$Sums", "sumRestsBehind", "(LCoinRows$Model;II)V"⟩, 5), (⟨"CoinRows$Trainer", "improveGroup", "(LCoinRows$Model;II)I"⟩, 1), (⟨"CoinRows$Pad", "readPart", "(LCoinRows$Model;)Z"⟩, 4), (⟨"CoinRows$Pad", "accept", "(II)Z"⟩, 4), (⟨"CoinRows$Pad", "readBegin", "(LCoinRows$Model;)Z"⟩, 4), (⟨"CoinRows$Pad", "latest", "()I"⟩, 4), (⟨"CoinRows$Pad", "readWeight", "(LCoinRows$Model;II)Z"⟩, 4), (⟨"CoinRows$Pad", "readRow", "(LCoinRows$Model;)Z"⟩, 4), (⟨"CoinRows$Pad", "readStep", "(LCoinRows$Model;I)Z"⟩, 4), (⟨"CoinRows$Pad", "readLetter", "(LCoinRows$Model;I)Z"⟩, 4), (⟨"CoinRows$Walk", "chooseByNumber", "(LCoinRows$Model;LCoinRows$Sums;III)I"⟩, 4), (⟨"CoinRows$Walk", "chooseBest", "(LCoinRows$Model;LCoinRows$Sums;II)I"⟩, 4)]
theorem lw_r1 : ∀ q ∈ lw_privs_1, lw_okq q := List.forall_mem_cons.mpr ⟨lw_p0, List.forall_mem_cons.mpr ⟨lw_p1, List.forall_mem_cons.mpr ⟨lw_p2, List.forall_mem_cons.mpr ⟨lw_p3, List.forall_mem_cons.mpr ⟨lw_p4, List.forall_mem_cons.mpr ⟨lw_p5, List.forall_mem_cons.mpr ⟨lw_p6, List.forall_mem_cons.mpr ⟨lw_p7, List.forall_mem_cons.mpr ⟨lw_p8, List.forall_mem_cons.mpr ⟨lw_p9, List.forall_mem_cons.mpr ⟨lw_p10, List.forall_mem_cons.mpr ⟨lw_p11, List.forall_mem_cons.mpr ⟨lw_p12, List.forall_mem_cons.mpr ⟨lw_p13, List.forall_mem_cons.mpr ⟨lw_p14, List.forall_mem_cons.mpr ⟨lw_p15, fun _ h => absurd h List.not_mem_nil⟩⟩⟩⟩⟩⟩⟩⟩⟩⟩⟩⟩⟩⟩⟩⟩
theorem lw_p16 : lw_okq (⟨"CoinRowsModel", "record", "()V"⟩, 16) := ⟨⟨by decide +kernel, by decide +kernel⟩, List.mem_of_getElem? (i := 478) (by decide +kernel), List.mem_of_getElem? (i := 547) (by decide +kernel), List.mem_of_getElem? (i := 548) (by decide +kernel)⟩
theorem lw_p17 : lw_okq (⟨"CoinRowsModel", "isPlace", "(I)Z"⟩, 16) := ⟨⟨by decide +kernel, by decide +kernel⟩, List.mem_of_getElem? (i := 478) (by decide +kernel), List.mem_of_getElem? (i := 567) (by decide +kernel), List.mem_of_getElem? (i := 568) (by decide +kernel)⟩
theorem lw_p18 : lw_okq (⟨"CoinRowsModel", "totalNow", "()J"⟩, 16) := ⟨⟨by decide +kernel, by decide +kernel⟩, List.mem_of_getElem? (i := 478) (by decide +kernel), List.mem_of_getElem? (i := 575) (by decide +kernel), List.mem_of_getElem? (i := 576) (by decide +kernel)⟩
theorem lw_p19 : lw_okq (⟨"CoinRowsModel", "layBehind", "()V"⟩, 16) := ⟨⟨by decide +kernel, by decide +kernel⟩, List.mem_of_getElem? (i := 478) (by decide +kernel), List.mem_of_getElem? (i := 579) (by decide +kernel), List.mem_of_getElem? (i := 580) (by decide +kernel)⟩
theorem lw_p20 : lw_okq (⟨"CoinRowsModel", "layBehindOf", "(II)V"⟩, 16) := ⟨⟨by decide +kernel, by decide +kernel⟩, List.mem_of_getElem? (i := 478) (by decide +kernel), List.mem_of_getElem? (i := 583) (by decide +kernel), List.mem_of_getElem? (i := 584) (by decide +kernel)⟩
theorem lw_p21 : lw_okq (⟨"CoinRowsModel", "step", "(II)I"⟩, 16) := ⟨⟨by decide +kernel, by decide +kernel⟩, List.mem_of_getElem? (i := 478) (by decide +kernel), List.mem_of_getElem? (i := 587) (by decide +kernel), List.mem_of_getElem? (i := 588) (by decide +kernel)⟩
theorem lw_p22 : lw_okq (⟨"CoinRowsModel", "going", "(III)I"⟩, 16) := ⟨⟨by decide +kernel, by decide +kernel⟩, List.mem_of_getElem? (i := 478) (by decide +kernel), List.mem_of_getElem? (i := 591) (by decide +kernel), List.mem_of_getElem? (i := 592) (by decide +kernel)⟩
theorem lw_p23 : lw_okq (⟨"CoinRowsModel", "tells", "(II)I"⟩, 16) := ⟨⟨by decide +kernel, by decide +kernel⟩, List.mem_of_getElem? (i := 478) (by decide +kernel), List.mem_of_getElem? (i := 595) (by decide +kernel), List.mem_of_getElem? (i := 596) (by decide +kernel)⟩
theorem lw_p24 : lw_okq (⟨"CoinRowsModel", "layAhead", "()V"⟩, 16) := ⟨⟨by decide +kernel, by decide +kernel⟩, List.mem_of_getElem? (i := 478) (by decide +kernel), List.mem_of_getElem? (i := 607) (by decide +kernel), List.mem_of_getElem? (i := 608) (by decide +kernel)⟩
theorem lw_p25 : lw_okq (⟨"CoinRowsModel", "addAhead", "(JII)V"⟩, 16) := ⟨⟨by decide +kernel, by decide +kernel⟩, List.mem_of_getElem? (i := 478) (by decide +kernel), List.mem_of_getElem? (i := 611) (by decide +kernel), List.mem_of_getElem? (i := 612) (by decide +kernel)⟩
theorem lw_p26 : lw_okq (⟨"CoinRowsModel", "spread", "(II)V"⟩, 16) := ⟨⟨by decide +kernel, by decide +kernel⟩, List.mem_of_getElem? (i := 478) (by decide +kernel), List.mem_of_getElem? (i := 615) (by decide +kernel), List.mem_of_getElem? (i := 616) (by decide +kernel)⟩
theorem lw_p27 : lw_okq (⟨"CoinRowsModel", "waysNow", "()I"⟩, 16) := ⟨⟨by decide +kernel, by decide +kernel⟩, List.mem_of_getElem? (i := 478) (by decide +kernel), List.mem_of_getElem? (i := 627) (by decide +kernel), List.mem_of_getElem? (i := 628) (by decide +kernel)⟩
theorem lw_p28 : lw_okq (⟨"CoinRowsModel", "isWay", "(I)Z"⟩, 16) := ⟨⟨by decide +kernel, by decide +kernel⟩, List.mem_of_getElem? (i := 478) (by decide +kernel), List.mem_of_getElem? (i := 635) (by decide +kernel), List.mem_of_getElem? (i := 636) (by decide +kernel)⟩
theorem lw_p29 : lw_okq (⟨"CoinRowsModel", "layWay", "(I)I"⟩, 16) := ⟨⟨by decide +kernel, by decide +kernel⟩, List.mem_of_getElem? (i := 478) (by decide +kernel), List.mem_of_getElem? (i := 639) (by decide +kernel), List.mem_of_getElem? (i := 640) (by decide +kernel)⟩
theorem lw_p30 : lw_okq (⟨"CoinRowsModel", "ofLaid", "(I)I"⟩, 16) := ⟨⟨by decide +kernel, by decide +kernel⟩, List.mem_of_getElem? (i := 478) (by decide +kernel), List.mem_of_getElem? (i := 643) (by decide +kernel), List.mem_of_getElem? (i := 644) (by decide +kernel)⟩
theorem lw_p31 : lw_okq (⟨"CoinRowsModel", "through", "(II)J"⟩, 16) := ⟨⟨by decide +kernel, by decide +kernel⟩, List.mem_of_getElem? (i := 478) (by decide +kernel), List.mem_of_getElem? (i := 661) (by decide +kernel), List.mem_of_getElem? (i := 662) (by decide +kernel)⟩
def lw_privs_2 : List (MethodName × Nat) := [(⟨"CoinRowsModel", "record", "()V"⟩, 16), (⟨"CoinRowsModel", "isPlace", "(I)Z"⟩, 16), (⟨"CoinRowsModel", "totalNow", "()J"⟩, 16), (⟨"CoinRowsModel", "layBehind", "()V"⟩, 16), (⟨"CoinRowsModel", "layBehindOf", "(II)V"⟩, 16), (⟨"CoinRowsModel", "step", "(II)I"⟩, 16), (⟨"CoinRowsModel", "going", "(III)I"⟩, 16), (⟨"CoinRowsModel", "tells", "(II)I"⟩, 16), (⟨"CoinRowsModel", "layAhead", "()V"⟩, 16), (⟨"CoinRowsModel", "addAhead", "(JII)V"⟩, 16), (⟨"CoinRowsModel", "spread", "(II)V"⟩, 16), (⟨"CoinRowsModel", "waysNow", "()I"⟩, 16), (⟨"CoinRowsModel", "isWay", "(I)Z"⟩, 16), (⟨"CoinRowsModel", "layWay", "(I)I"⟩, 16), (⟨"CoinRowsModel", "ofLaid", "(I)I"⟩, 16), (⟨"CoinRowsModel", "through", "(II)J"⟩, 16)]
theorem lw_r2 : ∀ q ∈ lw_privs_2, lw_okq q := List.forall_mem_cons.mpr ⟨lw_p16, List.forall_mem_cons.mpr ⟨lw_p17, List.forall_mem_cons.mpr ⟨lw_p18, List.forall_mem_cons.mpr ⟨lw_p19, List.forall_mem_cons.mpr ⟨lw_p20, List.forall_mem_cons.mpr ⟨lw_p21, List.forall_mem_cons.mpr ⟨lw_p22, List.forall_mem_cons.mpr ⟨lw_p23, List.forall_mem_cons.mpr ⟨lw_p24, List.forall_mem_cons.mpr ⟨lw_p25, List.forall_mem_cons.mpr ⟨lw_p26, List.forall_mem_cons.mpr ⟨lw_p27, List.forall_mem_cons.mpr ⟨lw_p28, List.forall_mem_cons.mpr ⟨lw_p29, List.forall_mem_cons.mpr ⟨lw_p30, List.forall_mem_cons.mpr ⟨lw_p31, fun _ h => absurd h List.not_mem_nil⟩⟩⟩⟩⟩⟩⟩⟩⟩⟩⟩⟩⟩⟩⟩⟩
theorem lw_p32 : lw_okq (⟨"CoinRowsModel", "numberOf", "(III)J"⟩, 16) := ⟨⟨by decide +kernel, by decide +kernel⟩, List.mem_of_getElem? (i := 478) (by decide +kernel), List.mem_of_getElem? (i := 679) (by decide +kernel), List.mem_of_getElem? (i := 680) (by decide +kernel)⟩
theorem lw_p33 : lw_okq (⟨"CoinRowsModel", "trainGroup", "(II)I"⟩, 16) := ⟨⟨by decide +kernel, by decide +kernel⟩, List.mem_of_getElem? (i := 478) (by decide +kernel), List.mem_of_getElem? (i := 701) (by decide +kernel), List.mem_of_getElem? (i := 702) (by decide +kernel)⟩
theorem lw_p34 : lw_okq (⟨"CoinRowsModel", "read", "(Z)I"⟩, 16) := ⟨⟨by decide +kernel, by decide +kernel⟩, List.mem_of_getElem? (i := 478) (by decide +kernel), List.mem_of_getElem? (i := 733) (by decide +kernel), List.mem_of_getElem? (i := 734) (by decide +kernel)⟩
theorem lw_p35 : lw_okq (⟨"CoinRowsModel", "lay", "(ZII)V"⟩, 16) := ⟨⟨by decide +kernel, by decide +kernel⟩, List.mem_of_getElem? (i := 478) (by decide +kernel), List.mem_of_getElem? (i := 737) (by decide +kernel), List.mem_of_getElem? (i := 738) (by decide +kernel)⟩
def lw_privs_3 : List (MethodName × Nat) := [(⟨"CoinRowsModel", "numberOf", "(III)J"⟩, 16), (⟨"CoinRowsModel", "trainGroup", "(II)I"⟩, 16), (⟨"CoinRowsModel", "read", "(Z)I"⟩, 16), (⟨"CoinRowsModel", "lay", "(ZII)V"⟩, 16)]
theorem lw_r3 : ∀ q ∈ lw_privs_3, lw_okq q := List.forall_mem_cons.mpr ⟨lw_p32, List.forall_mem_cons.mpr ⟨lw_p33, List.forall_mem_cons.mpr ⟨lw_p34, List.forall_mem_cons.mpr ⟨lw_p35, fun _ h => absurd h List.not_mem_nil⟩⟩⟩⟩
def lw_privs : List (MethodName × Nat) := lw_privs_1 ++ (lw_privs_2 ++ (lw_privs_3))
def lw_tbl : List Cond := k2_sels lw_privs ++ tables_1
theorem lw_privs_ok : ∀ q ∈ lw_privs, lw_okq q := by
  show ∀ q ∈ lw_privs_1 ++ (lw_privs_2 ++ (lw_privs_3)), lw_okq q
  exact List.forall_mem_append.mpr ⟨lw_r1, List.forall_mem_append.mpr ⟨lw_r2, lw_r3⟩⟩
abbrev lw_cs : List Choice := [Jvm.Choice.named "NaN.bits"]
theorem lw_bits : nanBits ∈ lw_cs := by first | decide | exact List.mem_cons_self | simp [lw_cs, nanBits]

def RX0 : String := "CoinRows$Model"
def TX0 : u_T := fun k => match k with
  | 0 => ("CoinRows$Model", "weights", "[I", true)
  | 1 => ("CoinRows$Model", "row", "[I", true)
  | _ => ("CoinRows$Model", "length", "I", false)
def tyX0 : Nat → FieldType := fun k => match k with
  | 0 => .array .int
  | 1 => .array .int
  | _ => .int
abbrev wsX00 : List Cond := u_ws RX0 TX0 3
theorem nmX0 : ∀ a, a < 3 → ∀ b, b < 3 → a ≠ b → (TX0 a).2.1 ≠ (TX0 b).2.1 := by decide +kernel
theorem tyX0_ok : ∀ k, k < 3 → parseFieldDescriptor (TX0 k).2.2.1 = some (tyX0 k) := by decide +kernel
abbrev cX0_init : ByteArray := prog_2_method_1_code
def yX0_init : MethodName := ⟨RX0, "<init>", "()V"⟩
abbrev cX0_copyFrom : ByteArray := prog_2_method_2_code
def yX0_copyFrom : MethodName := ⟨RX0, "copyFrom", "(LCoinRows$Model;)V"⟩
abbrev cX0_hasPlace : ByteArray := prog_2_method_3_code
def yX0_hasPlace : MethodName := ⟨RX0, "hasPlace", "(I)Z"⟩
abbrev cX0_append : ByteArray := prog_2_method_4_code
def yX0_append : MethodName := ⟨RX0, "append", "(I)V"⟩
abbrev cX0_countWeights : ByteArray := prog_2_method_5_code
def yX0_countWeights : MethodName := ⟨RX0, "countWeights", "()I"⟩
abbrev cX0_stepWeight : ByteArray := prog_2_method_6_code
def yX0_stepWeight : MethodName := ⟨RX0, "stepWeight", "(II)I"⟩
abbrev cX0_letterWeight : ByteArray := prog_2_method_7_code
def yX0_letterWeight : MethodName := ⟨RX0, "letterWeight", "(II)I"⟩
abbrev cX0_moveWeight : ByteArray := prog_2_method_8_code
def yX0_moveWeight : MethodName := ⟨RX0, "moveWeight", "(III)I"⟩
def RX1 : String := "CoinRows$Pad"
def TX1 : u_T := fun k => match k with
  | 0 => ("CoinRows$Pad", "signs", "[C", true)
  | 1 => ("CoinRows$Pad", "length", "I", false)
  | 2 => ("CoinRows$Pad", "at", "I", false)
  | _ => ("CoinRows$Pad", "parts", "I", false)
def tyX1 : Nat → FieldType := fun k => match k with
  | 0 => .array .char
  | 1 => .int
  | 2 => .int
  | _ => .int
abbrev wsX10 : List Cond := u_ws RX1 TX1 4
theorem nmX1 : ∀ a, a < 4 → ∀ b, b < 4 → a ≠ b → (TX1 a).2.1 ≠ (TX1 b).2.1 := by decide +kernel
theorem tyX1_ok : ∀ k, k < 4 → parseFieldDescriptor (TX1 k).2.2.1 = some (tyX1 k) := by decide +kernel
abbrev cX1_init : ByteArray := prog_3_method_1_code
def yX1_init : MethodName := ⟨RX1, "<init>", "()V"⟩
abbrev cX1_countSigns : ByteArray := prog_3_method_2_code
def yX1_countSigns : MethodName := ⟨RX1, "countSigns", "(J)I"⟩
abbrev cX1_append : ByteArray := prog_3_method_3_code
def yX1_append : MethodName := ⟨RX1, "append", "(JI)V"⟩
abbrev cX1_clear : ByteArray := prog_3_method_4_code
def yX1_clear : MethodName := ⟨RX1, "clear", "()I"⟩
abbrev cX1_read : ByteArray := prog_3_method_5_code
def yX1_read : MethodName := ⟨RX1, "read", "(LCoinRows$Model;)Z"⟩
abbrev cX1_readPart : ByteArray := prog_3_method_6_code
def yX1_readPart : MethodName := ⟨RX1, "readPart", "(LCoinRows$Model;)Z"⟩
abbrev cX1_readBegin : ByteArray := prog_3_method_7_code
def yX1_readBegin : MethodName := ⟨RX1, "readBegin", "(LCoinRows$Model;)Z"⟩
abbrev cX1_readStep : ByteArray := prog_3_method_8_code
def yX1_readStep : MethodName := ⟨RX1, "readStep", "(LCoinRows$Model;I)Z"⟩
abbrev cX1_readLetter : ByteArray := prog_3_method_9_code
def yX1_readLetter : MethodName := ⟨RX1, "readLetter", "(LCoinRows$Model;I)Z"⟩
abbrev cX1_readWeight : ByteArray := prog_3_method_10_code
def yX1_readWeight : MethodName := ⟨RX1, "readWeight", "(LCoinRows$Model;II)Z"⟩
abbrev cX1_readRow : ByteArray := prog_3_method_11_code
def yX1_readRow : MethodName := ⟨RX1, "readRow", "(LCoinRows$Model;)Z"⟩
abbrev cX1_accept : ByteArray := prog_3_method_12_code
def yX1_accept : MethodName := ⟨RX1, "accept", "(II)Z"⟩
abbrev cX1_latest : ByteArray := prog_3_method_13_code
def yX1_latest : MethodName := ⟨RX1, "latest", "()I"⟩
def RX2 : String := "CoinRows$Sums"
def TX2 : u_T := fun k => match k with
  | 0 => ("CoinRows$Sums", "before", "[[J", true)
  | 1 => ("CoinRows$Sums", "reach", "[[J", true)
  | 2 => ("CoinRows$Sums", "after", "[[J", true)
  | 3 => ("CoinRows$Sums", "best", "[[J", true)
  | _ => ("CoinRows$Sums", "rests", "[[I", true)
def tyX2 : Nat → FieldType := fun k => match k with
  | 0 => .array (.array .long)
  | 1 => .array (.array .long)
  | 2 => .array (.array .long)
  | 3 => .array (.array .long)
  | _ => .array (.array .int)
abbrev wsX20 : List Cond := u_ws RX2 TX2 5
theorem nmX2 : ∀ a, a < 5 → ∀ b, b < 5 → a ≠ b → (TX2 a).2.1 ≠ (TX2 b).2.1 := by decide +kernel
theorem tyX2_ok : ∀ k, k < 5 → parseFieldDescriptor (TX2 k).2.2.1 = some (tyX2 k) := by decide +kernel
abbrev cX2_init : ByteArray := prog_4_method_1_code
def yX2_init : MethodName := ⟨RX2, "<init>", "()V"⟩
abbrev cX2_measure : ByteArray := prog_4_method_2_code
def yX2_measure : MethodName := ⟨RX2, "measure", "(LCoinRows$Model;)V"⟩
abbrev cX2_whole : ByteArray := prog_4_method_3_code
def yX2_whole : MethodName := ⟨RX2, "whole", "()J"⟩
abbrev cX2_number : ByteArray := prog_4_method_4_code
def yX2_number : MethodName := ⟨RX2, "number", "()I"⟩
abbrev cX2_greatest : ByteArray := prog_4_method_5_code
def yX2_greatest : MethodName := ⟨RX2, "greatest", "()J"⟩
abbrev cX2_through : ByteArray := prog_4_method_6_code
def yX2_through : MethodName := ⟨RX2, "through", "(II)J"⟩
abbrev cX2_ofStep : ByteArray := prog_4_method_7_code
def yX2_ofStep : MethodName := ⟨RX2, "ofStep", "(LCoinRows$Model;II)J"⟩
abbrev cX2_ofLetter : ByteArray := prog_4_method_8_code
def yX2_ofLetter : MethodName := ⟨RX2, "ofLetter", "(LCoinRows$Model;II)J"⟩
abbrev cX2_wholeIfNext : ByteArray := prog_4_method_9_code
def yX2_wholeIfNext : MethodName := ⟨RX2, "wholeIfNext", "(LCoinRows$Model;I)J"⟩
abbrev cX2_wholeIfChanged : ByteArray := prog_4_method_10_code
def yX2_wholeIfChanged : MethodName := ⟨RX2, "wholeIfChanged", "(LCoinRows$Model;II)J"⟩
abbrev cX2_sumBeginnings : ByteArray := prog_4_method_11_code
def yX2_sumBeginnings : MethodName := ⟨RX2, "sumBeginnings", "(LCoinRows$Model;)V"⟩
abbrev cX2_arrive : ByteArray := prog_4_method_12_code
def yX2_arrive : MethodName := ⟨RX2, "arrive", "(LCoinRows$Model;II)J"⟩
abbrev cX2_sumRests : ByteArray := prog_4_method_13_code
def yX2_sumRests : MethodName := ⟨RX2, "sumRests", "(LCoinRows$Model;)V"⟩
abbrev cX2_sumRestsBehind : ByteArray := prog_4_method_14_code
def yX2_sumRestsBehind : MethodName := ⟨RX2, "sumRestsBehind", "(LCoinRows$Model;II)V"⟩
def RX3 : String := "CoinRows$Trainer"
def TX3 : u_T := fun k => match k with
  | _ => ("CoinRows$Trainer", "expectations", "[J", true)
def tyX3 : Nat → FieldType := fun k => match k with
  | _ => .array .long
abbrev wsX30 : List Cond := u_ws RX3 TX3 1
theorem nmX3 : ∀ a, a < 1 → ∀ b, b < 1 → a ≠ b → (TX3 a).2.1 ≠ (TX3 b).2.1 := by decide +kernel
theorem tyX3_ok : ∀ k, k < 1 → parseFieldDescriptor (TX3 k).2.2.1 = some (tyX3 k) := by decide +kernel
abbrev cX3_init : ByteArray := prog_5_method_1_code
def yX3_init : MethodName := ⟨RX3, "<init>", "()V"⟩
abbrev cX3_improve : ByteArray := prog_5_method_2_code
def yX3_improve : MethodName := ⟨RX3, "improve", "(LCoinRows$Model;LCoinRows$Sums;)I"⟩
abbrev cX3_improveGroup : ByteArray := prog_5_method_3_code
def yX3_improveGroup : MethodName := ⟨RX3, "improveGroup", "(LCoinRows$Model;II)I"⟩
def RX4 : String := "CoinRows$Walk"
def TX4 : u_T := fun k => match k with
  | 0 => ("CoinRows$Walk", "coins", "[I", true)
  | 1 => ("CoinRows$Walk", "size", "I", false)
  | 2 => ("CoinRows$Walk", "product", "J", false)
  | _ => ("CoinRows$Walk", "skipped", "I", false)
def tyX4 : Nat → FieldType := fun k => match k with
  | 0 => .array .int
  | 1 => .int
  | 2 => .long
  | _ => .int
abbrev wsX40 : List Cond := u_ws RX4 TX4 4
theorem nmX4 : ∀ a, a < 4 → ∀ b, b < 4 → a ≠ b → (TX4 a).2.1 ≠ (TX4 b).2.1 := by decide +kernel
theorem tyX4_ok : ∀ k, k < 4 → parseFieldDescriptor (TX4 k).2.2.1 = some (tyX4 k) := by decide +kernel
abbrev cX4_init : ByteArray := prog_6_method_1_code
def yX4_init : MethodName := ⟨RX4, "<init>", "()V"⟩
abbrev cX4_follow : ByteArray := prog_6_method_2_code
def yX4_follow : MethodName := ⟨RX4, "follow", "(LCoinRows$Model;LCoinRows$Sums;I)V"⟩
abbrev cX4_findBest : ByteArray := prog_6_method_3_code
def yX4_findBest : MethodName := ⟨RX4, "findBest", "(LCoinRows$Model;LCoinRows$Sums;)I"⟩
abbrev cX4_tell : ByteArray := prog_6_method_4_code
def yX4_tell : MethodName := ⟨RX4, "tell", "(I)I"⟩
abbrev cX4_chooseByNumber : ByteArray := prog_6_method_5_code
def yX4_chooseByNumber : MethodName := ⟨RX4, "chooseByNumber", "(LCoinRows$Model;LCoinRows$Sums;III)I"⟩
abbrev cX4_chooseBest : ByteArray := prog_6_method_6_code
def yX4_chooseBest : MethodName := ⟨RX4, "chooseBest", "(LCoinRows$Model;LCoinRows$Sums;II)I"⟩
abbrev cX4_restsThrough : ByteArray := prog_6_method_7_code
def yX4_restsThrough : MethodName := ⟨RX4, "restsThrough", "(LCoinRows$Model;LCoinRows$Sums;III)I"⟩
def RX5 : String := "CoinRows"
def TX5 : u_T := fun k => match k with
  | 0 => ("CoinRows", "model", "LCoinRows$Model;", true)
  | 1 => ("CoinRows", "history", "[LCoinRows$Model;", true)
  | 2 => ("CoinRows", "remembered", "I", false)
  | 3 => ("CoinRows", "slots", "[LCoinRows$Model;", true)
  | 4 => ("CoinRows", "pad", "LCoinRows$Pad;", true)
  | 5 => ("CoinRows", "sums", "LCoinRows$Sums;", true)
  | 6 => ("CoinRows", "walk", "LCoinRows$Walk;", true)
  | _ => ("CoinRows", "trainer", "LCoinRows$Trainer;", true)
def tyX5 : Nat → FieldType := fun k => match k with
  | 0 => .object "CoinRows$Model"
  | 1 => .array (.object "CoinRows$Model")
  | 2 => .int
  | 3 => .array (.object "CoinRows$Model")
  | 4 => .object "CoinRows$Pad"
  | 5 => .object "CoinRows$Sums"
  | 6 => .object "CoinRows$Walk"
  | _ => .object "CoinRows$Trainer"
abbrev wsX50 : List Cond := u_ws RX5 TX5 8
theorem nmX5 : ∀ a, a < 8 → ∀ b, b < 8 → a ≠ b → (TX5 a).2.1 ≠ (TX5 b).2.1 := by decide +kernel
theorem tyX5_ok : ∀ k, k < 8 → parseFieldDescriptor (TX5 k).2.2.1 = some (tyX5 k) := by decide +kernel
abbrev cX5_init : ByteArray := prog_1_method_1_code
def yX5_init : MethodName := ⟨RX5, "<init>", "()V"⟩
abbrev cX5_give : ByteArray := prog_1_method_2_code
def yX5_give : MethodName := ⟨RX5, "give", "(IIII)I"⟩
abbrev cX5_weight : ByteArray := prog_1_method_3_code
def yX5_weight : MethodName := ⟨RX5, "weight", "(III)I"⟩
abbrev cX5_add : ByteArray := prog_1_method_4_code
def yX5_add : MethodName := ⟨RX5, "add", "(I)I"⟩
abbrev cX5_cut : ByteArray := prog_1_method_5_code
def yX5_cut : MethodName := ⟨RX5, "cut", "()I"⟩
abbrev cX5_letter : ByteArray := prog_1_method_6_code
def yX5_letter : MethodName := ⟨RX5, "letter", "(I)I"⟩
abbrev cX5_train : ByteArray := prog_1_method_7_code
def yX5_train : MethodName := ⟨RX5, "train", "()I"⟩
abbrev cX5_put : ByteArray := prog_1_method_8_code
def yX5_put : MethodName := ⟨RX5, "put", "(J)I"⟩
abbrev cX5_wipe : ByteArray := prog_1_method_9_code
def yX5_wipe : MethodName := ⟨RX5, "wipe", "()I"⟩
abbrev cX5_fault : ByteArray := prog_1_method_10_code
def yX5_fault : MethodName := ⟨RX5, "fault", "()I"⟩
abbrev cX5_load : ByteArray := prog_1_method_11_code
def yX5_load : MethodName := ⟨RX5, "load", "()I"⟩
abbrev cX5_total : ByteArray := prog_1_method_12_code
def yX5_total : MethodName := ⟨RX5, "total", "()J"⟩
abbrev cX5_forward : ByteArray := prog_1_method_13_code
def yX5_forward : MethodName := ⟨RX5, "forward", "(II)J"⟩
abbrev cX5_backward : ByteArray := prog_1_method_14_code
def yX5_backward : MethodName := ⟨RX5, "backward", "(II)J"⟩
abbrev cX5_ways : ByteArray := prog_1_method_15_code
def yX5_ways : MethodName := ⟨RX5, "ways", "()I"⟩
abbrev cX5_way : ByteArray := prog_1_method_16_code
def yX5_way : MethodName := ⟨RX5, "way", "(II)I"⟩
abbrev cX5_weighs : ByteArray := prog_1_method_17_code
def yX5_weighs : MethodName := ⟨RX5, "weighs", "(I)J"⟩
abbrev cX5_likeliest : ByteArray := prog_1_method_18_code
def yX5_likeliest : MethodName := ⟨RX5, "likeliest", "(I)I"⟩
abbrev cX5_odds : ByteArray := prog_1_method_19_code
def yX5_odds : MethodName := ⟨RX5, "odds", "(III)J"⟩
abbrev cX5_likelyAt : ByteArray := prog_1_method_20_code
def yX5_likelyAt : MethodName := ⟨RX5, "likelyAt", "(I)I"⟩
abbrev cX5_expected : ByteArray := prog_1_method_21_code
def yX5_expected : MethodName := ⟨RX5, "expected", "(IIII)J"⟩
abbrev cX5_shareBits : ByteArray := prog_1_method_22_code
def yX5_shareBits : MethodName := ⟨RX5, "shareBits", "()I"⟩
abbrev cX5_next : ByteArray := prog_1_method_23_code
def yX5_next : MethodName := ⟨RX5, "next", "(I)J"⟩
abbrev cX5_slip : ByteArray := prog_1_method_24_code
def yX5_slip : MethodName := ⟨RX5, "slip", "(I)J"⟩
abbrev cX5_count : ByteArray := prog_1_method_25_code
def yX5_count : MethodName := ⟨RX5, "count", "(I)I"⟩
abbrev cX5_undo : ByteArray := prog_1_method_26_code
def yX5_undo : MethodName := ⟨RX5, "undo", "()I"⟩
abbrev cX5_save : ByteArray := prog_1_method_27_code
def yX5_save : MethodName := ⟨RX5, "save", "(I)I"⟩
abbrev cX5_restore : ByteArray := prog_1_method_28_code
def yX5_restore : MethodName := ⟨RX5, "restore", "(I)I"⟩
abbrev cX5_remember : ByteArray := prog_1_method_29_code
def yX5_remember : MethodName := ⟨RX5, "remember", "()V"⟩
abbrev cX5_isKind : ByteArray := prog_1_method_30_code
def yX5_isKind : MethodName := ⟨RX5, "isKind", "(I)Z"⟩
abbrev cX5_isPart : ByteArray := prog_1_method_31_code
def yX5_isPart : MethodName := ⟨RX5, "isPart", "(I)Z"⟩
abbrev cX5_isLoud : ByteArray := prog_1_method_32_code
def yX5_isLoud : MethodName := ⟨RX5, "isLoud", "(I)Z"⟩
abbrev cX5_isCoin : ByteArray := prog_1_method_33_code
def yX5_isCoin : MethodName := ⟨RX5, "isCoin", "(I)Z"⟩
abbrev cX5_isBarred : ByteArray := prog_1_method_34_code
def yX5_isBarred : MethodName := ⟨RX5, "isBarred", "(II)Z"⟩
abbrev cX5_indexOf : ByteArray := prog_1_method_35_code
def yX5_indexOf : MethodName := ⟨RX5, "indexOf", "(III)I"⟩
abbrev cX5_inLowestTerms : ByteArray := prog_1_method_36_code
def yX5_inLowestTerms : MethodName := ⟨RX5, "inLowestTerms", "(JJI)J"⟩
abbrev cX5_commonDivisor : ByteArray := prog_1_method_37_code
def yX5_commonDivisor : MethodName := ⟨RX5, "commonDivisor", "(JJ)J"⟩
abbrev cX5_bitsOf : ByteArray := prog_1_method_38_code
def yX5_bitsOf : MethodName := ⟨RX5, "bitsOf", "(F)I"⟩
def RX6 : String := "CoinRowsModel"
def TX6 : u_T := fun k => match k with
  | 0 => ("CoinRowsModel", "now", "[I", true)
  | 1 => ("CoinRowsModel", "history", "[I", true)
  | 2 => ("CoinRowsModel", "undos", "I", false)
  | 3 => ("CoinRowsModel", "saved", "[I", true)
  | 4 => ("CoinRowsModel", "isSaved", "[Z", true)
  | 5 => ("CoinRowsModel", "pad", "[I", true)
  | 6 => ("CoinRowsModel", "signs", "I", false)
  | 7 => ("CoinRowsModel", "ahead", "[J", true)
  | 8 => ("CoinRowsModel", "behind", "[J", true)
  | 9 => ("CoinRowsModel", "many", "[I", true)
  | 10 => ("CoinRowsModel", "heaviest", "[J", true)
  | 11 => ("CoinRowsModel", "coins", "[I", true)
  | 12 => ("CoinRowsModel", "length", "I", false)
  | 13 => ("CoinRowsModel", "weighs", "J", false)
  | 14 => ("CoinRowsModel", "numbers", "[J", true)
  | _ => ("CoinRowsModel", "parts", "I", false)
def tyX6 : Nat → FieldType := fun k => match k with
  | 0 => .array .int
  | 1 => .array .int
  | 2 => .int
  | 3 => .array .int
  | 4 => .array .boolean
  | 5 => .array .int
  | 6 => .int
  | 7 => .array .long
  | 8 => .array .long
  | 9 => .array .int
  | 10 => .array .long
  | 11 => .array .int
  | 12 => .int
  | 13 => .long
  | 14 => .array .long
  | _ => .int
abbrev wsX60 : List Cond := u_ws RX6 TX6 16
theorem nmX6 : ∀ a, a < 16 → ∀ b, b < 16 → a ≠ b → (TX6 a).2.1 ≠ (TX6 b).2.1 := by decide +kernel
theorem tyX6_ok : ∀ k, k < 16 → parseFieldDescriptor (TX6 k).2.2.1 = some (tyX6 k) := by decide +kernel
abbrev cX6_init : ByteArray := prog_8_method_1_code
def yX6_init : MethodName := ⟨RX6, "<init>", "()V"⟩
abbrev cX6_in : ByteArray := prog_8_method_2_code
def yX6_in : MethodName := ⟨RX6, "in", "(III)Z"⟩
abbrev cX6_record : ByteArray := prog_8_method_3_code
def yX6_record : MethodName := ⟨RX6, "record", "()V"⟩
abbrev cX6_placeOf : ByteArray := prog_8_method_4_code
def yX6_placeOf : MethodName := ⟨RX6, "placeOf", "(III)I"⟩
abbrev cX6_isNought : ByteArray := prog_8_method_5_code
def yX6_isNought : MethodName := ⟨RX6, "isNought", "(II)Z"⟩
abbrev cX6_give : ByteArray := prog_8_method_6_code
def yX6_give : MethodName := ⟨RX6, "give", "(IIII)I"⟩
abbrev cX6_weight : ByteArray := prog_8_method_7_code
def yX6_weight : MethodName := ⟨RX6, "weight", "(III)I"⟩
abbrev cX6_add : ByteArray := prog_8_method_8_code
def yX6_add : MethodName := ⟨RX6, "add", "(I)I"⟩
abbrev cX6_cut : ByteArray := prog_8_method_9_code
def yX6_cut : MethodName := ⟨RX6, "cut", "()I"⟩
abbrev cX6_isPlace : ByteArray := prog_8_method_10_code
def yX6_isPlace : MethodName := ⟨RX6, "isPlace", "(I)Z"⟩
abbrev cX6_letter : ByteArray := prog_8_method_11_code
def yX6_letter : MethodName := ⟨RX6, "letter", "(I)I"⟩
abbrev cX6_step : ByteArray := prog_8_method_12_code
def yX6_step : MethodName := ⟨RX6, "step", "(II)I"⟩
abbrev cX6_tells : ByteArray := prog_8_method_13_code
def yX6_tells : MethodName := ⟨RX6, "tells", "(II)I"⟩
abbrev cX6_going : ByteArray := prog_8_method_14_code
def yX6_going : MethodName := ⟨RX6, "going", "(III)I"⟩
abbrev cX6_toldThen : ByteArray := prog_8_method_15_code
def yX6_toldThen : MethodName := ⟨RX6, "toldThen", "(II)I"⟩
abbrev cX6_addAhead : ByteArray := prog_8_method_16_code
def yX6_addAhead : MethodName := ⟨RX6, "addAhead", "(JII)V"⟩
abbrev cX6_spread : ByteArray := prog_8_method_17_code
def yX6_spread : MethodName := ⟨RX6, "spread", "(II)V"⟩
abbrev cX6_layAhead : ByteArray := prog_8_method_18_code
def yX6_layAhead : MethodName := ⟨RX6, "layAhead", "()V"⟩
abbrev cX6_layBehindOf : ByteArray := prog_8_method_19_code
def yX6_layBehindOf : MethodName := ⟨RX6, "layBehindOf", "(II)V"⟩
abbrev cX6_layBehind : ByteArray := prog_8_method_20_code
def yX6_layBehind : MethodName := ⟨RX6, "layBehind", "()V"⟩
abbrev cX6_totalNow : ByteArray := prog_8_method_21_code
def yX6_totalNow : MethodName := ⟨RX6, "totalNow", "()J"⟩
abbrev cX6_total : ByteArray := prog_8_method_22_code
def yX6_total : MethodName := ⟨RX6, "total", "()J"⟩
abbrev cX6_forward : ByteArray := prog_8_method_23_code
def yX6_forward : MethodName := ⟨RX6, "forward", "(II)J"⟩
abbrev cX6_backward : ByteArray := prog_8_method_24_code
def yX6_backward : MethodName := ⟨RX6, "backward", "(II)J"⟩
abbrev cX6_waysNow : ByteArray := prog_8_method_25_code
def yX6_waysNow : MethodName := ⟨RX6, "waysNow", "()I"⟩
abbrev cX6_layWay : ByteArray := prog_8_method_26_code
def yX6_layWay : MethodName := ⟨RX6, "layWay", "(I)I"⟩
abbrev cX6_ways : ByteArray := prog_8_method_27_code
def yX6_ways : MethodName := ⟨RX6, "ways", "()I"⟩
abbrev cX6_isWay : ByteArray := prog_8_method_28_code
def yX6_isWay : MethodName := ⟨RX6, "isWay", "(I)Z"⟩
abbrev cX6_ofLaid : ByteArray := prog_8_method_29_code
def yX6_ofLaid : MethodName := ⟨RX6, "ofLaid", "(I)I"⟩
abbrev cX6_way : ByteArray := prog_8_method_30_code
def yX6_way : MethodName := ⟨RX6, "way", "(II)I"⟩
abbrev cX6_weighs : ByteArray := prog_8_method_31_code
def yX6_weighs : MethodName := ⟨RX6, "weighs", "(I)J"⟩
abbrev cX6_likeliest : ByteArray := prog_8_method_32_code
def yX6_likeliest : MethodName := ⟨RX6, "likeliest", "(I)I"⟩
abbrev cX6_divisor : ByteArray := prog_8_method_33_code
def yX6_divisor : MethodName := ⟨RX6, "divisor", "(JJ)J"⟩
abbrev cX6_lowest : ByteArray := prog_8_method_34_code
def yX6_lowest : MethodName := ⟨RX6, "lowest", "(JJI)J"⟩
abbrev cX6_through : ByteArray := prog_8_method_35_code
def yX6_through : MethodName := ⟨RX6, "through", "(II)J"⟩
abbrev cX6_odds : ByteArray := prog_8_method_36_code
def yX6_odds : MethodName := ⟨RX6, "odds", "(III)J"⟩
abbrev cX6_likelyAt : ByteArray := prog_8_method_37_code
def yX6_likelyAt : MethodName := ⟨RX6, "likelyAt", "(I)I"⟩
abbrev cX6_numberOf : ByteArray := prog_8_method_38_code
def yX6_numberOf : MethodName := ⟨RX6, "numberOf", "(III)J"⟩
abbrev cX6_expected : ByteArray := prog_8_method_39_code
def yX6_expected : MethodName := ⟨RX6, "expected", "(IIII)J"⟩
abbrev cX6_shareBits : ByteArray := prog_8_method_40_code
def yX6_shareBits : MethodName := ⟨RX6, "shareBits", "()I"⟩
abbrev cX6_trainGroup : ByteArray := prog_8_method_41_code
def yX6_trainGroup : MethodName := ⟨RX6, "trainGroup", "(II)I"⟩
abbrev cX6_train : ByteArray := prog_8_method_42_code
def yX6_train : MethodName := ⟨RX6, "train", "()I"⟩
abbrev cX6_next : ByteArray := prog_8_method_43_code
def yX6_next : MethodName := ⟨RX6, "next", "(I)J"⟩
abbrev cX6_slip : ByteArray := prog_8_method_44_code
def yX6_slip : MethodName := ⟨RX6, "slip", "(I)J"⟩
abbrev cX6_count : ByteArray := prog_8_method_45_code
def yX6_count : MethodName := ⟨RX6, "count", "(I)I"⟩
abbrev cX6_read : ByteArray := prog_8_method_46_code
def yX6_read : MethodName := ⟨RX6, "read", "(Z)I"⟩
abbrev cX6_lay : ByteArray := prog_8_method_47_code
def yX6_lay : MethodName := ⟨RX6, "lay", "(ZII)V"⟩
abbrev cX6_put : ByteArray := prog_8_method_48_code
def yX6_put : MethodName := ⟨RX6, "put", "(J)I"⟩
abbrev cX6_wipe : ByteArray := prog_8_method_49_code
def yX6_wipe : MethodName := ⟨RX6, "wipe", "()I"⟩
abbrev cX6_fault : ByteArray := prog_8_method_50_code
def yX6_fault : MethodName := ⟨RX6, "fault", "()I"⟩
abbrev cX6_load : ByteArray := prog_8_method_51_code
def yX6_load : MethodName := ⟨RX6, "load", "()I"⟩
abbrev cX6_undo : ByteArray := prog_8_method_52_code
def yX6_undo : MethodName := ⟨RX6, "undo", "()I"⟩
abbrev cX6_save : ByteArray := prog_8_method_53_code
def yX6_save : MethodName := ⟨RX6, "save", "(I)I"⟩
abbrev cX6_restore : ByteArray := prog_8_method_54_code
def yX6_restore : MethodName := ⟨RX6, "restore", "(I)I"⟩
def RL : String := "CoinRowsLaw"
abbrev cL_law : ByteArray := code
def yL_law : MethodName := ⟨RL, "law", "([I)Z"⟩
abbrev vwCl : List vw_C := [(RX0, TX0, 3), (RX1, TX1, 4), (RX2, TX2, 5), (RX3, TX3, 1), (RX4, TX4, 4), (RX5, TX5, 8), (RX6, TX6, 16)]
end
section
def GW : List Cond := lw_tbl.filter goodWord
theorem gw_0 : (Jvm.Cond.initialized "CoinRowsLaw") ∈ GW := List.mem_filter.mpr ⟨List.mem_append_right _ (List.mem_of_getElem? (i := 0) (by decide +kernel)), rfl⟩
theorem gw_1 : (Jvm.Cond.initialized "CoinRows") ∈ GW := List.mem_filter.mpr ⟨List.mem_append_right _ (List.mem_of_getElem? (i := 1) (by decide +kernel)), rfl⟩
theorem gw_2 : (Jvm.Cond.initialized "CoinRows$Model") ∈ GW := List.mem_filter.mpr ⟨List.mem_append_right _ (List.mem_of_getElem? (i := 2) (by decide +kernel)), rfl⟩
theorem gw_3 : (Jvm.Cond.initialized "CoinRows$Pad") ∈ GW := List.mem_filter.mpr ⟨List.mem_append_right _ (List.mem_of_getElem? (i := 3) (by decide +kernel)), rfl⟩
theorem gw_4 : (Jvm.Cond.initialized "CoinRows$Sums") ∈ GW := List.mem_filter.mpr ⟨List.mem_append_right _ (List.mem_of_getElem? (i := 4) (by decide +kernel)), rfl⟩
theorem gw_5 : (Jvm.Cond.initialized "CoinRows$Walk") ∈ GW := List.mem_filter.mpr ⟨List.mem_append_right _ (List.mem_of_getElem? (i := 5) (by decide +kernel)), rfl⟩
theorem gw_6 : (Jvm.Cond.initialized "CoinRows$Trainer") ∈ GW := List.mem_filter.mpr ⟨List.mem_append_right _ (List.mem_of_getElem? (i := 6) (by decide +kernel)), rfl⟩
theorem gw_7 : (Jvm.Cond.initialized "CoinRowsModel") ∈ GW := List.mem_filter.mpr ⟨List.mem_append_right _ (List.mem_of_getElem? (i := 7) (by decide +kernel)), rfl⟩
theorem gw_8 : (Jvm.Cond.initialized "java/lang/System") ∈ GW := List.mem_filter.mpr ⟨List.mem_append_right _ (List.mem_of_getElem? (i := 8) (by decide +kernel)), rfl⟩
theorem gw_9 : (Jvm.Cond.initialized "java/lang/Math") ∈ GW := List.mem_filter.mpr ⟨List.mem_append_right _ (List.mem_of_getElem? (i := 9) (by decide +kernel)), rfl⟩
theorem gw_10 : (Jvm.Cond.initialized "java/lang/Float") ∈ GW := List.mem_filter.mpr ⟨List.mem_append_right _ (List.mem_of_getElem? (i := 10) (by decide +kernel)), rfl⟩
theorem gw_11 : (Jvm.Cond.classLink "CoinRowsLaw" (7 : Nat) "CoinRows") ∈ GW := List.mem_filter.mpr ⟨List.mem_append_right _ (List.mem_of_getElem? (i := 11) (by decide +kernel)), rfl⟩
theorem gw_12 : (Jvm.Cond.instantiable "CoinRows" (8 : Nat)) ∈ GW := List.mem_filter.mpr ⟨List.mem_append_right _ (List.mem_of_getElem? (i := 12) (by decide +kernel)), rfl⟩
theorem gw_13 : (Jvm.Cond.methodLink "CoinRowsLaw" (9 : Nat) ({ cls := "CoinRows", name := "<init>", desc := "()V" } : Jvm.MethodName)) ∈ GW := List.mem_filter.mpr ⟨List.mem_append_right _ (List.mem_of_getElem? (i := 13) (by decide +kernel)), rfl⟩
theorem gw_14 : (Jvm.Cond.instanceMethod ({ cls := "CoinRows", name := "<init>", desc := "()V" } : Jvm.MethodName)) ∈ GW := List.mem_filter.mpr ⟨List.mem_append_right _ (List.mem_of_getElem? (i := 14) (by decide +kernel)), rfl⟩
theorem gw_15 : (Jvm.Cond.code ({ cls := "CoinRows", name := "<init>", desc := "()V" } : Jvm.MethodName) prog_1_method_1_code (2 : Nat) (Option.none : Option Jvm.ClassFile.FieldType)) ∈ GW := List.mem_filter.mpr ⟨List.mem_append_right _ (List.mem_of_getElem? (i := 15) (by decide +kernel)), rfl⟩
theorem gw_16 : (Jvm.Cond.methodLink "CoinRows" (3 : Nat) ({ cls := "java/lang/Object", name := "<init>", desc := "()V" } : Jvm.MethodName)) ∈ GW := List.mem_filter.mpr ⟨List.mem_append_right _ (List.mem_of_getElem? (i := 16) (by decide +kernel)), rfl⟩
theorem gw_17 : (Jvm.Cond.instanceMethod ({ cls := "java/lang/Object", name := "<init>", desc := "()V" } : Jvm.MethodName)) ∈ GW := List.mem_filter.mpr ⟨List.mem_append_right _ (List.mem_of_getElem? (i := 17) (by decide +kernel)), rfl⟩
theorem gw_18 : (Jvm.Cond.code ({ cls := "java/lang/Object", name := "<init>", desc := "()V" } : Jvm.MethodName) object_method_1_code (1 : Nat) (Option.none : Option Jvm.ClassFile.FieldType)) ∈ GW := List.mem_filter.mpr ⟨List.mem_append_right _ (List.mem_of_getElem? (i := 18) (by decide +kernel)), rfl⟩
theorem gw_19 : (Jvm.Cond.classLink "CoinRows" (9 : Nat) "CoinRows$Model") ∈ GW := List.mem_filter.mpr ⟨List.mem_append_right _ (List.mem_of_getElem? (i := 19) (by decide +kernel)), rfl⟩
theorem gw_20 : (Jvm.Cond.instantiable "CoinRows$Model" (3 : Nat)) ∈ GW := List.mem_filter.mpr ⟨List.mem_append_right _ (List.mem_of_getElem? (i := 20) (by decide +kernel)), rfl⟩
theorem nb_21 : (Jvm.Cond.methodLinkNest "CoinRows" (11 : Nat) ({ cls := "CoinRows$Model", name := "<init>", desc := "()V" } : Jvm.MethodName) "CoinRows") ∈ lw_tbl := List.mem_append_right _ (List.mem_of_getElem? (i := 21) (by decide +kernel))
theorem gw_22 : (Jvm.Cond.instanceMethod ({ cls := "CoinRows$Model", name := "<init>", desc := "()V" } : Jvm.MethodName)) ∈ GW := List.mem_filter.mpr ⟨List.mem_append_right _ (List.mem_of_getElem? (i := 22) (by decide +kernel)), rfl⟩
theorem gw_23 : (Jvm.Cond.code ({ cls := "CoinRows$Model", name := "<init>", desc := "()V" } : Jvm.MethodName) prog_2_method_1_code (1 : Nat) (Option.none : Option Jvm.ClassFile.FieldType)) ∈ GW := List.mem_filter.mpr ⟨List.mem_append_right _ (List.mem_of_getElem? (i := 23) (by decide +kernel)), rfl⟩
theorem gw_24 : (Jvm.Cond.methodLink "CoinRows$Model" (3 : Nat) ({ cls := "java/lang/Object", name := "<init>", desc := "()V" } : Jvm.MethodName)) ∈ GW := List.mem_filter.mpr ⟨List.mem_append_right _ (List.mem_of_getElem? (i := 24) (by decide +kernel)), rfl⟩
theorem gw_25 : (Jvm.Cond.fieldLink "CoinRows$Model" (9 : Nat) "CoinRows$Model" "weights" "[I") ∈ GW := List.mem_filter.mpr ⟨List.mem_append_right _ (List.mem_of_getElem? (i := 25) (by decide +kernel)), rfl⟩
theorem gw_26 : (Jvm.Cond.fieldLink "CoinRows" (55 : Nat) "CoinRows$Model" "weights" "[I") ∈ GW := List.mem_filter.mpr ⟨List.mem_append_right _ (List.mem_of_getElem? (i := 26) (by decide +kernel)), rfl⟩
theorem gw_27 : (Jvm.Cond.fieldLink "CoinRows$Trainer" (38 : Nat) "CoinRows$Model" "weights" "[I") ∈ GW := List.mem_filter.mpr ⟨List.mem_append_right _ (List.mem_of_getElem? (i := 27) (by decide +kernel)), rfl⟩
theorem gw_28 : (Jvm.Cond.fieldLink "CoinRows$Pad" (63 : Nat) "CoinRows$Model" "weights" "[I") ∈ GW := List.mem_filter.mpr ⟨List.mem_append_right _ (List.mem_of_getElem? (i := 28) (by decide +kernel)), rfl⟩
theorem gw_29 : (Jvm.Cond.fieldLink "CoinRows$Model" (15 : Nat) "CoinRows$Model" "row" "[I") ∈ GW := List.mem_filter.mpr ⟨List.mem_append_right _ (List.mem_of_getElem? (i := 29) (by decide +kernel)), rfl⟩
theorem gw_30 : (Jvm.Cond.fieldLink "CoinRows" (81 : Nat) "CoinRows$Model" "row" "[I") ∈ GW := List.mem_filter.mpr ⟨List.mem_append_right _ (List.mem_of_getElem? (i := 30) (by decide +kernel)), rfl⟩
theorem gw_31 : (Jvm.Cond.fieldLink "CoinRows$Sums" (47 : Nat) "CoinRows$Model" "row" "[I") ∈ GW := List.mem_filter.mpr ⟨List.mem_append_right _ (List.mem_of_getElem? (i := 31) (by decide +kernel)), rfl⟩
theorem gw_32 : (Jvm.Cond.fieldLink "CoinRows$Model" (18 : Nat) "CoinRows$Model" "length" "I") ∈ GW := List.mem_filter.mpr ⟨List.mem_append_right _ (List.mem_of_getElem? (i := 32) (by decide +kernel)), rfl⟩
theorem gw_33 : (Jvm.Cond.fieldLink "CoinRows$Walk" (26 : Nat) "CoinRows$Model" "length" "I") ∈ GW := List.mem_filter.mpr ⟨List.mem_append_right _ (List.mem_of_getElem? (i := 33) (by decide +kernel)), rfl⟩
theorem gw_34 : (Jvm.Cond.fieldLink "CoinRows" (74 : Nat) "CoinRows$Model" "length" "I") ∈ GW := List.mem_filter.mpr ⟨List.mem_append_right _ (List.mem_of_getElem? (i := 34) (by decide +kernel)), rfl⟩
theorem gw_35 : (Jvm.Cond.fieldLink "CoinRows$Sums" (37 : Nat) "CoinRows$Model" "length" "I") ∈ GW := List.mem_filter.mpr ⟨List.mem_append_right _ (List.mem_of_getElem? (i := 35) (by decide +kernel)), rfl⟩
theorem gw_36 : (Jvm.Cond.fieldLink "CoinRows$Pad" (69 : Nat) "CoinRows$Model" "length" "I") ∈ GW := List.mem_filter.mpr ⟨List.mem_append_right _ (List.mem_of_getElem? (i := 36) (by decide +kernel)), rfl⟩
theorem gw_44 : (Jvm.Cond.arrayClass Jvm.ClassFile.FieldType.int) ∈ GW := List.mem_filter.mpr ⟨List.mem_append_right _ (List.mem_of_getElem? (i := 44) (by decide +kernel)), rfl⟩
theorem nb_45 : (Jvm.Cond.arrayOver (Jvm.ClassFile.FieldType.object "CoinRows$Model")) ∈ lw_tbl := List.mem_append_right _ (List.mem_of_getElem? (i := 45) (by decide +kernel))
theorem gw_46 : (Jvm.Cond.classLink "CoinRows" (27 : Nat) "CoinRows$Pad") ∈ GW := List.mem_filter.mpr ⟨List.mem_append_right _ (List.mem_of_getElem? (i := 46) (by decide +kernel)), rfl⟩
theorem gw_47 : (Jvm.Cond.instantiable "CoinRows$Pad" (4 : Nat)) ∈ GW := List.mem_filter.mpr ⟨List.mem_append_right _ (List.mem_of_getElem? (i := 47) (by decide +kernel)), rfl⟩
theorem nb_48 : (Jvm.Cond.methodLinkNest "CoinRows" (29 : Nat) ({ cls := "CoinRows$Pad", name := "<init>", desc := "()V" } : Jvm.MethodName) "CoinRows") ∈ lw_tbl := List.mem_append_right _ (List.mem_of_getElem? (i := 48) (by decide +kernel))
theorem gw_49 : (Jvm.Cond.instanceMethod ({ cls := "CoinRows$Pad", name := "<init>", desc := "()V" } : Jvm.MethodName)) ∈ GW := List.mem_filter.mpr ⟨List.mem_append_right _ (List.mem_of_getElem? (i := 49) (by decide +kernel)), rfl⟩
theorem gw_50 : (Jvm.Cond.code ({ cls := "CoinRows$Pad", name := "<init>", desc := "()V" } : Jvm.MethodName) prog_3_method_1_code (1 : Nat) (Option.none : Option Jvm.ClassFile.FieldType)) ∈ GW := List.mem_filter.mpr ⟨List.mem_append_right _ (List.mem_of_getElem? (i := 50) (by decide +kernel)), rfl⟩
theorem gw_51 : (Jvm.Cond.methodLink "CoinRows$Pad" (3 : Nat) ({ cls := "java/lang/Object", name := "<init>", desc := "()V" } : Jvm.MethodName)) ∈ GW := List.mem_filter.mpr ⟨List.mem_append_right _ (List.mem_of_getElem? (i := 51) (by decide +kernel)), rfl⟩
theorem gw_52 : (Jvm.Cond.fieldLink "CoinRows$Pad" (9 : Nat) "CoinRows$Pad" "signs" "[C") ∈ GW := List.mem_filter.mpr ⟨List.mem_append_right _ (List.mem_of_getElem? (i := 52) (by decide +kernel)), rfl⟩
theorem gw_53 : (Jvm.Cond.fieldLink "CoinRows$Pad" (15 : Nat) "CoinRows$Pad" "length" "I") ∈ GW := List.mem_filter.mpr ⟨List.mem_append_right _ (List.mem_of_getElem? (i := 53) (by decide +kernel)), rfl⟩
theorem gw_54 : (Jvm.Cond.fieldLink "CoinRows" (103 : Nat) "CoinRows$Pad" "length" "I") ∈ GW := List.mem_filter.mpr ⟨List.mem_append_right _ (List.mem_of_getElem? (i := 54) (by decide +kernel)), rfl⟩
theorem gw_55 : (Jvm.Cond.fieldLink "CoinRows$Pad" (19 : Nat) "CoinRows$Pad" "at" "I") ∈ GW := List.mem_filter.mpr ⟨List.mem_append_right _ (List.mem_of_getElem? (i := 55) (by decide +kernel)), rfl⟩
theorem gw_56 : (Jvm.Cond.fieldLink "CoinRows" (115 : Nat) "CoinRows$Pad" "at" "I") ∈ GW := List.mem_filter.mpr ⟨List.mem_append_right _ (List.mem_of_getElem? (i := 56) (by decide +kernel)), rfl⟩
theorem gw_57 : (Jvm.Cond.fieldLink "CoinRows$Pad" (22 : Nat) "CoinRows$Pad" "parts" "I") ∈ GW := List.mem_filter.mpr ⟨List.mem_append_right _ (List.mem_of_getElem? (i := 57) (by decide +kernel)), rfl⟩
theorem gw_58 : (Jvm.Cond.fieldLink "CoinRows" (118 : Nat) "CoinRows$Pad" "parts" "I") ∈ GW := List.mem_filter.mpr ⟨List.mem_append_right _ (List.mem_of_getElem? (i := 58) (by decide +kernel)), rfl⟩
theorem gw_68 : (Jvm.Cond.arrayClass Jvm.ClassFile.FieldType.char) ∈ GW := List.mem_filter.mpr ⟨List.mem_append_right _ (List.mem_of_getElem? (i := 68) (by decide +kernel)), rfl⟩
theorem gw_69 : (Jvm.Cond.classLink "CoinRows" (34 : Nat) "CoinRows$Sums") ∈ GW := List.mem_filter.mpr ⟨List.mem_append_right _ (List.mem_of_getElem? (i := 69) (by decide +kernel)), rfl⟩
theorem gw_70 : (Jvm.Cond.instantiable "CoinRows$Sums" (5 : Nat)) ∈ GW := List.mem_filter.mpr ⟨List.mem_append_right _ (List.mem_of_getElem? (i := 70) (by decide +kernel)), rfl⟩
theorem gw_71 : (Jvm.Cond.methodLink "CoinRows" (36 : Nat) ({ cls := "CoinRows$Sums", name := "<init>", desc := "()V" } : Jvm.MethodName)) ∈ GW := List.mem_filter.mpr ⟨List.mem_append_right _ (List.mem_of_getElem? (i := 71) (by decide +kernel)), rfl⟩
theorem gw_72 : (Jvm.Cond.instanceMethod ({ cls := "CoinRows$Sums", name := "<init>", desc := "()V" } : Jvm.MethodName)) ∈ GW := List.mem_filter.mpr ⟨List.mem_append_right _ (List.mem_of_getElem? (i := 72) (by decide +kernel)), rfl⟩
theorem gw_73 : (Jvm.Cond.code ({ cls := "CoinRows$Sums", name := "<init>", desc := "()V" } : Jvm.MethodName) prog_4_method_1_code (1 : Nat) (Option.none : Option Jvm.ClassFile.FieldType)) ∈ GW := List.mem_filter.mpr ⟨List.mem_append_right _ (List.mem_of_getElem? (i := 73) (by decide +kernel)), rfl⟩
theorem gw_74 : (Jvm.Cond.methodLink "CoinRows$Sums" (3 : Nat) ({ cls := "java/lang/Object", name := "<init>", desc := "()V" } : Jvm.MethodName)) ∈ GW := List.mem_filter.mpr ⟨List.mem_append_right _ (List.mem_of_getElem? (i := 74) (by decide +kernel)), rfl⟩
theorem gw_75 : (Jvm.Cond.classLink "CoinRows$Sums" (9 : Nat) "[[J") ∈ GW := List.mem_filter.mpr ⟨List.mem_append_right _ (List.mem_of_getElem? (i := 75) (by decide +kernel)), rfl⟩
theorem nb_76 : (Jvm.Cond.arrayOver (Jvm.ClassFile.FieldType.array Jvm.ClassFile.FieldType.long)) ∈ lw_tbl := List.mem_append_right _ (List.mem_of_getElem? (i := 76) (by decide +kernel))
theorem gw_77 : (Jvm.Cond.classLink "CoinRows$Sums" (25 : Nat) "[[I") ∈ GW := List.mem_filter.mpr ⟨List.mem_append_right _ (List.mem_of_getElem? (i := 77) (by decide +kernel)), rfl⟩
theorem nb_78 : (Jvm.Cond.arrayOver (Jvm.ClassFile.FieldType.array Jvm.ClassFile.FieldType.int)) ∈ lw_tbl := List.mem_append_right _ (List.mem_of_getElem? (i := 78) (by decide +kernel))
theorem gw_79 : (Jvm.Cond.fieldLink "CoinRows$Sums" (11 : Nat) "CoinRows$Sums" "before" "[[J") ∈ GW := List.mem_filter.mpr ⟨List.mem_append_right _ (List.mem_of_getElem? (i := 79) (by decide +kernel)), rfl⟩
theorem gw_80 : (Jvm.Cond.fieldLink "CoinRows" (126 : Nat) "CoinRows$Sums" "before" "[[J") ∈ GW := List.mem_filter.mpr ⟨List.mem_append_right _ (List.mem_of_getElem? (i := 80) (by decide +kernel)), rfl⟩
theorem gw_81 : (Jvm.Cond.fieldLink "CoinRows$Sums" (16 : Nat) "CoinRows$Sums" "reach" "[[J") ∈ GW := List.mem_filter.mpr ⟨List.mem_append_right _ (List.mem_of_getElem? (i := 81) (by decide +kernel)), rfl⟩
theorem gw_82 : (Jvm.Cond.fieldLink "CoinRows$Sums" (19 : Nat) "CoinRows$Sums" "after" "[[J") ∈ GW := List.mem_filter.mpr ⟨List.mem_append_right _ (List.mem_of_getElem? (i := 82) (by decide +kernel)), rfl⟩
theorem gw_83 : (Jvm.Cond.fieldLink "CoinRows" (130 : Nat) "CoinRows$Sums" "after" "[[J") ∈ GW := List.mem_filter.mpr ⟨List.mem_append_right _ (List.mem_of_getElem? (i := 83) (by decide +kernel)), rfl⟩
theorem gw_84 : (Jvm.Cond.fieldLink "CoinRows$Sums" (22 : Nat) "CoinRows$Sums" "best" "[[J") ∈ GW := List.mem_filter.mpr ⟨List.mem_append_right _ (List.mem_of_getElem? (i := 84) (by decide +kernel)), rfl⟩
theorem gw_85 : (Jvm.Cond.fieldLink "CoinRows$Walk" (46 : Nat) "CoinRows$Sums" "best" "[[J") ∈ GW := List.mem_filter.mpr ⟨List.mem_append_right _ (List.mem_of_getElem? (i := 85) (by decide +kernel)), rfl⟩
theorem gw_86 : (Jvm.Cond.fieldLink "CoinRows$Sums" (27 : Nat) "CoinRows$Sums" "rests" "[[I") ∈ GW := List.mem_filter.mpr ⟨List.mem_append_right _ (List.mem_of_getElem? (i := 86) (by decide +kernel)), rfl⟩
theorem gw_87 : (Jvm.Cond.fieldLink "CoinRows$Walk" (52 : Nat) "CoinRows$Sums" "rests" "[[I") ∈ GW := List.mem_filter.mpr ⟨List.mem_append_right _ (List.mem_of_getElem? (i := 87) (by decide +kernel)), rfl⟩
theorem gw_99 : (Jvm.Cond.arrayClass Jvm.ClassFile.FieldType.long) ∈ GW := List.mem_filter.mpr ⟨List.mem_append_right _ (List.mem_of_getElem? (i := 99) (by decide +kernel)), rfl⟩
theorem gw_100 : (Jvm.Cond.classLink "CoinRows" (41 : Nat) "CoinRows$Walk") ∈ GW := List.mem_filter.mpr ⟨List.mem_append_right _ (List.mem_of_getElem? (i := 100) (by decide +kernel)), rfl⟩
theorem gw_101 : (Jvm.Cond.instantiable "CoinRows$Walk" (4 : Nat)) ∈ GW := List.mem_filter.mpr ⟨List.mem_append_right _ (List.mem_of_getElem? (i := 101) (by decide +kernel)), rfl⟩
theorem nb_102 : (Jvm.Cond.methodLinkNest "CoinRows" (43 : Nat) ({ cls := "CoinRows$Walk", name := "<init>", desc := "()V" } : Jvm.MethodName) "CoinRows") ∈ lw_tbl := List.mem_append_right _ (List.mem_of_getElem? (i := 102) (by decide +kernel))
theorem gw_103 : (Jvm.Cond.instanceMethod ({ cls := "CoinRows$Walk", name := "<init>", desc := "()V" } : Jvm.MethodName)) ∈ GW := List.mem_filter.mpr ⟨List.mem_append_right _ (List.mem_of_getElem? (i := 103) (by decide +kernel)), rfl⟩
theorem gw_104 : (Jvm.Cond.code ({ cls := "CoinRows$Walk", name := "<init>", desc := "()V" } : Jvm.MethodName) prog_6_method_1_code (1 : Nat) (Option.none : Option Jvm.ClassFile.FieldType)) ∈ GW := List.mem_filter.mpr ⟨List.mem_append_right _ (List.mem_of_getElem? (i := 104) (by decide +kernel)), rfl⟩
theorem gw_105 : (Jvm.Cond.methodLink "CoinRows$Walk" (3 : Nat) ({ cls := "java/lang/Object", name := "<init>", desc := "()V" } : Jvm.MethodName)) ∈ GW := List.mem_filter.mpr ⟨List.mem_append_right _ (List.mem_of_getElem? (i := 105) (by decide +kernel)), rfl⟩
theorem gw_106 : (Jvm.Cond.fieldLink "CoinRows$Walk" (9 : Nat) "CoinRows$Walk" "coins" "[I") ∈ GW := List.mem_filter.mpr ⟨List.mem_append_right _ (List.mem_of_getElem? (i := 106) (by decide +kernel)), rfl⟩
theorem gw_107 : (Jvm.Cond.fieldLink "CoinRows$Walk" (15 : Nat) "CoinRows$Walk" "size" "I") ∈ GW := List.mem_filter.mpr ⟨List.mem_append_right _ (List.mem_of_getElem? (i := 107) (by decide +kernel)), rfl⟩
theorem gw_108 : (Jvm.Cond.fieldLink "CoinRows$Walk" (19 : Nat) "CoinRows$Walk" "product" "J") ∈ GW := List.mem_filter.mpr ⟨List.mem_append_right _ (List.mem_of_getElem? (i := 108) (by decide +kernel)), rfl⟩
theorem gw_109 : (Jvm.Cond.fieldLink "CoinRows" (144 : Nat) "CoinRows$Walk" "product" "J") ∈ GW := List.mem_filter.mpr ⟨List.mem_append_right _ (List.mem_of_getElem? (i := 109) (by decide +kernel)), rfl⟩
theorem gw_110 : (Jvm.Cond.fieldLink "CoinRows$Walk" (23 : Nat) "CoinRows$Walk" "skipped" "I") ∈ GW := List.mem_filter.mpr ⟨List.mem_append_right _ (List.mem_of_getElem? (i := 110) (by decide +kernel)), rfl⟩
theorem gw_120 : (Jvm.Cond.classLink "CoinRows" (48 : Nat) "CoinRows$Trainer") ∈ GW := List.mem_filter.mpr ⟨List.mem_append_right _ (List.mem_of_getElem? (i := 120) (by decide +kernel)), rfl⟩
theorem gw_121 : (Jvm.Cond.instantiable "CoinRows$Trainer" (1 : Nat)) ∈ GW := List.mem_filter.mpr ⟨List.mem_append_right _ (List.mem_of_getElem? (i := 121) (by decide +kernel)), rfl⟩
theorem nb_122 : (Jvm.Cond.methodLinkNest "CoinRows" (50 : Nat) ({ cls := "CoinRows$Trainer", name := "<init>", desc := "()V" } : Jvm.MethodName) "CoinRows") ∈ lw_tbl := List.mem_append_right _ (List.mem_of_getElem? (i := 122) (by decide +kernel))
theorem gw_123 : (Jvm.Cond.instanceMethod ({ cls := "CoinRows$Trainer", name := "<init>", desc := "()V" } : Jvm.MethodName)) ∈ GW := List.mem_filter.mpr ⟨List.mem_append_right _ (List.mem_of_getElem? (i := 123) (by decide +kernel)), rfl⟩
theorem gw_124 : (Jvm.Cond.code ({ cls := "CoinRows$Trainer", name := "<init>", desc := "()V" } : Jvm.MethodName) prog_5_method_1_code (1 : Nat) (Option.none : Option Jvm.ClassFile.FieldType)) ∈ GW := List.mem_filter.mpr ⟨List.mem_append_right _ (List.mem_of_getElem? (i := 124) (by decide +kernel)), rfl⟩
theorem gw_125 : (Jvm.Cond.methodLink "CoinRows$Trainer" (3 : Nat) ({ cls := "java/lang/Object", name := "<init>", desc := "()V" } : Jvm.MethodName)) ∈ GW := List.mem_filter.mpr ⟨List.mem_append_right _ (List.mem_of_getElem? (i := 125) (by decide +kernel)), rfl⟩
theorem gw_126 : (Jvm.Cond.fieldLink "CoinRows$Trainer" (9 : Nat) "CoinRows$Trainer" "expectations" "[J") ∈ GW := List.mem_filter.mpr ⟨List.mem_append_right _ (List.mem_of_getElem? (i := 126) (by decide +kernel)), rfl⟩
theorem gw_130 : (Jvm.Cond.fieldLink "CoinRows" (12 : Nat) "CoinRows" "model" "LCoinRows$Model;") ∈ GW := List.mem_filter.mpr ⟨List.mem_append_right _ (List.mem_of_getElem? (i := 130) (by decide +kernel)), rfl⟩
theorem gw_131 : (Jvm.Cond.fieldLink "CoinRows" (16 : Nat) "CoinRows" "history" "[LCoinRows$Model;") ∈ GW := List.mem_filter.mpr ⟨List.mem_append_right _ (List.mem_of_getElem? (i := 131) (by decide +kernel)), rfl⟩
theorem gw_132 : (Jvm.Cond.fieldLink "CoinRows" (20 : Nat) "CoinRows" "remembered" "I") ∈ GW := List.mem_filter.mpr ⟨List.mem_append_right _ (List.mem_of_getElem? (i := 132) (by decide +kernel)), rfl⟩
theorem gw_133 : (Jvm.Cond.fieldLink "CoinRows" (24 : Nat) "CoinRows" "slots" "[LCoinRows$Model;") ∈ GW := List.mem_filter.mpr ⟨List.mem_append_right _ (List.mem_of_getElem? (i := 133) (by decide +kernel)), rfl⟩
theorem gw_134 : (Jvm.Cond.fieldLink "CoinRows" (30 : Nat) "CoinRows" "pad" "LCoinRows$Pad;") ∈ GW := List.mem_filter.mpr ⟨List.mem_append_right _ (List.mem_of_getElem? (i := 134) (by decide +kernel)), rfl⟩
theorem gw_135 : (Jvm.Cond.fieldLink "CoinRows" (37 : Nat) "CoinRows" "sums" "LCoinRows$Sums;") ∈ GW := List.mem_filter.mpr ⟨List.mem_append_right _ (List.mem_of_getElem? (i := 135) (by decide +kernel)), rfl⟩
theorem gw_136 : (Jvm.Cond.fieldLink "CoinRows" (44 : Nat) "CoinRows" "walk" "LCoinRows$Walk;") ∈ GW := List.mem_filter.mpr ⟨List.mem_append_right _ (List.mem_of_getElem? (i := 136) (by decide +kernel)), rfl⟩
theorem gw_137 : (Jvm.Cond.fieldLink "CoinRows" (51 : Nat) "CoinRows" "trainer" "LCoinRows$Trainer;") ∈ GW := List.mem_filter.mpr ⟨List.mem_append_right _ (List.mem_of_getElem? (i := 137) (by decide +kernel)), rfl⟩
theorem gw_155 : (Jvm.Cond.methodLink "CoinRowsLaw" (13 : Nat) ({ cls := "CoinRows", name := "give", desc := "(IIII)I" } : Jvm.MethodName)) ∈ GW := List.mem_filter.mpr ⟨List.mem_append_right _ (List.mem_of_getElem? (i := 155) (by decide +kernel)), rfl⟩
theorem gw_156 : (Jvm.Cond.instanceMethod ({ cls := "CoinRows", name := "give", desc := "(IIII)I" } : Jvm.MethodName)) ∈ GW := List.mem_filter.mpr ⟨List.mem_append_right _ (List.mem_of_getElem? (i := 156) (by decide +kernel)), rfl⟩
theorem gw_157 : (Jvm.Cond.selects "CoinRows" ({ cls := "CoinRows", name := "give", desc := "(IIII)I" } : Jvm.MethodName) ({ cls := "CoinRows", name := "give", desc := "(IIII)I" } : Jvm.MethodName)) ∈ GW := List.mem_filter.mpr ⟨List.mem_append_right _ (List.mem_of_getElem? (i := 157) (by decide +kernel)), rfl⟩
theorem gw_158 : (Jvm.Cond.code ({ cls := "CoinRows", name := "give", desc := "(IIII)I" } : Jvm.MethodName) prog_1_method_2_code (7 : Nat) (Option.some Jvm.ClassFile.FieldType.int)) ∈ GW := List.mem_filter.mpr ⟨List.mem_append_right _ (List.mem_of_getElem? (i := 158) (by decide +kernel)), rfl⟩
theorem gw_159 : (Jvm.Cond.methodLink "CoinRows" (59 : Nat) ({ cls := "CoinRows", name := "isKind", desc := "(I)Z" } : Jvm.MethodName)) ∈ GW := List.mem_filter.mpr ⟨List.mem_append_right _ (List.mem_of_getElem? (i := 159) (by decide +kernel)), rfl⟩
theorem gw_160 : (Jvm.Cond.static ({ cls := "CoinRows", name := "isKind", desc := "(I)Z" } : Jvm.MethodName)) ∈ GW := List.mem_filter.mpr ⟨List.mem_append_right _ (List.mem_of_getElem? (i := 160) (by decide +kernel)), rfl⟩
theorem gw_161 : (Jvm.Cond.code ({ cls := "CoinRows", name := "isKind", desc := "(I)Z" } : Jvm.MethodName) prog_1_method_30_code (1 : Nat) (Option.some Jvm.ClassFile.FieldType.boolean)) ∈ GW := List.mem_filter.mpr ⟨List.mem_append_right _ (List.mem_of_getElem? (i := 161) (by decide +kernel)), rfl⟩
theorem gw_162 : (Jvm.Cond.methodLink "CoinRows" (63 : Nat) ({ cls := "CoinRows", name := "indexOf", desc := "(III)I" } : Jvm.MethodName)) ∈ GW := List.mem_filter.mpr ⟨List.mem_append_right _ (List.mem_of_getElem? (i := 162) (by decide +kernel)), rfl⟩
theorem gw_163 : (Jvm.Cond.static ({ cls := "CoinRows", name := "indexOf", desc := "(III)I" } : Jvm.MethodName)) ∈ GW := List.mem_filter.mpr ⟨List.mem_append_right _ (List.mem_of_getElem? (i := 163) (by decide +kernel)), rfl⟩
theorem gw_164 : (Jvm.Cond.code ({ cls := "CoinRows", name := "indexOf", desc := "(III)I" } : Jvm.MethodName) prog_1_method_35_code (3 : Nat) (Option.some Jvm.ClassFile.FieldType.int)) ∈ GW := List.mem_filter.mpr ⟨List.mem_append_right _ (List.mem_of_getElem? (i := 164) (by decide +kernel)), rfl⟩
theorem gw_165 : (Jvm.Cond.methodLink "CoinRows" (195 : Nat) ({ cls := "CoinRows", name := "isCoin", desc := "(I)Z" } : Jvm.MethodName)) ∈ GW := List.mem_filter.mpr ⟨List.mem_append_right _ (List.mem_of_getElem? (i := 165) (by decide +kernel)), rfl⟩
theorem gw_166 : (Jvm.Cond.static ({ cls := "CoinRows", name := "isCoin", desc := "(I)Z" } : Jvm.MethodName)) ∈ GW := List.mem_filter.mpr ⟨List.mem_append_right _ (List.mem_of_getElem? (i := 166) (by decide +kernel)), rfl⟩
theorem gw_167 : (Jvm.Cond.code ({ cls := "CoinRows", name := "isCoin", desc := "(I)Z" } : Jvm.MethodName) prog_1_method_33_code (1 : Nat) (Option.some Jvm.ClassFile.FieldType.boolean)) ∈ GW := List.mem_filter.mpr ⟨List.mem_append_right _ (List.mem_of_getElem? (i := 167) (by decide +kernel)), rfl⟩
theorem gw_168 : (Jvm.Cond.methodLink "CoinRows" (121 : Nat) ({ cls := "CoinRows", name := "isLoud", desc := "(I)Z" } : Jvm.MethodName)) ∈ GW := List.mem_filter.mpr ⟨List.mem_append_right _ (List.mem_of_getElem? (i := 168) (by decide +kernel)), rfl⟩
theorem gw_169 : (Jvm.Cond.static ({ cls := "CoinRows", name := "isLoud", desc := "(I)Z" } : Jvm.MethodName)) ∈ GW := List.mem_filter.mpr ⟨List.mem_append_right _ (List.mem_of_getElem? (i := 169) (by decide +kernel)), rfl⟩
theorem gw_170 : (Jvm.Cond.code ({ cls := "CoinRows", name := "isLoud", desc := "(I)Z" } : Jvm.MethodName) prog_1_method_32_code (1 : Nat) (Option.some Jvm.ClassFile.FieldType.boolean)) ∈ GW := List.mem_filter.mpr ⟨List.mem_append_right _ (List.mem_of_getElem? (i := 170) (by decide +kernel)), rfl⟩
theorem gw_171 : (Jvm.Cond.methodLink "CoinRows" (67 : Nat) ({ cls := "CoinRows", name := "isBarred", desc := "(II)Z" } : Jvm.MethodName)) ∈ GW := List.mem_filter.mpr ⟨List.mem_append_right _ (List.mem_of_getElem? (i := 171) (by decide +kernel)), rfl⟩
theorem gw_172 : (Jvm.Cond.static ({ cls := "CoinRows", name := "isBarred", desc := "(II)Z" } : Jvm.MethodName)) ∈ GW := List.mem_filter.mpr ⟨List.mem_append_right _ (List.mem_of_getElem? (i := 172) (by decide +kernel)), rfl⟩
theorem gw_173 : (Jvm.Cond.code ({ cls := "CoinRows", name := "isBarred", desc := "(II)Z" } : Jvm.MethodName) prog_1_method_34_code (2 : Nat) (Option.some Jvm.ClassFile.FieldType.boolean)) ∈ GW := List.mem_filter.mpr ⟨List.mem_append_right _ (List.mem_of_getElem? (i := 173) (by decide +kernel)), rfl⟩
theorem gw_174 : (Jvm.Cond.methodLink "CoinRows" (71 : Nat) ({ cls := "CoinRows", name := "remember", desc := "()V" } : Jvm.MethodName)) ∈ GW := List.mem_filter.mpr ⟨List.mem_append_right _ (List.mem_of_getElem? (i := 174) (by decide +kernel)), rfl⟩
theorem gw_176 : (Jvm.Cond.instanceMethod ({ cls := "CoinRows", name := "remember", desc := "()V" } : Jvm.MethodName)) ∈ GW := List.mem_filter.mpr ⟨List.mem_append_right _ (List.mem_of_getElem? (i := 176) (by decide +kernel)), rfl⟩
theorem gw_177 : (Jvm.Cond.code ({ cls := "CoinRows", name := "remember", desc := "()V" } : Jvm.MethodName) prog_1_method_29_code (3 : Nat) (Option.none : Option Jvm.ClassFile.FieldType)) ∈ GW := List.mem_filter.mpr ⟨List.mem_append_right _ (List.mem_of_getElem? (i := 177) (by decide +kernel)), rfl⟩
theorem gw_178 : (Jvm.Cond.methodLink "CoinRows" (192 : Nat) ({ cls := "CoinRows$Model", name := "copyFrom", desc := "(LCoinRows$Model;)V" } : Jvm.MethodName)) ∈ GW := List.mem_filter.mpr ⟨List.mem_append_right _ (List.mem_of_getElem? (i := 178) (by decide +kernel)), rfl⟩
theorem gw_179 : (Jvm.Cond.instanceMethod ({ cls := "CoinRows$Model", name := "copyFrom", desc := "(LCoinRows$Model;)V" } : Jvm.MethodName)) ∈ GW := List.mem_filter.mpr ⟨List.mem_append_right _ (List.mem_of_getElem? (i := 179) (by decide +kernel)), rfl⟩
theorem gw_180 : (Jvm.Cond.selects "CoinRows$Model" ({ cls := "CoinRows$Model", name := "copyFrom", desc := "(LCoinRows$Model;)V" } : Jvm.MethodName) ({ cls := "CoinRows$Model", name := "copyFrom", desc := "(LCoinRows$Model;)V" } : Jvm.MethodName)) ∈ GW := List.mem_filter.mpr ⟨List.mem_append_right _ (List.mem_of_getElem? (i := 180) (by decide +kernel)), rfl⟩
theorem gw_181 : (Jvm.Cond.code ({ cls := "CoinRows$Model", name := "copyFrom", desc := "(LCoinRows$Model;)V" } : Jvm.MethodName) prog_2_method_2_code (2 : Nat) (Option.none : Option Jvm.ClassFile.FieldType)) ∈ GW := List.mem_filter.mpr ⟨List.mem_append_right _ (List.mem_of_getElem? (i := 181) (by decide +kernel)), rfl⟩
theorem gw_182 : (Jvm.Cond.methodLink "CoinRows$Model" (22 : Nat) ({ cls := "java/lang/System", name := "arraycopy", desc := "(Ljava/lang/Object;ILjava/lang/Object;II)V" } : Jvm.MethodName)) ∈ GW := List.mem_filter.mpr ⟨List.mem_append_right _ (List.mem_of_getElem? (i := 182) (by decide +kernel)), rfl⟩
theorem gw_183 : (Jvm.Cond.static ({ cls := "java/lang/System", name := "arraycopy", desc := "(Ljava/lang/Object;ILjava/lang/Object;II)V" } : Jvm.MethodName)) ∈ GW := List.mem_filter.mpr ⟨List.mem_append_right _ (List.mem_of_getElem? (i := 183) (by decide +kernel)), rfl⟩
theorem gw_184 : (Jvm.Cond.native ({ cls := "java/lang/System", name := "arraycopy", desc := "(Ljava/lang/Object;ILjava/lang/Object;II)V" } : Jvm.MethodName)) ∈ GW := List.mem_filter.mpr ⟨List.mem_append_right _ (List.mem_of_getElem? (i := 184) (by decide +kernel)), rfl⟩
theorem gw_185 : (Jvm.Cond.methodLink "CoinRowsLaw" (18 : Nat) ({ cls := "CoinRows", name := "weight", desc := "(III)I" } : Jvm.MethodName)) ∈ GW := List.mem_filter.mpr ⟨List.mem_append_right _ (List.mem_of_getElem? (i := 185) (by decide +kernel)), rfl⟩
theorem gw_186 : (Jvm.Cond.instanceMethod ({ cls := "CoinRows", name := "weight", desc := "(III)I" } : Jvm.MethodName)) ∈ GW := List.mem_filter.mpr ⟨List.mem_append_right _ (List.mem_of_getElem? (i := 186) (by decide +kernel)), rfl⟩
theorem gw_187 : (Jvm.Cond.selects "CoinRows" ({ cls := "CoinRows", name := "weight", desc := "(III)I" } : Jvm.MethodName) ({ cls := "CoinRows", name := "weight", desc := "(III)I" } : Jvm.MethodName)) ∈ GW := List.mem_filter.mpr ⟨List.mem_append_right _ (List.mem_of_getElem? (i := 187) (by decide +kernel)), rfl⟩
theorem gw_188 : (Jvm.Cond.code ({ cls := "CoinRows", name := "weight", desc := "(III)I" } : Jvm.MethodName) prog_1_method_3_code (5 : Nat) (Option.some Jvm.ClassFile.FieldType.int)) ∈ GW := List.mem_filter.mpr ⟨List.mem_append_right _ (List.mem_of_getElem? (i := 188) (by decide +kernel)), rfl⟩
theorem gw_189 : (Jvm.Cond.methodLink "CoinRowsLaw" (23 : Nat) ({ cls := "CoinRows", name := "add", desc := "(I)I" } : Jvm.MethodName)) ∈ GW := List.mem_filter.mpr ⟨List.mem_append_right _ (List.mem_of_getElem? (i := 189) (by decide +kernel)), rfl⟩
theorem gw_190 : (Jvm.Cond.instanceMethod ({ cls := "CoinRows", name := "add", desc := "(I)I" } : Jvm.MethodName)) ∈ GW := List.mem_filter.mpr ⟨List.mem_append_right _ (List.mem_of_getElem? (i := 190) (by decide +kernel)), rfl⟩
theorem gw_191 : (Jvm.Cond.selects "CoinRows" ({ cls := "CoinRows", name := "add", desc := "(I)I" } : Jvm.MethodName) ({ cls := "CoinRows", name := "add", desc := "(I)I" } : Jvm.MethodName)) ∈ GW := List.mem_filter.mpr ⟨List.mem_append_right _ (List.mem_of_getElem? (i := 191) (by decide +kernel)), rfl⟩
theorem gw_192 : (Jvm.Cond.code ({ cls := "CoinRows", name := "add", desc := "(I)I" } : Jvm.MethodName) prog_1_method_4_code (2 : Nat) (Option.some Jvm.ClassFile.FieldType.int)) ∈ GW := List.mem_filter.mpr ⟨List.mem_append_right _ (List.mem_of_getElem? (i := 192) (by decide +kernel)), rfl⟩
theorem gw_193 : (Jvm.Cond.methodLink "CoinRows" (77 : Nat) ({ cls := "CoinRows$Model", name := "append", desc := "(I)V" } : Jvm.MethodName)) ∈ GW := List.mem_filter.mpr ⟨List.mem_append_right _ (List.mem_of_getElem? (i := 193) (by decide +kernel)), rfl⟩
theorem gw_194 : (Jvm.Cond.instanceMethod ({ cls := "CoinRows$Model", name := "append", desc := "(I)V" } : Jvm.MethodName)) ∈ GW := List.mem_filter.mpr ⟨List.mem_append_right _ (List.mem_of_getElem? (i := 194) (by decide +kernel)), rfl⟩
theorem gw_195 : (Jvm.Cond.selects "CoinRows$Model" ({ cls := "CoinRows$Model", name := "append", desc := "(I)V" } : Jvm.MethodName) ({ cls := "CoinRows$Model", name := "append", desc := "(I)V" } : Jvm.MethodName)) ∈ GW := List.mem_filter.mpr ⟨List.mem_append_right _ (List.mem_of_getElem? (i := 195) (by decide +kernel)), rfl⟩
theorem gw_196 : (Jvm.Cond.code ({ cls := "CoinRows$Model", name := "append", desc := "(I)V" } : Jvm.MethodName) prog_2_method_4_code (2 : Nat) (Option.none : Option Jvm.ClassFile.FieldType)) ∈ GW := List.mem_filter.mpr ⟨List.mem_append_right _ (List.mem_of_getElem? (i := 196) (by decide +kernel)), rfl⟩
theorem gw_197 : (Jvm.Cond.methodLink "CoinRowsLaw" (28 : Nat) ({ cls := "CoinRows", name := "cut", desc := "()I" } : Jvm.MethodName)) ∈ GW := List.mem_filter.mpr ⟨List.mem_append_right _ (List.mem_of_getElem? (i := 197) (by decide +kernel)), rfl⟩
theorem gw_198 : (Jvm.Cond.instanceMethod ({ cls := "CoinRows", name := "cut", desc := "()I" } : Jvm.MethodName)) ∈ GW := List.mem_filter.mpr ⟨List.mem_append_right _ (List.mem_of_getElem? (i := 198) (by decide +kernel)), rfl⟩
theorem gw_199 : (Jvm.Cond.selects "CoinRows" ({ cls := "CoinRows", name := "cut", desc := "()I" } : Jvm.MethodName) ({ cls := "CoinRows", name := "cut", desc := "()I" } : Jvm.MethodName)) ∈ GW := List.mem_filter.mpr ⟨List.mem_append_right _ (List.mem_of_getElem? (i := 199) (by decide +kernel)), rfl⟩
theorem gw_200 : (Jvm.Cond.code ({ cls := "CoinRows", name := "cut", desc := "()I" } : Jvm.MethodName) prog_1_method_5_code (1 : Nat) (Option.some Jvm.ClassFile.FieldType.int)) ∈ GW := List.mem_filter.mpr ⟨List.mem_append_right _ (List.mem_of_getElem? (i := 200) (by decide +kernel)), rfl⟩
theorem gw_201 : (Jvm.Cond.methodLink "CoinRowsLaw" (33 : Nat) ({ cls := "CoinRows", name := "letter", desc := "(I)I" } : Jvm.MethodName)) ∈ GW := List.mem_filter.mpr ⟨List.mem_append_right _ (List.mem_of_getElem? (i := 201) (by decide +kernel)), rfl⟩
theorem gw_202 : (Jvm.Cond.instanceMethod ({ cls := "CoinRows", name := "letter", desc := "(I)I" } : Jvm.MethodName)) ∈ GW := List.mem_filter.mpr ⟨List.mem_append_right _ (List.mem_of_getElem? (i := 202) (by decide +kernel)), rfl⟩
theorem gw_203 : (Jvm.Cond.selects "CoinRows" ({ cls := "CoinRows", name := "letter", desc := "(I)I" } : Jvm.MethodName) ({ cls := "CoinRows", name := "letter", desc := "(I)I" } : Jvm.MethodName)) ∈ GW := List.mem_filter.mpr ⟨List.mem_append_right _ (List.mem_of_getElem? (i := 203) (by decide +kernel)), rfl⟩
theorem gw_204 : (Jvm.Cond.code ({ cls := "CoinRows", name := "letter", desc := "(I)I" } : Jvm.MethodName) prog_1_method_6_code (2 : Nat) (Option.some Jvm.ClassFile.FieldType.int)) ∈ GW := List.mem_filter.mpr ⟨List.mem_append_right _ (List.mem_of_getElem? (i := 204) (by decide +kernel)), rfl⟩
theorem gw_205 : (Jvm.Cond.methodLink "CoinRows" (84 : Nat) ({ cls := "CoinRows$Model", name := "hasPlace", desc := "(I)Z" } : Jvm.MethodName)) ∈ GW := List.mem_filter.mpr ⟨List.mem_append_right _ (List.mem_of_getElem? (i := 205) (by decide +kernel)), rfl⟩
theorem gw_206 : (Jvm.Cond.instanceMethod ({ cls := "CoinRows$Model", name := "hasPlace", desc := "(I)Z" } : Jvm.MethodName)) ∈ GW := List.mem_filter.mpr ⟨List.mem_append_right _ (List.mem_of_getElem? (i := 206) (by decide +kernel)), rfl⟩
theorem gw_207 : (Jvm.Cond.selects "CoinRows$Model" ({ cls := "CoinRows$Model", name := "hasPlace", desc := "(I)Z" } : Jvm.MethodName) ({ cls := "CoinRows$Model", name := "hasPlace", desc := "(I)Z" } : Jvm.MethodName)) ∈ GW := List.mem_filter.mpr ⟨List.mem_append_right _ (List.mem_of_getElem? (i := 207) (by decide +kernel)), rfl⟩
theorem gw_208 : (Jvm.Cond.code ({ cls := "CoinRows$Model", name := "hasPlace", desc := "(I)Z" } : Jvm.MethodName) prog_2_method_3_code (2 : Nat) (Option.some Jvm.ClassFile.FieldType.boolean)) ∈ GW := List.mem_filter.mpr ⟨List.mem_append_right _ (List.mem_of_getElem? (i := 208) (by decide +kernel)), rfl⟩
theorem gw_209 : (Jvm.Cond.methodLink "CoinRowsLaw" (37 : Nat) ({ cls := "CoinRows", name := "train", desc := "()I" } : Jvm.MethodName)) ∈ GW := List.mem_filter.mpr ⟨List.mem_append_right _ (List.mem_of_getElem? (i := 209) (by decide +kernel)), rfl⟩
theorem gw_210 : (Jvm.Cond.instanceMethod ({ cls := "CoinRows", name := "train", desc := "()I" } : Jvm.MethodName)) ∈ GW := List.mem_filter.mpr ⟨List.mem_append_right _ (List.mem_of_getElem? (i := 210) (by decide +kernel)), rfl⟩
theorem gw_211 : (Jvm.Cond.selects "CoinRows" ({ cls := "CoinRows", name := "train", desc := "()I" } : Jvm.MethodName) ({ cls := "CoinRows", name := "train", desc := "()I" } : Jvm.MethodName)) ∈ GW := List.mem_filter.mpr ⟨List.mem_append_right _ (List.mem_of_getElem? (i := 211) (by decide +kernel)), rfl⟩
theorem gw_212 : (Jvm.Cond.code ({ cls := "CoinRows", name := "train", desc := "()I" } : Jvm.MethodName) prog_1_method_7_code (1 : Nat) (Option.some Jvm.ClassFile.FieldType.int)) ∈ GW := List.mem_filter.mpr ⟨List.mem_append_right _ (List.mem_of_getElem? (i := 212) (by decide +kernel)), rfl⟩
theorem gw_213 : (Jvm.Cond.methodLink "CoinRows" (87 : Nat) ({ cls := "CoinRows$Sums", name := "measure", desc := "(LCoinRows$Model;)V" } : Jvm.MethodName)) ∈ GW := List.mem_filter.mpr ⟨List.mem_append_right _ (List.mem_of_getElem? (i := 213) (by decide +kernel)), rfl⟩
theorem gw_214 : (Jvm.Cond.instanceMethod ({ cls := "CoinRows$Sums", name := "measure", desc := "(LCoinRows$Model;)V" } : Jvm.MethodName)) ∈ GW := List.mem_filter.mpr ⟨List.mem_append_right _ (List.mem_of_getElem? (i := 214) (by decide +kernel)), rfl⟩
theorem gw_215 : (Jvm.Cond.selects "CoinRows$Sums" ({ cls := "CoinRows$Sums", name := "measure", desc := "(LCoinRows$Model;)V" } : Jvm.MethodName) ({ cls := "CoinRows$Sums", name := "measure", desc := "(LCoinRows$Model;)V" } : Jvm.MethodName)) ∈ GW := List.mem_filter.mpr ⟨List.mem_append_right _ (List.mem_of_getElem? (i := 215) (by decide +kernel)), rfl⟩
theorem gw_216 : (Jvm.Cond.code ({ cls := "CoinRows$Sums", name := "measure", desc := "(LCoinRows$Model;)V" } : Jvm.MethodName) prog_4_method_2_code (2 : Nat) (Option.none : Option Jvm.ClassFile.FieldType)) ∈ GW := List.mem_filter.mpr ⟨List.mem_append_right _ (List.mem_of_getElem? (i := 216) (by decide +kernel)), rfl⟩
theorem gw_217 : (Jvm.Cond.methodLink "CoinRows$Sums" (30 : Nat) ({ cls := "CoinRows$Sums", name := "sumBeginnings", desc := "(LCoinRows$Model;)V" } : Jvm.MethodName)) ∈ GW := List.mem_filter.mpr ⟨List.mem_append_right _ (List.mem_of_getElem? (i := 217) (by decide +kernel)), rfl⟩
theorem gw_219 : (Jvm.Cond.instanceMethod ({ cls := "CoinRows$Sums", name := "sumBeginnings", desc := "(LCoinRows$Model;)V" } : Jvm.MethodName)) ∈ GW := List.mem_filter.mpr ⟨List.mem_append_right _ (List.mem_of_getElem? (i := 219) (by decide +kernel)), rfl⟩
theorem gw_220 : (Jvm.Cond.code ({ cls := "CoinRows$Sums", name := "sumBeginnings", desc := "(LCoinRows$Model;)V" } : Jvm.MethodName) prog_4_method_11_code (4 : Nat) (Option.none : Option Jvm.ClassFile.FieldType)) ∈ GW := List.mem_filter.mpr ⟨List.mem_append_right _ (List.mem_of_getElem? (i := 220) (by decide +kernel)), rfl⟩
theorem gw_221 : (Jvm.Cond.methodLink "CoinRows$Sums" (59 : Nat) ({ cls := "CoinRows$Sums", name := "arrive", desc := "(LCoinRows$Model;II)J" } : Jvm.MethodName)) ∈ GW := List.mem_filter.mpr ⟨List.mem_append_right _ (List.mem_of_getElem? (i := 221) (by decide +kernel)), rfl⟩
theorem gw_223 : (Jvm.Cond.instanceMethod ({ cls := "CoinRows$Sums", name := "arrive", desc := "(LCoinRows$Model;II)J" } : Jvm.MethodName)) ∈ GW := List.mem_filter.mpr ⟨List.mem_append_right _ (List.mem_of_getElem? (i := 223) (by decide +kernel)), rfl⟩
theorem gw_224 : (Jvm.Cond.code ({ cls := "CoinRows$Sums", name := "arrive", desc := "(LCoinRows$Model;II)J" } : Jvm.MethodName) prog_4_method_12_code (7 : Nat) (Option.some Jvm.ClassFile.FieldType.long)) ∈ GW := List.mem_filter.mpr ⟨List.mem_append_right _ (List.mem_of_getElem? (i := 224) (by decide +kernel)), rfl⟩
theorem gw_225 : (Jvm.Cond.methodLink "CoinRows$Sums" (63 : Nat) ({ cls := "CoinRows$Model", name := "stepWeight", desc := "(II)I" } : Jvm.MethodName)) ∈ GW := List.mem_filter.mpr ⟨List.mem_append_right _ (List.mem_of_getElem? (i := 225) (by decide +kernel)), rfl⟩
theorem gw_226 : (Jvm.Cond.instanceMethod ({ cls := "CoinRows$Model", name := "stepWeight", desc := "(II)I" } : Jvm.MethodName)) ∈ GW := List.mem_filter.mpr ⟨List.mem_append_right _ (List.mem_of_getElem? (i := 226) (by decide +kernel)), rfl⟩
theorem gw_227 : (Jvm.Cond.selects "CoinRows$Model" ({ cls := "CoinRows$Model", name := "stepWeight", desc := "(II)I" } : Jvm.MethodName) ({ cls := "CoinRows$Model", name := "stepWeight", desc := "(II)I" } : Jvm.MethodName)) ∈ GW := List.mem_filter.mpr ⟨List.mem_append_right _ (List.mem_of_getElem? (i := 227) (by decide +kernel)), rfl⟩
theorem gw_228 : (Jvm.Cond.code ({ cls := "CoinRows$Model", name := "stepWeight", desc := "(II)I" } : Jvm.MethodName) prog_2_method_6_code (3 : Nat) (Option.some Jvm.ClassFile.FieldType.int)) ∈ GW := List.mem_filter.mpr ⟨List.mem_append_right _ (List.mem_of_getElem? (i := 228) (by decide +kernel)), rfl⟩
theorem gw_229 : (Jvm.Cond.methodLink "CoinRows$Sums" (55 : Nat) ({ cls := "CoinRows$Model", name := "letterWeight", desc := "(II)I" } : Jvm.MethodName)) ∈ GW := List.mem_filter.mpr ⟨List.mem_append_right _ (List.mem_of_getElem? (i := 229) (by decide +kernel)), rfl⟩
theorem gw_230 : (Jvm.Cond.instanceMethod ({ cls := "CoinRows$Model", name := "letterWeight", desc := "(II)I" } : Jvm.MethodName)) ∈ GW := List.mem_filter.mpr ⟨List.mem_append_right _ (List.mem_of_getElem? (i := 230) (by decide +kernel)), rfl⟩
theorem gw_231 : (Jvm.Cond.selects "CoinRows$Model" ({ cls := "CoinRows$Model", name := "letterWeight", desc := "(II)I" } : Jvm.MethodName) ({ cls := "CoinRows$Model", name := "letterWeight", desc := "(II)I" } : Jvm.MethodName)) ∈ GW := List.mem_filter.mpr ⟨List.mem_append_right _ (List.mem_of_getElem? (i := 231) (by decide +kernel)), rfl⟩
theorem gw_232 : (Jvm.Cond.code ({ cls := "CoinRows$Model", name := "letterWeight", desc := "(II)I" } : Jvm.MethodName) prog_2_method_7_code (3 : Nat) (Option.some Jvm.ClassFile.FieldType.int)) ∈ GW := List.mem_filter.mpr ⟨List.mem_append_right _ (List.mem_of_getElem? (i := 232) (by decide +kernel)), rfl⟩
theorem gw_233 : (Jvm.Cond.methodLink "CoinRows$Sums" (34 : Nat) ({ cls := "CoinRows$Sums", name := "sumRests", desc := "(LCoinRows$Model;)V" } : Jvm.MethodName)) ∈ GW := List.mem_filter.mpr ⟨List.mem_append_right _ (List.mem_of_getElem? (i := 233) (by decide +kernel)), rfl⟩
theorem gw_235 : (Jvm.Cond.instanceMethod ({ cls := "CoinRows$Sums", name := "sumRests", desc := "(LCoinRows$Model;)V" } : Jvm.MethodName)) ∈ GW := List.mem_filter.mpr ⟨List.mem_append_right _ (List.mem_of_getElem? (i := 235) (by decide +kernel)), rfl⟩
theorem gw_236 : (Jvm.Cond.code ({ cls := "CoinRows$Sums", name := "sumRests", desc := "(LCoinRows$Model;)V" } : Jvm.MethodName) prog_4_method_13_code (4 : Nat) (Option.none : Option Jvm.ClassFile.FieldType)) ∈ GW := List.mem_filter.mpr ⟨List.mem_append_right _ (List.mem_of_getElem? (i := 236) (by decide +kernel)), rfl⟩
theorem gw_237 : (Jvm.Cond.methodLink "CoinRows$Sums" (66 : Nat) ({ cls := "CoinRows$Sums", name := "sumRestsBehind", desc := "(LCoinRows$Model;II)V" } : Jvm.MethodName)) ∈ GW := List.mem_filter.mpr ⟨List.mem_append_right _ (List.mem_of_getElem? (i := 237) (by decide +kernel)), rfl⟩
theorem gw_239 : (Jvm.Cond.instanceMethod ({ cls := "CoinRows$Sums", name := "sumRestsBehind", desc := "(LCoinRows$Model;II)V" } : Jvm.MethodName)) ∈ GW := List.mem_filter.mpr ⟨List.mem_append_right _ (List.mem_of_getElem? (i := 239) (by decide +kernel)), rfl⟩
theorem gw_240 : (Jvm.Cond.code ({ cls := "CoinRows$Sums", name := "sumRestsBehind", desc := "(LCoinRows$Model;II)V" } : Jvm.MethodName) prog_4_method_14_code (12 : Nat) (Option.none : Option Jvm.ClassFile.FieldType)) ∈ GW := List.mem_filter.mpr ⟨List.mem_append_right _ (List.mem_of_getElem? (i := 240) (by decide +kernel)), rfl⟩
theorem gw_241 : (Jvm.Cond.methodLink "CoinRows$Sums" (43 : Nat) ({ cls := "CoinRows$Model", name := "moveWeight", desc := "(III)I" } : Jvm.MethodName)) ∈ GW := List.mem_filter.mpr ⟨List.mem_append_right _ (List.mem_of_getElem? (i := 241) (by decide +kernel)), rfl⟩
theorem gw_242 : (Jvm.Cond.instanceMethod ({ cls := "CoinRows$Model", name := "moveWeight", desc := "(III)I" } : Jvm.MethodName)) ∈ GW := List.mem_filter.mpr ⟨List.mem_append_right _ (List.mem_of_getElem? (i := 242) (by decide +kernel)), rfl⟩
theorem gw_243 : (Jvm.Cond.selects "CoinRows$Model" ({ cls := "CoinRows$Model", name := "moveWeight", desc := "(III)I" } : Jvm.MethodName) ({ cls := "CoinRows$Model", name := "moveWeight", desc := "(III)I" } : Jvm.MethodName)) ∈ GW := List.mem_filter.mpr ⟨List.mem_append_right _ (List.mem_of_getElem? (i := 243) (by decide +kernel)), rfl⟩
theorem gw_244 : (Jvm.Cond.code ({ cls := "CoinRows$Model", name := "moveWeight", desc := "(III)I" } : Jvm.MethodName) prog_2_method_8_code (4 : Nat) (Option.some Jvm.ClassFile.FieldType.int)) ∈ GW := List.mem_filter.mpr ⟨List.mem_append_right _ (List.mem_of_getElem? (i := 244) (by decide +kernel)), rfl⟩
theorem gw_245 : (Jvm.Cond.methodLink "CoinRows$Model" (28 : Nat) ({ cls := "CoinRows$Model", name := "stepWeight", desc := "(II)I" } : Jvm.MethodName)) ∈ GW := List.mem_filter.mpr ⟨List.mem_append_right _ (List.mem_of_getElem? (i := 245) (by decide +kernel)), rfl⟩
theorem gw_246 : (Jvm.Cond.methodLink "CoinRows$Model" (32 : Nat) ({ cls := "CoinRows$Model", name := "letterWeight", desc := "(II)I" } : Jvm.MethodName)) ∈ GW := List.mem_filter.mpr ⟨List.mem_append_right _ (List.mem_of_getElem? (i := 246) (by decide +kernel)), rfl⟩
theorem gw_247 : (Jvm.Cond.methodLink "CoinRows$Sums" (70 : Nat) ({ cls := "java/lang/Math", name := "max", desc := "(JJ)J" } : Jvm.MethodName)) ∈ GW := List.mem_filter.mpr ⟨List.mem_append_right _ (List.mem_of_getElem? (i := 247) (by decide +kernel)), rfl⟩
theorem gw_248 : (Jvm.Cond.static ({ cls := "java/lang/Math", name := "max", desc := "(JJ)J" } : Jvm.MethodName)) ∈ GW := List.mem_filter.mpr ⟨List.mem_append_right _ (List.mem_of_getElem? (i := 248) (by decide +kernel)), rfl⟩
theorem gw_249 : (Jvm.Cond.code ({ cls := "java/lang/Math", name := "max", desc := "(JJ)J" } : Jvm.MethodName) prog_10_method_66_code (4 : Nat) (Option.some Jvm.ClassFile.FieldType.long)) ∈ GW := List.mem_filter.mpr ⟨List.mem_append_right _ (List.mem_of_getElem? (i := 249) (by decide +kernel)), rfl⟩
theorem gw_250 : (Jvm.Cond.methodLink "CoinRows" (91 : Nat) ({ cls := "CoinRows$Sums", name := "whole", desc := "()J" } : Jvm.MethodName)) ∈ GW := List.mem_filter.mpr ⟨List.mem_append_right _ (List.mem_of_getElem? (i := 250) (by decide +kernel)), rfl⟩
theorem gw_251 : (Jvm.Cond.instanceMethod ({ cls := "CoinRows$Sums", name := "whole", desc := "()J" } : Jvm.MethodName)) ∈ GW := List.mem_filter.mpr ⟨List.mem_append_right _ (List.mem_of_getElem? (i := 251) (by decide +kernel)), rfl⟩
theorem gw_252 : (Jvm.Cond.selects "CoinRows$Sums" ({ cls := "CoinRows$Sums", name := "whole", desc := "()J" } : Jvm.MethodName) ({ cls := "CoinRows$Sums", name := "whole", desc := "()J" } : Jvm.MethodName)) ∈ GW := List.mem_filter.mpr ⟨List.mem_append_right _ (List.mem_of_getElem? (i := 252) (by decide +kernel)), rfl⟩
theorem gw_253 : (Jvm.Cond.code ({ cls := "CoinRows$Sums", name := "whole", desc := "()J" } : Jvm.MethodName) prog_4_method_3_code (1 : Nat) (Option.some Jvm.ClassFile.FieldType.long)) ∈ GW := List.mem_filter.mpr ⟨List.mem_append_right _ (List.mem_of_getElem? (i := 253) (by decide +kernel)), rfl⟩
theorem gw_254 : (Jvm.Cond.methodLink "CoinRows" (95 : Nat) ({ cls := "CoinRows$Trainer", name := "improve", desc := "(LCoinRows$Model;LCoinRows$Sums;)I" } : Jvm.MethodName)) ∈ GW := List.mem_filter.mpr ⟨List.mem_append_right _ (List.mem_of_getElem? (i := 254) (by decide +kernel)), rfl⟩
theorem gw_255 : (Jvm.Cond.instanceMethod ({ cls := "CoinRows$Trainer", name := "improve", desc := "(LCoinRows$Model;LCoinRows$Sums;)I" } : Jvm.MethodName)) ∈ GW := List.mem_filter.mpr ⟨List.mem_append_right _ (List.mem_of_getElem? (i := 255) (by decide +kernel)), rfl⟩
theorem gw_256 : (Jvm.Cond.selects "CoinRows$Trainer" ({ cls := "CoinRows$Trainer", name := "improve", desc := "(LCoinRows$Model;LCoinRows$Sums;)I" } : Jvm.MethodName) ({ cls := "CoinRows$Trainer", name := "improve", desc := "(LCoinRows$Model;LCoinRows$Sums;)I" } : Jvm.MethodName)) ∈ GW := List.mem_filter.mpr ⟨List.mem_append_right _ (List.mem_of_getElem? (i := 256) (by decide +kernel)), rfl⟩
theorem gw_257 : (Jvm.Cond.code ({ cls := "CoinRows$Trainer", name := "improve", desc := "(LCoinRows$Model;LCoinRows$Sums;)I" } : Jvm.MethodName) prog_5_method_2_code (5 : Nat) (Option.some Jvm.ClassFile.FieldType.int)) ∈ GW := List.mem_filter.mpr ⟨List.mem_append_right _ (List.mem_of_getElem? (i := 257) (by decide +kernel)), rfl⟩
theorem gw_258 : (Jvm.Cond.methodLink "CoinRows$Trainer" (15 : Nat) ({ cls := "CoinRows$Sums", name := "ofStep", desc := "(LCoinRows$Model;II)J" } : Jvm.MethodName)) ∈ GW := List.mem_filter.mpr ⟨List.mem_append_right _ (List.mem_of_getElem? (i := 258) (by decide +kernel)), rfl⟩
theorem gw_259 : (Jvm.Cond.instanceMethod ({ cls := "CoinRows$Sums", name := "ofStep", desc := "(LCoinRows$Model;II)J" } : Jvm.MethodName)) ∈ GW := List.mem_filter.mpr ⟨List.mem_append_right _ (List.mem_of_getElem? (i := 259) (by decide +kernel)), rfl⟩
theorem gw_260 : (Jvm.Cond.selects "CoinRows$Sums" ({ cls := "CoinRows$Sums", name := "ofStep", desc := "(LCoinRows$Model;II)J" } : Jvm.MethodName) ({ cls := "CoinRows$Sums", name := "ofStep", desc := "(LCoinRows$Model;II)J" } : Jvm.MethodName)) ∈ GW := List.mem_filter.mpr ⟨List.mem_append_right _ (List.mem_of_getElem? (i := 260) (by decide +kernel)), rfl⟩
theorem gw_261 : (Jvm.Cond.code ({ cls := "CoinRows$Sums", name := "ofStep", desc := "(LCoinRows$Model;II)J" } : Jvm.MethodName) prog_4_method_7_code (8 : Nat) (Option.some Jvm.ClassFile.FieldType.long)) ∈ GW := List.mem_filter.mpr ⟨List.mem_append_right _ (List.mem_of_getElem? (i := 261) (by decide +kernel)), rfl⟩
theorem gw_262 : (Jvm.Cond.methodLink "CoinRows$Trainer" (21 : Nat) ({ cls := "CoinRows$Sums", name := "ofLetter", desc := "(LCoinRows$Model;II)J" } : Jvm.MethodName)) ∈ GW := List.mem_filter.mpr ⟨List.mem_append_right _ (List.mem_of_getElem? (i := 262) (by decide +kernel)), rfl⟩
theorem gw_263 : (Jvm.Cond.instanceMethod ({ cls := "CoinRows$Sums", name := "ofLetter", desc := "(LCoinRows$Model;II)J" } : Jvm.MethodName)) ∈ GW := List.mem_filter.mpr ⟨List.mem_append_right _ (List.mem_of_getElem? (i := 263) (by decide +kernel)), rfl⟩
theorem gw_264 : (Jvm.Cond.selects "CoinRows$Sums" ({ cls := "CoinRows$Sums", name := "ofLetter", desc := "(LCoinRows$Model;II)J" } : Jvm.MethodName) ({ cls := "CoinRows$Sums", name := "ofLetter", desc := "(LCoinRows$Model;II)J" } : Jvm.MethodName)) ∈ GW := List.mem_filter.mpr ⟨List.mem_append_right _ (List.mem_of_getElem? (i := 264) (by decide +kernel)), rfl⟩
theorem gw_265 : (Jvm.Cond.code ({ cls := "CoinRows$Sums", name := "ofLetter", desc := "(LCoinRows$Model;II)J" } : Jvm.MethodName) prog_4_method_8_code (7 : Nat) (Option.some Jvm.ClassFile.FieldType.long)) ∈ GW := List.mem_filter.mpr ⟨List.mem_append_right _ (List.mem_of_getElem? (i := 265) (by decide +kernel)), rfl⟩
theorem gw_266 : (Jvm.Cond.methodLink "CoinRows$Sums" (51 : Nat) ({ cls := "CoinRows$Sums", name := "through", desc := "(II)J" } : Jvm.MethodName)) ∈ GW := List.mem_filter.mpr ⟨List.mem_append_right _ (List.mem_of_getElem? (i := 266) (by decide +kernel)), rfl⟩
theorem gw_267 : (Jvm.Cond.instanceMethod ({ cls := "CoinRows$Sums", name := "through", desc := "(II)J" } : Jvm.MethodName)) ∈ GW := List.mem_filter.mpr ⟨List.mem_append_right _ (List.mem_of_getElem? (i := 267) (by decide +kernel)), rfl⟩
theorem gw_268 : (Jvm.Cond.selects "CoinRows$Sums" ({ cls := "CoinRows$Sums", name := "through", desc := "(II)J" } : Jvm.MethodName) ({ cls := "CoinRows$Sums", name := "through", desc := "(II)J" } : Jvm.MethodName)) ∈ GW := List.mem_filter.mpr ⟨List.mem_append_right _ (List.mem_of_getElem? (i := 268) (by decide +kernel)), rfl⟩
theorem gw_269 : (Jvm.Cond.code ({ cls := "CoinRows$Sums", name := "through", desc := "(II)J" } : Jvm.MethodName) prog_4_method_6_code (3 : Nat) (Option.some Jvm.ClassFile.FieldType.long)) ∈ GW := List.mem_filter.mpr ⟨List.mem_append_right _ (List.mem_of_getElem? (i := 269) (by decide +kernel)), rfl⟩
theorem gw_270 : (Jvm.Cond.methodLink "CoinRows$Trainer" (24 : Nat) ({ cls := "CoinRows$Trainer", name := "improveGroup", desc := "(LCoinRows$Model;II)I" } : Jvm.MethodName)) ∈ GW := List.mem_filter.mpr ⟨List.mem_append_right _ (List.mem_of_getElem? (i := 270) (by decide +kernel)), rfl⟩
theorem gw_272 : (Jvm.Cond.instanceMethod ({ cls := "CoinRows$Trainer", name := "improveGroup", desc := "(LCoinRows$Model;II)I" } : Jvm.MethodName)) ∈ GW := List.mem_filter.mpr ⟨List.mem_append_right _ (List.mem_of_getElem? (i := 272) (by decide +kernel)), rfl⟩
theorem gw_273 : (Jvm.Cond.code ({ cls := "CoinRows$Trainer", name := "improveGroup", desc := "(LCoinRows$Model;II)I" } : Jvm.MethodName) prog_5_method_3_code (9 : Nat) (Option.some Jvm.ClassFile.FieldType.int)) ∈ GW := List.mem_filter.mpr ⟨List.mem_append_right _ (List.mem_of_getElem? (i := 273) (by decide +kernel)), rfl⟩
theorem gw_274 : (Jvm.Cond.methodLink "CoinRows$Trainer" (28 : Nat) ({ cls := "java/lang/Math", name := "max", desc := "(JJ)J" } : Jvm.MethodName)) ∈ GW := List.mem_filter.mpr ⟨List.mem_append_right _ (List.mem_of_getElem? (i := 274) (by decide +kernel)), rfl⟩
theorem gw_275 : (Jvm.Cond.constantLong "CoinRows$Trainer" (34 : Nat) (6 : Int64)) ∈ GW := List.mem_filter.mpr ⟨List.mem_append_right _ (List.mem_of_getElem? (i := 275) (by decide +kernel)), rfl⟩
theorem gw_276 : (Jvm.Cond.constantLong "CoinRows$Trainer" (36 : Nat) (2 : Int64)) ∈ GW := List.mem_filter.mpr ⟨List.mem_append_right _ (List.mem_of_getElem? (i := 276) (by decide +kernel)), rfl⟩
theorem gw_277 : (Jvm.Cond.methodLink "CoinRowsLaw" (43 : Nat) ({ cls := "CoinRows", name := "put", desc := "(J)I" } : Jvm.MethodName)) ∈ GW := List.mem_filter.mpr ⟨List.mem_append_right _ (List.mem_of_getElem? (i := 277) (by decide +kernel)), rfl⟩
theorem gw_278 : (Jvm.Cond.instanceMethod ({ cls := "CoinRows", name := "put", desc := "(J)I" } : Jvm.MethodName)) ∈ GW := List.mem_filter.mpr ⟨List.mem_append_right _ (List.mem_of_getElem? (i := 278) (by decide +kernel)), rfl⟩
theorem gw_279 : (Jvm.Cond.selects "CoinRows" ({ cls := "CoinRows", name := "put", desc := "(J)I" } : Jvm.MethodName) ({ cls := "CoinRows", name := "put", desc := "(J)I" } : Jvm.MethodName)) ∈ GW := List.mem_filter.mpr ⟨List.mem_append_right _ (List.mem_of_getElem? (i := 279) (by decide +kernel)), rfl⟩
theorem gw_280 : (Jvm.Cond.code ({ cls := "CoinRows", name := "put", desc := "(J)I" } : Jvm.MethodName) prog_1_method_8_code (4 : Nat) (Option.some Jvm.ClassFile.FieldType.int)) ∈ GW := List.mem_filter.mpr ⟨List.mem_append_right _ (List.mem_of_getElem? (i := 280) (by decide +kernel)), rfl⟩
theorem gw_281 : (Jvm.Cond.methodLink "CoinRows" (99 : Nat) ({ cls := "CoinRows$Pad", name := "countSigns", desc := "(J)I" } : Jvm.MethodName)) ∈ GW := List.mem_filter.mpr ⟨List.mem_append_right _ (List.mem_of_getElem? (i := 281) (by decide +kernel)), rfl⟩
theorem gw_282 : (Jvm.Cond.static ({ cls := "CoinRows$Pad", name := "countSigns", desc := "(J)I" } : Jvm.MethodName)) ∈ GW := List.mem_filter.mpr ⟨List.mem_append_right _ (List.mem_of_getElem? (i := 282) (by decide +kernel)), rfl⟩
theorem gw_283 : (Jvm.Cond.code ({ cls := "CoinRows$Pad", name := "countSigns", desc := "(J)I" } : Jvm.MethodName) prog_3_method_2_code (5 : Nat) (Option.some Jvm.ClassFile.FieldType.int)) ∈ GW := List.mem_filter.mpr ⟨List.mem_append_right _ (List.mem_of_getElem? (i := 283) (by decide +kernel)), rfl⟩
theorem gw_284 : (Jvm.Cond.constantLong "CoinRows$Pad" (25 : Nat) (255 : Int64)) ∈ GW := List.mem_filter.mpr ⟨List.mem_append_right _ (List.mem_of_getElem? (i := 284) (by decide +kernel)), rfl⟩
theorem gw_285 : (Jvm.Cond.constantLong "CoinRows$Pad" (27 : Nat) (33 : Int64)) ∈ GW := List.mem_filter.mpr ⟨List.mem_append_right _ (List.mem_of_getElem? (i := 285) (by decide +kernel)), rfl⟩
theorem gw_286 : (Jvm.Cond.constantLong "CoinRows$Pad" (29 : Nat) (126 : Int64)) ∈ GW := List.mem_filter.mpr ⟨List.mem_append_right _ (List.mem_of_getElem? (i := 286) (by decide +kernel)), rfl⟩
theorem gw_287 : (Jvm.Cond.methodLink "CoinRows" (104 : Nat) ({ cls := "CoinRows$Pad", name := "append", desc := "(JI)V" } : Jvm.MethodName)) ∈ GW := List.mem_filter.mpr ⟨List.mem_append_right _ (List.mem_of_getElem? (i := 287) (by decide +kernel)), rfl⟩
theorem gw_288 : (Jvm.Cond.instanceMethod ({ cls := "CoinRows$Pad", name := "append", desc := "(JI)V" } : Jvm.MethodName)) ∈ GW := List.mem_filter.mpr ⟨List.mem_append_right _ (List.mem_of_getElem? (i := 288) (by decide +kernel)), rfl⟩
theorem gw_289 : (Jvm.Cond.selects "CoinRows$Pad" ({ cls := "CoinRows$Pad", name := "append", desc := "(JI)V" } : Jvm.MethodName) ({ cls := "CoinRows$Pad", name := "append", desc := "(JI)V" } : Jvm.MethodName)) ∈ GW := List.mem_filter.mpr ⟨List.mem_append_right _ (List.mem_of_getElem? (i := 289) (by decide +kernel)), rfl⟩
theorem gw_290 : (Jvm.Cond.code ({ cls := "CoinRows$Pad", name := "append", desc := "(JI)V" } : Jvm.MethodName) prog_3_method_3_code (5 : Nat) (Option.none : Option Jvm.ClassFile.FieldType)) ∈ GW := List.mem_filter.mpr ⟨List.mem_append_right _ (List.mem_of_getElem? (i := 290) (by decide +kernel)), rfl⟩
theorem gw_291 : (Jvm.Cond.methodLink "CoinRowsLaw" (48 : Nat) ({ cls := "CoinRows", name := "wipe", desc := "()I" } : Jvm.MethodName)) ∈ GW := List.mem_filter.mpr ⟨List.mem_append_right _ (List.mem_of_getElem? (i := 291) (by decide +kernel)), rfl⟩
theorem gw_292 : (Jvm.Cond.instanceMethod ({ cls := "CoinRows", name := "wipe", desc := "()I" } : Jvm.MethodName)) ∈ GW := List.mem_filter.mpr ⟨List.mem_append_right _ (List.mem_of_getElem? (i := 292) (by decide +kernel)), rfl⟩
theorem gw_293 : (Jvm.Cond.selects "CoinRows" ({ cls := "CoinRows", name := "wipe", desc := "()I" } : Jvm.MethodName) ({ cls := "CoinRows", name := "wipe", desc := "()I" } : Jvm.MethodName)) ∈ GW := List.mem_filter.mpr ⟨List.mem_append_right _ (List.mem_of_getElem? (i := 293) (by decide +kernel)), rfl⟩
theorem gw_294 : (Jvm.Cond.code ({ cls := "CoinRows", name := "wipe", desc := "()I" } : Jvm.MethodName) prog_1_method_9_code (1 : Nat) (Option.some Jvm.ClassFile.FieldType.int)) ∈ GW := List.mem_filter.mpr ⟨List.mem_append_right _ (List.mem_of_getElem? (i := 294) (by decide +kernel)), rfl⟩
theorem gw_295 : (Jvm.Cond.methodLink "CoinRows" (107 : Nat) ({ cls := "CoinRows$Pad", name := "clear", desc := "()I" } : Jvm.MethodName)) ∈ GW := List.mem_filter.mpr ⟨List.mem_append_right _ (List.mem_of_getElem? (i := 295) (by decide +kernel)), rfl⟩
theorem gw_296 : (Jvm.Cond.instanceMethod ({ cls := "CoinRows$Pad", name := "clear", desc := "()I" } : Jvm.MethodName)) ∈ GW := List.mem_filter.mpr ⟨List.mem_append_right _ (List.mem_of_getElem? (i := 296) (by decide +kernel)), rfl⟩
theorem gw_297 : (Jvm.Cond.selects "CoinRows$Pad" ({ cls := "CoinRows$Pad", name := "clear", desc := "()I" } : Jvm.MethodName) ({ cls := "CoinRows$Pad", name := "clear", desc := "()I" } : Jvm.MethodName)) ∈ GW := List.mem_filter.mpr ⟨List.mem_append_right _ (List.mem_of_getElem? (i := 297) (by decide +kernel)), rfl⟩
theorem gw_298 : (Jvm.Cond.code ({ cls := "CoinRows$Pad", name := "clear", desc := "()I" } : Jvm.MethodName) prog_3_method_4_code (2 : Nat) (Option.some Jvm.ClassFile.FieldType.int)) ∈ GW := List.mem_filter.mpr ⟨List.mem_append_right _ (List.mem_of_getElem? (i := 298) (by decide +kernel)), rfl⟩
theorem gw_299 : (Jvm.Cond.methodLink "CoinRowsLaw" (52 : Nat) ({ cls := "CoinRows", name := "fault", desc := "()I" } : Jvm.MethodName)) ∈ GW := List.mem_filter.mpr ⟨List.mem_append_right _ (List.mem_of_getElem? (i := 299) (by decide +kernel)), rfl⟩
theorem gw_300 : (Jvm.Cond.instanceMethod ({ cls := "CoinRows", name := "fault", desc := "()I" } : Jvm.MethodName)) ∈ GW := List.mem_filter.mpr ⟨List.mem_append_right _ (List.mem_of_getElem? (i := 300) (by decide +kernel)), rfl⟩
theorem gw_301 : (Jvm.Cond.selects "CoinRows" ({ cls := "CoinRows", name := "fault", desc := "()I" } : Jvm.MethodName) ({ cls := "CoinRows", name := "fault", desc := "()I" } : Jvm.MethodName)) ∈ GW := List.mem_filter.mpr ⟨List.mem_append_right _ (List.mem_of_getElem? (i := 301) (by decide +kernel)), rfl⟩
theorem gw_302 : (Jvm.Cond.code ({ cls := "CoinRows", name := "fault", desc := "()I" } : Jvm.MethodName) prog_1_method_10_code (1 : Nat) (Option.some Jvm.ClassFile.FieldType.int)) ∈ GW := List.mem_filter.mpr ⟨List.mem_append_right _ (List.mem_of_getElem? (i := 302) (by decide +kernel)), rfl⟩
theorem gw_303 : (Jvm.Cond.methodLink "CoinRows" (111 : Nat) ({ cls := "CoinRows$Pad", name := "read", desc := "(LCoinRows$Model;)Z" } : Jvm.MethodName)) ∈ GW := List.mem_filter.mpr ⟨List.mem_append_right _ (List.mem_of_getElem? (i := 303) (by decide +kernel)), rfl⟩
theorem gw_304 : (Jvm.Cond.instanceMethod ({ cls := "CoinRows$Pad", name := "read", desc := "(LCoinRows$Model;)Z" } : Jvm.MethodName)) ∈ GW := List.mem_filter.mpr ⟨List.mem_append_right _ (List.mem_of_getElem? (i := 304) (by decide +kernel)), rfl⟩
theorem gw_305 : (Jvm.Cond.selects "CoinRows$Pad" ({ cls := "CoinRows$Pad", name := "read", desc := "(LCoinRows$Model;)Z" } : Jvm.MethodName) ({ cls := "CoinRows$Pad", name := "read", desc := "(LCoinRows$Model;)Z" } : Jvm.MethodName)) ∈ GW := List.mem_filter.mpr ⟨List.mem_append_right _ (List.mem_of_getElem? (i := 305) (by decide +kernel)), rfl⟩
theorem gw_306 : (Jvm.Cond.code ({ cls := "CoinRows$Pad", name := "read", desc := "(LCoinRows$Model;)Z" } : Jvm.MethodName) prog_3_method_5_code (2 : Nat) (Option.some Jvm.ClassFile.FieldType.boolean)) ∈ GW := List.mem_filter.mpr ⟨List.mem_append_right _ (List.mem_of_getElem? (i := 306) (by decide +kernel)), rfl⟩
theorem gw_307 : (Jvm.Cond.methodLink "CoinRows$Pad" (31 : Nat) ({ cls := "CoinRows$Pad", name := "readPart", desc := "(LCoinRows$Model;)Z" } : Jvm.MethodName)) ∈ GW := List.mem_filter.mpr ⟨List.mem_append_right _ (List.mem_of_getElem? (i := 307) (by decide +kernel)), rfl⟩
theorem gw_309 : (Jvm.Cond.instanceMethod ({ cls := "CoinRows$Pad", name := "readPart", desc := "(LCoinRows$Model;)Z" } : Jvm.MethodName)) ∈ GW := List.mem_filter.mpr ⟨List.mem_append_right _ (List.mem_of_getElem? (i := 309) (by decide +kernel)), rfl⟩
theorem gw_310 : (Jvm.Cond.code ({ cls := "CoinRows$Pad", name := "readPart", desc := "(LCoinRows$Model;)Z" } : Jvm.MethodName) prog_3_method_6_code (3 : Nat) (Option.some Jvm.ClassFile.FieldType.boolean)) ∈ GW := List.mem_filter.mpr ⟨List.mem_append_right _ (List.mem_of_getElem? (i := 310) (by decide +kernel)), rfl⟩
theorem gw_311 : (Jvm.Cond.methodLink "CoinRows$Pad" (35 : Nat) ({ cls := "CoinRows$Pad", name := "accept", desc := "(II)Z" } : Jvm.MethodName)) ∈ GW := List.mem_filter.mpr ⟨List.mem_append_right _ (List.mem_of_getElem? (i := 311) (by decide +kernel)), rfl⟩
theorem gw_313 : (Jvm.Cond.instanceMethod ({ cls := "CoinRows$Pad", name := "accept", desc := "(II)Z" } : Jvm.MethodName)) ∈ GW := List.mem_filter.mpr ⟨List.mem_append_right _ (List.mem_of_getElem? (i := 313) (by decide +kernel)), rfl⟩
theorem gw_314 : (Jvm.Cond.code ({ cls := "CoinRows$Pad", name := "accept", desc := "(II)Z" } : Jvm.MethodName) prog_3_method_12_code (3 : Nat) (Option.some Jvm.ClassFile.FieldType.boolean)) ∈ GW := List.mem_filter.mpr ⟨List.mem_append_right _ (List.mem_of_getElem? (i := 314) (by decide +kernel)), rfl⟩
theorem gw_315 : (Jvm.Cond.methodLink "CoinRows$Pad" (39 : Nat) ({ cls := "CoinRows$Pad", name := "readBegin", desc := "(LCoinRows$Model;)Z" } : Jvm.MethodName)) ∈ GW := List.mem_filter.mpr ⟨List.mem_append_right _ (List.mem_of_getElem? (i := 315) (by decide +kernel)), rfl⟩
theorem gw_317 : (Jvm.Cond.instanceMethod ({ cls := "CoinRows$Pad", name := "readBegin", desc := "(LCoinRows$Model;)Z" } : Jvm.MethodName)) ∈ GW := List.mem_filter.mpr ⟨List.mem_append_right _ (List.mem_of_getElem? (i := 317) (by decide +kernel)), rfl⟩
theorem gw_318 : (Jvm.Cond.code ({ cls := "CoinRows$Pad", name := "readBegin", desc := "(LCoinRows$Model;)Z" } : Jvm.MethodName) prog_3_method_7_code (2 : Nat) (Option.some Jvm.ClassFile.FieldType.boolean)) ∈ GW := List.mem_filter.mpr ⟨List.mem_append_right _ (List.mem_of_getElem? (i := 318) (by decide +kernel)), rfl⟩
theorem gw_319 : (Jvm.Cond.methodLink "CoinRows$Pad" (45 : Nat) ({ cls := "CoinRows$Pad", name := "latest", desc := "()I" } : Jvm.MethodName)) ∈ GW := List.mem_filter.mpr ⟨List.mem_append_right _ (List.mem_of_getElem? (i := 319) (by decide +kernel)), rfl⟩
theorem gw_321 : (Jvm.Cond.instanceMethod ({ cls := "CoinRows$Pad", name := "latest", desc := "()I" } : Jvm.MethodName)) ∈ GW := List.mem_filter.mpr ⟨List.mem_append_right _ (List.mem_of_getElem? (i := 321) (by decide +kernel)), rfl⟩
theorem gw_322 : (Jvm.Cond.code ({ cls := "CoinRows$Pad", name := "latest", desc := "()I" } : Jvm.MethodName) prog_3_method_13_code (1 : Nat) (Option.some Jvm.ClassFile.FieldType.int)) ∈ GW := List.mem_filter.mpr ⟨List.mem_append_right _ (List.mem_of_getElem? (i := 322) (by decide +kernel)), rfl⟩
theorem gw_323 : (Jvm.Cond.methodLink "CoinRows$Pad" (56 : Nat) ({ cls := "CoinRows$Pad", name := "readWeight", desc := "(LCoinRows$Model;II)Z" } : Jvm.MethodName)) ∈ GW := List.mem_filter.mpr ⟨List.mem_append_right _ (List.mem_of_getElem? (i := 323) (by decide +kernel)), rfl⟩
theorem gw_325 : (Jvm.Cond.instanceMethod ({ cls := "CoinRows$Pad", name := "readWeight", desc := "(LCoinRows$Model;II)Z" } : Jvm.MethodName)) ∈ GW := List.mem_filter.mpr ⟨List.mem_append_right _ (List.mem_of_getElem? (i := 325) (by decide +kernel)), rfl⟩
theorem gw_326 : (Jvm.Cond.code ({ cls := "CoinRows$Pad", name := "readWeight", desc := "(LCoinRows$Model;II)Z" } : Jvm.MethodName) prog_3_method_10_code (4 : Nat) (Option.some Jvm.ClassFile.FieldType.boolean)) ∈ GW := List.mem_filter.mpr ⟨List.mem_append_right _ (List.mem_of_getElem? (i := 326) (by decide +kernel)), rfl⟩
theorem gw_327 : (Jvm.Cond.methodLink "CoinRows$Pad" (42 : Nat) ({ cls := "CoinRows$Pad", name := "readRow", desc := "(LCoinRows$Model;)Z" } : Jvm.MethodName)) ∈ GW := List.mem_filter.mpr ⟨List.mem_append_right _ (List.mem_of_getElem? (i := 327) (by decide +kernel)), rfl⟩
theorem gw_329 : (Jvm.Cond.instanceMethod ({ cls := "CoinRows$Pad", name := "readRow", desc := "(LCoinRows$Model;)Z" } : Jvm.MethodName)) ∈ GW := List.mem_filter.mpr ⟨List.mem_append_right _ (List.mem_of_getElem? (i := 329) (by decide +kernel)), rfl⟩
theorem gw_330 : (Jvm.Cond.code ({ cls := "CoinRows$Pad", name := "readRow", desc := "(LCoinRows$Model;)Z" } : Jvm.MethodName) prog_3_method_11_code (3 : Nat) (Option.some Jvm.ClassFile.FieldType.boolean)) ∈ GW := List.mem_filter.mpr ⟨List.mem_append_right _ (List.mem_of_getElem? (i := 330) (by decide +kernel)), rfl⟩
theorem gw_331 : (Jvm.Cond.methodLink "CoinRows$Pad" (70 : Nat) ({ cls := "CoinRows$Model", name := "append", desc := "(I)V" } : Jvm.MethodName)) ∈ GW := List.mem_filter.mpr ⟨List.mem_append_right _ (List.mem_of_getElem? (i := 331) (by decide +kernel)), rfl⟩
theorem gw_332 : (Jvm.Cond.methodLink "CoinRows$Pad" (49 : Nat) ({ cls := "CoinRows$Pad", name := "readStep", desc := "(LCoinRows$Model;I)Z" } : Jvm.MethodName)) ∈ GW := List.mem_filter.mpr ⟨List.mem_append_right _ (List.mem_of_getElem? (i := 332) (by decide +kernel)), rfl⟩
theorem gw_334 : (Jvm.Cond.instanceMethod ({ cls := "CoinRows$Pad", name := "readStep", desc := "(LCoinRows$Model;I)Z" } : Jvm.MethodName)) ∈ GW := List.mem_filter.mpr ⟨List.mem_append_right _ (List.mem_of_getElem? (i := 334) (by decide +kernel)), rfl⟩
theorem gw_335 : (Jvm.Cond.code ({ cls := "CoinRows$Pad", name := "readStep", desc := "(LCoinRows$Model;I)Z" } : Jvm.MethodName) prog_3_method_8_code (4 : Nat) (Option.some Jvm.ClassFile.FieldType.boolean)) ∈ GW := List.mem_filter.mpr ⟨List.mem_append_right _ (List.mem_of_getElem? (i := 335) (by decide +kernel)), rfl⟩
theorem nb_336 : (Jvm.Cond.methodLinkNest "CoinRows$Pad" (60 : Nat) ({ cls := "CoinRows", name := "isBarred", desc := "(II)Z" } : Jvm.MethodName) "CoinRows") ∈ lw_tbl := List.mem_append_right _ (List.mem_of_getElem? (i := 336) (by decide +kernel))
theorem gw_337 : (Jvm.Cond.methodLink "CoinRows$Pad" (53 : Nat) ({ cls := "CoinRows$Pad", name := "readLetter", desc := "(LCoinRows$Model;I)Z" } : Jvm.MethodName)) ∈ GW := List.mem_filter.mpr ⟨List.mem_append_right _ (List.mem_of_getElem? (i := 337) (by decide +kernel)), rfl⟩
theorem gw_339 : (Jvm.Cond.instanceMethod ({ cls := "CoinRows$Pad", name := "readLetter", desc := "(LCoinRows$Model;I)Z" } : Jvm.MethodName)) ∈ GW := List.mem_filter.mpr ⟨List.mem_append_right _ (List.mem_of_getElem? (i := 339) (by decide +kernel)), rfl⟩
theorem gw_340 : (Jvm.Cond.code ({ cls := "CoinRows$Pad", name := "readLetter", desc := "(LCoinRows$Model;I)Z" } : Jvm.MethodName) prog_3_method_9_code (3 : Nat) (Option.some Jvm.ClassFile.FieldType.boolean)) ∈ GW := List.mem_filter.mpr ⟨List.mem_append_right _ (List.mem_of_getElem? (i := 340) (by decide +kernel)), rfl⟩
theorem gw_341 : (Jvm.Cond.methodLink "CoinRowsLaw" (56 : Nat) ({ cls := "CoinRows", name := "load", desc := "()I" } : Jvm.MethodName)) ∈ GW := List.mem_filter.mpr ⟨List.mem_append_right _ (List.mem_of_getElem? (i := 341) (by decide +kernel)), rfl⟩
theorem gw_342 : (Jvm.Cond.instanceMethod ({ cls := "CoinRows", name := "load", desc := "()I" } : Jvm.MethodName)) ∈ GW := List.mem_filter.mpr ⟨List.mem_append_right _ (List.mem_of_getElem? (i := 342) (by decide +kernel)), rfl⟩
theorem gw_343 : (Jvm.Cond.selects "CoinRows" ({ cls := "CoinRows", name := "load", desc := "()I" } : Jvm.MethodName) ({ cls := "CoinRows", name := "load", desc := "()I" } : Jvm.MethodName)) ∈ GW := List.mem_filter.mpr ⟨List.mem_append_right _ (List.mem_of_getElem? (i := 343) (by decide +kernel)), rfl⟩
theorem gw_344 : (Jvm.Cond.code ({ cls := "CoinRows", name := "load", desc := "()I" } : Jvm.MethodName) prog_1_method_11_code (1 : Nat) (Option.some Jvm.ClassFile.FieldType.int)) ∈ GW := List.mem_filter.mpr ⟨List.mem_append_right _ (List.mem_of_getElem? (i := 344) (by decide +kernel)), rfl⟩
theorem gw_345 : (Jvm.Cond.methodLink "CoinRowsLaw" (60 : Nat) ({ cls := "CoinRows", name := "total", desc := "()J" } : Jvm.MethodName)) ∈ GW := List.mem_filter.mpr ⟨List.mem_append_right _ (List.mem_of_getElem? (i := 345) (by decide +kernel)), rfl⟩
theorem gw_346 : (Jvm.Cond.instanceMethod ({ cls := "CoinRows", name := "total", desc := "()J" } : Jvm.MethodName)) ∈ GW := List.mem_filter.mpr ⟨List.mem_append_right _ (List.mem_of_getElem? (i := 346) (by decide +kernel)), rfl⟩
theorem gw_347 : (Jvm.Cond.selects "CoinRows" ({ cls := "CoinRows", name := "total", desc := "()J" } : Jvm.MethodName) ({ cls := "CoinRows", name := "total", desc := "()J" } : Jvm.MethodName)) ∈ GW := List.mem_filter.mpr ⟨List.mem_append_right _ (List.mem_of_getElem? (i := 347) (by decide +kernel)), rfl⟩
theorem gw_348 : (Jvm.Cond.code ({ cls := "CoinRows", name := "total", desc := "()J" } : Jvm.MethodName) prog_1_method_12_code (1 : Nat) (Option.some Jvm.ClassFile.FieldType.long)) ∈ GW := List.mem_filter.mpr ⟨List.mem_append_right _ (List.mem_of_getElem? (i := 348) (by decide +kernel)), rfl⟩
theorem gw_349 : (Jvm.Cond.methodLink "CoinRowsLaw" (65 : Nat) ({ cls := "CoinRows", name := "forward", desc := "(II)J" } : Jvm.MethodName)) ∈ GW := List.mem_filter.mpr ⟨List.mem_append_right _ (List.mem_of_getElem? (i := 349) (by decide +kernel)), rfl⟩
theorem gw_350 : (Jvm.Cond.instanceMethod ({ cls := "CoinRows", name := "forward", desc := "(II)J" } : Jvm.MethodName)) ∈ GW := List.mem_filter.mpr ⟨List.mem_append_right _ (List.mem_of_getElem? (i := 350) (by decide +kernel)), rfl⟩
theorem gw_351 : (Jvm.Cond.selects "CoinRows" ({ cls := "CoinRows", name := "forward", desc := "(II)J" } : Jvm.MethodName) ({ cls := "CoinRows", name := "forward", desc := "(II)J" } : Jvm.MethodName)) ∈ GW := List.mem_filter.mpr ⟨List.mem_append_right _ (List.mem_of_getElem? (i := 351) (by decide +kernel)), rfl⟩
theorem gw_352 : (Jvm.Cond.code ({ cls := "CoinRows", name := "forward", desc := "(II)J" } : Jvm.MethodName) prog_1_method_13_code (3 : Nat) (Option.some Jvm.ClassFile.FieldType.long)) ∈ GW := List.mem_filter.mpr ⟨List.mem_append_right _ (List.mem_of_getElem? (i := 352) (by decide +kernel)), rfl⟩
theorem gw_353 : (Jvm.Cond.constantLong "CoinRows" (124 : Nat) (-1 : Int64)) ∈ GW := List.mem_filter.mpr ⟨List.mem_append_right _ (List.mem_of_getElem? (i := 353) (by decide +kernel)), rfl⟩
theorem gw_354 : (Jvm.Cond.methodLink "CoinRowsLaw" (70 : Nat) ({ cls := "CoinRows", name := "backward", desc := "(II)J" } : Jvm.MethodName)) ∈ GW := List.mem_filter.mpr ⟨List.mem_append_right _ (List.mem_of_getElem? (i := 354) (by decide +kernel)), rfl⟩
theorem gw_355 : (Jvm.Cond.instanceMethod ({ cls := "CoinRows", name := "backward", desc := "(II)J" } : Jvm.MethodName)) ∈ GW := List.mem_filter.mpr ⟨List.mem_append_right _ (List.mem_of_getElem? (i := 355) (by decide +kernel)), rfl⟩
theorem gw_356 : (Jvm.Cond.selects "CoinRows" ({ cls := "CoinRows", name := "backward", desc := "(II)J" } : Jvm.MethodName) ({ cls := "CoinRows", name := "backward", desc := "(II)J" } : Jvm.MethodName)) ∈ GW := List.mem_filter.mpr ⟨List.mem_append_right _ (List.mem_of_getElem? (i := 356) (by decide +kernel)), rfl⟩
theorem gw_357 : (Jvm.Cond.code ({ cls := "CoinRows", name := "backward", desc := "(II)J" } : Jvm.MethodName) prog_1_method_14_code (3 : Nat) (Option.some Jvm.ClassFile.FieldType.long)) ∈ GW := List.mem_filter.mpr ⟨List.mem_append_right _ (List.mem_of_getElem? (i := 357) (by decide +kernel)), rfl⟩
theorem gw_358 : (Jvm.Cond.methodLink "CoinRowsLaw" (74 : Nat) ({ cls := "CoinRows", name := "ways", desc := "()I" } : Jvm.MethodName)) ∈ GW := List.mem_filter.mpr ⟨List.mem_append_right _ (List.mem_of_getElem? (i := 358) (by decide +kernel)), rfl⟩
theorem gw_359 : (Jvm.Cond.instanceMethod ({ cls := "CoinRows", name := "ways", desc := "()I" } : Jvm.MethodName)) ∈ GW := List.mem_filter.mpr ⟨List.mem_append_right _ (List.mem_of_getElem? (i := 359) (by decide +kernel)), rfl⟩
theorem gw_360 : (Jvm.Cond.selects "CoinRows" ({ cls := "CoinRows", name := "ways", desc := "()I" } : Jvm.MethodName) ({ cls := "CoinRows", name := "ways", desc := "()I" } : Jvm.MethodName)) ∈ GW := List.mem_filter.mpr ⟨List.mem_append_right _ (List.mem_of_getElem? (i := 360) (by decide +kernel)), rfl⟩
theorem gw_361 : (Jvm.Cond.code ({ cls := "CoinRows", name := "ways", desc := "()I" } : Jvm.MethodName) prog_1_method_15_code (1 : Nat) (Option.some Jvm.ClassFile.FieldType.int)) ∈ GW := List.mem_filter.mpr ⟨List.mem_append_right _ (List.mem_of_getElem? (i := 361) (by decide +kernel)), rfl⟩
theorem gw_362 : (Jvm.Cond.methodLink "CoinRows" (133 : Nat) ({ cls := "CoinRows$Sums", name := "number", desc := "()I" } : Jvm.MethodName)) ∈ GW := List.mem_filter.mpr ⟨List.mem_append_right _ (List.mem_of_getElem? (i := 362) (by decide +kernel)), rfl⟩
theorem gw_363 : (Jvm.Cond.instanceMethod ({ cls := "CoinRows$Sums", name := "number", desc := "()I" } : Jvm.MethodName)) ∈ GW := List.mem_filter.mpr ⟨List.mem_append_right _ (List.mem_of_getElem? (i := 363) (by decide +kernel)), rfl⟩
theorem gw_364 : (Jvm.Cond.selects "CoinRows$Sums" ({ cls := "CoinRows$Sums", name := "number", desc := "()I" } : Jvm.MethodName) ({ cls := "CoinRows$Sums", name := "number", desc := "()I" } : Jvm.MethodName)) ∈ GW := List.mem_filter.mpr ⟨List.mem_append_right _ (List.mem_of_getElem? (i := 364) (by decide +kernel)), rfl⟩
theorem gw_365 : (Jvm.Cond.code ({ cls := "CoinRows$Sums", name := "number", desc := "()I" } : Jvm.MethodName) prog_4_method_4_code (1 : Nat) (Option.some Jvm.ClassFile.FieldType.int)) ∈ GW := List.mem_filter.mpr ⟨List.mem_append_right _ (List.mem_of_getElem? (i := 365) (by decide +kernel)), rfl⟩
theorem gw_366 : (Jvm.Cond.methodLink "CoinRowsLaw" (78 : Nat) ({ cls := "CoinRows", name := "way", desc := "(II)I" } : Jvm.MethodName)) ∈ GW := List.mem_filter.mpr ⟨List.mem_append_right _ (List.mem_of_getElem? (i := 366) (by decide +kernel)), rfl⟩
theorem gw_367 : (Jvm.Cond.instanceMethod ({ cls := "CoinRows", name := "way", desc := "(II)I" } : Jvm.MethodName)) ∈ GW := List.mem_filter.mpr ⟨List.mem_append_right _ (List.mem_of_getElem? (i := 367) (by decide +kernel)), rfl⟩
theorem gw_368 : (Jvm.Cond.selects "CoinRows" ({ cls := "CoinRows", name := "way", desc := "(II)I" } : Jvm.MethodName) ({ cls := "CoinRows", name := "way", desc := "(II)I" } : Jvm.MethodName)) ∈ GW := List.mem_filter.mpr ⟨List.mem_append_right _ (List.mem_of_getElem? (i := 368) (by decide +kernel)), rfl⟩
theorem gw_369 : (Jvm.Cond.code ({ cls := "CoinRows", name := "way", desc := "(II)I" } : Jvm.MethodName) prog_1_method_16_code (3 : Nat) (Option.some Jvm.ClassFile.FieldType.int)) ∈ GW := List.mem_filter.mpr ⟨List.mem_append_right _ (List.mem_of_getElem? (i := 369) (by decide +kernel)), rfl⟩
theorem gw_370 : (Jvm.Cond.methodLink "CoinRows" (136 : Nat) ({ cls := "CoinRows$Walk", name := "follow", desc := "(LCoinRows$Model;LCoinRows$Sums;I)V" } : Jvm.MethodName)) ∈ GW := List.mem_filter.mpr ⟨List.mem_append_right _ (List.mem_of_getElem? (i := 370) (by decide +kernel)), rfl⟩
theorem gw_371 : (Jvm.Cond.instanceMethod ({ cls := "CoinRows$Walk", name := "follow", desc := "(LCoinRows$Model;LCoinRows$Sums;I)V" } : Jvm.MethodName)) ∈ GW := List.mem_filter.mpr ⟨List.mem_append_right _ (List.mem_of_getElem? (i := 371) (by decide +kernel)), rfl⟩
theorem gw_372 : (Jvm.Cond.selects "CoinRows$Walk" ({ cls := "CoinRows$Walk", name := "follow", desc := "(LCoinRows$Model;LCoinRows$Sums;I)V" } : Jvm.MethodName) ({ cls := "CoinRows$Walk", name := "follow", desc := "(LCoinRows$Model;LCoinRows$Sums;I)V" } : Jvm.MethodName)) ∈ GW := List.mem_filter.mpr ⟨List.mem_append_right _ (List.mem_of_getElem? (i := 372) (by decide +kernel)), rfl⟩
theorem gw_373 : (Jvm.Cond.code ({ cls := "CoinRows$Walk", name := "follow", desc := "(LCoinRows$Model;LCoinRows$Sums;I)V" } : Jvm.MethodName) prog_6_method_2_code (8 : Nat) (Option.none : Option Jvm.ClassFile.FieldType)) ∈ GW := List.mem_filter.mpr ⟨List.mem_append_right _ (List.mem_of_getElem? (i := 373) (by decide +kernel)), rfl⟩
theorem gw_374 : (Jvm.Cond.methodLink "CoinRows$Walk" (31 : Nat) ({ cls := "CoinRows$Walk", name := "chooseByNumber", desc := "(LCoinRows$Model;LCoinRows$Sums;III)I" } : Jvm.MethodName)) ∈ GW := List.mem_filter.mpr ⟨List.mem_append_right _ (List.mem_of_getElem? (i := 374) (by decide +kernel)), rfl⟩
theorem gw_376 : (Jvm.Cond.instanceMethod ({ cls := "CoinRows$Walk", name := "chooseByNumber", desc := "(LCoinRows$Model;LCoinRows$Sums;III)I" } : Jvm.MethodName)) ∈ GW := List.mem_filter.mpr ⟨List.mem_append_right _ (List.mem_of_getElem? (i := 376) (by decide +kernel)), rfl⟩
theorem gw_377 : (Jvm.Cond.code ({ cls := "CoinRows$Walk", name := "chooseByNumber", desc := "(LCoinRows$Model;LCoinRows$Sums;III)I" } : Jvm.MethodName) prog_6_method_5_code (8 : Nat) (Option.some Jvm.ClassFile.FieldType.int)) ∈ GW := List.mem_filter.mpr ⟨List.mem_append_right _ (List.mem_of_getElem? (i := 377) (by decide +kernel)), rfl⟩
theorem gw_378 : (Jvm.Cond.methodLink "CoinRows$Walk" (43 : Nat) ({ cls := "CoinRows$Walk", name := "restsThrough", desc := "(LCoinRows$Model;LCoinRows$Sums;III)I" } : Jvm.MethodName)) ∈ GW := List.mem_filter.mpr ⟨List.mem_append_right _ (List.mem_of_getElem? (i := 378) (by decide +kernel)), rfl⟩
theorem gw_379 : (Jvm.Cond.static ({ cls := "CoinRows$Walk", name := "restsThrough", desc := "(LCoinRows$Model;LCoinRows$Sums;III)I" } : Jvm.MethodName)) ∈ GW := List.mem_filter.mpr ⟨List.mem_append_right _ (List.mem_of_getElem? (i := 379) (by decide +kernel)), rfl⟩
theorem gw_380 : (Jvm.Cond.code ({ cls := "CoinRows$Walk", name := "restsThrough", desc := "(LCoinRows$Model;LCoinRows$Sums;III)I" } : Jvm.MethodName) prog_6_method_7_code (6 : Nat) (Option.some Jvm.ClassFile.FieldType.int)) ∈ GW := List.mem_filter.mpr ⟨List.mem_append_right _ (List.mem_of_getElem? (i := 380) (by decide +kernel)), rfl⟩
theorem gw_381 : (Jvm.Cond.methodLink "CoinRows$Walk" (35 : Nat) ({ cls := "CoinRows$Model", name := "moveWeight", desc := "(III)I" } : Jvm.MethodName)) ∈ GW := List.mem_filter.mpr ⟨List.mem_append_right _ (List.mem_of_getElem? (i := 381) (by decide +kernel)), rfl⟩
theorem gw_382 : (Jvm.Cond.methodLink "CoinRows" (140 : Nat) ({ cls := "CoinRows$Walk", name := "tell", desc := "(I)I" } : Jvm.MethodName)) ∈ GW := List.mem_filter.mpr ⟨List.mem_append_right _ (List.mem_of_getElem? (i := 382) (by decide +kernel)), rfl⟩
theorem gw_383 : (Jvm.Cond.instanceMethod ({ cls := "CoinRows$Walk", name := "tell", desc := "(I)I" } : Jvm.MethodName)) ∈ GW := List.mem_filter.mpr ⟨List.mem_append_right _ (List.mem_of_getElem? (i := 383) (by decide +kernel)), rfl⟩
theorem gw_384 : (Jvm.Cond.selects "CoinRows$Walk" ({ cls := "CoinRows$Walk", name := "tell", desc := "(I)I" } : Jvm.MethodName) ({ cls := "CoinRows$Walk", name := "tell", desc := "(I)I" } : Jvm.MethodName)) ∈ GW := List.mem_filter.mpr ⟨List.mem_append_right _ (List.mem_of_getElem? (i := 384) (by decide +kernel)), rfl⟩
theorem gw_385 : (Jvm.Cond.code ({ cls := "CoinRows$Walk", name := "tell", desc := "(I)I" } : Jvm.MethodName) prog_6_method_4_code (2 : Nat) (Option.some Jvm.ClassFile.FieldType.int)) ∈ GW := List.mem_filter.mpr ⟨List.mem_append_right _ (List.mem_of_getElem? (i := 385) (by decide +kernel)), rfl⟩
theorem gw_386 : (Jvm.Cond.methodLink "CoinRowsLaw" (83 : Nat) ({ cls := "CoinRows", name := "weighs", desc := "(I)J" } : Jvm.MethodName)) ∈ GW := List.mem_filter.mpr ⟨List.mem_append_right _ (List.mem_of_getElem? (i := 386) (by decide +kernel)), rfl⟩
theorem gw_387 : (Jvm.Cond.instanceMethod ({ cls := "CoinRows", name := "weighs", desc := "(I)J" } : Jvm.MethodName)) ∈ GW := List.mem_filter.mpr ⟨List.mem_append_right _ (List.mem_of_getElem? (i := 387) (by decide +kernel)), rfl⟩
theorem gw_388 : (Jvm.Cond.selects "CoinRows" ({ cls := "CoinRows", name := "weighs", desc := "(I)J" } : Jvm.MethodName) ({ cls := "CoinRows", name := "weighs", desc := "(I)J" } : Jvm.MethodName)) ∈ GW := List.mem_filter.mpr ⟨List.mem_append_right _ (List.mem_of_getElem? (i := 388) (by decide +kernel)), rfl⟩
theorem gw_389 : (Jvm.Cond.code ({ cls := "CoinRows", name := "weighs", desc := "(I)J" } : Jvm.MethodName) prog_1_method_17_code (2 : Nat) (Option.some Jvm.ClassFile.FieldType.long)) ∈ GW := List.mem_filter.mpr ⟨List.mem_append_right _ (List.mem_of_getElem? (i := 389) (by decide +kernel)), rfl⟩
theorem gw_390 : (Jvm.Cond.methodLink "CoinRowsLaw" (88 : Nat) ({ cls := "CoinRows", name := "likeliest", desc := "(I)I" } : Jvm.MethodName)) ∈ GW := List.mem_filter.mpr ⟨List.mem_append_right _ (List.mem_of_getElem? (i := 390) (by decide +kernel)), rfl⟩
theorem gw_391 : (Jvm.Cond.instanceMethod ({ cls := "CoinRows", name := "likeliest", desc := "(I)I" } : Jvm.MethodName)) ∈ GW := List.mem_filter.mpr ⟨List.mem_append_right _ (List.mem_of_getElem? (i := 391) (by decide +kernel)), rfl⟩
theorem gw_392 : (Jvm.Cond.selects "CoinRows" ({ cls := "CoinRows", name := "likeliest", desc := "(I)I" } : Jvm.MethodName) ({ cls := "CoinRows", name := "likeliest", desc := "(I)I" } : Jvm.MethodName)) ∈ GW := List.mem_filter.mpr ⟨List.mem_append_right _ (List.mem_of_getElem? (i := 392) (by decide +kernel)), rfl⟩
theorem gw_393 : (Jvm.Cond.code ({ cls := "CoinRows", name := "likeliest", desc := "(I)I" } : Jvm.MethodName) prog_1_method_18_code (3 : Nat) (Option.some Jvm.ClassFile.FieldType.int)) ∈ GW := List.mem_filter.mpr ⟨List.mem_append_right _ (List.mem_of_getElem? (i := 393) (by decide +kernel)), rfl⟩
theorem gw_394 : (Jvm.Cond.methodLink "CoinRows" (148 : Nat) ({ cls := "CoinRows$Walk", name := "findBest", desc := "(LCoinRows$Model;LCoinRows$Sums;)I" } : Jvm.MethodName)) ∈ GW := List.mem_filter.mpr ⟨List.mem_append_right _ (List.mem_of_getElem? (i := 394) (by decide +kernel)), rfl⟩
theorem gw_395 : (Jvm.Cond.instanceMethod ({ cls := "CoinRows$Walk", name := "findBest", desc := "(LCoinRows$Model;LCoinRows$Sums;)I" } : Jvm.MethodName)) ∈ GW := List.mem_filter.mpr ⟨List.mem_append_right _ (List.mem_of_getElem? (i := 395) (by decide +kernel)), rfl⟩
theorem gw_396 : (Jvm.Cond.selects "CoinRows$Walk" ({ cls := "CoinRows$Walk", name := "findBest", desc := "(LCoinRows$Model;LCoinRows$Sums;)I" } : Jvm.MethodName) ({ cls := "CoinRows$Walk", name := "findBest", desc := "(LCoinRows$Model;LCoinRows$Sums;)I" } : Jvm.MethodName)) ∈ GW := List.mem_filter.mpr ⟨List.mem_append_right _ (List.mem_of_getElem? (i := 396) (by decide +kernel)), rfl⟩
theorem gw_397 : (Jvm.Cond.code ({ cls := "CoinRows$Walk", name := "findBest", desc := "(LCoinRows$Model;LCoinRows$Sums;)I" } : Jvm.MethodName) prog_6_method_3_code (7 : Nat) (Option.some Jvm.ClassFile.FieldType.int)) ∈ GW := List.mem_filter.mpr ⟨List.mem_append_right _ (List.mem_of_getElem? (i := 397) (by decide +kernel)), rfl⟩
theorem gw_398 : (Jvm.Cond.methodLink "CoinRows$Walk" (39 : Nat) ({ cls := "CoinRows$Walk", name := "chooseBest", desc := "(LCoinRows$Model;LCoinRows$Sums;II)I" } : Jvm.MethodName)) ∈ GW := List.mem_filter.mpr ⟨List.mem_append_right _ (List.mem_of_getElem? (i := 398) (by decide +kernel)), rfl⟩
theorem gw_400 : (Jvm.Cond.instanceMethod ({ cls := "CoinRows$Walk", name := "chooseBest", desc := "(LCoinRows$Model;LCoinRows$Sums;II)I" } : Jvm.MethodName)) ∈ GW := List.mem_filter.mpr ⟨List.mem_append_right _ (List.mem_of_getElem? (i := 400) (by decide +kernel)), rfl⟩
theorem gw_401 : (Jvm.Cond.code ({ cls := "CoinRows$Walk", name := "chooseBest", desc := "(LCoinRows$Model;LCoinRows$Sums;II)I" } : Jvm.MethodName) prog_6_method_6_code (10 : Nat) (Option.some Jvm.ClassFile.FieldType.int)) ∈ GW := List.mem_filter.mpr ⟨List.mem_append_right _ (List.mem_of_getElem? (i := 401) (by decide +kernel)), rfl⟩
theorem gw_402 : (Jvm.Cond.methodLink "CoinRowsLaw" (92 : Nat) ({ cls := "CoinRows", name := "odds", desc := "(III)J" } : Jvm.MethodName)) ∈ GW := List.mem_filter.mpr ⟨List.mem_append_right _ (List.mem_of_getElem? (i := 402) (by decide +kernel)), rfl⟩
theorem gw_403 : (Jvm.Cond.instanceMethod ({ cls := "CoinRows", name := "odds", desc := "(III)J" } : Jvm.MethodName)) ∈ GW := List.mem_filter.mpr ⟨List.mem_append_right _ (List.mem_of_getElem? (i := 403) (by decide +kernel)), rfl⟩
theorem gw_404 : (Jvm.Cond.selects "CoinRows" ({ cls := "CoinRows", name := "odds", desc := "(III)J" } : Jvm.MethodName) ({ cls := "CoinRows", name := "odds", desc := "(III)J" } : Jvm.MethodName)) ∈ GW := List.mem_filter.mpr ⟨List.mem_append_right _ (List.mem_of_getElem? (i := 404) (by decide +kernel)), rfl⟩
theorem gw_405 : (Jvm.Cond.code ({ cls := "CoinRows", name := "odds", desc := "(III)J" } : Jvm.MethodName) prog_1_method_19_code (4 : Nat) (Option.some Jvm.ClassFile.FieldType.long)) ∈ GW := List.mem_filter.mpr ⟨List.mem_append_right _ (List.mem_of_getElem? (i := 405) (by decide +kernel)), rfl⟩
theorem gw_406 : (Jvm.Cond.methodLink "CoinRows" (151 : Nat) ({ cls := "CoinRows", name := "isPart", desc := "(I)Z" } : Jvm.MethodName)) ∈ GW := List.mem_filter.mpr ⟨List.mem_append_right _ (List.mem_of_getElem? (i := 406) (by decide +kernel)), rfl⟩
theorem gw_407 : (Jvm.Cond.static ({ cls := "CoinRows", name := "isPart", desc := "(I)Z" } : Jvm.MethodName)) ∈ GW := List.mem_filter.mpr ⟨List.mem_append_right _ (List.mem_of_getElem? (i := 407) (by decide +kernel)), rfl⟩
theorem gw_408 : (Jvm.Cond.code ({ cls := "CoinRows", name := "isPart", desc := "(I)Z" } : Jvm.MethodName) prog_1_method_31_code (1 : Nat) (Option.some Jvm.ClassFile.FieldType.boolean)) ∈ GW := List.mem_filter.mpr ⟨List.mem_append_right _ (List.mem_of_getElem? (i := 408) (by decide +kernel)), rfl⟩
theorem gw_409 : (Jvm.Cond.constantLong "CoinRows" (154 : Nat) (-2 : Int64)) ∈ GW := List.mem_filter.mpr ⟨List.mem_append_right _ (List.mem_of_getElem? (i := 409) (by decide +kernel)), rfl⟩
theorem gw_410 : (Jvm.Cond.constantLong "CoinRows" (156 : Nat) (-5 : Int64)) ∈ GW := List.mem_filter.mpr ⟨List.mem_append_right _ (List.mem_of_getElem? (i := 410) (by decide +kernel)), rfl⟩
theorem gw_411 : (Jvm.Cond.methodLink "CoinRows" (158 : Nat) ({ cls := "CoinRows$Sums", name := "through", desc := "(II)J" } : Jvm.MethodName)) ∈ GW := List.mem_filter.mpr ⟨List.mem_append_right _ (List.mem_of_getElem? (i := 411) (by decide +kernel)), rfl⟩
theorem gw_412 : (Jvm.Cond.methodLink "CoinRows" (162 : Nat) ({ cls := "CoinRows", name := "inLowestTerms", desc := "(JJI)J" } : Jvm.MethodName)) ∈ GW := List.mem_filter.mpr ⟨List.mem_append_right _ (List.mem_of_getElem? (i := 412) (by decide +kernel)), rfl⟩
theorem gw_413 : (Jvm.Cond.static ({ cls := "CoinRows", name := "inLowestTerms", desc := "(JJI)J" } : Jvm.MethodName)) ∈ GW := List.mem_filter.mpr ⟨List.mem_append_right _ (List.mem_of_getElem? (i := 413) (by decide +kernel)), rfl⟩
theorem gw_414 : (Jvm.Cond.code ({ cls := "CoinRows", name := "inLowestTerms", desc := "(JJI)J" } : Jvm.MethodName) prog_1_method_36_code (7 : Nat) (Option.some Jvm.ClassFile.FieldType.long)) ∈ GW := List.mem_filter.mpr ⟨List.mem_append_right _ (List.mem_of_getElem? (i := 414) (by decide +kernel)), rfl⟩
theorem gw_415 : (Jvm.Cond.methodLink "CoinRows" (198 : Nat) ({ cls := "CoinRows", name := "commonDivisor", desc := "(JJ)J" } : Jvm.MethodName)) ∈ GW := List.mem_filter.mpr ⟨List.mem_append_right _ (List.mem_of_getElem? (i := 415) (by decide +kernel)), rfl⟩
theorem gw_416 : (Jvm.Cond.static ({ cls := "CoinRows", name := "commonDivisor", desc := "(JJ)J" } : Jvm.MethodName)) ∈ GW := List.mem_filter.mpr ⟨List.mem_append_right _ (List.mem_of_getElem? (i := 416) (by decide +kernel)), rfl⟩
theorem gw_417 : (Jvm.Cond.code ({ cls := "CoinRows", name := "commonDivisor", desc := "(JJ)J" } : Jvm.MethodName) prog_1_method_37_code (11 : Nat) (Option.some Jvm.ClassFile.FieldType.long)) ∈ GW := List.mem_filter.mpr ⟨List.mem_append_right _ (List.mem_of_getElem? (i := 417) (by decide +kernel)), rfl⟩
theorem gw_418 : (Jvm.Cond.methodLink "CoinRowsLaw" (97 : Nat) ({ cls := "CoinRows", name := "likelyAt", desc := "(I)I" } : Jvm.MethodName)) ∈ GW := List.mem_filter.mpr ⟨List.mem_append_right _ (List.mem_of_getElem? (i := 418) (by decide +kernel)), rfl⟩
theorem gw_419 : (Jvm.Cond.instanceMethod ({ cls := "CoinRows", name := "likelyAt", desc := "(I)I" } : Jvm.MethodName)) ∈ GW := List.mem_filter.mpr ⟨List.mem_append_right _ (List.mem_of_getElem? (i := 419) (by decide +kernel)), rfl⟩
theorem gw_420 : (Jvm.Cond.selects "CoinRows" ({ cls := "CoinRows", name := "likelyAt", desc := "(I)I" } : Jvm.MethodName) ({ cls := "CoinRows", name := "likelyAt", desc := "(I)I" } : Jvm.MethodName)) ∈ GW := List.mem_filter.mpr ⟨List.mem_append_right _ (List.mem_of_getElem? (i := 420) (by decide +kernel)), rfl⟩
theorem gw_421 : (Jvm.Cond.code ({ cls := "CoinRows", name := "likelyAt", desc := "(I)I" } : Jvm.MethodName) prog_1_method_20_code (4 : Nat) (Option.some Jvm.ClassFile.FieldType.int)) ∈ GW := List.mem_filter.mpr ⟨List.mem_append_right _ (List.mem_of_getElem? (i := 421) (by decide +kernel)), rfl⟩
theorem gw_422 : (Jvm.Cond.methodLink "CoinRowsLaw" (101 : Nat) ({ cls := "CoinRows", name := "expected", desc := "(IIII)J" } : Jvm.MethodName)) ∈ GW := List.mem_filter.mpr ⟨List.mem_append_right _ (List.mem_of_getElem? (i := 422) (by decide +kernel)), rfl⟩
theorem gw_423 : (Jvm.Cond.instanceMethod ({ cls := "CoinRows", name := "expected", desc := "(IIII)J" } : Jvm.MethodName)) ∈ GW := List.mem_filter.mpr ⟨List.mem_append_right _ (List.mem_of_getElem? (i := 423) (by decide +kernel)), rfl⟩
theorem gw_424 : (Jvm.Cond.selects "CoinRows" ({ cls := "CoinRows", name := "expected", desc := "(IIII)J" } : Jvm.MethodName) ({ cls := "CoinRows", name := "expected", desc := "(IIII)J" } : Jvm.MethodName)) ∈ GW := List.mem_filter.mpr ⟨List.mem_append_right _ (List.mem_of_getElem? (i := 424) (by decide +kernel)), rfl⟩
theorem gw_425 : (Jvm.Cond.code ({ cls := "CoinRows", name := "expected", desc := "(IIII)J" } : Jvm.MethodName) prog_1_method_21_code (7 : Nat) (Option.some Jvm.ClassFile.FieldType.long)) ∈ GW := List.mem_filter.mpr ⟨List.mem_append_right _ (List.mem_of_getElem? (i := 425) (by decide +kernel)), rfl⟩
theorem gw_426 : (Jvm.Cond.methodLink "CoinRows" (166 : Nat) ({ cls := "CoinRows$Sums", name := "ofLetter", desc := "(LCoinRows$Model;II)J" } : Jvm.MethodName)) ∈ GW := List.mem_filter.mpr ⟨List.mem_append_right _ (List.mem_of_getElem? (i := 426) (by decide +kernel)), rfl⟩
theorem gw_427 : (Jvm.Cond.methodLink "CoinRows" (170 : Nat) ({ cls := "CoinRows$Sums", name := "ofStep", desc := "(LCoinRows$Model;II)J" } : Jvm.MethodName)) ∈ GW := List.mem_filter.mpr ⟨List.mem_append_right _ (List.mem_of_getElem? (i := 427) (by decide +kernel)), rfl⟩
theorem gw_428 : (Jvm.Cond.methodLink "CoinRowsLaw" (106 : Nat) ({ cls := "CoinRows", name := "shareBits", desc := "()I" } : Jvm.MethodName)) ∈ GW := List.mem_filter.mpr ⟨List.mem_append_right _ (List.mem_of_getElem? (i := 428) (by decide +kernel)), rfl⟩
theorem gw_429 : (Jvm.Cond.instanceMethod ({ cls := "CoinRows", name := "shareBits", desc := "()I" } : Jvm.MethodName)) ∈ GW := List.mem_filter.mpr ⟨List.mem_append_right _ (List.mem_of_getElem? (i := 429) (by decide +kernel)), rfl⟩
theorem gw_430 : (Jvm.Cond.selects "CoinRows" ({ cls := "CoinRows", name := "shareBits", desc := "()I" } : Jvm.MethodName) ({ cls := "CoinRows", name := "shareBits", desc := "()I" } : Jvm.MethodName)) ∈ GW := List.mem_filter.mpr ⟨List.mem_append_right _ (List.mem_of_getElem? (i := 430) (by decide +kernel)), rfl⟩
theorem gw_431 : (Jvm.Cond.code ({ cls := "CoinRows", name := "shareBits", desc := "()I" } : Jvm.MethodName) prog_1_method_22_code (3 : Nat) (Option.some Jvm.ClassFile.FieldType.int)) ∈ GW := List.mem_filter.mpr ⟨List.mem_append_right _ (List.mem_of_getElem? (i := 431) (by decide +kernel)), rfl⟩
theorem gw_432 : (Jvm.Cond.methodLink "CoinRows" (173 : Nat) ({ cls := "CoinRows$Sums", name := "greatest", desc := "()J" } : Jvm.MethodName)) ∈ GW := List.mem_filter.mpr ⟨List.mem_append_right _ (List.mem_of_getElem? (i := 432) (by decide +kernel)), rfl⟩
theorem gw_433 : (Jvm.Cond.instanceMethod ({ cls := "CoinRows$Sums", name := "greatest", desc := "()J" } : Jvm.MethodName)) ∈ GW := List.mem_filter.mpr ⟨List.mem_append_right _ (List.mem_of_getElem? (i := 433) (by decide +kernel)), rfl⟩
theorem gw_434 : (Jvm.Cond.selects "CoinRows$Sums" ({ cls := "CoinRows$Sums", name := "greatest", desc := "()J" } : Jvm.MethodName) ({ cls := "CoinRows$Sums", name := "greatest", desc := "()J" } : Jvm.MethodName)) ∈ GW := List.mem_filter.mpr ⟨List.mem_append_right _ (List.mem_of_getElem? (i := 434) (by decide +kernel)), rfl⟩
theorem gw_435 : (Jvm.Cond.code ({ cls := "CoinRows$Sums", name := "greatest", desc := "()J" } : Jvm.MethodName) prog_4_method_5_code (1 : Nat) (Option.some Jvm.ClassFile.FieldType.long)) ∈ GW := List.mem_filter.mpr ⟨List.mem_append_right _ (List.mem_of_getElem? (i := 435) (by decide +kernel)), rfl⟩
theorem gw_436 : (Jvm.Cond.methodLink "CoinRows" (176 : Nat) ({ cls := "CoinRows", name := "bitsOf", desc := "(F)I" } : Jvm.MethodName)) ∈ GW := List.mem_filter.mpr ⟨List.mem_append_right _ (List.mem_of_getElem? (i := 436) (by decide +kernel)), rfl⟩
theorem gw_437 : (Jvm.Cond.static ({ cls := "CoinRows", name := "bitsOf", desc := "(F)I" } : Jvm.MethodName)) ∈ GW := List.mem_filter.mpr ⟨List.mem_append_right _ (List.mem_of_getElem? (i := 437) (by decide +kernel)), rfl⟩
theorem gw_438 : (Jvm.Cond.code ({ cls := "CoinRows", name := "bitsOf", desc := "(F)I" } : Jvm.MethodName) prog_1_method_38_code (4 : Nat) (Option.some Jvm.ClassFile.FieldType.int)) ∈ GW := List.mem_filter.mpr ⟨List.mem_append_right _ (List.mem_of_getElem? (i := 438) (by decide +kernel)), rfl⟩
theorem gw_439 : (Jvm.Cond.constantFloat "CoinRows" (202 : Nat) (1258291200 : UInt32)) ∈ GW := List.mem_filter.mpr ⟨List.mem_append_right _ (List.mem_of_getElem? (i := 439) (by decide +kernel)), rfl⟩
theorem gw_440 : (Jvm.Cond.methodLink "CoinRowsLaw" (110 : Nat) ({ cls := "CoinRows", name := "next", desc := "(I)J" } : Jvm.MethodName)) ∈ GW := List.mem_filter.mpr ⟨List.mem_append_right _ (List.mem_of_getElem? (i := 440) (by decide +kernel)), rfl⟩
theorem gw_441 : (Jvm.Cond.instanceMethod ({ cls := "CoinRows", name := "next", desc := "(I)J" } : Jvm.MethodName)) ∈ GW := List.mem_filter.mpr ⟨List.mem_append_right _ (List.mem_of_getElem? (i := 441) (by decide +kernel)), rfl⟩
theorem gw_442 : (Jvm.Cond.selects "CoinRows" ({ cls := "CoinRows", name := "next", desc := "(I)J" } : Jvm.MethodName) ({ cls := "CoinRows", name := "next", desc := "(I)J" } : Jvm.MethodName)) ∈ GW := List.mem_filter.mpr ⟨List.mem_append_right _ (List.mem_of_getElem? (i := 442) (by decide +kernel)), rfl⟩
theorem gw_443 : (Jvm.Cond.code ({ cls := "CoinRows", name := "next", desc := "(I)J" } : Jvm.MethodName) prog_1_method_23_code (8 : Nat) (Option.some Jvm.ClassFile.FieldType.long)) ∈ GW := List.mem_filter.mpr ⟨List.mem_append_right _ (List.mem_of_getElem? (i := 443) (by decide +kernel)), rfl⟩
theorem gw_444 : (Jvm.Cond.methodLink "CoinRows" (180 : Nat) ({ cls := "CoinRows$Sums", name := "wholeIfNext", desc := "(LCoinRows$Model;I)J" } : Jvm.MethodName)) ∈ GW := List.mem_filter.mpr ⟨List.mem_append_right _ (List.mem_of_getElem? (i := 444) (by decide +kernel)), rfl⟩
theorem gw_445 : (Jvm.Cond.instanceMethod ({ cls := "CoinRows$Sums", name := "wholeIfNext", desc := "(LCoinRows$Model;I)J" } : Jvm.MethodName)) ∈ GW := List.mem_filter.mpr ⟨List.mem_append_right _ (List.mem_of_getElem? (i := 445) (by decide +kernel)), rfl⟩
theorem gw_446 : (Jvm.Cond.selects "CoinRows$Sums" ({ cls := "CoinRows$Sums", name := "wholeIfNext", desc := "(LCoinRows$Model;I)J" } : Jvm.MethodName) ({ cls := "CoinRows$Sums", name := "wholeIfNext", desc := "(LCoinRows$Model;I)J" } : Jvm.MethodName)) ∈ GW := List.mem_filter.mpr ⟨List.mem_append_right _ (List.mem_of_getElem? (i := 446) (by decide +kernel)), rfl⟩
theorem gw_447 : (Jvm.Cond.code ({ cls := "CoinRows$Sums", name := "wholeIfNext", desc := "(LCoinRows$Model;I)J" } : Jvm.MethodName) prog_4_method_9_code (6 : Nat) (Option.some Jvm.ClassFile.FieldType.long)) ∈ GW := List.mem_filter.mpr ⟨List.mem_append_right _ (List.mem_of_getElem? (i := 447) (by decide +kernel)), rfl⟩
theorem gw_448 : (Jvm.Cond.constantLong "CoinRows" (184 : Nat) (-6 : Int64)) ∈ GW := List.mem_filter.mpr ⟨List.mem_append_right _ (List.mem_of_getElem? (i := 448) (by decide +kernel)), rfl⟩
theorem gw_449 : (Jvm.Cond.methodLink "CoinRowsLaw" (114 : Nat) ({ cls := "CoinRows", name := "slip", desc := "(I)J" } : Jvm.MethodName)) ∈ GW := List.mem_filter.mpr ⟨List.mem_append_right _ (List.mem_of_getElem? (i := 449) (by decide +kernel)), rfl⟩
theorem gw_450 : (Jvm.Cond.instanceMethod ({ cls := "CoinRows", name := "slip", desc := "(I)J" } : Jvm.MethodName)) ∈ GW := List.mem_filter.mpr ⟨List.mem_append_right _ (List.mem_of_getElem? (i := 450) (by decide +kernel)), rfl⟩
theorem gw_451 : (Jvm.Cond.selects "CoinRows" ({ cls := "CoinRows", name := "slip", desc := "(I)J" } : Jvm.MethodName) ({ cls := "CoinRows", name := "slip", desc := "(I)J" } : Jvm.MethodName)) ∈ GW := List.mem_filter.mpr ⟨List.mem_append_right _ (List.mem_of_getElem? (i := 451) (by decide +kernel)), rfl⟩
theorem gw_452 : (Jvm.Cond.code ({ cls := "CoinRows", name := "slip", desc := "(I)J" } : Jvm.MethodName) prog_1_method_24_code (10 : Nat) (Option.some Jvm.ClassFile.FieldType.long)) ∈ GW := List.mem_filter.mpr ⟨List.mem_append_right _ (List.mem_of_getElem? (i := 452) (by decide +kernel)), rfl⟩
theorem gw_453 : (Jvm.Cond.methodLink "CoinRows" (186 : Nat) ({ cls := "CoinRows$Sums", name := "wholeIfChanged", desc := "(LCoinRows$Model;II)J" } : Jvm.MethodName)) ∈ GW := List.mem_filter.mpr ⟨List.mem_append_right _ (List.mem_of_getElem? (i := 453) (by decide +kernel)), rfl⟩
theorem gw_454 : (Jvm.Cond.instanceMethod ({ cls := "CoinRows$Sums", name := "wholeIfChanged", desc := "(LCoinRows$Model;II)J" } : Jvm.MethodName)) ∈ GW := List.mem_filter.mpr ⟨List.mem_append_right _ (List.mem_of_getElem? (i := 454) (by decide +kernel)), rfl⟩
theorem gw_455 : (Jvm.Cond.selects "CoinRows$Sums" ({ cls := "CoinRows$Sums", name := "wholeIfChanged", desc := "(LCoinRows$Model;II)J" } : Jvm.MethodName) ({ cls := "CoinRows$Sums", name := "wholeIfChanged", desc := "(LCoinRows$Model;II)J" } : Jvm.MethodName)) ∈ GW := List.mem_filter.mpr ⟨List.mem_append_right _ (List.mem_of_getElem? (i := 455) (by decide +kernel)), rfl⟩
theorem gw_456 : (Jvm.Cond.code ({ cls := "CoinRows$Sums", name := "wholeIfChanged", desc := "(LCoinRows$Model;II)J" } : Jvm.MethodName) prog_4_method_10_code (7 : Nat) (Option.some Jvm.ClassFile.FieldType.long)) ∈ GW := List.mem_filter.mpr ⟨List.mem_append_right _ (List.mem_of_getElem? (i := 456) (by decide +kernel)), rfl⟩
theorem gw_457 : (Jvm.Cond.methodLink "CoinRowsLaw" (118 : Nat) ({ cls := "CoinRows", name := "count", desc := "(I)I" } : Jvm.MethodName)) ∈ GW := List.mem_filter.mpr ⟨List.mem_append_right _ (List.mem_of_getElem? (i := 457) (by decide +kernel)), rfl⟩
theorem gw_458 : (Jvm.Cond.instanceMethod ({ cls := "CoinRows", name := "count", desc := "(I)I" } : Jvm.MethodName)) ∈ GW := List.mem_filter.mpr ⟨List.mem_append_right _ (List.mem_of_getElem? (i := 458) (by decide +kernel)), rfl⟩
theorem gw_459 : (Jvm.Cond.selects "CoinRows" ({ cls := "CoinRows", name := "count", desc := "(I)I" } : Jvm.MethodName) ({ cls := "CoinRows", name := "count", desc := "(I)I" } : Jvm.MethodName)) ∈ GW := List.mem_filter.mpr ⟨List.mem_append_right _ (List.mem_of_getElem? (i := 459) (by decide +kernel)), rfl⟩
theorem gw_460 : (Jvm.Cond.code ({ cls := "CoinRows", name := "count", desc := "(I)I" } : Jvm.MethodName) prog_1_method_25_code (2 : Nat) (Option.some Jvm.ClassFile.FieldType.int)) ∈ GW := List.mem_filter.mpr ⟨List.mem_append_right _ (List.mem_of_getElem? (i := 460) (by decide +kernel)), rfl⟩
theorem gw_461 : (Jvm.Cond.methodLink "CoinRows" (189 : Nat) ({ cls := "CoinRows$Model", name := "countWeights", desc := "()I" } : Jvm.MethodName)) ∈ GW := List.mem_filter.mpr ⟨List.mem_append_right _ (List.mem_of_getElem? (i := 461) (by decide +kernel)), rfl⟩
theorem gw_462 : (Jvm.Cond.instanceMethod ({ cls := "CoinRows$Model", name := "countWeights", desc := "()I" } : Jvm.MethodName)) ∈ GW := List.mem_filter.mpr ⟨List.mem_append_right _ (List.mem_of_getElem? (i := 462) (by decide +kernel)), rfl⟩
theorem gw_463 : (Jvm.Cond.selects "CoinRows$Model" ({ cls := "CoinRows$Model", name := "countWeights", desc := "()I" } : Jvm.MethodName) ({ cls := "CoinRows$Model", name := "countWeights", desc := "()I" } : Jvm.MethodName)) ∈ GW := List.mem_filter.mpr ⟨List.mem_append_right _ (List.mem_of_getElem? (i := 463) (by decide +kernel)), rfl⟩
theorem gw_464 : (Jvm.Cond.code ({ cls := "CoinRows$Model", name := "countWeights", desc := "()I" } : Jvm.MethodName) prog_2_method_5_code (3 : Nat) (Option.some Jvm.ClassFile.FieldType.int)) ∈ GW := List.mem_filter.mpr ⟨List.mem_append_right _ (List.mem_of_getElem? (i := 464) (by decide +kernel)), rfl⟩
theorem gw_465 : (Jvm.Cond.methodLink "CoinRowsLaw" (122 : Nat) ({ cls := "CoinRows", name := "undo", desc := "()I" } : Jvm.MethodName)) ∈ GW := List.mem_filter.mpr ⟨List.mem_append_right _ (List.mem_of_getElem? (i := 465) (by decide +kernel)), rfl⟩
theorem gw_466 : (Jvm.Cond.instanceMethod ({ cls := "CoinRows", name := "undo", desc := "()I" } : Jvm.MethodName)) ∈ GW := List.mem_filter.mpr ⟨List.mem_append_right _ (List.mem_of_getElem? (i := 466) (by decide +kernel)), rfl⟩
theorem gw_467 : (Jvm.Cond.selects "CoinRows" ({ cls := "CoinRows", name := "undo", desc := "()I" } : Jvm.MethodName) ({ cls := "CoinRows", name := "undo", desc := "()I" } : Jvm.MethodName)) ∈ GW := List.mem_filter.mpr ⟨List.mem_append_right _ (List.mem_of_getElem? (i := 467) (by decide +kernel)), rfl⟩
theorem gw_468 : (Jvm.Cond.code ({ cls := "CoinRows", name := "undo", desc := "()I" } : Jvm.MethodName) prog_1_method_26_code (1 : Nat) (Option.some Jvm.ClassFile.FieldType.int)) ∈ GW := List.mem_filter.mpr ⟨List.mem_append_right _ (List.mem_of_getElem? (i := 468) (by decide +kernel)), rfl⟩
theorem gw_469 : (Jvm.Cond.methodLink "CoinRowsLaw" (126 : Nat) ({ cls := "CoinRows", name := "save", desc := "(I)I" } : Jvm.MethodName)) ∈ GW := List.mem_filter.mpr ⟨List.mem_append_right _ (List.mem_of_getElem? (i := 469) (by decide +kernel)), rfl⟩
theorem gw_470 : (Jvm.Cond.instanceMethod ({ cls := "CoinRows", name := "save", desc := "(I)I" } : Jvm.MethodName)) ∈ GW := List.mem_filter.mpr ⟨List.mem_append_right _ (List.mem_of_getElem? (i := 470) (by decide +kernel)), rfl⟩
theorem gw_471 : (Jvm.Cond.selects "CoinRows" ({ cls := "CoinRows", name := "save", desc := "(I)I" } : Jvm.MethodName) ({ cls := "CoinRows", name := "save", desc := "(I)I" } : Jvm.MethodName)) ∈ GW := List.mem_filter.mpr ⟨List.mem_append_right _ (List.mem_of_getElem? (i := 471) (by decide +kernel)), rfl⟩
theorem gw_472 : (Jvm.Cond.code ({ cls := "CoinRows", name := "save", desc := "(I)I" } : Jvm.MethodName) prog_1_method_27_code (2 : Nat) (Option.some Jvm.ClassFile.FieldType.int)) ∈ GW := List.mem_filter.mpr ⟨List.mem_append_right _ (List.mem_of_getElem? (i := 472) (by decide +kernel)), rfl⟩
theorem gw_473 : (Jvm.Cond.methodLink "CoinRowsLaw" (130 : Nat) ({ cls := "CoinRows", name := "restore", desc := "(I)I" } : Jvm.MethodName)) ∈ GW := List.mem_filter.mpr ⟨List.mem_append_right _ (List.mem_of_getElem? (i := 473) (by decide +kernel)), rfl⟩
theorem gw_474 : (Jvm.Cond.instanceMethod ({ cls := "CoinRows", name := "restore", desc := "(I)I" } : Jvm.MethodName)) ∈ GW := List.mem_filter.mpr ⟨List.mem_append_right _ (List.mem_of_getElem? (i := 474) (by decide +kernel)), rfl⟩
theorem gw_475 : (Jvm.Cond.selects "CoinRows" ({ cls := "CoinRows", name := "restore", desc := "(I)I" } : Jvm.MethodName) ({ cls := "CoinRows", name := "restore", desc := "(I)I" } : Jvm.MethodName)) ∈ GW := List.mem_filter.mpr ⟨List.mem_append_right _ (List.mem_of_getElem? (i := 475) (by decide +kernel)), rfl⟩
theorem gw_476 : (Jvm.Cond.code ({ cls := "CoinRows", name := "restore", desc := "(I)I" } : Jvm.MethodName) prog_1_method_28_code (2 : Nat) (Option.some Jvm.ClassFile.FieldType.int)) ∈ GW := List.mem_filter.mpr ⟨List.mem_append_right _ (List.mem_of_getElem? (i := 476) (by decide +kernel)), rfl⟩
theorem gw_477 : (Jvm.Cond.classLink "CoinRowsLaw" (10 : Nat) "CoinRowsModel") ∈ GW := List.mem_filter.mpr ⟨List.mem_append_right _ (List.mem_of_getElem? (i := 477) (by decide +kernel)), rfl⟩
theorem gw_478 : (Jvm.Cond.instantiable "CoinRowsModel" (16 : Nat)) ∈ GW := List.mem_filter.mpr ⟨List.mem_append_right _ (List.mem_of_getElem? (i := 478) (by decide +kernel)), rfl⟩
theorem gw_479 : (Jvm.Cond.methodLink "CoinRowsLaw" (12 : Nat) ({ cls := "CoinRowsModel", name := "<init>", desc := "()V" } : Jvm.MethodName)) ∈ GW := List.mem_filter.mpr ⟨List.mem_append_right _ (List.mem_of_getElem? (i := 479) (by decide +kernel)), rfl⟩
theorem gw_480 : (Jvm.Cond.instanceMethod ({ cls := "CoinRowsModel", name := "<init>", desc := "()V" } : Jvm.MethodName)) ∈ GW := List.mem_filter.mpr ⟨List.mem_append_right _ (List.mem_of_getElem? (i := 480) (by decide +kernel)), rfl⟩
theorem gw_481 : (Jvm.Cond.code ({ cls := "CoinRowsModel", name := "<init>", desc := "()V" } : Jvm.MethodName) prog_8_method_1_code (2 : Nat) (Option.none : Option Jvm.ClassFile.FieldType)) ∈ GW := List.mem_filter.mpr ⟨List.mem_append_right _ (List.mem_of_getElem? (i := 481) (by decide +kernel)), rfl⟩
theorem gw_482 : (Jvm.Cond.methodLink "CoinRowsModel" (1 : Nat) ({ cls := "java/lang/Object", name := "<init>", desc := "()V" } : Jvm.MethodName)) ∈ GW := List.mem_filter.mpr ⟨List.mem_append_right _ (List.mem_of_getElem? (i := 482) (by decide +kernel)), rfl⟩
theorem gw_483 : (Jvm.Cond.fieldLink "CoinRowsModel" (7 : Nat) "CoinRowsModel" "now" "[I") ∈ GW := List.mem_filter.mpr ⟨List.mem_append_right _ (List.mem_of_getElem? (i := 483) (by decide +kernel)), rfl⟩
theorem gw_484 : (Jvm.Cond.fieldLink "CoinRowsModel" (13 : Nat) "CoinRowsModel" "history" "[I") ∈ GW := List.mem_filter.mpr ⟨List.mem_append_right _ (List.mem_of_getElem? (i := 484) (by decide +kernel)), rfl⟩
theorem gw_485 : (Jvm.Cond.fieldLink "CoinRowsModel" (45 : Nat) "CoinRowsModel" "undos" "I") ∈ GW := List.mem_filter.mpr ⟨List.mem_append_right _ (List.mem_of_getElem? (i := 485) (by decide +kernel)), rfl⟩
theorem gw_486 : (Jvm.Cond.fieldLink "CoinRowsModel" (16 : Nat) "CoinRowsModel" "saved" "[I") ∈ GW := List.mem_filter.mpr ⟨List.mem_append_right _ (List.mem_of_getElem? (i := 486) (by decide +kernel)), rfl⟩
theorem gw_487 : (Jvm.Cond.fieldLink "CoinRowsModel" (19 : Nat) "CoinRowsModel" "isSaved" "[Z") ∈ GW := List.mem_filter.mpr ⟨List.mem_append_right _ (List.mem_of_getElem? (i := 487) (by decide +kernel)), rfl⟩
theorem gw_488 : (Jvm.Cond.fieldLink "CoinRowsModel" (23 : Nat) "CoinRowsModel" "pad" "[I") ∈ GW := List.mem_filter.mpr ⟨List.mem_append_right _ (List.mem_of_getElem? (i := 488) (by decide +kernel)), rfl⟩
theorem gw_489 : (Jvm.Cond.fieldLink "CoinRowsModel" (160 : Nat) "CoinRowsModel" "signs" "I") ∈ GW := List.mem_filter.mpr ⟨List.mem_append_right _ (List.mem_of_getElem? (i := 489) (by decide +kernel)), rfl⟩
theorem gw_490 : (Jvm.Cond.fieldLink "CoinRowsModel" (26 : Nat) "CoinRowsModel" "ahead" "[J") ∈ GW := List.mem_filter.mpr ⟨List.mem_append_right _ (List.mem_of_getElem? (i := 490) (by decide +kernel)), rfl⟩
theorem gw_491 : (Jvm.Cond.fieldLink "CoinRowsModel" (30 : Nat) "CoinRowsModel" "behind" "[J") ∈ GW := List.mem_filter.mpr ⟨List.mem_append_right _ (List.mem_of_getElem? (i := 491) (by decide +kernel)), rfl⟩
theorem gw_492 : (Jvm.Cond.fieldLink "CoinRowsModel" (33 : Nat) "CoinRowsModel" "many" "[I") ∈ GW := List.mem_filter.mpr ⟨List.mem_append_right _ (List.mem_of_getElem? (i := 492) (by decide +kernel)), rfl⟩
theorem gw_493 : (Jvm.Cond.fieldLink "CoinRowsModel" (36 : Nat) "CoinRowsModel" "heaviest" "[J") ∈ GW := List.mem_filter.mpr ⟨List.mem_append_right _ (List.mem_of_getElem? (i := 493) (by decide +kernel)), rfl⟩
theorem gw_494 : (Jvm.Cond.fieldLink "CoinRowsModel" (39 : Nat) "CoinRowsModel" "coins" "[I") ∈ GW := List.mem_filter.mpr ⟨List.mem_append_right _ (List.mem_of_getElem? (i := 494) (by decide +kernel)), rfl⟩
theorem gw_495 : (Jvm.Cond.fieldLink "CoinRowsModel" (104 : Nat) "CoinRowsModel" "length" "I") ∈ GW := List.mem_filter.mpr ⟨List.mem_append_right _ (List.mem_of_getElem? (i := 495) (by decide +kernel)), rfl⟩
theorem gw_496 : (Jvm.Cond.fieldLink "CoinRowsModel" (107 : Nat) "CoinRowsModel" "weighs" "J") ∈ GW := List.mem_filter.mpr ⟨List.mem_append_right _ (List.mem_of_getElem? (i := 496) (by decide +kernel)), rfl⟩
theorem gw_497 : (Jvm.Cond.fieldLink "CoinRowsModel" (42 : Nat) "CoinRowsModel" "numbers" "[J") ∈ GW := List.mem_filter.mpr ⟨List.mem_append_right _ (List.mem_of_getElem? (i := 497) (by decide +kernel)), rfl⟩
theorem gw_498 : (Jvm.Cond.fieldLink "CoinRowsModel" (163 : Nat) "CoinRowsModel" "parts" "I") ∈ GW := List.mem_filter.mpr ⟨List.mem_append_right _ (List.mem_of_getElem? (i := 498) (by decide +kernel)), rfl⟩
theorem gw_532 : (Jvm.Cond.arrayClass Jvm.ClassFile.FieldType.boolean) ∈ GW := List.mem_filter.mpr ⟨List.mem_append_right _ (List.mem_of_getElem? (i := 532) (by decide +kernel)), rfl⟩
theorem gw_533 : (Jvm.Cond.methodLink "CoinRowsLaw" (17 : Nat) ({ cls := "CoinRowsModel", name := "give", desc := "(IIII)I" } : Jvm.MethodName)) ∈ GW := List.mem_filter.mpr ⟨List.mem_append_right _ (List.mem_of_getElem? (i := 533) (by decide +kernel)), rfl⟩
theorem gw_534 : (Jvm.Cond.instanceMethod ({ cls := "CoinRowsModel", name := "give", desc := "(IIII)I" } : Jvm.MethodName)) ∈ GW := List.mem_filter.mpr ⟨List.mem_append_right _ (List.mem_of_getElem? (i := 534) (by decide +kernel)), rfl⟩
theorem gw_535 : (Jvm.Cond.selects "CoinRowsModel" ({ cls := "CoinRowsModel", name := "give", desc := "(IIII)I" } : Jvm.MethodName) ({ cls := "CoinRowsModel", name := "give", desc := "(IIII)I" } : Jvm.MethodName)) ∈ GW := List.mem_filter.mpr ⟨List.mem_append_right _ (List.mem_of_getElem? (i := 535) (by decide +kernel)), rfl⟩
theorem gw_536 : (Jvm.Cond.code ({ cls := "CoinRowsModel", name := "give", desc := "(IIII)I" } : Jvm.MethodName) prog_8_method_6_code (7 : Nat) (Option.some Jvm.ClassFile.FieldType.int)) ∈ GW := List.mem_filter.mpr ⟨List.mem_append_right _ (List.mem_of_getElem? (i := 536) (by decide +kernel)), rfl⟩
theorem gw_537 : (Jvm.Cond.methodLink "CoinRowsModel" (49 : Nat) ({ cls := "CoinRowsModel", name := "in", desc := "(III)Z" } : Jvm.MethodName)) ∈ GW := List.mem_filter.mpr ⟨List.mem_append_right _ (List.mem_of_getElem? (i := 537) (by decide +kernel)), rfl⟩
theorem gw_538 : (Jvm.Cond.static ({ cls := "CoinRowsModel", name := "in", desc := "(III)Z" } : Jvm.MethodName)) ∈ GW := List.mem_filter.mpr ⟨List.mem_append_right _ (List.mem_of_getElem? (i := 538) (by decide +kernel)), rfl⟩
theorem gw_539 : (Jvm.Cond.code ({ cls := "CoinRowsModel", name := "in", desc := "(III)Z" } : Jvm.MethodName) prog_8_method_2_code (3 : Nat) (Option.some Jvm.ClassFile.FieldType.boolean)) ∈ GW := List.mem_filter.mpr ⟨List.mem_append_right _ (List.mem_of_getElem? (i := 539) (by decide +kernel)), rfl⟩
theorem gw_540 : (Jvm.Cond.methodLink "CoinRowsModel" (53 : Nat) ({ cls := "CoinRowsModel", name := "placeOf", desc := "(III)I" } : Jvm.MethodName)) ∈ GW := List.mem_filter.mpr ⟨List.mem_append_right _ (List.mem_of_getElem? (i := 540) (by decide +kernel)), rfl⟩
theorem gw_541 : (Jvm.Cond.static ({ cls := "CoinRowsModel", name := "placeOf", desc := "(III)I" } : Jvm.MethodName)) ∈ GW := List.mem_filter.mpr ⟨List.mem_append_right _ (List.mem_of_getElem? (i := 541) (by decide +kernel)), rfl⟩
theorem gw_542 : (Jvm.Cond.code ({ cls := "CoinRowsModel", name := "placeOf", desc := "(III)I" } : Jvm.MethodName) prog_8_method_4_code (3 : Nat) (Option.some Jvm.ClassFile.FieldType.int)) ∈ GW := List.mem_filter.mpr ⟨List.mem_append_right _ (List.mem_of_getElem? (i := 542) (by decide +kernel)), rfl⟩
theorem gw_543 : (Jvm.Cond.methodLink "CoinRowsModel" (57 : Nat) ({ cls := "CoinRowsModel", name := "isNought", desc := "(II)Z" } : Jvm.MethodName)) ∈ GW := List.mem_filter.mpr ⟨List.mem_append_right _ (List.mem_of_getElem? (i := 543) (by decide +kernel)), rfl⟩
theorem gw_544 : (Jvm.Cond.static ({ cls := "CoinRowsModel", name := "isNought", desc := "(II)Z" } : Jvm.MethodName)) ∈ GW := List.mem_filter.mpr ⟨List.mem_append_right _ (List.mem_of_getElem? (i := 544) (by decide +kernel)), rfl⟩
theorem gw_545 : (Jvm.Cond.code ({ cls := "CoinRowsModel", name := "isNought", desc := "(II)Z" } : Jvm.MethodName) prog_8_method_5_code (2 : Nat) (Option.some Jvm.ClassFile.FieldType.boolean)) ∈ GW := List.mem_filter.mpr ⟨List.mem_append_right _ (List.mem_of_getElem? (i := 545) (by decide +kernel)), rfl⟩
theorem gw_546 : (Jvm.Cond.methodLink "CoinRowsModel" (61 : Nat) ({ cls := "CoinRowsModel", name := "record", desc := "()V" } : Jvm.MethodName)) ∈ GW := List.mem_filter.mpr ⟨List.mem_append_right _ (List.mem_of_getElem? (i := 546) (by decide +kernel)), rfl⟩
theorem gw_548 : (Jvm.Cond.instanceMethod ({ cls := "CoinRowsModel", name := "record", desc := "()V" } : Jvm.MethodName)) ∈ GW := List.mem_filter.mpr ⟨List.mem_append_right _ (List.mem_of_getElem? (i := 548) (by decide +kernel)), rfl⟩
theorem gw_549 : (Jvm.Cond.code ({ cls := "CoinRowsModel", name := "record", desc := "()V" } : Jvm.MethodName) prog_8_method_3_code (2 : Nat) (Option.none : Option Jvm.ClassFile.FieldType)) ∈ GW := List.mem_filter.mpr ⟨List.mem_append_right _ (List.mem_of_getElem? (i := 549) (by decide +kernel)), rfl⟩
theorem gw_550 : (Jvm.Cond.methodLink "CoinRowsLaw" (22 : Nat) ({ cls := "CoinRowsModel", name := "weight", desc := "(III)I" } : Jvm.MethodName)) ∈ GW := List.mem_filter.mpr ⟨List.mem_append_right _ (List.mem_of_getElem? (i := 550) (by decide +kernel)), rfl⟩
theorem gw_551 : (Jvm.Cond.instanceMethod ({ cls := "CoinRowsModel", name := "weight", desc := "(III)I" } : Jvm.MethodName)) ∈ GW := List.mem_filter.mpr ⟨List.mem_append_right _ (List.mem_of_getElem? (i := 551) (by decide +kernel)), rfl⟩
theorem gw_552 : (Jvm.Cond.selects "CoinRowsModel" ({ cls := "CoinRowsModel", name := "weight", desc := "(III)I" } : Jvm.MethodName) ({ cls := "CoinRowsModel", name := "weight", desc := "(III)I" } : Jvm.MethodName)) ∈ GW := List.mem_filter.mpr ⟨List.mem_append_right _ (List.mem_of_getElem? (i := 552) (by decide +kernel)), rfl⟩
theorem gw_553 : (Jvm.Cond.code ({ cls := "CoinRowsModel", name := "weight", desc := "(III)I" } : Jvm.MethodName) prog_8_method_7_code (5 : Nat) (Option.some Jvm.ClassFile.FieldType.int)) ∈ GW := List.mem_filter.mpr ⟨List.mem_append_right _ (List.mem_of_getElem? (i := 553) (by decide +kernel)), rfl⟩
theorem gw_554 : (Jvm.Cond.methodLink "CoinRowsLaw" (27 : Nat) ({ cls := "CoinRowsModel", name := "add", desc := "(I)I" } : Jvm.MethodName)) ∈ GW := List.mem_filter.mpr ⟨List.mem_append_right _ (List.mem_of_getElem? (i := 554) (by decide +kernel)), rfl⟩
theorem gw_555 : (Jvm.Cond.instanceMethod ({ cls := "CoinRowsModel", name := "add", desc := "(I)I" } : Jvm.MethodName)) ∈ GW := List.mem_filter.mpr ⟨List.mem_append_right _ (List.mem_of_getElem? (i := 555) (by decide +kernel)), rfl⟩
theorem gw_556 : (Jvm.Cond.selects "CoinRowsModel" ({ cls := "CoinRowsModel", name := "add", desc := "(I)I" } : Jvm.MethodName) ({ cls := "CoinRowsModel", name := "add", desc := "(I)I" } : Jvm.MethodName)) ∈ GW := List.mem_filter.mpr ⟨List.mem_append_right _ (List.mem_of_getElem? (i := 556) (by decide +kernel)), rfl⟩
theorem gw_557 : (Jvm.Cond.code ({ cls := "CoinRowsModel", name := "add", desc := "(I)I" } : Jvm.MethodName) prog_8_method_8_code (2 : Nat) (Option.some Jvm.ClassFile.FieldType.int)) ∈ GW := List.mem_filter.mpr ⟨List.mem_append_right _ (List.mem_of_getElem? (i := 557) (by decide +kernel)), rfl⟩
theorem gw_558 : (Jvm.Cond.methodLink "CoinRowsLaw" (32 : Nat) ({ cls := "CoinRowsModel", name := "cut", desc := "()I" } : Jvm.MethodName)) ∈ GW := List.mem_filter.mpr ⟨List.mem_append_right _ (List.mem_of_getElem? (i := 558) (by decide +kernel)), rfl⟩
theorem gw_559 : (Jvm.Cond.instanceMethod ({ cls := "CoinRowsModel", name := "cut", desc := "()I" } : Jvm.MethodName)) ∈ GW := List.mem_filter.mpr ⟨List.mem_append_right _ (List.mem_of_getElem? (i := 559) (by decide +kernel)), rfl⟩
theorem gw_560 : (Jvm.Cond.selects "CoinRowsModel" ({ cls := "CoinRowsModel", name := "cut", desc := "()I" } : Jvm.MethodName) ({ cls := "CoinRowsModel", name := "cut", desc := "()I" } : Jvm.MethodName)) ∈ GW := List.mem_filter.mpr ⟨List.mem_append_right _ (List.mem_of_getElem? (i := 560) (by decide +kernel)), rfl⟩
theorem gw_561 : (Jvm.Cond.code ({ cls := "CoinRowsModel", name := "cut", desc := "()I" } : Jvm.MethodName) prog_8_method_9_code (1 : Nat) (Option.some Jvm.ClassFile.FieldType.int)) ∈ GW := List.mem_filter.mpr ⟨List.mem_append_right _ (List.mem_of_getElem? (i := 561) (by decide +kernel)), rfl⟩
theorem gw_562 : (Jvm.Cond.methodLink "CoinRowsLaw" (36 : Nat) ({ cls := "CoinRowsModel", name := "letter", desc := "(I)I" } : Jvm.MethodName)) ∈ GW := List.mem_filter.mpr ⟨List.mem_append_right _ (List.mem_of_getElem? (i := 562) (by decide +kernel)), rfl⟩
theorem gw_563 : (Jvm.Cond.instanceMethod ({ cls := "CoinRowsModel", name := "letter", desc := "(I)I" } : Jvm.MethodName)) ∈ GW := List.mem_filter.mpr ⟨List.mem_append_right _ (List.mem_of_getElem? (i := 563) (by decide +kernel)), rfl⟩
theorem gw_564 : (Jvm.Cond.selects "CoinRowsModel" ({ cls := "CoinRowsModel", name := "letter", desc := "(I)I" } : Jvm.MethodName) ({ cls := "CoinRowsModel", name := "letter", desc := "(I)I" } : Jvm.MethodName)) ∈ GW := List.mem_filter.mpr ⟨List.mem_append_right _ (List.mem_of_getElem? (i := 564) (by decide +kernel)), rfl⟩
theorem gw_565 : (Jvm.Cond.code ({ cls := "CoinRowsModel", name := "letter", desc := "(I)I" } : Jvm.MethodName) prog_8_method_11_code (2 : Nat) (Option.some Jvm.ClassFile.FieldType.int)) ∈ GW := List.mem_filter.mpr ⟨List.mem_append_right _ (List.mem_of_getElem? (i := 565) (by decide +kernel)), rfl⟩
theorem gw_566 : (Jvm.Cond.methodLink "CoinRowsModel" (64 : Nat) ({ cls := "CoinRowsModel", name := "isPlace", desc := "(I)Z" } : Jvm.MethodName)) ∈ GW := List.mem_filter.mpr ⟨List.mem_append_right _ (List.mem_of_getElem? (i := 566) (by decide +kernel)), rfl⟩
theorem gw_568 : (Jvm.Cond.instanceMethod ({ cls := "CoinRowsModel", name := "isPlace", desc := "(I)Z" } : Jvm.MethodName)) ∈ GW := List.mem_filter.mpr ⟨List.mem_append_right _ (List.mem_of_getElem? (i := 568) (by decide +kernel)), rfl⟩
theorem gw_569 : (Jvm.Cond.code ({ cls := "CoinRowsModel", name := "isPlace", desc := "(I)Z" } : Jvm.MethodName) prog_8_method_10_code (2 : Nat) (Option.some Jvm.ClassFile.FieldType.boolean)) ∈ GW := List.mem_filter.mpr ⟨List.mem_append_right _ (List.mem_of_getElem? (i := 569) (by decide +kernel)), rfl⟩
theorem gw_570 : (Jvm.Cond.methodLink "CoinRowsLaw" (64 : Nat) ({ cls := "CoinRowsModel", name := "total", desc := "()J" } : Jvm.MethodName)) ∈ GW := List.mem_filter.mpr ⟨List.mem_append_right _ (List.mem_of_getElem? (i := 570) (by decide +kernel)), rfl⟩
theorem gw_571 : (Jvm.Cond.instanceMethod ({ cls := "CoinRowsModel", name := "total", desc := "()J" } : Jvm.MethodName)) ∈ GW := List.mem_filter.mpr ⟨List.mem_append_right _ (List.mem_of_getElem? (i := 571) (by decide +kernel)), rfl⟩
theorem gw_572 : (Jvm.Cond.selects "CoinRowsModel" ({ cls := "CoinRowsModel", name := "total", desc := "()J" } : Jvm.MethodName) ({ cls := "CoinRowsModel", name := "total", desc := "()J" } : Jvm.MethodName)) ∈ GW := List.mem_filter.mpr ⟨List.mem_append_right _ (List.mem_of_getElem? (i := 572) (by decide +kernel)), rfl⟩
theorem gw_573 : (Jvm.Cond.code ({ cls := "CoinRowsModel", name := "total", desc := "()J" } : Jvm.MethodName) prog_8_method_22_code (1 : Nat) (Option.some Jvm.ClassFile.FieldType.long)) ∈ GW := List.mem_filter.mpr ⟨List.mem_append_right _ (List.mem_of_getElem? (i := 573) (by decide +kernel)), rfl⟩
theorem gw_574 : (Jvm.Cond.methodLink "CoinRowsModel" (95 : Nat) ({ cls := "CoinRowsModel", name := "totalNow", desc := "()J" } : Jvm.MethodName)) ∈ GW := List.mem_filter.mpr ⟨List.mem_append_right _ (List.mem_of_getElem? (i := 574) (by decide +kernel)), rfl⟩
theorem gw_576 : (Jvm.Cond.instanceMethod ({ cls := "CoinRowsModel", name := "totalNow", desc := "()J" } : Jvm.MethodName)) ∈ GW := List.mem_filter.mpr ⟨List.mem_append_right _ (List.mem_of_getElem? (i := 576) (by decide +kernel)), rfl⟩
theorem gw_577 : (Jvm.Cond.code ({ cls := "CoinRowsModel", name := "totalNow", desc := "()J" } : Jvm.MethodName) prog_8_method_21_code (5 : Nat) (Option.some Jvm.ClassFile.FieldType.long)) ∈ GW := List.mem_filter.mpr ⟨List.mem_append_right _ (List.mem_of_getElem? (i := 577) (by decide +kernel)), rfl⟩
theorem gw_578 : (Jvm.Cond.methodLink "CoinRowsModel" (92 : Nat) ({ cls := "CoinRowsModel", name := "layBehind", desc := "()V" } : Jvm.MethodName)) ∈ GW := List.mem_filter.mpr ⟨List.mem_append_right _ (List.mem_of_getElem? (i := 578) (by decide +kernel)), rfl⟩
theorem gw_580 : (Jvm.Cond.instanceMethod ({ cls := "CoinRowsModel", name := "layBehind", desc := "()V" } : Jvm.MethodName)) ∈ GW := List.mem_filter.mpr ⟨List.mem_append_right _ (List.mem_of_getElem? (i := 580) (by decide +kernel)), rfl⟩
theorem gw_581 : (Jvm.Cond.code ({ cls := "CoinRowsModel", name := "layBehind", desc := "()V" } : Jvm.MethodName) prog_8_method_20_code (3 : Nat) (Option.none : Option Jvm.ClassFile.FieldType)) ∈ GW := List.mem_filter.mpr ⟨List.mem_append_right _ (List.mem_of_getElem? (i := 581) (by decide +kernel)), rfl⟩
theorem gw_582 : (Jvm.Cond.methodLink "CoinRowsModel" (89 : Nat) ({ cls := "CoinRowsModel", name := "layBehindOf", desc := "(II)V" } : Jvm.MethodName)) ∈ GW := List.mem_filter.mpr ⟨List.mem_append_right _ (List.mem_of_getElem? (i := 582) (by decide +kernel)), rfl⟩
theorem gw_584 : (Jvm.Cond.instanceMethod ({ cls := "CoinRowsModel", name := "layBehindOf", desc := "(II)V" } : Jvm.MethodName)) ∈ GW := List.mem_filter.mpr ⟨List.mem_append_right _ (List.mem_of_getElem? (i := 584) (by decide +kernel)), rfl⟩
theorem gw_585 : (Jvm.Cond.code ({ cls := "CoinRowsModel", name := "layBehindOf", desc := "(II)V" } : Jvm.MethodName) prog_8_method_19_code (8 : Nat) (Option.none : Option Jvm.ClassFile.FieldType)) ∈ GW := List.mem_filter.mpr ⟨List.mem_append_right _ (List.mem_of_getElem? (i := 585) (by decide +kernel)), rfl⟩
theorem gw_586 : (Jvm.Cond.methodLink "CoinRowsModel" (75 : Nat) ({ cls := "CoinRowsModel", name := "step", desc := "(II)I" } : Jvm.MethodName)) ∈ GW := List.mem_filter.mpr ⟨List.mem_append_right _ (List.mem_of_getElem? (i := 586) (by decide +kernel)), rfl⟩
theorem gw_588 : (Jvm.Cond.instanceMethod ({ cls := "CoinRowsModel", name := "step", desc := "(II)I" } : Jvm.MethodName)) ∈ GW := List.mem_filter.mpr ⟨List.mem_append_right _ (List.mem_of_getElem? (i := 588) (by decide +kernel)), rfl⟩
theorem gw_589 : (Jvm.Cond.code ({ cls := "CoinRowsModel", name := "step", desc := "(II)I" } : Jvm.MethodName) prog_8_method_12_code (3 : Nat) (Option.some Jvm.ClassFile.FieldType.int)) ∈ GW := List.mem_filter.mpr ⟨List.mem_append_right _ (List.mem_of_getElem? (i := 589) (by decide +kernel)), rfl⟩
theorem gw_590 : (Jvm.Cond.methodLink "CoinRowsModel" (78 : Nat) ({ cls := "CoinRowsModel", name := "going", desc := "(III)I" } : Jvm.MethodName)) ∈ GW := List.mem_filter.mpr ⟨List.mem_append_right _ (List.mem_of_getElem? (i := 590) (by decide +kernel)), rfl⟩
theorem gw_592 : (Jvm.Cond.instanceMethod ({ cls := "CoinRowsModel", name := "going", desc := "(III)I" } : Jvm.MethodName)) ∈ GW := List.mem_filter.mpr ⟨List.mem_append_right _ (List.mem_of_getElem? (i := 592) (by decide +kernel)), rfl⟩
theorem gw_593 : (Jvm.Cond.code ({ cls := "CoinRowsModel", name := "going", desc := "(III)I" } : Jvm.MethodName) prog_8_method_14_code (4 : Nat) (Option.some Jvm.ClassFile.FieldType.int)) ∈ GW := List.mem_filter.mpr ⟨List.mem_append_right _ (List.mem_of_getElem? (i := 593) (by decide +kernel)), rfl⟩
theorem gw_594 : (Jvm.Cond.methodLink "CoinRowsModel" (68 : Nat) ({ cls := "CoinRowsModel", name := "tells", desc := "(II)I" } : Jvm.MethodName)) ∈ GW := List.mem_filter.mpr ⟨List.mem_append_right _ (List.mem_of_getElem? (i := 594) (by decide +kernel)), rfl⟩
theorem gw_596 : (Jvm.Cond.instanceMethod ({ cls := "CoinRowsModel", name := "tells", desc := "(II)I" } : Jvm.MethodName)) ∈ GW := List.mem_filter.mpr ⟨List.mem_append_right _ (List.mem_of_getElem? (i := 596) (by decide +kernel)), rfl⟩
theorem gw_597 : (Jvm.Cond.code ({ cls := "CoinRowsModel", name := "tells", desc := "(II)I" } : Jvm.MethodName) prog_8_method_13_code (3 : Nat) (Option.some Jvm.ClassFile.FieldType.int)) ∈ GW := List.mem_filter.mpr ⟨List.mem_append_right _ (List.mem_of_getElem? (i := 597) (by decide +kernel)), rfl⟩
theorem gw_598 : (Jvm.Cond.methodLink "CoinRowsModel" (72 : Nat) ({ cls := "CoinRowsModel", name := "toldThen", desc := "(II)I" } : Jvm.MethodName)) ∈ GW := List.mem_filter.mpr ⟨List.mem_append_right _ (List.mem_of_getElem? (i := 598) (by decide +kernel)), rfl⟩
theorem gw_599 : (Jvm.Cond.static ({ cls := "CoinRowsModel", name := "toldThen", desc := "(II)I" } : Jvm.MethodName)) ∈ GW := List.mem_filter.mpr ⟨List.mem_append_right _ (List.mem_of_getElem? (i := 599) (by decide +kernel)), rfl⟩
theorem gw_600 : (Jvm.Cond.code ({ cls := "CoinRowsModel", name := "toldThen", desc := "(II)I" } : Jvm.MethodName) prog_8_method_15_code (2 : Nat) (Option.some Jvm.ClassFile.FieldType.int)) ∈ GW := List.mem_filter.mpr ⟨List.mem_append_right _ (List.mem_of_getElem? (i := 600) (by decide +kernel)), rfl⟩
theorem gw_601 : (Jvm.Cond.methodLink "CoinRowsLaw" (69 : Nat) ({ cls := "CoinRowsModel", name := "forward", desc := "(II)J" } : Jvm.MethodName)) ∈ GW := List.mem_filter.mpr ⟨List.mem_append_right _ (List.mem_of_getElem? (i := 601) (by decide +kernel)), rfl⟩
theorem gw_602 : (Jvm.Cond.instanceMethod ({ cls := "CoinRowsModel", name := "forward", desc := "(II)J" } : Jvm.MethodName)) ∈ GW := List.mem_filter.mpr ⟨List.mem_append_right _ (List.mem_of_getElem? (i := 602) (by decide +kernel)), rfl⟩
theorem gw_603 : (Jvm.Cond.selects "CoinRowsModel" ({ cls := "CoinRowsModel", name := "forward", desc := "(II)J" } : Jvm.MethodName) ({ cls := "CoinRowsModel", name := "forward", desc := "(II)J" } : Jvm.MethodName)) ∈ GW := List.mem_filter.mpr ⟨List.mem_append_right _ (List.mem_of_getElem? (i := 603) (by decide +kernel)), rfl⟩
theorem gw_604 : (Jvm.Cond.code ({ cls := "CoinRowsModel", name := "forward", desc := "(II)J" } : Jvm.MethodName) prog_8_method_23_code (3 : Nat) (Option.some Jvm.ClassFile.FieldType.long)) ∈ GW := List.mem_filter.mpr ⟨List.mem_append_right _ (List.mem_of_getElem? (i := 604) (by decide +kernel)), rfl⟩
theorem gw_605 : (Jvm.Cond.constantLong "CoinRowsModel" (99 : Nat) (-1 : Int64)) ∈ GW := List.mem_filter.mpr ⟨List.mem_append_right _ (List.mem_of_getElem? (i := 605) (by decide +kernel)), rfl⟩
theorem gw_606 : (Jvm.Cond.methodLink "CoinRowsModel" (101 : Nat) ({ cls := "CoinRowsModel", name := "layAhead", desc := "()V" } : Jvm.MethodName)) ∈ GW := List.mem_filter.mpr ⟨List.mem_append_right _ (List.mem_of_getElem? (i := 606) (by decide +kernel)), rfl⟩
theorem gw_608 : (Jvm.Cond.instanceMethod ({ cls := "CoinRowsModel", name := "layAhead", desc := "()V" } : Jvm.MethodName)) ∈ GW := List.mem_filter.mpr ⟨List.mem_append_right _ (List.mem_of_getElem? (i := 608) (by decide +kernel)), rfl⟩
theorem gw_609 : (Jvm.Cond.code ({ cls := "CoinRowsModel", name := "layAhead", desc := "()V" } : Jvm.MethodName) prog_8_method_18_code (3 : Nat) (Option.none : Option Jvm.ClassFile.FieldType)) ∈ GW := List.mem_filter.mpr ⟨List.mem_append_right _ (List.mem_of_getElem? (i := 609) (by decide +kernel)), rfl⟩
theorem gw_610 : (Jvm.Cond.methodLink "CoinRowsModel" (81 : Nat) ({ cls := "CoinRowsModel", name := "addAhead", desc := "(JII)V" } : Jvm.MethodName)) ∈ GW := List.mem_filter.mpr ⟨List.mem_append_right _ (List.mem_of_getElem? (i := 610) (by decide +kernel)), rfl⟩
theorem gw_612 : (Jvm.Cond.instanceMethod ({ cls := "CoinRowsModel", name := "addAhead", desc := "(JII)V" } : Jvm.MethodName)) ∈ GW := List.mem_filter.mpr ⟨List.mem_append_right _ (List.mem_of_getElem? (i := 612) (by decide +kernel)), rfl⟩
theorem gw_613 : (Jvm.Cond.code ({ cls := "CoinRowsModel", name := "addAhead", desc := "(JII)V" } : Jvm.MethodName) prog_8_method_16_code (5 : Nat) (Option.none : Option Jvm.ClassFile.FieldType)) ∈ GW := List.mem_filter.mpr ⟨List.mem_append_right _ (List.mem_of_getElem? (i := 613) (by decide +kernel)), rfl⟩
theorem gw_614 : (Jvm.Cond.methodLink "CoinRowsModel" (85 : Nat) ({ cls := "CoinRowsModel", name := "spread", desc := "(II)V" } : Jvm.MethodName)) ∈ GW := List.mem_filter.mpr ⟨List.mem_append_right _ (List.mem_of_getElem? (i := 614) (by decide +kernel)), rfl⟩
theorem gw_616 : (Jvm.Cond.instanceMethod ({ cls := "CoinRowsModel", name := "spread", desc := "(II)V" } : Jvm.MethodName)) ∈ GW := List.mem_filter.mpr ⟨List.mem_append_right _ (List.mem_of_getElem? (i := 616) (by decide +kernel)), rfl⟩
theorem gw_617 : (Jvm.Cond.code ({ cls := "CoinRowsModel", name := "spread", desc := "(II)V" } : Jvm.MethodName) prog_8_method_17_code (4 : Nat) (Option.none : Option Jvm.ClassFile.FieldType)) ∈ GW := List.mem_filter.mpr ⟨List.mem_append_right _ (List.mem_of_getElem? (i := 617) (by decide +kernel)), rfl⟩
theorem gw_618 : (Jvm.Cond.methodLink "CoinRowsLaw" (73 : Nat) ({ cls := "CoinRowsModel", name := "backward", desc := "(II)J" } : Jvm.MethodName)) ∈ GW := List.mem_filter.mpr ⟨List.mem_append_right _ (List.mem_of_getElem? (i := 618) (by decide +kernel)), rfl⟩
theorem gw_619 : (Jvm.Cond.instanceMethod ({ cls := "CoinRowsModel", name := "backward", desc := "(II)J" } : Jvm.MethodName)) ∈ GW := List.mem_filter.mpr ⟨List.mem_append_right _ (List.mem_of_getElem? (i := 619) (by decide +kernel)), rfl⟩
theorem gw_620 : (Jvm.Cond.selects "CoinRowsModel" ({ cls := "CoinRowsModel", name := "backward", desc := "(II)J" } : Jvm.MethodName) ({ cls := "CoinRowsModel", name := "backward", desc := "(II)J" } : Jvm.MethodName)) ∈ GW := List.mem_filter.mpr ⟨List.mem_append_right _ (List.mem_of_getElem? (i := 620) (by decide +kernel)), rfl⟩
theorem gw_621 : (Jvm.Cond.code ({ cls := "CoinRowsModel", name := "backward", desc := "(II)J" } : Jvm.MethodName) prog_8_method_24_code (3 : Nat) (Option.some Jvm.ClassFile.FieldType.long)) ∈ GW := List.mem_filter.mpr ⟨List.mem_append_right _ (List.mem_of_getElem? (i := 621) (by decide +kernel)), rfl⟩
theorem gw_622 : (Jvm.Cond.methodLink "CoinRowsLaw" (77 : Nat) ({ cls := "CoinRowsModel", name := "ways", desc := "()I" } : Jvm.MethodName)) ∈ GW := List.mem_filter.mpr ⟨List.mem_append_right _ (List.mem_of_getElem? (i := 622) (by decide +kernel)), rfl⟩
theorem gw_623 : (Jvm.Cond.instanceMethod ({ cls := "CoinRowsModel", name := "ways", desc := "()I" } : Jvm.MethodName)) ∈ GW := List.mem_filter.mpr ⟨List.mem_append_right _ (List.mem_of_getElem? (i := 623) (by decide +kernel)), rfl⟩
theorem gw_624 : (Jvm.Cond.selects "CoinRowsModel" ({ cls := "CoinRowsModel", name := "ways", desc := "()I" } : Jvm.MethodName) ({ cls := "CoinRowsModel", name := "ways", desc := "()I" } : Jvm.MethodName)) ∈ GW := List.mem_filter.mpr ⟨List.mem_append_right _ (List.mem_of_getElem? (i := 624) (by decide +kernel)), rfl⟩
theorem gw_625 : (Jvm.Cond.code ({ cls := "CoinRowsModel", name := "ways", desc := "()I" } : Jvm.MethodName) prog_8_method_27_code (1 : Nat) (Option.some Jvm.ClassFile.FieldType.int)) ∈ GW := List.mem_filter.mpr ⟨List.mem_append_right _ (List.mem_of_getElem? (i := 625) (by decide +kernel)), rfl⟩
theorem gw_626 : (Jvm.Cond.methodLink "CoinRowsModel" (111 : Nat) ({ cls := "CoinRowsModel", name := "waysNow", desc := "()I" } : Jvm.MethodName)) ∈ GW := List.mem_filter.mpr ⟨List.mem_append_right _ (List.mem_of_getElem? (i := 626) (by decide +kernel)), rfl⟩
theorem gw_628 : (Jvm.Cond.instanceMethod ({ cls := "CoinRowsModel", name := "waysNow", desc := "()I" } : Jvm.MethodName)) ∈ GW := List.mem_filter.mpr ⟨List.mem_append_right _ (List.mem_of_getElem? (i := 628) (by decide +kernel)), rfl⟩
theorem gw_629 : (Jvm.Cond.code ({ cls := "CoinRowsModel", name := "waysNow", desc := "()I" } : Jvm.MethodName) prog_8_method_25_code (3 : Nat) (Option.some Jvm.ClassFile.FieldType.int)) ∈ GW := List.mem_filter.mpr ⟨List.mem_append_right _ (List.mem_of_getElem? (i := 629) (by decide +kernel)), rfl⟩
theorem gw_630 : (Jvm.Cond.methodLink "CoinRowsLaw" (82 : Nat) ({ cls := "CoinRowsModel", name := "way", desc := "(II)I" } : Jvm.MethodName)) ∈ GW := List.mem_filter.mpr ⟨List.mem_append_right _ (List.mem_of_getElem? (i := 630) (by decide +kernel)), rfl⟩
theorem gw_631 : (Jvm.Cond.instanceMethod ({ cls := "CoinRowsModel", name := "way", desc := "(II)I" } : Jvm.MethodName)) ∈ GW := List.mem_filter.mpr ⟨List.mem_append_right _ (List.mem_of_getElem? (i := 631) (by decide +kernel)), rfl⟩
theorem gw_632 : (Jvm.Cond.selects "CoinRowsModel" ({ cls := "CoinRowsModel", name := "way", desc := "(II)I" } : Jvm.MethodName) ({ cls := "CoinRowsModel", name := "way", desc := "(II)I" } : Jvm.MethodName)) ∈ GW := List.mem_filter.mpr ⟨List.mem_append_right _ (List.mem_of_getElem? (i := 632) (by decide +kernel)), rfl⟩
theorem gw_633 : (Jvm.Cond.code ({ cls := "CoinRowsModel", name := "way", desc := "(II)I" } : Jvm.MethodName) prog_8_method_30_code (3 : Nat) (Option.some Jvm.ClassFile.FieldType.int)) ∈ GW := List.mem_filter.mpr ⟨List.mem_append_right _ (List.mem_of_getElem? (i := 633) (by decide +kernel)), rfl⟩
theorem gw_634 : (Jvm.Cond.methodLink "CoinRowsModel" (115 : Nat) ({ cls := "CoinRowsModel", name := "isWay", desc := "(I)Z" } : Jvm.MethodName)) ∈ GW := List.mem_filter.mpr ⟨List.mem_append_right _ (List.mem_of_getElem? (i := 634) (by decide +kernel)), rfl⟩
theorem gw_636 : (Jvm.Cond.instanceMethod ({ cls := "CoinRowsModel", name := "isWay", desc := "(I)Z" } : Jvm.MethodName)) ∈ GW := List.mem_filter.mpr ⟨List.mem_append_right _ (List.mem_of_getElem? (i := 636) (by decide +kernel)), rfl⟩
theorem gw_637 : (Jvm.Cond.code ({ cls := "CoinRowsModel", name := "isWay", desc := "(I)Z" } : Jvm.MethodName) prog_8_method_28_code (2 : Nat) (Option.some Jvm.ClassFile.FieldType.boolean)) ∈ GW := List.mem_filter.mpr ⟨List.mem_append_right _ (List.mem_of_getElem? (i := 637) (by decide +kernel)), rfl⟩
theorem gw_638 : (Jvm.Cond.methodLink "CoinRowsModel" (118 : Nat) ({ cls := "CoinRowsModel", name := "layWay", desc := "(I)I" } : Jvm.MethodName)) ∈ GW := List.mem_filter.mpr ⟨List.mem_append_right _ (List.mem_of_getElem? (i := 638) (by decide +kernel)), rfl⟩
theorem gw_640 : (Jvm.Cond.instanceMethod ({ cls := "CoinRowsModel", name := "layWay", desc := "(I)I" } : Jvm.MethodName)) ∈ GW := List.mem_filter.mpr ⟨List.mem_append_right _ (List.mem_of_getElem? (i := 640) (by decide +kernel)), rfl⟩
theorem gw_641 : (Jvm.Cond.code ({ cls := "CoinRowsModel", name := "layWay", desc := "(I)I" } : Jvm.MethodName) prog_8_method_26_code (14 : Nat) (Option.some Jvm.ClassFile.FieldType.int)) ∈ GW := List.mem_filter.mpr ⟨List.mem_append_right _ (List.mem_of_getElem? (i := 641) (by decide +kernel)), rfl⟩
theorem gw_642 : (Jvm.Cond.methodLink "CoinRowsModel" (122 : Nat) ({ cls := "CoinRowsModel", name := "ofLaid", desc := "(I)I" } : Jvm.MethodName)) ∈ GW := List.mem_filter.mpr ⟨List.mem_append_right _ (List.mem_of_getElem? (i := 642) (by decide +kernel)), rfl⟩
theorem gw_644 : (Jvm.Cond.instanceMethod ({ cls := "CoinRowsModel", name := "ofLaid", desc := "(I)I" } : Jvm.MethodName)) ∈ GW := List.mem_filter.mpr ⟨List.mem_append_right _ (List.mem_of_getElem? (i := 644) (by decide +kernel)), rfl⟩
theorem gw_645 : (Jvm.Cond.code ({ cls := "CoinRowsModel", name := "ofLaid", desc := "(I)I" } : Jvm.MethodName) prog_8_method_29_code (2 : Nat) (Option.some Jvm.ClassFile.FieldType.int)) ∈ GW := List.mem_filter.mpr ⟨List.mem_append_right _ (List.mem_of_getElem? (i := 645) (by decide +kernel)), rfl⟩
theorem gw_646 : (Jvm.Cond.methodLink "CoinRowsLaw" (87 : Nat) ({ cls := "CoinRowsModel", name := "weighs", desc := "(I)J" } : Jvm.MethodName)) ∈ GW := List.mem_filter.mpr ⟨List.mem_append_right _ (List.mem_of_getElem? (i := 646) (by decide +kernel)), rfl⟩
theorem gw_647 : (Jvm.Cond.instanceMethod ({ cls := "CoinRowsModel", name := "weighs", desc := "(I)J" } : Jvm.MethodName)) ∈ GW := List.mem_filter.mpr ⟨List.mem_append_right _ (List.mem_of_getElem? (i := 647) (by decide +kernel)), rfl⟩
theorem gw_648 : (Jvm.Cond.selects "CoinRowsModel" ({ cls := "CoinRowsModel", name := "weighs", desc := "(I)J" } : Jvm.MethodName) ({ cls := "CoinRowsModel", name := "weighs", desc := "(I)J" } : Jvm.MethodName)) ∈ GW := List.mem_filter.mpr ⟨List.mem_append_right _ (List.mem_of_getElem? (i := 648) (by decide +kernel)), rfl⟩
theorem gw_649 : (Jvm.Cond.code ({ cls := "CoinRowsModel", name := "weighs", desc := "(I)J" } : Jvm.MethodName) prog_8_method_31_code (2 : Nat) (Option.some Jvm.ClassFile.FieldType.long)) ∈ GW := List.mem_filter.mpr ⟨List.mem_append_right _ (List.mem_of_getElem? (i := 649) (by decide +kernel)), rfl⟩
theorem gw_650 : (Jvm.Cond.methodLink "CoinRowsLaw" (91 : Nat) ({ cls := "CoinRowsModel", name := "likeliest", desc := "(I)I" } : Jvm.MethodName)) ∈ GW := List.mem_filter.mpr ⟨List.mem_append_right _ (List.mem_of_getElem? (i := 650) (by decide +kernel)), rfl⟩
theorem gw_651 : (Jvm.Cond.instanceMethod ({ cls := "CoinRowsModel", name := "likeliest", desc := "(I)I" } : Jvm.MethodName)) ∈ GW := List.mem_filter.mpr ⟨List.mem_append_right _ (List.mem_of_getElem? (i := 651) (by decide +kernel)), rfl⟩
theorem gw_652 : (Jvm.Cond.selects "CoinRowsModel" ({ cls := "CoinRowsModel", name := "likeliest", desc := "(I)I" } : Jvm.MethodName) ({ cls := "CoinRowsModel", name := "likeliest", desc := "(I)I" } : Jvm.MethodName)) ∈ GW := List.mem_filter.mpr ⟨List.mem_append_right _ (List.mem_of_getElem? (i := 652) (by decide +kernel)), rfl⟩
theorem gw_653 : (Jvm.Cond.code ({ cls := "CoinRowsModel", name := "likeliest", desc := "(I)I" } : Jvm.MethodName) prog_8_method_32_code (3 : Nat) (Option.some Jvm.ClassFile.FieldType.int)) ∈ GW := List.mem_filter.mpr ⟨List.mem_append_right _ (List.mem_of_getElem? (i := 653) (by decide +kernel)), rfl⟩
theorem gw_654 : (Jvm.Cond.methodLink "CoinRowsLaw" (96 : Nat) ({ cls := "CoinRowsModel", name := "odds", desc := "(III)J" } : Jvm.MethodName)) ∈ GW := List.mem_filter.mpr ⟨List.mem_append_right _ (List.mem_of_getElem? (i := 654) (by decide +kernel)), rfl⟩
theorem gw_655 : (Jvm.Cond.instanceMethod ({ cls := "CoinRowsModel", name := "odds", desc := "(III)J" } : Jvm.MethodName)) ∈ GW := List.mem_filter.mpr ⟨List.mem_append_right _ (List.mem_of_getElem? (i := 655) (by decide +kernel)), rfl⟩
theorem gw_656 : (Jvm.Cond.selects "CoinRowsModel" ({ cls := "CoinRowsModel", name := "odds", desc := "(III)J" } : Jvm.MethodName) ({ cls := "CoinRowsModel", name := "odds", desc := "(III)J" } : Jvm.MethodName)) ∈ GW := List.mem_filter.mpr ⟨List.mem_append_right _ (List.mem_of_getElem? (i := 656) (by decide +kernel)), rfl⟩
theorem gw_657 : (Jvm.Cond.code ({ cls := "CoinRowsModel", name := "odds", desc := "(III)J" } : Jvm.MethodName) prog_8_method_36_code (6 : Nat) (Option.some Jvm.ClassFile.FieldType.long)) ∈ GW := List.mem_filter.mpr ⟨List.mem_append_right _ (List.mem_of_getElem? (i := 657) (by decide +kernel)), rfl⟩
theorem gw_658 : (Jvm.Cond.constantLong "CoinRowsModel" (129 : Nat) (-2 : Int64)) ∈ GW := List.mem_filter.mpr ⟨List.mem_append_right _ (List.mem_of_getElem? (i := 658) (by decide +kernel)), rfl⟩
theorem gw_659 : (Jvm.Cond.constantLong "CoinRowsModel" (131 : Nat) (-5 : Int64)) ∈ GW := List.mem_filter.mpr ⟨List.mem_append_right _ (List.mem_of_getElem? (i := 659) (by decide +kernel)), rfl⟩
theorem gw_660 : (Jvm.Cond.methodLink "CoinRowsModel" (133 : Nat) ({ cls := "CoinRowsModel", name := "through", desc := "(II)J" } : Jvm.MethodName)) ∈ GW := List.mem_filter.mpr ⟨List.mem_append_right _ (List.mem_of_getElem? (i := 660) (by decide +kernel)), rfl⟩
theorem gw_662 : (Jvm.Cond.instanceMethod ({ cls := "CoinRowsModel", name := "through", desc := "(II)J" } : Jvm.MethodName)) ∈ GW := List.mem_filter.mpr ⟨List.mem_append_right _ (List.mem_of_getElem? (i := 662) (by decide +kernel)), rfl⟩
theorem gw_663 : (Jvm.Cond.code ({ cls := "CoinRowsModel", name := "through", desc := "(II)J" } : Jvm.MethodName) prog_8_method_35_code (3 : Nat) (Option.some Jvm.ClassFile.FieldType.long)) ∈ GW := List.mem_filter.mpr ⟨List.mem_append_right _ (List.mem_of_getElem? (i := 663) (by decide +kernel)), rfl⟩
theorem gw_664 : (Jvm.Cond.methodLink "CoinRowsModel" (137 : Nat) ({ cls := "CoinRowsModel", name := "lowest", desc := "(JJI)J" } : Jvm.MethodName)) ∈ GW := List.mem_filter.mpr ⟨List.mem_append_right _ (List.mem_of_getElem? (i := 664) (by decide +kernel)), rfl⟩
theorem gw_665 : (Jvm.Cond.static ({ cls := "CoinRowsModel", name := "lowest", desc := "(JJI)J" } : Jvm.MethodName)) ∈ GW := List.mem_filter.mpr ⟨List.mem_append_right _ (List.mem_of_getElem? (i := 665) (by decide +kernel)), rfl⟩
theorem gw_666 : (Jvm.Cond.code ({ cls := "CoinRowsModel", name := "lowest", desc := "(JJI)J" } : Jvm.MethodName) prog_8_method_34_code (7 : Nat) (Option.some Jvm.ClassFile.FieldType.long)) ∈ GW := List.mem_filter.mpr ⟨List.mem_append_right _ (List.mem_of_getElem? (i := 666) (by decide +kernel)), rfl⟩
theorem gw_667 : (Jvm.Cond.methodLink "CoinRowsModel" (125 : Nat) ({ cls := "CoinRowsModel", name := "divisor", desc := "(JJ)J" } : Jvm.MethodName)) ∈ GW := List.mem_filter.mpr ⟨List.mem_append_right _ (List.mem_of_getElem? (i := 667) (by decide +kernel)), rfl⟩
theorem gw_668 : (Jvm.Cond.static ({ cls := "CoinRowsModel", name := "divisor", desc := "(JJ)J" } : Jvm.MethodName)) ∈ GW := List.mem_filter.mpr ⟨List.mem_append_right _ (List.mem_of_getElem? (i := 668) (by decide +kernel)), rfl⟩
theorem gw_669 : (Jvm.Cond.code ({ cls := "CoinRowsModel", name := "divisor", desc := "(JJ)J" } : Jvm.MethodName) prog_8_method_33_code (10 : Nat) (Option.some Jvm.ClassFile.FieldType.long)) ∈ GW := List.mem_filter.mpr ⟨List.mem_append_right _ (List.mem_of_getElem? (i := 669) (by decide +kernel)), rfl⟩
theorem gw_670 : (Jvm.Cond.methodLink "CoinRowsLaw" (100 : Nat) ({ cls := "CoinRowsModel", name := "likelyAt", desc := "(I)I" } : Jvm.MethodName)) ∈ GW := List.mem_filter.mpr ⟨List.mem_append_right _ (List.mem_of_getElem? (i := 670) (by decide +kernel)), rfl⟩
theorem gw_671 : (Jvm.Cond.instanceMethod ({ cls := "CoinRowsModel", name := "likelyAt", desc := "(I)I" } : Jvm.MethodName)) ∈ GW := List.mem_filter.mpr ⟨List.mem_append_right _ (List.mem_of_getElem? (i := 671) (by decide +kernel)), rfl⟩
theorem gw_672 : (Jvm.Cond.selects "CoinRowsModel" ({ cls := "CoinRowsModel", name := "likelyAt", desc := "(I)I" } : Jvm.MethodName) ({ cls := "CoinRowsModel", name := "likelyAt", desc := "(I)I" } : Jvm.MethodName)) ∈ GW := List.mem_filter.mpr ⟨List.mem_append_right _ (List.mem_of_getElem? (i := 672) (by decide +kernel)), rfl⟩
theorem gw_673 : (Jvm.Cond.code ({ cls := "CoinRowsModel", name := "likelyAt", desc := "(I)I" } : Jvm.MethodName) prog_8_method_37_code (4 : Nat) (Option.some Jvm.ClassFile.FieldType.int)) ∈ GW := List.mem_filter.mpr ⟨List.mem_append_right _ (List.mem_of_getElem? (i := 673) (by decide +kernel)), rfl⟩
theorem gw_674 : (Jvm.Cond.methodLink "CoinRowsLaw" (105 : Nat) ({ cls := "CoinRowsModel", name := "expected", desc := "(IIII)J" } : Jvm.MethodName)) ∈ GW := List.mem_filter.mpr ⟨List.mem_append_right _ (List.mem_of_getElem? (i := 674) (by decide +kernel)), rfl⟩
theorem gw_675 : (Jvm.Cond.instanceMethod ({ cls := "CoinRowsModel", name := "expected", desc := "(IIII)J" } : Jvm.MethodName)) ∈ GW := List.mem_filter.mpr ⟨List.mem_append_right _ (List.mem_of_getElem? (i := 675) (by decide +kernel)), rfl⟩
theorem gw_676 : (Jvm.Cond.selects "CoinRowsModel" ({ cls := "CoinRowsModel", name := "expected", desc := "(IIII)J" } : Jvm.MethodName) ({ cls := "CoinRowsModel", name := "expected", desc := "(IIII)J" } : Jvm.MethodName)) ∈ GW := List.mem_filter.mpr ⟨List.mem_append_right _ (List.mem_of_getElem? (i := 676) (by decide +kernel)), rfl⟩
theorem gw_677 : (Jvm.Cond.code ({ cls := "CoinRowsModel", name := "expected", desc := "(IIII)J" } : Jvm.MethodName) prog_8_method_39_code (7 : Nat) (Option.some Jvm.ClassFile.FieldType.long)) ∈ GW := List.mem_filter.mpr ⟨List.mem_append_right _ (List.mem_of_getElem? (i := 677) (by decide +kernel)), rfl⟩
theorem gw_678 : (Jvm.Cond.methodLink "CoinRowsModel" (141 : Nat) ({ cls := "CoinRowsModel", name := "numberOf", desc := "(III)J" } : Jvm.MethodName)) ∈ GW := List.mem_filter.mpr ⟨List.mem_append_right _ (List.mem_of_getElem? (i := 678) (by decide +kernel)), rfl⟩
theorem gw_680 : (Jvm.Cond.instanceMethod ({ cls := "CoinRowsModel", name := "numberOf", desc := "(III)J" } : Jvm.MethodName)) ∈ GW := List.mem_filter.mpr ⟨List.mem_append_right _ (List.mem_of_getElem? (i := 680) (by decide +kernel)), rfl⟩
theorem gw_681 : (Jvm.Cond.code ({ cls := "CoinRowsModel", name := "numberOf", desc := "(III)J" } : Jvm.MethodName) prog_8_method_38_code (9 : Nat) (Option.some Jvm.ClassFile.FieldType.long)) ∈ GW := List.mem_filter.mpr ⟨List.mem_append_right _ (List.mem_of_getElem? (i := 681) (by decide +kernel)), rfl⟩
theorem gw_682 : (Jvm.Cond.methodLink "CoinRowsLaw" (109 : Nat) ({ cls := "CoinRowsModel", name := "shareBits", desc := "()I" } : Jvm.MethodName)) ∈ GW := List.mem_filter.mpr ⟨List.mem_append_right _ (List.mem_of_getElem? (i := 682) (by decide +kernel)), rfl⟩
theorem gw_683 : (Jvm.Cond.instanceMethod ({ cls := "CoinRowsModel", name := "shareBits", desc := "()I" } : Jvm.MethodName)) ∈ GW := List.mem_filter.mpr ⟨List.mem_append_right _ (List.mem_of_getElem? (i := 683) (by decide +kernel)), rfl⟩
theorem gw_684 : (Jvm.Cond.selects "CoinRowsModel" ({ cls := "CoinRowsModel", name := "shareBits", desc := "()I" } : Jvm.MethodName) ({ cls := "CoinRowsModel", name := "shareBits", desc := "()I" } : Jvm.MethodName)) ∈ GW := List.mem_filter.mpr ⟨List.mem_append_right _ (List.mem_of_getElem? (i := 684) (by decide +kernel)), rfl⟩
theorem gw_685 : (Jvm.Cond.code ({ cls := "CoinRowsModel", name := "shareBits", desc := "()I" } : Jvm.MethodName) prog_8_method_40_code (3 : Nat) (Option.some Jvm.ClassFile.FieldType.int)) ∈ GW := List.mem_filter.mpr ⟨List.mem_append_right _ (List.mem_of_getElem? (i := 685) (by decide +kernel)), rfl⟩
theorem gw_686 : (Jvm.Cond.methodLink "CoinRowsModel" (145 : Nat) ({ cls := "java/lang/Float", name := "floatToIntBits", desc := "(F)I" } : Jvm.MethodName)) ∈ GW := List.mem_filter.mpr ⟨List.mem_append_right _ (List.mem_of_getElem? (i := 686) (by decide +kernel)), rfl⟩
theorem gw_687 : (Jvm.Cond.static ({ cls := "java/lang/Float", name := "floatToIntBits", desc := "(F)I" } : Jvm.MethodName)) ∈ GW := List.mem_filter.mpr ⟨List.mem_append_right _ (List.mem_of_getElem? (i := 687) (by decide +kernel)), rfl⟩
theorem gw_688 : (Jvm.Cond.code ({ cls := "java/lang/Float", name := "floatToIntBits", desc := "(F)I" } : Jvm.MethodName) prog_9_method_24_code (1 : Nat) (Option.some Jvm.ClassFile.FieldType.int)) ∈ GW := List.mem_filter.mpr ⟨List.mem_append_right _ (List.mem_of_getElem? (i := 688) (by decide +kernel)), rfl⟩
theorem gw_689 : (Jvm.Cond.methodLink "java/lang/Float" (59 : Nat) ({ cls := "java/lang/Float", name := "isNaN", desc := "(F)Z" } : Jvm.MethodName)) ∈ GW := List.mem_filter.mpr ⟨List.mem_append_right _ (List.mem_of_getElem? (i := 689) (by decide +kernel)), rfl⟩
theorem gw_690 : (Jvm.Cond.static ({ cls := "java/lang/Float", name := "isNaN", desc := "(F)Z" } : Jvm.MethodName)) ∈ GW := List.mem_filter.mpr ⟨List.mem_append_right _ (List.mem_of_getElem? (i := 690) (by decide +kernel)), rfl⟩
theorem gw_691 : (Jvm.Cond.code ({ cls := "java/lang/Float", name := "isNaN", desc := "(F)Z" } : Jvm.MethodName) prog_9_method_6_code (1 : Nat) (Option.some Jvm.ClassFile.FieldType.boolean)) ∈ GW := List.mem_filter.mpr ⟨List.mem_append_right _ (List.mem_of_getElem? (i := 691) (by decide +kernel)), rfl⟩
theorem gw_692 : (Jvm.Cond.methodLink "java/lang/Float" (74 : Nat) ({ cls := "java/lang/Float", name := "floatToRawIntBits", desc := "(F)I" } : Jvm.MethodName)) ∈ GW := List.mem_filter.mpr ⟨List.mem_append_right _ (List.mem_of_getElem? (i := 692) (by decide +kernel)), rfl⟩
theorem gw_693 : (Jvm.Cond.static ({ cls := "java/lang/Float", name := "floatToRawIntBits", desc := "(F)I" } : Jvm.MethodName)) ∈ GW := List.mem_filter.mpr ⟨List.mem_append_right _ (List.mem_of_getElem? (i := 693) (by decide +kernel)), rfl⟩
theorem gw_694 : (Jvm.Cond.native ({ cls := "java/lang/Float", name := "floatToRawIntBits", desc := "(F)I" } : Jvm.MethodName)) ∈ GW := List.mem_filter.mpr ⟨List.mem_append_right _ (List.mem_of_getElem? (i := 694) (by decide +kernel)), rfl⟩
theorem gw_695 : (Jvm.Cond.constant "java/lang/Float" (77 : Nat) (2143289344 : Int32)) ∈ GW := List.mem_filter.mpr ⟨List.mem_append_right _ (List.mem_of_getElem? (i := 695) (by decide +kernel)), rfl⟩
theorem gw_696 : (Jvm.Cond.methodLink "CoinRowsLaw" (40 : Nat) ({ cls := "CoinRowsModel", name := "train", desc := "()I" } : Jvm.MethodName)) ∈ GW := List.mem_filter.mpr ⟨List.mem_append_right _ (List.mem_of_getElem? (i := 696) (by decide +kernel)), rfl⟩
theorem gw_697 : (Jvm.Cond.instanceMethod ({ cls := "CoinRowsModel", name := "train", desc := "()I" } : Jvm.MethodName)) ∈ GW := List.mem_filter.mpr ⟨List.mem_append_right _ (List.mem_of_getElem? (i := 697) (by decide +kernel)), rfl⟩
theorem gw_698 : (Jvm.Cond.selects "CoinRowsModel" ({ cls := "CoinRowsModel", name := "train", desc := "()I" } : Jvm.MethodName) ({ cls := "CoinRowsModel", name := "train", desc := "()I" } : Jvm.MethodName)) ∈ GW := List.mem_filter.mpr ⟨List.mem_append_right _ (List.mem_of_getElem? (i := 698) (by decide +kernel)), rfl⟩
theorem gw_699 : (Jvm.Cond.code ({ cls := "CoinRowsModel", name := "train", desc := "()I" } : Jvm.MethodName) prog_8_method_42_code (3 : Nat) (Option.some Jvm.ClassFile.FieldType.int)) ∈ GW := List.mem_filter.mpr ⟨List.mem_append_right _ (List.mem_of_getElem? (i := 699) (by decide +kernel)), rfl⟩
theorem gw_700 : (Jvm.Cond.methodLink "CoinRowsModel" (155 : Nat) ({ cls := "CoinRowsModel", name := "trainGroup", desc := "(II)I" } : Jvm.MethodName)) ∈ GW := List.mem_filter.mpr ⟨List.mem_append_right _ (List.mem_of_getElem? (i := 700) (by decide +kernel)), rfl⟩
theorem gw_702 : (Jvm.Cond.instanceMethod ({ cls := "CoinRowsModel", name := "trainGroup", desc := "(II)I" } : Jvm.MethodName)) ∈ GW := List.mem_filter.mpr ⟨List.mem_append_right _ (List.mem_of_getElem? (i := 702) (by decide +kernel)), rfl⟩
theorem gw_703 : (Jvm.Cond.code ({ cls := "CoinRowsModel", name := "trainGroup", desc := "(II)I" } : Jvm.MethodName) prog_8_method_41_code (8 : Nat) (Option.some Jvm.ClassFile.FieldType.int)) ∈ GW := List.mem_filter.mpr ⟨List.mem_append_right _ (List.mem_of_getElem? (i := 703) (by decide +kernel)), rfl⟩
theorem gw_704 : (Jvm.Cond.constantLong "CoinRowsModel" (151 : Nat) (6 : Int64)) ∈ GW := List.mem_filter.mpr ⟨List.mem_append_right _ (List.mem_of_getElem? (i := 704) (by decide +kernel)), rfl⟩
theorem gw_705 : (Jvm.Cond.constantLong "CoinRowsModel" (153 : Nat) (2 : Int64)) ∈ GW := List.mem_filter.mpr ⟨List.mem_append_right _ (List.mem_of_getElem? (i := 705) (by decide +kernel)), rfl⟩
theorem gw_706 : (Jvm.Cond.methodLink "CoinRowsLaw" (113 : Nat) ({ cls := "CoinRowsModel", name := "next", desc := "(I)J" } : Jvm.MethodName)) ∈ GW := List.mem_filter.mpr ⟨List.mem_append_right _ (List.mem_of_getElem? (i := 706) (by decide +kernel)), rfl⟩
theorem gw_707 : (Jvm.Cond.instanceMethod ({ cls := "CoinRowsModel", name := "next", desc := "(I)J" } : Jvm.MethodName)) ∈ GW := List.mem_filter.mpr ⟨List.mem_append_right _ (List.mem_of_getElem? (i := 707) (by decide +kernel)), rfl⟩
theorem gw_708 : (Jvm.Cond.selects "CoinRowsModel" ({ cls := "CoinRowsModel", name := "next", desc := "(I)J" } : Jvm.MethodName) ({ cls := "CoinRowsModel", name := "next", desc := "(I)J" } : Jvm.MethodName)) ∈ GW := List.mem_filter.mpr ⟨List.mem_append_right _ (List.mem_of_getElem? (i := 708) (by decide +kernel)), rfl⟩
theorem gw_709 : (Jvm.Cond.code ({ cls := "CoinRowsModel", name := "next", desc := "(I)J" } : Jvm.MethodName) prog_8_method_43_code (10 : Nat) (Option.some Jvm.ClassFile.FieldType.long)) ∈ GW := List.mem_filter.mpr ⟨List.mem_append_right _ (List.mem_of_getElem? (i := 709) (by decide +kernel)), rfl⟩
theorem gw_710 : (Jvm.Cond.constantLong "CoinRowsModel" (158 : Nat) (-6 : Int64)) ∈ GW := List.mem_filter.mpr ⟨List.mem_append_right _ (List.mem_of_getElem? (i := 710) (by decide +kernel)), rfl⟩
theorem gw_711 : (Jvm.Cond.methodLink "CoinRowsLaw" (117 : Nat) ({ cls := "CoinRowsModel", name := "slip", desc := "(I)J" } : Jvm.MethodName)) ∈ GW := List.mem_filter.mpr ⟨List.mem_append_right _ (List.mem_of_getElem? (i := 711) (by decide +kernel)), rfl⟩
theorem gw_712 : (Jvm.Cond.instanceMethod ({ cls := "CoinRowsModel", name := "slip", desc := "(I)J" } : Jvm.MethodName)) ∈ GW := List.mem_filter.mpr ⟨List.mem_append_right _ (List.mem_of_getElem? (i := 712) (by decide +kernel)), rfl⟩
theorem gw_713 : (Jvm.Cond.selects "CoinRowsModel" ({ cls := "CoinRowsModel", name := "slip", desc := "(I)J" } : Jvm.MethodName) ({ cls := "CoinRowsModel", name := "slip", desc := "(I)J" } : Jvm.MethodName)) ∈ GW := List.mem_filter.mpr ⟨List.mem_append_right _ (List.mem_of_getElem? (i := 713) (by decide +kernel)), rfl⟩
theorem gw_714 : (Jvm.Cond.code ({ cls := "CoinRowsModel", name := "slip", desc := "(I)J" } : Jvm.MethodName) prog_8_method_44_code (11 : Nat) (Option.some Jvm.ClassFile.FieldType.long)) ∈ GW := List.mem_filter.mpr ⟨List.mem_append_right _ (List.mem_of_getElem? (i := 714) (by decide +kernel)), rfl⟩
theorem gw_715 : (Jvm.Cond.methodLink "CoinRowsLaw" (121 : Nat) ({ cls := "CoinRowsModel", name := "count", desc := "(I)I" } : Jvm.MethodName)) ∈ GW := List.mem_filter.mpr ⟨List.mem_append_right _ (List.mem_of_getElem? (i := 715) (by decide +kernel)), rfl⟩
theorem gw_716 : (Jvm.Cond.instanceMethod ({ cls := "CoinRowsModel", name := "count", desc := "(I)I" } : Jvm.MethodName)) ∈ GW := List.mem_filter.mpr ⟨List.mem_append_right _ (List.mem_of_getElem? (i := 716) (by decide +kernel)), rfl⟩
theorem gw_717 : (Jvm.Cond.selects "CoinRowsModel" ({ cls := "CoinRowsModel", name := "count", desc := "(I)I" } : Jvm.MethodName) ({ cls := "CoinRowsModel", name := "count", desc := "(I)I" } : Jvm.MethodName)) ∈ GW := List.mem_filter.mpr ⟨List.mem_append_right _ (List.mem_of_getElem? (i := 717) (by decide +kernel)), rfl⟩
theorem gw_718 : (Jvm.Cond.code ({ cls := "CoinRowsModel", name := "count", desc := "(I)I" } : Jvm.MethodName) prog_8_method_45_code (4 : Nat) (Option.some Jvm.ClassFile.FieldType.int)) ∈ GW := List.mem_filter.mpr ⟨List.mem_append_right _ (List.mem_of_getElem? (i := 718) (by decide +kernel)), rfl⟩
theorem gw_719 : (Jvm.Cond.methodLink "CoinRowsLaw" (47 : Nat) ({ cls := "CoinRowsModel", name := "put", desc := "(J)I" } : Jvm.MethodName)) ∈ GW := List.mem_filter.mpr ⟨List.mem_append_right _ (List.mem_of_getElem? (i := 719) (by decide +kernel)), rfl⟩
theorem gw_720 : (Jvm.Cond.instanceMethod ({ cls := "CoinRowsModel", name := "put", desc := "(J)I" } : Jvm.MethodName)) ∈ GW := List.mem_filter.mpr ⟨List.mem_append_right _ (List.mem_of_getElem? (i := 720) (by decide +kernel)), rfl⟩
theorem gw_721 : (Jvm.Cond.selects "CoinRowsModel" ({ cls := "CoinRowsModel", name := "put", desc := "(J)I" } : Jvm.MethodName) ({ cls := "CoinRowsModel", name := "put", desc := "(J)I" } : Jvm.MethodName)) ∈ GW := List.mem_filter.mpr ⟨List.mem_append_right _ (List.mem_of_getElem? (i := 721) (by decide +kernel)), rfl⟩
theorem gw_722 : (Jvm.Cond.code ({ cls := "CoinRowsModel", name := "put", desc := "(J)I" } : Jvm.MethodName) prog_8_method_48_code (7 : Nat) (Option.some Jvm.ClassFile.FieldType.int)) ∈ GW := List.mem_filter.mpr ⟨List.mem_append_right _ (List.mem_of_getElem? (i := 722) (by decide +kernel)), rfl⟩
theorem gw_723 : (Jvm.Cond.constantLong "CoinRowsModel" (170 : Nat) (255 : Int64)) ∈ GW := List.mem_filter.mpr ⟨List.mem_append_right _ (List.mem_of_getElem? (i := 723) (by decide +kernel)), rfl⟩
theorem gw_724 : (Jvm.Cond.methodLink "CoinRowsLaw" (51 : Nat) ({ cls := "CoinRowsModel", name := "wipe", desc := "()I" } : Jvm.MethodName)) ∈ GW := List.mem_filter.mpr ⟨List.mem_append_right _ (List.mem_of_getElem? (i := 724) (by decide +kernel)), rfl⟩
theorem gw_725 : (Jvm.Cond.instanceMethod ({ cls := "CoinRowsModel", name := "wipe", desc := "()I" } : Jvm.MethodName)) ∈ GW := List.mem_filter.mpr ⟨List.mem_append_right _ (List.mem_of_getElem? (i := 725) (by decide +kernel)), rfl⟩
theorem gw_726 : (Jvm.Cond.selects "CoinRowsModel" ({ cls := "CoinRowsModel", name := "wipe", desc := "()I" } : Jvm.MethodName) ({ cls := "CoinRowsModel", name := "wipe", desc := "()I" } : Jvm.MethodName)) ∈ GW := List.mem_filter.mpr ⟨List.mem_append_right _ (List.mem_of_getElem? (i := 726) (by decide +kernel)), rfl⟩
theorem gw_727 : (Jvm.Cond.code ({ cls := "CoinRowsModel", name := "wipe", desc := "()I" } : Jvm.MethodName) prog_8_method_49_code (2 : Nat) (Option.some Jvm.ClassFile.FieldType.int)) ∈ GW := List.mem_filter.mpr ⟨List.mem_append_right _ (List.mem_of_getElem? (i := 727) (by decide +kernel)), rfl⟩
theorem gw_728 : (Jvm.Cond.methodLink "CoinRowsLaw" (55 : Nat) ({ cls := "CoinRowsModel", name := "fault", desc := "()I" } : Jvm.MethodName)) ∈ GW := List.mem_filter.mpr ⟨List.mem_append_right _ (List.mem_of_getElem? (i := 728) (by decide +kernel)), rfl⟩
theorem gw_729 : (Jvm.Cond.instanceMethod ({ cls := "CoinRowsModel", name := "fault", desc := "()I" } : Jvm.MethodName)) ∈ GW := List.mem_filter.mpr ⟨List.mem_append_right _ (List.mem_of_getElem? (i := 729) (by decide +kernel)), rfl⟩
theorem gw_730 : (Jvm.Cond.selects "CoinRowsModel" ({ cls := "CoinRowsModel", name := "fault", desc := "()I" } : Jvm.MethodName) ({ cls := "CoinRowsModel", name := "fault", desc := "()I" } : Jvm.MethodName)) ∈ GW := List.mem_filter.mpr ⟨List.mem_append_right _ (List.mem_of_getElem? (i := 730) (by decide +kernel)), rfl⟩
theorem gw_731 : (Jvm.Cond.code ({ cls := "CoinRowsModel", name := "fault", desc := "()I" } : Jvm.MethodName) prog_8_method_50_code (1 : Nat) (Option.some Jvm.ClassFile.FieldType.int)) ∈ GW := List.mem_filter.mpr ⟨List.mem_append_right _ (List.mem_of_getElem? (i := 731) (by decide +kernel)), rfl⟩
theorem gw_732 : (Jvm.Cond.methodLink "CoinRowsModel" (172 : Nat) ({ cls := "CoinRowsModel", name := "read", desc := "(Z)I" } : Jvm.MethodName)) ∈ GW := List.mem_filter.mpr ⟨List.mem_append_right _ (List.mem_of_getElem? (i := 732) (by decide +kernel)), rfl⟩
theorem gw_734 : (Jvm.Cond.instanceMethod ({ cls := "CoinRowsModel", name := "read", desc := "(Z)I" } : Jvm.MethodName)) ∈ GW := List.mem_filter.mpr ⟨List.mem_append_right _ (List.mem_of_getElem? (i := 734) (by decide +kernel)), rfl⟩
theorem gw_735 : (Jvm.Cond.code ({ cls := "CoinRowsModel", name := "read", desc := "(Z)I" } : Jvm.MethodName) prog_8_method_46_code (13 : Nat) (Option.some Jvm.ClassFile.FieldType.int)) ∈ GW := List.mem_filter.mpr ⟨List.mem_append_right _ (List.mem_of_getElem? (i := 735) (by decide +kernel)), rfl⟩
theorem gw_736 : (Jvm.Cond.methodLink "CoinRowsModel" (166 : Nat) ({ cls := "CoinRowsModel", name := "lay", desc := "(ZII)V" } : Jvm.MethodName)) ∈ GW := List.mem_filter.mpr ⟨List.mem_append_right _ (List.mem_of_getElem? (i := 736) (by decide +kernel)), rfl⟩
theorem gw_738 : (Jvm.Cond.instanceMethod ({ cls := "CoinRowsModel", name := "lay", desc := "(ZII)V" } : Jvm.MethodName)) ∈ GW := List.mem_filter.mpr ⟨List.mem_append_right _ (List.mem_of_getElem? (i := 738) (by decide +kernel)), rfl⟩
theorem gw_739 : (Jvm.Cond.code ({ cls := "CoinRowsModel", name := "lay", desc := "(ZII)V" } : Jvm.MethodName) prog_8_method_47_code (4 : Nat) (Option.none : Option Jvm.ClassFile.FieldType)) ∈ GW := List.mem_filter.mpr ⟨List.mem_append_right _ (List.mem_of_getElem? (i := 739) (by decide +kernel)), rfl⟩
theorem gw_740 : (Jvm.Cond.methodLink "CoinRowsLaw" (59 : Nat) ({ cls := "CoinRowsModel", name := "load", desc := "()I" } : Jvm.MethodName)) ∈ GW := List.mem_filter.mpr ⟨List.mem_append_right _ (List.mem_of_getElem? (i := 740) (by decide +kernel)), rfl⟩
theorem gw_741 : (Jvm.Cond.instanceMethod ({ cls := "CoinRowsModel", name := "load", desc := "()I" } : Jvm.MethodName)) ∈ GW := List.mem_filter.mpr ⟨List.mem_append_right _ (List.mem_of_getElem? (i := 741) (by decide +kernel)), rfl⟩
theorem gw_742 : (Jvm.Cond.selects "CoinRowsModel" ({ cls := "CoinRowsModel", name := "load", desc := "()I" } : Jvm.MethodName) ({ cls := "CoinRowsModel", name := "load", desc := "()I" } : Jvm.MethodName)) ∈ GW := List.mem_filter.mpr ⟨List.mem_append_right _ (List.mem_of_getElem? (i := 742) (by decide +kernel)), rfl⟩
theorem gw_743 : (Jvm.Cond.code ({ cls := "CoinRowsModel", name := "load", desc := "()I" } : Jvm.MethodName) prog_8_method_51_code (1 : Nat) (Option.some Jvm.ClassFile.FieldType.int)) ∈ GW := List.mem_filter.mpr ⟨List.mem_append_right _ (List.mem_of_getElem? (i := 743) (by decide +kernel)), rfl⟩
theorem gw_744 : (Jvm.Cond.methodLink "CoinRowsLaw" (125 : Nat) ({ cls := "CoinRowsModel", name := "undo", desc := "()I" } : Jvm.MethodName)) ∈ GW := List.mem_filter.mpr ⟨List.mem_append_right _ (List.mem_of_getElem? (i := 744) (by decide +kernel)), rfl⟩
theorem gw_745 : (Jvm.Cond.instanceMethod ({ cls := "CoinRowsModel", name := "undo", desc := "()I" } : Jvm.MethodName)) ∈ GW := List.mem_filter.mpr ⟨List.mem_append_right _ (List.mem_of_getElem? (i := 745) (by decide +kernel)), rfl⟩
theorem gw_746 : (Jvm.Cond.selects "CoinRowsModel" ({ cls := "CoinRowsModel", name := "undo", desc := "()I" } : Jvm.MethodName) ({ cls := "CoinRowsModel", name := "undo", desc := "()I" } : Jvm.MethodName)) ∈ GW := List.mem_filter.mpr ⟨List.mem_append_right _ (List.mem_of_getElem? (i := 746) (by decide +kernel)), rfl⟩
theorem gw_747 : (Jvm.Cond.code ({ cls := "CoinRowsModel", name := "undo", desc := "()I" } : Jvm.MethodName) prog_8_method_52_code (2 : Nat) (Option.some Jvm.ClassFile.FieldType.int)) ∈ GW := List.mem_filter.mpr ⟨List.mem_append_right _ (List.mem_of_getElem? (i := 747) (by decide +kernel)), rfl⟩
theorem gw_748 : (Jvm.Cond.methodLink "CoinRowsLaw" (129 : Nat) ({ cls := "CoinRowsModel", name := "save", desc := "(I)I" } : Jvm.MethodName)) ∈ GW := List.mem_filter.mpr ⟨List.mem_append_right _ (List.mem_of_getElem? (i := 748) (by decide +kernel)), rfl⟩
theorem gw_749 : (Jvm.Cond.instanceMethod ({ cls := "CoinRowsModel", name := "save", desc := "(I)I" } : Jvm.MethodName)) ∈ GW := List.mem_filter.mpr ⟨List.mem_append_right _ (List.mem_of_getElem? (i := 749) (by decide +kernel)), rfl⟩
theorem gw_750 : (Jvm.Cond.selects "CoinRowsModel" ({ cls := "CoinRowsModel", name := "save", desc := "(I)I" } : Jvm.MethodName) ({ cls := "CoinRowsModel", name := "save", desc := "(I)I" } : Jvm.MethodName)) ∈ GW := List.mem_filter.mpr ⟨List.mem_append_right _ (List.mem_of_getElem? (i := 750) (by decide +kernel)), rfl⟩
theorem gw_751 : (Jvm.Cond.code ({ cls := "CoinRowsModel", name := "save", desc := "(I)I" } : Jvm.MethodName) prog_8_method_53_code (3 : Nat) (Option.some Jvm.ClassFile.FieldType.int)) ∈ GW := List.mem_filter.mpr ⟨List.mem_append_right _ (List.mem_of_getElem? (i := 751) (by decide +kernel)), rfl⟩
theorem gw_752 : (Jvm.Cond.methodLink "CoinRowsLaw" (133 : Nat) ({ cls := "CoinRowsModel", name := "restore", desc := "(I)I" } : Jvm.MethodName)) ∈ GW := List.mem_filter.mpr ⟨List.mem_append_right _ (List.mem_of_getElem? (i := 752) (by decide +kernel)), rfl⟩
theorem gw_753 : (Jvm.Cond.instanceMethod ({ cls := "CoinRowsModel", name := "restore", desc := "(I)I" } : Jvm.MethodName)) ∈ GW := List.mem_filter.mpr ⟨List.mem_append_right _ (List.mem_of_getElem? (i := 753) (by decide +kernel)), rfl⟩
theorem gw_754 : (Jvm.Cond.selects "CoinRowsModel" ({ cls := "CoinRowsModel", name := "restore", desc := "(I)I" } : Jvm.MethodName) ({ cls := "CoinRowsModel", name := "restore", desc := "(I)I" } : Jvm.MethodName)) ∈ GW := List.mem_filter.mpr ⟨List.mem_append_right _ (List.mem_of_getElem? (i := 754) (by decide +kernel)), rfl⟩
theorem gw_755 : (Jvm.Cond.code ({ cls := "CoinRowsModel", name := "restore", desc := "(I)I" } : Jvm.MethodName) prog_8_method_54_code (3 : Nat) (Option.some Jvm.ClassFile.FieldType.int)) ∈ GW := List.mem_filter.mpr ⟨List.mem_append_right _ (List.mem_of_getElem? (i := 755) (by decide +kernel)), rfl⟩
theorem gw_756 : (Jvm.Cond.constantLong "CoinRowsLaw" (41 : Nat) (4294967295 : Int64)) ∈ GW := List.mem_filter.mpr ⟨List.mem_append_right _ (List.mem_of_getElem? (i := 756) (by decide +kernel)), rfl⟩
theorem gs_0 : (Jvm.Cond.selects "CoinRows" ({ cls := "CoinRows", name := "remember", desc := "()V" } : Jvm.MethodName) ({ cls := "CoinRows", name := "remember", desc := "()V" } : Jvm.MethodName)) ∈ GW := List.mem_filter.mpr ⟨List.mem_append_left _ (List.mem_of_getElem? (i := 0) (by decide +kernel)), rfl⟩
theorem gs_1 : (Jvm.Cond.selects "CoinRows$Sums" ({ cls := "CoinRows$Sums", name := "sumBeginnings", desc := "(LCoinRows$Model;)V" } : Jvm.MethodName) ({ cls := "CoinRows$Sums", name := "sumBeginnings", desc := "(LCoinRows$Model;)V" } : Jvm.MethodName)) ∈ GW := List.mem_filter.mpr ⟨List.mem_append_left _ (List.mem_of_getElem? (i := 1) (by decide +kernel)), rfl⟩
theorem gs_2 : (Jvm.Cond.selects "CoinRows$Sums" ({ cls := "CoinRows$Sums", name := "arrive", desc := "(LCoinRows$Model;II)J" } : Jvm.MethodName) ({ cls := "CoinRows$Sums", name := "arrive", desc := "(LCoinRows$Model;II)J" } : Jvm.MethodName)) ∈ GW := List.mem_filter.mpr ⟨List.mem_append_left _ (List.mem_of_getElem? (i := 2) (by decide +kernel)), rfl⟩
theorem gs_3 : (Jvm.Cond.selects "CoinRows$Sums" ({ cls := "CoinRows$Sums", name := "sumRests", desc := "(LCoinRows$Model;)V" } : Jvm.MethodName) ({ cls := "CoinRows$Sums", name := "sumRests", desc := "(LCoinRows$Model;)V" } : Jvm.MethodName)) ∈ GW := List.mem_filter.mpr ⟨List.mem_append_left _ (List.mem_of_getElem? (i := 3) (by decide +kernel)), rfl⟩
theorem gs_4 : (Jvm.Cond.selects "CoinRows$Sums" ({ cls := "CoinRows$Sums", name := "sumRestsBehind", desc := "(LCoinRows$Model;II)V" } : Jvm.MethodName) ({ cls := "CoinRows$Sums", name := "sumRestsBehind", desc := "(LCoinRows$Model;II)V" } : Jvm.MethodName)) ∈ GW := List.mem_filter.mpr ⟨List.mem_append_left _ (List.mem_of_getElem? (i := 4) (by decide +kernel)), rfl⟩
theorem gs_5 : (Jvm.Cond.selects "CoinRows$Trainer" ({ cls := "CoinRows$Trainer", name := "improveGroup", desc := "(LCoinRows$Model;II)I" } : Jvm.MethodName) ({ cls := "CoinRows$Trainer", name := "improveGroup", desc := "(LCoinRows$Model;II)I" } : Jvm.MethodName)) ∈ GW := List.mem_filter.mpr ⟨List.mem_append_left _ (List.mem_of_getElem? (i := 5) (by decide +kernel)), rfl⟩
theorem gs_6 : (Jvm.Cond.selects "CoinRows$Pad" ({ cls := "CoinRows$Pad", name := "readPart", desc := "(LCoinRows$Model;)Z" } : Jvm.MethodName) ({ cls := "CoinRows$Pad", name := "readPart", desc := "(LCoinRows$Model;)Z" } : Jvm.MethodName)) ∈ GW := List.mem_filter.mpr ⟨List.mem_append_left _ (List.mem_of_getElem? (i := 6) (by decide +kernel)), rfl⟩
theorem gs_7 : (Jvm.Cond.selects "CoinRows$Pad" ({ cls := "CoinRows$Pad", name := "accept", desc := "(II)Z" } : Jvm.MethodName) ({ cls := "CoinRows$Pad", name := "accept", desc := "(II)Z" } : Jvm.MethodName)) ∈ GW := List.mem_filter.mpr ⟨List.mem_append_left _ (List.mem_of_getElem? (i := 7) (by decide +kernel)), rfl⟩
theorem gs_8 : (Jvm.Cond.selects "CoinRows$Pad" ({ cls := "CoinRows$Pad", name := "readBegin", desc := "(LCoinRows$Model;)Z" } : Jvm.MethodName) ({ cls := "CoinRows$Pad", name := "readBegin", desc := "(LCoinRows$Model;)Z" } : Jvm.MethodName)) ∈ GW := List.mem_filter.mpr ⟨List.mem_append_left _ (List.mem_of_getElem? (i := 8) (by decide +kernel)), rfl⟩
theorem gs_9 : (Jvm.Cond.selects "CoinRows$Pad" ({ cls := "CoinRows$Pad", name := "latest", desc := "()I" } : Jvm.MethodName) ({ cls := "CoinRows$Pad", name := "latest", desc := "()I" } : Jvm.MethodName)) ∈ GW := List.mem_filter.mpr ⟨List.mem_append_left _ (List.mem_of_getElem? (i := 9) (by decide +kernel)), rfl⟩
theorem gs_10 : (Jvm.Cond.selects "CoinRows$Pad" ({ cls := "CoinRows$Pad", name := "readWeight", desc := "(LCoinRows$Model;II)Z" } : Jvm.MethodName) ({ cls := "CoinRows$Pad", name := "readWeight", desc := "(LCoinRows$Model;II)Z" } : Jvm.MethodName)) ∈ GW := List.mem_filter.mpr ⟨List.mem_append_left _ (List.mem_of_getElem? (i := 10) (by decide +kernel)), rfl⟩
theorem gs_11 : (Jvm.Cond.selects "CoinRows$Pad" ({ cls := "CoinRows$Pad", name := "readRow", desc := "(LCoinRows$Model;)Z" } : Jvm.MethodName) ({ cls := "CoinRows$Pad", name := "readRow", desc := "(LCoinRows$Model;)Z" } : Jvm.MethodName)) ∈ GW := List.mem_filter.mpr ⟨List.mem_append_left _ (List.mem_of_getElem? (i := 11) (by decide +kernel)), rfl⟩
theorem gs_12 : (Jvm.Cond.selects "CoinRows$Pad" ({ cls := "CoinRows$Pad", name := "readStep", desc := "(LCoinRows$Model;I)Z" } : Jvm.MethodName) ({ cls := "CoinRows$Pad", name := "readStep", desc := "(LCoinRows$Model;I)Z" } : Jvm.MethodName)) ∈ GW := List.mem_filter.mpr ⟨List.mem_append_left _ (List.mem_of_getElem? (i := 12) (by decide +kernel)), rfl⟩
theorem gs_13 : (Jvm.Cond.selects "CoinRows$Pad" ({ cls := "CoinRows$Pad", name := "readLetter", desc := "(LCoinRows$Model;I)Z" } : Jvm.MethodName) ({ cls := "CoinRows$Pad", name := "readLetter", desc := "(LCoinRows$Model;I)Z" } : Jvm.MethodName)) ∈ GW := List.mem_filter.mpr ⟨List.mem_append_left _ (List.mem_of_getElem? (i := 13) (by decide +kernel)), rfl⟩
theorem gs_14 : (Jvm.Cond.selects "CoinRows$Walk" ({ cls := "CoinRows$Walk", name := "chooseByNumber", desc := "(LCoinRows$Model;LCoinRows$Sums;III)I" } : Jvm.MethodName) ({ cls := "CoinRows$Walk", name := "chooseByNumber", desc := "(LCoinRows$Model;LCoinRows$Sums;III)I" } : Jvm.MethodName)) ∈ GW := List.mem_filter.mpr ⟨List.mem_append_left _ (List.mem_of_getElem? (i := 14) (by decide +kernel)), rfl⟩
theorem gs_15 : (Jvm.Cond.selects "CoinRows$Walk" ({ cls := "CoinRows$Walk", name := "chooseBest", desc := "(LCoinRows$Model;LCoinRows$Sums;II)I" } : Jvm.MethodName) ({ cls := "CoinRows$Walk", name := "chooseBest", desc := "(LCoinRows$Model;LCoinRows$Sums;II)I" } : Jvm.MethodName)) ∈ GW := List.mem_filter.mpr ⟨List.mem_append_left _ (List.mem_of_getElem? (i := 15) (by decide +kernel)), rfl⟩
theorem gs_16 : (Jvm.Cond.selects "CoinRowsModel" ({ cls := "CoinRowsModel", name := "record", desc := "()V" } : Jvm.MethodName) ({ cls := "CoinRowsModel", name := "record", desc := "()V" } : Jvm.MethodName)) ∈ GW := List.mem_filter.mpr ⟨List.mem_append_left _ (List.mem_of_getElem? (i := 16) (by decide +kernel)), rfl⟩
theorem gs_17 : (Jvm.Cond.selects "CoinRowsModel" ({ cls := "CoinRowsModel", name := "isPlace", desc := "(I)Z" } : Jvm.MethodName) ({ cls := "CoinRowsModel", name := "isPlace", desc := "(I)Z" } : Jvm.MethodName)) ∈ GW := List.mem_filter.mpr ⟨List.mem_append_left _ (List.mem_of_getElem? (i := 17) (by decide +kernel)), rfl⟩
theorem gs_18 : (Jvm.Cond.selects "CoinRowsModel" ({ cls := "CoinRowsModel", name := "totalNow", desc := "()J" } : Jvm.MethodName) ({ cls := "CoinRowsModel", name := "totalNow", desc := "()J" } : Jvm.MethodName)) ∈ GW := List.mem_filter.mpr ⟨List.mem_append_left _ (List.mem_of_getElem? (i := 18) (by decide +kernel)), rfl⟩
theorem gs_19 : (Jvm.Cond.selects "CoinRowsModel" ({ cls := "CoinRowsModel", name := "layBehind", desc := "()V" } : Jvm.MethodName) ({ cls := "CoinRowsModel", name := "layBehind", desc := "()V" } : Jvm.MethodName)) ∈ GW := List.mem_filter.mpr ⟨List.mem_append_left _ (List.mem_of_getElem? (i := 19) (by decide +kernel)), rfl⟩
theorem gs_20 : (Jvm.Cond.selects "CoinRowsModel" ({ cls := "CoinRowsModel", name := "layBehindOf", desc := "(II)V" } : Jvm.MethodName) ({ cls := "CoinRowsModel", name := "layBehindOf", desc := "(II)V" } : Jvm.MethodName)) ∈ GW := List.mem_filter.mpr ⟨List.mem_append_left _ (List.mem_of_getElem? (i := 20) (by decide +kernel)), rfl⟩
theorem gs_21 : (Jvm.Cond.selects "CoinRowsModel" ({ cls := "CoinRowsModel", name := "step", desc := "(II)I" } : Jvm.MethodName) ({ cls := "CoinRowsModel", name := "step", desc := "(II)I" } : Jvm.MethodName)) ∈ GW := List.mem_filter.mpr ⟨List.mem_append_left _ (List.mem_of_getElem? (i := 21) (by decide +kernel)), rfl⟩
theorem gs_22 : (Jvm.Cond.selects "CoinRowsModel" ({ cls := "CoinRowsModel", name := "going", desc := "(III)I" } : Jvm.MethodName) ({ cls := "CoinRowsModel", name := "going", desc := "(III)I" } : Jvm.MethodName)) ∈ GW := List.mem_filter.mpr ⟨List.mem_append_left _ (List.mem_of_getElem? (i := 22) (by decide +kernel)), rfl⟩
theorem gs_23 : (Jvm.Cond.selects "CoinRowsModel" ({ cls := "CoinRowsModel", name := "tells", desc := "(II)I" } : Jvm.MethodName) ({ cls := "CoinRowsModel", name := "tells", desc := "(II)I" } : Jvm.MethodName)) ∈ GW := List.mem_filter.mpr ⟨List.mem_append_left _ (List.mem_of_getElem? (i := 23) (by decide +kernel)), rfl⟩
theorem gs_24 : (Jvm.Cond.selects "CoinRowsModel" ({ cls := "CoinRowsModel", name := "layAhead", desc := "()V" } : Jvm.MethodName) ({ cls := "CoinRowsModel", name := "layAhead", desc := "()V" } : Jvm.MethodName)) ∈ GW := List.mem_filter.mpr ⟨List.mem_append_left _ (List.mem_of_getElem? (i := 24) (by decide +kernel)), rfl⟩
theorem gs_25 : (Jvm.Cond.selects "CoinRowsModel" ({ cls := "CoinRowsModel", name := "addAhead", desc := "(JII)V" } : Jvm.MethodName) ({ cls := "CoinRowsModel", name := "addAhead", desc := "(JII)V" } : Jvm.MethodName)) ∈ GW := List.mem_filter.mpr ⟨List.mem_append_left _ (List.mem_of_getElem? (i := 25) (by decide +kernel)), rfl⟩
theorem gs_26 : (Jvm.Cond.selects "CoinRowsModel" ({ cls := "CoinRowsModel", name := "spread", desc := "(II)V" } : Jvm.MethodName) ({ cls := "CoinRowsModel", name := "spread", desc := "(II)V" } : Jvm.MethodName)) ∈ GW := List.mem_filter.mpr ⟨List.mem_append_left _ (List.mem_of_getElem? (i := 26) (by decide +kernel)), rfl⟩
theorem gs_27 : (Jvm.Cond.selects "CoinRowsModel" ({ cls := "CoinRowsModel", name := "waysNow", desc := "()I" } : Jvm.MethodName) ({ cls := "CoinRowsModel", name := "waysNow", desc := "()I" } : Jvm.MethodName)) ∈ GW := List.mem_filter.mpr ⟨List.mem_append_left _ (List.mem_of_getElem? (i := 27) (by decide +kernel)), rfl⟩
theorem gs_28 : (Jvm.Cond.selects "CoinRowsModel" ({ cls := "CoinRowsModel", name := "isWay", desc := "(I)Z" } : Jvm.MethodName) ({ cls := "CoinRowsModel", name := "isWay", desc := "(I)Z" } : Jvm.MethodName)) ∈ GW := List.mem_filter.mpr ⟨List.mem_append_left _ (List.mem_of_getElem? (i := 28) (by decide +kernel)), rfl⟩
theorem gs_29 : (Jvm.Cond.selects "CoinRowsModel" ({ cls := "CoinRowsModel", name := "layWay", desc := "(I)I" } : Jvm.MethodName) ({ cls := "CoinRowsModel", name := "layWay", desc := "(I)I" } : Jvm.MethodName)) ∈ GW := List.mem_filter.mpr ⟨List.mem_append_left _ (List.mem_of_getElem? (i := 29) (by decide +kernel)), rfl⟩
theorem gs_30 : (Jvm.Cond.selects "CoinRowsModel" ({ cls := "CoinRowsModel", name := "ofLaid", desc := "(I)I" } : Jvm.MethodName) ({ cls := "CoinRowsModel", name := "ofLaid", desc := "(I)I" } : Jvm.MethodName)) ∈ GW := List.mem_filter.mpr ⟨List.mem_append_left _ (List.mem_of_getElem? (i := 30) (by decide +kernel)), rfl⟩
theorem gs_31 : (Jvm.Cond.selects "CoinRowsModel" ({ cls := "CoinRowsModel", name := "through", desc := "(II)J" } : Jvm.MethodName) ({ cls := "CoinRowsModel", name := "through", desc := "(II)J" } : Jvm.MethodName)) ∈ GW := List.mem_filter.mpr ⟨List.mem_append_left _ (List.mem_of_getElem? (i := 31) (by decide +kernel)), rfl⟩
theorem gs_32 : (Jvm.Cond.selects "CoinRowsModel" ({ cls := "CoinRowsModel", name := "numberOf", desc := "(III)J" } : Jvm.MethodName) ({ cls := "CoinRowsModel", name := "numberOf", desc := "(III)J" } : Jvm.MethodName)) ∈ GW := List.mem_filter.mpr ⟨List.mem_append_left _ (List.mem_of_getElem? (i := 32) (by decide +kernel)), rfl⟩
theorem gs_33 : (Jvm.Cond.selects "CoinRowsModel" ({ cls := "CoinRowsModel", name := "trainGroup", desc := "(II)I" } : Jvm.MethodName) ({ cls := "CoinRowsModel", name := "trainGroup", desc := "(II)I" } : Jvm.MethodName)) ∈ GW := List.mem_filter.mpr ⟨List.mem_append_left _ (List.mem_of_getElem? (i := 33) (by decide +kernel)), rfl⟩
theorem gs_34 : (Jvm.Cond.selects "CoinRowsModel" ({ cls := "CoinRowsModel", name := "read", desc := "(Z)I" } : Jvm.MethodName) ({ cls := "CoinRowsModel", name := "read", desc := "(Z)I" } : Jvm.MethodName)) ∈ GW := List.mem_filter.mpr ⟨List.mem_append_left _ (List.mem_of_getElem? (i := 34) (by decide +kernel)), rfl⟩
theorem gs_35 : (Jvm.Cond.selects "CoinRowsModel" ({ cls := "CoinRowsModel", name := "lay", desc := "(ZII)V" } : Jvm.MethodName) ({ cls := "CoinRowsModel", name := "lay", desc := "(ZII)V" } : Jvm.MethodName)) ∈ GW := List.mem_filter.mpr ⟨List.mem_append_left _ (List.mem_of_getElem? (i := 35) (by decide +kernel)), rfl⟩
theorem gw_good {w : Cond} (h : w ∈ GW) : goodWord w = true := (List.mem_filter.mp h).2
theorem gw_tbl {w : Cond} (h : w ∈ GW) : w ∈ lw_tbl := (List.mem_filter.mp h).1
end
section
abbrev Ic : Type := Nat → Nat → Int32
abbrev Lc : Type := Nat → Nat → Int64
abbrev Rc : Type := Nat → Nat → Option Nat
abbrev Gx : Type := va_G × (Nat → ClassId)
abbrev Sx : Type := Nat × (Nat → Nat) × Ic × Lc × Rc
def up2 {α : Type} (f : Nat → Nat → α) (a j : Nat) (x : α) : Nat → Nat → α := fun b => if b = a then (fun k => if k = j then x else f a k) else f b
def zr {α : Type} (f : Nat → Nat → α) (a : Nat) (z : α) : Nat → Nat → α := fun b => if b = a then (fun _ => z) else f b
theorem up2_ne {α : Type} {f : Nat → Nat → α} {a j : Nat} {x : α} {b : Nat} (h : b ≠ a) : up2 f a j x b = f b := if_neg h
theorem up2_at {α : Type} {f : Nat → Nat → α} {a j : Nat} {x : α} {b k : Nat} : up2 f a j x b k = if b = a ∧ k = j then x else f b k := by
  unfold up2
  by_cases h : b = a
  · subst h; by_cases h2 : k = j <;> simp [h2]
  · simp [h]
theorem zr_at {α : Type} {f : Nat → Nat → α} {a : Nat} {z : α} {b k : Nat} : zr f a z b k = if b = a then z else f b k := by
  unfold zr
  by_cases h : b = a <;> simp [h]
theorem zr_ne {α : Type} {f : Nat → Nat → α} {a : Nat} {z : α} {b : Nat} (h : b ≠ a) : zr f a z b = f b := if_neg h
theorem zr_eq {α : Type} {f : Nat → Nat → α} {a : Nat} {z : α} : zr f a z a = fun _ => z := if_pos rfl
theorem up2_rowI {f : Ic} {a j : Nat} {x : Int32} : up2 f a j x a = upd (f a) j x := by unfold up2 upd; rw [if_pos rfl]
theorem up2_rowL {f : Lc} {a j : Nat} {x : Int64} : up2 f a j x a = vp_updL (f a) j x := by unfold up2 vp_updL; rw [if_pos rfl]
theorem up2_rowR {f : Rc} {a j : Nat} {x : Option Nat} : up2 f a j x a = va_up (f a) j x := by unfold up2 va_up; rw [if_pos rfl]

def kdt : List (Nat × Nat) := [(15,8),(10,3),(0,58),(0,6),(4,6),(4,2),(11,4),(2,80),(12,5),(5,7),(1,7),(1,7),(1,7),(1,7),(1,7),(1,7),(1,7),(5,7),(1,4),(1,4),(1,4),(1,4),(1,4),(1,4),(1,4),(5,7),(1,7),(1,7),(1,7),(1,7),(1,7),(1,7),(1,7),(5,7),(1,7),(1,7),(1,7),(1,7),(1,7),(1,7),(1,7),(6,7),(0,7),(0,7),(0,7),(0,7),(0,7),(0,7),(0,7),(14,4),(0,18),(13,1),(1,58),(10,3),(0,58),(0,6),(10,3),(0,58),(0,6),(10,3),(0,58),(0,6),(10,3),(0,58),(0,6),(10,3),(0,58),(0,6),(10,3),(0,58),(0,6),(16,16),(0,70),(0,420),(0,140),(3,2),(0,80),(1,42),(1,42),(0,42),(1,42),(0,20),(1,58)]
def kd (k : Nat) : Nat × Nat := if k < 83 then kdt.getD k (0,0) else if (k - 83) % 3 = 0 then (10,3) else if (k - 83) % 3 = 1 then (0,58) else (0,6)
theorem kd_le (k : Nat) : (kd k).2 < 1000 := by
  unfold kd
  by_cases h : k < 83
  · rw [if_pos h]
    have : ∀ i, i < 83 → (kdt.getD i (0,0)).2 < 1000 := by decide +kernel
    exact this k h
  · rw [if_neg h]
    by_cases h1 : (k - 83) % 3 = 0
    · rw [if_pos h1]; decide
    · rw [if_neg h1]
      by_cases h2 : (k - 83) % 3 = 1
      · rw [if_pos h2]; decide
      · rw [if_neg h2]; decide
theorem kd_len {k c n : Nat} (h : kd k = (c, n)) : n < 1000 := by have := kd_le k; rw [h] at this; exact this
def rfv (ad : Nat → Nat) (r : Option Nat) : Value := va_rf (r.map ad)
def flds (ad : Nat → Nat) (i : Nat → Int32) (l : Nat → Int64) (r : Nat → Option Nat) (c : Nat) : List Value := match c with
  | 10 => [rfv ad (r 0), rfv ad (r 1), .int (i 2)]
  | 11 => [rfv ad (r 0), .int (i 1), .int (i 2), .int (i 3)]
  | 12 => [rfv ad (r 0), rfv ad (r 1), rfv ad (r 2), rfv ad (r 3), rfv ad (r 4)]
  | 13 => [rfv ad (r 0)]
  | 14 => [rfv ad (r 0), .int (i 1), .long (l 2), .int (i 3)]
  | 15 => [rfv ad (r 0), rfv ad (r 1), .int (i 2), rfv ad (r 3), rfv ad (r 4), rfv ad (r 5), rfv ad (r 6), rfv ad (r 7)]
  | 16 => [rfv ad (r 0), rfv ad (r 1), .int (i 2), rfv ad (r 3), rfv ad (r 4), rfv ad (r 5), .int (i 6), rfv ad (r 7), rfv ad (r 8), rfv ad (r 9), rfv ad (r 10), rfv ad (r 11), .int (i 12), .long (l 13), rfv ad (r 14), .int (i 15)]
  | _ => []
def ctk (G : Gx) (ad : Nat → Nat) (i : Nat → Int32) (l : Nat → Int64) (r : Nat → Option Nat) (q : Nat × Nat) : va_E := match q.1 with
  | 0 => .inl (G.2 0, q.2, .inl i)
  | 1 => .inl (G.2 1, q.2, .inr (.inl l))
  | 2 => .inl (G.2 2, q.2, .inl i)
  | 3 => .inl (G.2 3, q.2, .inl i)
  | 4 => .inl (G.2 4, q.2, .inr (.inr (.inr (.inr (fun j => (r j).map ad)))))
  | 5 => .inl (G.2 5, q.2, .inr (.inr (.inr (.inr (fun j => (r j).map ad)))))
  | 6 => .inl (G.2 6, q.2, .inr (.inr (.inr (.inr (fun j => (r j).map ad)))))
  | c => .inr (c - 10, flds ad i l r c)
def ct (G : Gx) (ad : Nat → Nat) (I : Ic) (L : Lc) (R : Rc) (k : Nat) : va_E := ctk G ad (I k) (L k) (R k) (kd k)
def wl (G : Gx) (n : Nat) (ad : Nat → Nat) (I : Ic) (L : Lc) (R : Rc) : va_W := (List.range n).map (fun k => (ad k, ct G ad I L R k))
def tyl (G : Gx) : List (ClassId × FieldType) := [(G.2 0, .int), (G.2 1, .long), (G.2 2, .char), (G.2 3, .boolean), (G.2 4, .object "CoinRows$Model"), (G.2 5, .array .long), (G.2 6, .array .int)]
def va_AOA (ty : FieldType) (U : State) : Prop := (Cond.arrayOver (.array ty)).before #[] U = true
def NB (U : State) : Prop := va_Nw (.methodLinkNest "CoinRows" 11 ({ cls := "CoinRows$Model", name := "<init>", desc := "()V" } : MethodName) "CoinRows") U ∧ va_Nw (.methodLinkNest "CoinRows" 29 ({ cls := "CoinRows$Pad", name := "<init>", desc := "()V" } : MethodName) "CoinRows") U ∧ va_Nw (.methodLinkNest "CoinRows" 43 ({ cls := "CoinRows$Walk", name := "<init>", desc := "()V" } : MethodName) "CoinRows") U ∧ va_Nw (.methodLinkNest "CoinRows" 50 ({ cls := "CoinRows$Trainer", name := "<init>", desc := "()V" } : MethodName) "CoinRows") U ∧ va_Nw (.methodLinkNest "CoinRows$Pad" 60 ({ cls := "CoinRows", name := "isBarred", desc := "(II)Z" } : MethodName) "CoinRows") U ∧ va_AO "CoinRows$Model" U ∧ va_AOA .long U ∧ va_AOA .int U
theorem va_AOA.moved {ty : FieldType} {u U : State} (hvm : u.vm.Alike U.vm) (h : va_AOA ty u) : va_AOA ty U := arrayOver_alikeB hvm h
theorem NB.moved {s U : State} (hW : s.WarmedH U.vm) (h : NB s) : NB U := ⟨va_Nw.warmM hW h.1, va_Nw.warmM hW h.2.1, va_Nw.warmM hW h.2.2.1, va_Nw.warmM hW h.2.2.2.1, va_Nw.warmM hW h.2.2.2.2.1, va_AO.moved hW.alike h.2.2.2.2.2.1, va_AOA.moved hW.alike h.2.2.2.2.2.2.1, va_AOA.moved hW.alike h.2.2.2.2.2.2.2⟩
theorem NB.same {s U : State} (hW : s.vm = U.vm) (h : NB s) : NB U := ⟨va_Nw.same rfl hW h.1, va_Nw.same rfl hW h.2.1, va_Nw.same rfl hW h.2.2.1, va_Nw.same rfl hW h.2.2.2.1, va_Nw.same rfl hW h.2.2.2.2.1, va_AO.moved (hW ▸ Vm.Alike.refl s.vm) h.2.2.2.2.2.1, va_AOA.moved (hW ▸ Vm.Alike.refl s.vm) h.2.2.2.2.2.2.1, va_AOA.moved (hW ▸ Vm.Alike.refl s.vm) h.2.2.2.2.2.2.2⟩
def qA (n : Nat) (ad : Nat → Nat) (sz : Nat) : Nat → Prop := fun q => (∃ k, k < n ∧ q = ad k) ∨ sz ≤ q
def Wd (G : Gx) (n : Nat) (ad : Nat → Nat) (I : Ic) (L : Lc) (R : Rc) (A : Nat → Prop) (H0 H : Heap) (locs : List Loc) (s : State) : Prop :=
  va_P G.1 vwCl (wl G n ad I L R) H ∧ va_K G.1 vwCl (tyl G) s ∧ va_D A (wl G n ad I L R) ∧ va_S A H0 H locs ∧ (∀ q : Nat, H0.size ≤ q → A q) ∧ NB s
theorem wl_at {G : Gx} {n : Nat} {ad : Nat → Nat} {I : Ic} {L : Lc} {R : Rc} {x : Nat} (hx : x < n) : (wl G n ad I L R)[x]? = some (ad x, ct G ad I L R x) := by
  unfold wl
  rw [List.getElem?_map, List.getElem?_range hx]
  rfl
theorem wl_some {G : Gx} {n : Nat} {ad : Nat → Nat} {I : Ic} {L : Lc} {R : Rc} {x : Nat} {q : Nat × va_E} (h : (wl G n ad I L R)[x]? = some q) : x < n ∧ q = (ad x, ct G ad I L R x) := by
  have hl := (List.getElem?_eq_some_iff.mp h).1
  unfold wl at hl
  rw [List.length_map, List.length_range] at hl
  rw [wl_at hl] at h
  exact ⟨hl, (Option.some.inj h).symm⟩
theorem wl_set {G : Gx} {n : Nat} {ad : Nat → Nat} {I I' : Ic} {L L' : Lc} {R R' : Rc} {x : Nat} {e : va_E} (h : ∀ k, k ≠ x → ct G ad I' L' R' k = ct G ad I L R k) (he : ct G ad I' L' R' x = e) : (wl G n ad I L R).set x (ad x, e) = wl G n ad I' L' R' := by
  apply List.ext_getElem?
  intro k
  by_cases hk : k < n
  · by_cases hkx : k = x
    · subst hkx
      rw [List.getElem?_set_self (by unfold wl; rw [List.length_map, List.length_range]; exact hk), wl_at hk, he]
    · rw [List.getElem?_set_ne (fun q => hkx q.symm), wl_at hk, wl_at hk, h k hkx]
  · rw [List.getElem?_eq_none (by rw [List.length_set]; unfold wl; rw [List.length_map, List.length_range]; omega), List.getElem?_eq_none (by unfold wl; rw [List.length_map, List.length_range]; omega)]
theorem ct_I {G : Gx} {ad : Nat → Nat} {I : Ic} {L : Lc} {R : Rc} {x j : Nat} {v : Int32} {k : Nat} (h : k ≠ x) : ct G ad (up2 I x j v) L R k = ct G ad I L R k := by unfold ct; rw [up2_ne h]
theorem ct_L {G : Gx} {ad : Nat → Nat} {I : Ic} {L : Lc} {R : Rc} {x j : Nat} {v : Int64} {k : Nat} (h : k ≠ x) : ct G ad I (up2 L x j v) R k = ct G ad I L R k := by unfold ct; rw [up2_ne h]
theorem ct_R {G : Gx} {ad : Nat → Nat} {I : Ic} {L : Lc} {R : Rc} {x j : Nat} {v : Option Nat} {k : Nat} (h : k ≠ x) : ct G ad I L (up2 R x j v) k = ct G ad I L R k := by unfold ct; rw [up2_ne h]
theorem u_X0 : ∀ w ∈ u_ws RX0 TX0 3, w ∈ GW := by decide +kernel
theorem u_X1 : ∀ w ∈ u_ws RX1 TX1 4, w ∈ GW := by decide +kernel
theorem u_X2 : ∀ w ∈ u_ws RX2 TX2 5, w ∈ GW := by decide +kernel
theorem u_X3 : ∀ w ∈ u_ws RX3 TX3 1, w ∈ GW := by decide +kernel
theorem u_X4 : ∀ w ∈ u_ws RX4 TX4 4, w ∈ GW := by decide +kernel
theorem u_X5 : ∀ w ∈ u_ws RX5 TX5 8, w ∈ GW := by decide +kernel
theorem u_X6 : ∀ w ∈ u_ws RX6 TX6 16, w ∈ GW := by decide +kernel
def qPre (G : Gx) (n : Nat) (ad : Nat → Nat) (sz : Nat) (I : Ic) (L : Lc) (R : Rc) (av : List Value) : Array Value → State → Prop :=
  va_Pc av (fun U => U.heap.size = sz ∧ va_P G.1 vwCl (wl G n ad I L R) U.heap ∧ va_K G.1 vwCl (tyl G) U ∧ va_D (fun _ => True) (wl G n ad I L R) ∧ NB U)
def qW (G : Gx) (A : Nat → Prop) (u : Sx) (t : State) : Prop := va_P G.1 vwCl (wl G u.1 u.2.1 u.2.2.1 u.2.2.2.1 u.2.2.2.2) t.heap ∧ va_D A (wl G u.1 u.2.1 u.2.2.1 u.2.2.2.1 u.2.2.2.2)

section QA
variable {p : Program} {l : Launch} {e : Env} {Rm : Room} {s : State} {m : MethodId} {args : Array Value} {below : List Frame} {meth : Method} {c : Code} {H : Heap} {locs : List Loc} {cells slots : Nat} {Q : State → Prop} {cc : ByteArray} {pc : Nat} {ls : Array Slot} {rest : List Value} {A : Nat → Prop} {H0 : Heap} {nL : Nat} {own : String} {G : Gx} {n : Nat} {ad : Nat → Nat} {I : Ic} {L : Lc} {R : Rc}
theorem q_ic (k : Nat) (hx : p.tables.exec = Jvm.exec) (hb : c.code = cc) {z : Int} (hdg : decode cc pc = .ok (.iconst z, 1)) (hv : Int32.ofInt z = nI k) (kk : W p l e Rm s m args below meth c H locs cells slots Q (F0 m (pc + 1) ls (.int (nI k) :: rest))) : W p l e Rm s m args below meth c H locs cells slots Q (F0 m pc ls rest) := lv_iconst hx hb hdg hv kk
theorem q_bp (k : Nat) (hx : p.tables.exec = Jvm.exec) (hb : c.code = cc) {z : Int} (hdg : decode cc pc = .ok (.bipush z, 2)) (hv : (Int8.ofInt z).toInt32 = nI k) (kk : W p l e Rm s m args below meth c H locs cells slots Q (F0 m (pc + 2) ls (.int (nI k) :: rest))) : W p l e Rm s m args below meth c H locs cells slots Q (F0 m pc ls rest) := lv_bipush hx hb hdg hv kk
theorem q_sp (k : Nat) (hx : p.tables.exec = Jvm.exec) (hb : c.code = cc) {z : Int} (hdg : decode cc pc = .ok (.sipush z, 3)) (hv : (Int16.ofInt z).toInt32 = nI k) (kk : W p l e Rm s m args below meth c H locs cells slots Q (F0 m (pc + 3) ls (.int (nI k) :: rest))) : W p l e Rm s m args below meth c H locs cells slots Q (F0 m pc ls rest) := lv_sipush hx hb hdg hv kk
theorem q_lc (k : Nat) (hx : p.tables.exec = Jvm.exec) (hb : c.code = cc) {z : Fin 2} (hdg : decode cc pc = .ok (.lconst z, 1)) (hv : Int64.ofNat (z : Nat) = lN k) (kk : W p l e Rm s m args below meth c H locs cells slots Q (F0 m (pc + 1) ls (.long (lN k) :: rest))) : W p l e Rm s m args below meth c H locs cells slots Q (F0 m pc ls rest) := lv_lconst hx hb hdg hv kk
theorem q_iadd {a b : Nat} (hx : p.tables.exec = Jvm.exec) (hb : c.code = cc) (hdg : decode cc pc = .ok (.iadd, 1)) (kk : W p l e Rm s m args below meth c H locs cells slots Q (F0 m (pc + 1) ls (.int (nI (a + b)) :: rest))) : W p l e Rm s m args below meth c H locs cells slots Q (F0 m pc ls (.int (nI b) :: .int (nI a) :: rest)) := lv_iadd hx hb hdg (by rw [nI_add]; exact kk)
theorem q_imul {a b : Nat} (hx : p.tables.exec = Jvm.exec) (hb : c.code = cc) (hdg : decode cc pc = .ok (.imul, 1)) (kk : W p l e Rm s m args below meth c H locs cells slots Q (F0 m (pc + 1) ls (.int (nI (a * b)) :: rest))) : W p l e Rm s m args below meth c H locs cells slots Q (F0 m pc ls (.int (nI b) :: .int (nI a) :: rest)) := lv_imul hx hb hdg (by rw [pk_mul]; exact kk)
theorem q_isub {a b : Nat} (hx : p.tables.exec = Jvm.exec) (hb : c.code = cc) (hdg : decode cc pc = .ok (.isub, 1)) (h : b ≤ a) (kk : W p l e Rm s m args below meth c H locs cells slots Q (F0 m (pc + 1) ls (.int (nI (a - b)) :: rest))) : W p l e Rm s m args below meth c H locs cells slots Q (F0 m pc ls (.int (nI b) :: .int (nI a) :: rest)) := lv_isub hx hb hdg (by rw [pk_sub h]; exact kk)
theorem q_ladd {a b : Nat} (hx : p.tables.exec = Jvm.exec) (hb : c.code = cc) (hdg : decode cc pc = .ok (.ladd, 1)) (kk : W p l e Rm s m args below meth c H locs cells slots Q (F0 m (pc + 1) ls (.long (lN (a + b)) :: rest))) : W p l e Rm s m args below meth c H locs cells slots Q (F0 m pc ls (.long (lN b) :: .long (lN a) :: rest)) := lv_ladd hx hb hdg (by rw [lN_add]; exact kk)
theorem q_lmul {a b : Nat} (hx : p.tables.exec = Jvm.exec) (hb : c.code = cc) (hdg : decode cc pc = .ok (.lmul, 1)) (kk : W p l e Rm s m args below meth c H locs cells slots Q (F0 m (pc + 1) ls (.long (lN (a * b)) :: rest))) : W p l e Rm s m args below meth c H locs cells slots Q (F0 m pc ls (.long (lN b) :: .long (lN a) :: rest)) := lv_lmul hx hb hdg (by rw [lN_mul]; exact kk)
theorem q_i2l {a : Nat} (hx : p.tables.exec = Jvm.exec) (hb : c.code = cc) (hdg : decode cc pc = .ok (.i2l, 1)) (h : a < 2 ^ 31) (kk : W p l e Rm s m args below meth c H locs cells slots Q (F0 m (pc + 1) ls (.long (lN a) :: rest))) : W p l e Rm s m args below meth c H locs cells slots Q (F0 m pc ls (.int (nI a) :: rest)) := lv_i2l hx hb hdg (nI_l h) kk
theorem q_l2i {a : Nat} (hx : p.tables.exec = Jvm.exec) (hb : c.code = cc) (hdg : decode cc pc = .ok (.l2i, 1)) (kk : W p l e Rm s m args below meth c H locs cells slots Q (F0 m (pc + 1) ls (.int (nI a) :: rest))) : W p l e Rm s m args below meth c H locs cells slots Q (F0 m pc ls (.long (lN a) :: rest)) := lv_l2i hx hb hdg (lN_i a) kk
theorem q_top {v v2 : Value} (h : v = v2) (kk : W p l e Rm s m args below meth c H locs cells slots Q (F0 m pc ls (v2 :: rest))) : W p l e Rm s m args below meth c H locs cells slots Q (F0 m pc ls (v :: rest)) := by rw [h]; exact kk
theorem q_iinc {i k a z2 : Nat} {z : Int} {lv lv' : List (Nat × Value)} (hx : p.tables.exec = Jvm.exec) (hb : c.code = cc) (hdg : decode cc pc = .ok (.iinc i z, 3)) (h : lv_has ls nL lv) (hk : lv[k]? = some (i, .int (nI a))) (hv : nI a + Int32.ofInt z = nI z2) (hn : i < nL) (hl : (i, Value.int (nI z2)) :: lv.filter (fun q => !(q.1 == i) && !(q.1 + 1 == i && q.2.category == 2)) = lv')
    (kk : ∀ ls' : Array Slot, lv_has ls' nL lv' → W p l e Rm s m args below meth c H locs cells slots Q (F0 m (pc + 3) ls' rest)) : W p l e Rm s m args below meth c H locs cells slots Q (F0 m pc ls rest) := lv_iinc hx hb hdg h hk hv hn hl kk
theorem inc_up (a b : Nat) {z : Int} (h : Int32.ofInt z = nI b) : nI a + Int32.ofInt z = nI (a + b) := by rw [h, nI_add]
theorem inc_dn {a : Nat} (h : 1 ≤ a) : nI a + Int32.ofInt (-1) = nI (a - 1) := by
  obtain ⟨b, rfl⟩ : ∃ b, a = b + 1 := ⟨a - 1, by omega⟩
  exact pk_m1 b

theorem q_clt {a b tgt : Nat} {off : Int} (hx : p.tables.exec = Jvm.exec) (hb : c.code = cc) (hdg : decode cc pc = .ok (.if_icmp .lt off, 3)) (ht : (pc : Int) + off = (tgt : Int)) (ha : a < 2 ^ 31) (hb2 : b < 2 ^ 31) (kt : a < b → W p l e Rm s m args below meth c H locs cells slots Q (F0 m tgt ls rest)) (kf : b ≤ a → W p l e Rm s m args below meth c H locs cells slots Q (F0 m (pc + 3) ls rest)) : W p l e Rm s m args below meth c H locs cells slots Q (F0 m pc ls (.int (nI b) :: .int (nI a) :: rest)) :=
  lv_icmp_lt hx hb hdg ht (fun h => kt ((nI_ltI ha hb2).mp h)) (fun h => kf (Nat.le_of_not_lt fun q => h ((nI_ltI ha hb2).mpr q)))
theorem q_cge {a b tgt : Nat} {off : Int} (hx : p.tables.exec = Jvm.exec) (hb : c.code = cc) (hdg : decode cc pc = .ok (.if_icmp .ge off, 3)) (ht : (pc : Int) + off = (tgt : Int)) (ha : a < 2 ^ 31) (hb2 : b < 2 ^ 31) (kt : b ≤ a → W p l e Rm s m args below meth c H locs cells slots Q (F0 m tgt ls rest)) (kf : a < b → W p l e Rm s m args below meth c H locs cells slots Q (F0 m (pc + 3) ls rest)) : W p l e Rm s m args below meth c H locs cells slots Q (F0 m pc ls (.int (nI b) :: .int (nI a) :: rest)) :=
  lv_icmp_ge hx hb hdg ht (fun h => kt ((nI_leI hb2 ha).mp h)) (fun h => kf (Nat.lt_of_not_le fun q => h ((nI_leI hb2 ha).mpr q)))
theorem q_cgt {a b tgt : Nat} {off : Int} (hx : p.tables.exec = Jvm.exec) (hb : c.code = cc) (hdg : decode cc pc = .ok (.if_icmp .gt off, 3)) (ht : (pc : Int) + off = (tgt : Int)) (ha : a < 2 ^ 31) (hb2 : b < 2 ^ 31) (kt : b < a → W p l e Rm s m args below meth c H locs cells slots Q (F0 m tgt ls rest)) (kf : a ≤ b → W p l e Rm s m args below meth c H locs cells slots Q (F0 m (pc + 3) ls rest)) : W p l e Rm s m args below meth c H locs cells slots Q (F0 m pc ls (.int (nI b) :: .int (nI a) :: rest)) :=
  lv_icmp_gt hx hb hdg ht (fun h => kt ((nI_ltI hb2 ha).mp h)) (fun h => kf (Nat.le_of_not_lt fun q => h ((nI_ltI hb2 ha).mpr q)))
theorem q_cle {a b tgt : Nat} {off : Int} (hx : p.tables.exec = Jvm.exec) (hb : c.code = cc) (hdg : decode cc pc = .ok (.if_icmp .le off, 3)) (ht : (pc : Int) + off = (tgt : Int)) (ha : a < 2 ^ 31) (hb2 : b < 2 ^ 31) (kt : a ≤ b → W p l e Rm s m args below meth c H locs cells slots Q (F0 m tgt ls rest)) (kf : b < a → W p l e Rm s m args below meth c H locs cells slots Q (F0 m (pc + 3) ls rest)) : W p l e Rm s m args below meth c H locs cells slots Q (F0 m pc ls (.int (nI b) :: .int (nI a) :: rest)) :=
  lv_icmp_le hx hb hdg ht (fun h => kt ((nI_leI ha hb2).mp h)) (fun h => kf (Nat.lt_of_not_le fun q => h ((nI_leI ha hb2).mpr q)))
theorem q_ceq {a b tgt : Nat} {off : Int} (hx : p.tables.exec = Jvm.exec) (hb : c.code = cc) (hdg : decode cc pc = .ok (.if_icmp .eq off, 3)) (ht : (pc : Int) + off = (tgt : Int)) (ha : a < 2 ^ 31) (hb2 : b < 2 ^ 31) (kt : a = b → W p l e Rm s m args below meth c H locs cells slots Q (F0 m tgt ls rest)) (kf : a ≠ b → W p l e Rm s m args below meth c H locs cells slots Q (F0 m (pc + 3) ls rest)) : W p l e Rm s m args below meth c H locs cells slots Q (F0 m pc ls (.int (nI b) :: .int (nI a) :: rest)) :=
  lv_icmp_eq hx hb hdg ht (fun h => kt ((nI_eq ha hb2).mp h)) (fun h => kf (fun q => h (by rw [q])))
theorem q_cne {a b tgt : Nat} {off : Int} (hx : p.tables.exec = Jvm.exec) (hb : c.code = cc) (hdg : decode cc pc = .ok (.if_icmp .ne off, 3)) (ht : (pc : Int) + off = (tgt : Int)) (ha : a < 2 ^ 31) (hb2 : b < 2 ^ 31) (kt : a ≠ b → W p l e Rm s m args below meth c H locs cells slots Q (F0 m tgt ls rest)) (kf : a = b → W p l e Rm s m args below meth c H locs cells slots Q (F0 m (pc + 3) ls rest)) : W p l e Rm s m args below meth c H locs cells slots Q (F0 m pc ls (.int (nI b) :: .int (nI a) :: rest)) :=
  lv_icmp_ne hx hb hdg ht (fun h => kt (fun q => h (by rw [q]))) (fun h => kf ((nI_eq ha hb2).mp h))
theorem q_ieq {a tgt : Nat} {off : Int} (hx : p.tables.exec = Jvm.exec) (hb : c.code = cc) (hdg : decode cc pc = .ok (.ifCond .eq off, 3)) (ht : (pc : Int) + off = (tgt : Int)) (ha : a < 2 ^ 31) (kt : a = 0 → W p l e Rm s m args below meth c H locs cells slots Q (F0 m tgt ls rest)) (kf : a ≠ 0 → W p l e Rm s m args below meth c H locs cells slots Q (F0 m (pc + 3) ls rest)) : W p l e Rm s m args below meth c H locs cells slots Q (F0 m pc ls (.int (nI a) :: rest)) := by
  have h0 : (0 : Int32) = nI 0 := nI_0.symm
  refine lv_if_eq hx hb hdg ht (fun h => kt ?_) (fun h => kf ?_)
  all_goals (rw [h0] at h)
  all_goals (first | exact (nI_eq ha (by decide)).mp h | exact (nI_ltI (by decide) ha).mp h | exact Nat.eq_zero_of_not_pos (fun q => h ((nI_ltI (by decide) ha).mpr q)) | exact Nat.le_zero.mp ((nI_leI ha (by decide)).mp h) | exact Nat.lt_of_not_le (fun q => h ((nI_leI ha (by decide)).mpr q)) | exact fun q => h (by rw [q]) | exact Classical.byContradiction fun q => h (fun z => q ((nI_eq ha (by decide)).mp z)))
theorem q_ine {a tgt : Nat} {off : Int} (hx : p.tables.exec = Jvm.exec) (hb : c.code = cc) (hdg : decode cc pc = .ok (.ifCond .ne off, 3)) (ht : (pc : Int) + off = (tgt : Int)) (ha : a < 2 ^ 31) (kt : a ≠ 0 → W p l e Rm s m args below meth c H locs cells slots Q (F0 m tgt ls rest)) (kf : a = 0 → W p l e Rm s m args below meth c H locs cells slots Q (F0 m (pc + 3) ls rest)) : W p l e Rm s m args below meth c H locs cells slots Q (F0 m pc ls (.int (nI a) :: rest)) := by
  have h0 : (0 : Int32) = nI 0 := nI_0.symm
  refine lv_if_ne hx hb hdg ht (fun h => kt ?_) (fun h => kf ?_)
  all_goals (rw [h0] at h)
  all_goals (first | exact (nI_eq ha (by decide)).mp h | exact (nI_ltI (by decide) ha).mp h | exact Nat.eq_zero_of_not_pos (fun q => h ((nI_ltI (by decide) ha).mpr q)) | exact Nat.le_zero.mp ((nI_leI ha (by decide)).mp h) | exact Nat.lt_of_not_le (fun q => h ((nI_leI ha (by decide)).mpr q)) | exact fun q => h (by rw [q]) | exact Classical.byContradiction fun q => h (fun z => q ((nI_eq ha (by decide)).mp z)))
theorem q_igt {a tgt : Nat} {off : Int} (hx : p.tables.exec = Jvm.exec) (hb : c.code = cc) (hdg : decode cc pc = .ok (.ifCond .gt off, 3)) (ht : (pc : Int) + off = (tgt : Int)) (ha : a < 2 ^ 31) (kt : 0 < a → W p l e Rm s m args below meth c H locs cells slots Q (F0 m tgt ls rest)) (kf : a = 0 → W p l e Rm s m args below meth c H locs cells slots Q (F0 m (pc + 3) ls rest)) : W p l e Rm s m args below meth c H locs cells slots Q (F0 m pc ls (.int (nI a) :: rest)) := by
  have h0 : (0 : Int32) = nI 0 := nI_0.symm
  refine lv_if_gt hx hb hdg ht (fun h => kt ?_) (fun h => kf ?_)
  all_goals (rw [h0] at h)
  all_goals (first | exact (nI_eq ha (by decide)).mp h | exact (nI_ltI (by decide) ha).mp h | exact Nat.eq_zero_of_not_pos (fun q => h ((nI_ltI (by decide) ha).mpr q)) | exact Nat.le_zero.mp ((nI_leI ha (by decide)).mp h) | exact Nat.lt_of_not_le (fun q => h ((nI_leI ha (by decide)).mpr q)) | exact fun q => h (by rw [q]) | exact Classical.byContradiction fun q => h (fun z => q ((nI_eq ha (by decide)).mp z)))
theorem q_ile {a tgt : Nat} {off : Int} (hx : p.tables.exec = Jvm.exec) (hb : c.code = cc) (hdg : decode cc pc = .ok (.ifCond .le off, 3)) (ht : (pc : Int) + off = (tgt : Int)) (ha : a < 2 ^ 31) (kt : a = 0 → W p l e Rm s m args below meth c H locs cells slots Q (F0 m tgt ls rest)) (kf : 0 < a → W p l e Rm s m args below meth c H locs cells slots Q (F0 m (pc + 3) ls rest)) : W p l e Rm s m args below meth c H locs cells slots Q (F0 m pc ls (.int (nI a) :: rest)) := by
  have h0 : (0 : Int32) = nI 0 := nI_0.symm
  refine lv_if_le hx hb hdg ht (fun h => kt ?_) (fun h => kf ?_)
  all_goals (rw [h0] at h)
  all_goals (first | exact (nI_eq ha (by decide)).mp h | exact (nI_ltI (by decide) ha).mp h | exact Nat.eq_zero_of_not_pos (fun q => h ((nI_ltI (by decide) ha).mpr q)) | exact Nat.le_zero.mp ((nI_leI ha (by decide)).mp h) | exact Nat.lt_of_not_le (fun q => h ((nI_leI ha (by decide)).mpr q)) | exact fun q => h (by rw [q]) | exact Classical.byContradiction fun q => h (fun z => q ((nI_eq ha (by decide)).mp z)))
theorem q_lcmp {a b : Nat} (hx : p.tables.exec = Jvm.exec) (hb : c.code = cc) (hdg : decode cc pc = .ok (.lcmp, 1)) (kk : W p l e Rm s m args below meth c H locs cells slots Q (F0 m (pc + 1) ls (.int (lg_cmp (lN a) (lN b)) :: rest))) : W p l e Rm s m args below meth c H locs cells slots Q (F0 m pc ls (.long (lN b) :: .long (lN a) :: rest)) := W.lcmp hx hb hdg kk
theorem q_get {x j ci N index : Nat} {C : String} {T : u_T} {v : Value} {fs : List Value} (hC : CallFix p m c cc nL s args GW own) (hW : Wd G n ad I L R A H0 H locs s) (hx : x < n) (he : ct G ad I L R x = .inr (ci, fs)) (hc : vwCl[ci]? = some (C, T, N)) (hu : ∀ w ∈ u_ws C T N, w ∈ GW) (hj : j < N) (hl : Cond.fieldLink own index C (T j).2.1 (T j).2.2.1 ∈ GW) (hs : (T j).1 = C) (hv : fs[j]? = some v) (hdg : decode cc pc = .ok (.getfield index, 3))
    (kk : W p l e Rm s m args below meth c H locs cells slots Q (F0 m (pc + 3) ls (v :: rest))) : W p l e Rm s m args below meth c H locs cells slots Q (F0 m pc ls (.ref (ad x) :: rest)) :=
  va_get hC.1 hC.2.1 hC.2.2.2.2 hu hC.2.2.2.1 hW.2.1 hW.1 x (by rw [wl_at hx, he]) hc j hj (hC.2.2.2.2 _ hl) (fun y hy => by rw [← hs]; exact hy) hv hdg kk
theorem q_put {x j ci N index : Nat} {C : String} {T : u_T} {ty : FieldType} {v : Value} {fs : List Value} {I' : Ic} {L' : Lc} {R' : Rc} {ty0 : Nat → FieldType} (hC : CallFix p m c cc nL s args GW own) (hW : Wd G n ad I L R A H0 H locs s) (hx : x < n) (he : ct G ad I L R x = .inr (ci, fs)) (hc : vwCl[ci]? = some (C, T, N)) (hu : ∀ w ∈ u_ws C T N, w ∈ GW) (hty : ∀ k, k < N → parseFieldDescriptor (T k).2.2.1 = some (ty0 k)) (hnm : ∀ a, a < N → ∀ b, b < N → a ≠ b → (T a).2.1 ≠ (T b).2.1) (hj : j < N) (hl : Cond.fieldLink own index C (T j).2.1 (T j).2.2.1 ∈ GW) (hs : (T j).1 = C) (hfin : (T j).2.2.2 = false) (hd : parseFieldDescriptor (T j).2.2.1 = some ty) (hn : narrow ty v = v) (hfit : fits ty v = true) (hlen : j < fs.length)
    (hI : ct G ad I' L' R' x = .inr (ci, fs.set j v)) (ho : ∀ k, k ≠ x → ct G ad I' L' R' k = ct G ad I L R k) (hdg : decode cc pc = .ok (.putfield index, 3))
    (kk : ∀ (H1 : Heap) (locs1 : List Loc), Wd G n ad I' L' R' A H0 H1 locs1 s → W p l e Rm s m args below meth c H1 locs1 cells slots Q (F0 m (pc + 3) ls rest)) : W p l e Rm s m args below meth c H locs cells slots Q (F0 m pc ls (v :: .ref (ad x) :: rest)) :=
  va_put hC.1 hC.2.1 hC.2.2.2.2 hu ty0 hty hnm hC.2.2.2.1 hW.2.1 hW.1 hW.2.2.1 hW.2.2.2.1 x (by rw [wl_at hx, he]) hc j hj (hC.2.2.2.2 _ hl) (fun y hy => by rw [← hs]; exact hy) hfin hd hn hfit hlen hdg (fun H1 locs1 hP hD hS => kk H1 locs1 (by rw [wl_set ho hI] at hP hD; exact ⟨hP, hW.2.1, hD, hS, hW.2.2.2.2⟩))
theorem q_putF {x j ci N index : Nat} {C : String} {T : u_T} {ty : FieldType} {v : Value} {fs : List Value} {I' : Ic} {L' : Lc} {R' : Rc} {ty0 : Nat → FieldType} (hC : CallFix p m c cc nL s args GW own) (hW : Wd G n ad I L R A H0 H locs s) (hx : x < n) (he : ct G ad I L R x = .inr (ci, fs)) (hc : vwCl[ci]? = some (C, T, N)) (hu : ∀ w ∈ u_ws C T N, w ∈ GW) (hty : ∀ k, k < N → parseFieldDescriptor (T k).2.2.1 = some (ty0 k)) (hnm : ∀ a, a < N → ∀ b, b < N → a ≠ b → (T a).2.1 ≠ (T b).2.1) (hj : j < N) (hl : Cond.fieldLink own index C (T j).2.1 (T j).2.2.1 ∈ GW) (hs : (T j).1 = C) (hfin : (T j).2.2.2 = true) (hin2 : meth.name = "<init>") (hdecl : (T j).1 = own) (hd : parseFieldDescriptor (T j).2.2.1 = some ty) (hn : narrow ty v = v) (hfit : fits ty v = true) (hlen : j < fs.length)
    (hI : ct G ad I' L' R' x = .inr (ci, fs.set j v)) (ho : ∀ k, k ≠ x → ct G ad I' L' R' k = ct G ad I L R k) (hdg : decode cc pc = .ok (.putfield index, 3))
    (kk : ∀ (H1 : Heap) (locs1 : List Loc), Wd G n ad I' L' R' A H0 H1 locs1 s → W p l e Rm s m args below meth c H1 locs1 cells slots Q (F0 m (pc + 3) ls rest)) : W p l e Rm s m args below meth c H locs cells slots Q (F0 m pc ls (v :: .ref (ad x) :: rest)) :=
  va_putF hC.1 hC.2.1 hC.2.2.2.2 hu ty0 hty hnm hC.2.2.2.1 hW.2.1 hW.1 hW.2.2.1 hW.2.2.2.1 x (by rw [wl_at hx, he]) hc j hj (hC.2.2.2.2 _ hl) (fun y hy => by rw [← hs]; exact hy) hfin hin2 hdecl hd hn hfit hlen hdg (fun H1 locs1 hP hD hS => kk H1 locs1 (by rw [wl_set ho hI] at hP hD; exact ⟨hP, hW.2.1, hD, hS, hW.2.2.2.2⟩))
theorem ct_arr {G : Gx} {ad : Nat → Nat} {I : Ic} {L : Lc} {R : Rc} {x : Nat} {q : Nat × Nat} (hk : kd x = q) : ct G ad I L R x = ctk G ad (I x) (L x) (R x) q := by unfold ct; rw [hk]

theorem q_iald {x len i : Nat} (hC : CallFix p m c cc nL s args GW own) (hW : Wd G n ad I L R A H0 H locs s) (hx : x < n) (hk : kd x = (0, len)) (hi : i < len) (hdg : decode cc pc = .ok (.iaload, 1)) (kk : W p l e Rm s m args below meth c H locs cells slots Q (F0 m (pc + 1) ls (.int (I x i) :: rest))) : W p l e Rm s m args below meth c H locs cells slots Q (F0 m pc ls (.int (nI i) :: .ref (ad x) :: rest)) := by
  have h1 : len < 1000 := kd_len hk
  refine va_iald hC.1 hC.2.1 hW.2.1 hW.1 x 0 (by rw [wl_at hx, ct_arr hk]; rfl) rfl (vp_in_nI hi (by omega)) hdg ?_
  rw [nI_clamp (show i < 2 ^ 31 by omega)]
  exact kk
theorem q_iast {x len i : Nat} {v : Int32} (hC : CallFix p m c cc nL s args GW own) (hW : Wd G n ad I L R A H0 H locs s) (hx : x < n) (hk : kd x = (0, len)) (hi : i < len) (hdg : decode cc pc = .ok (.iastore, 1)) (kk : ∀ (H1 : Heap) (locs1 : List Loc), Wd G n ad (up2 I x i v) L R A H0 H1 locs1 s → W p l e Rm s m args below meth c H1 locs1 cells slots Q (F0 m (pc + 1) ls rest)) : W p l e Rm s m args below meth c H locs cells slots Q (F0 m pc ls (.int v :: .int (nI i) :: .ref (ad x) :: rest)) := by
  have h1 : len < 1000 := kd_len hk
  refine va_iast hC.1 hC.2.1 hW.2.1 hW.1 hW.2.2.1 hW.2.2.2.1 x 0 (by rw [wl_at hx, ct_arr hk]; rfl) rfl (vp_in_nI hi (by omega)) hdg (fun H1 locs1 hP hD hS => kk H1 locs1 ?_)
  rw [nI_clamp (show i < 2 ^ 31 by omega)] at hP hD
  rw [wl_set (fun k h => ct_I h) (by rw [ct_arr hk, up2_rowI]; rfl)] at hP hD
  exact ⟨hP, hW.2.1, hD, hS, hW.2.2.2.2⟩
theorem q_cald {x len i : Nat} (hC : CallFix p m c cc nL s args GW own) (hW : Wd G n ad I L R A H0 H locs s) (hx : x < n) (hk : kd x = (2, len)) (hi : i < len) (hdg : decode cc pc = .ok (.caload, 1)) (kk : W p l e Rm s m args below meth c H locs cells slots Q (F0 m (pc + 1) ls (.int (I x i) :: rest))) : W p l e Rm s m args below meth c H locs cells slots Q (F0 m pc ls (.int (nI i) :: .ref (ad x) :: rest)) := by
  have h1 : len < 1000 := kd_len hk
  refine va_cald hC.1 hC.2.1 hW.2.1 hW.1 x 2 (by rw [wl_at hx, ct_arr hk]; rfl) rfl (vp_in_nI hi (by omega)) hdg ?_
  rw [nI_clamp (show i < 2 ^ 31 by omega)]
  exact kk
theorem q_cast {x len i : Nat} {v : Int32} (hC : CallFix p m c cc nL s args GW own) (hW : Wd G n ad I L R A H0 H locs s) (hx : x < n) (hk : kd x = (2, len)) (hi : i < len) (hv : vp_nar .char v = v) (hdg : decode cc pc = .ok (.castore, 1)) (kk : ∀ (H1 : Heap) (locs1 : List Loc), Wd G n ad (up2 I x i v) L R A H0 H1 locs1 s → W p l e Rm s m args below meth c H1 locs1 cells slots Q (F0 m (pc + 1) ls rest)) : W p l e Rm s m args below meth c H locs cells slots Q (F0 m pc ls (.int v :: .int (nI i) :: .ref (ad x) :: rest)) := by
  have h1 : len < 1000 := kd_len hk
  refine va_cast hC.1 hC.2.1 hW.2.1 hW.1 hW.2.2.1 hW.2.2.2.1 x 2 (by rw [wl_at hx, ct_arr hk]; rfl) rfl (vp_in_nI hi (by omega)) hdg (fun H1 locs1 hP hD hS => kk H1 locs1 ?_)
  rw [nI_clamp (show i < 2 ^ 31 by omega)] at hP hD
  rw [hv] at hP hD; rw [wl_set (fun k h => ct_I h) (by rw [ct_arr hk, up2_rowI]; rfl)] at hP hD
  exact ⟨hP, hW.2.1, hD, hS, hW.2.2.2.2⟩
theorem q_zald {x len i : Nat} (hC : CallFix p m c cc nL s args GW own) (hW : Wd G n ad I L R A H0 H locs s) (hx : x < n) (hk : kd x = (3, len)) (hi : i < len) (hdg : decode cc pc = .ok (.baload, 1)) (kk : W p l e Rm s m args below meth c H locs cells slots Q (F0 m (pc + 1) ls (.int (I x i) :: rest))) : W p l e Rm s m args below meth c H locs cells slots Q (F0 m pc ls (.int (nI i) :: .ref (ad x) :: rest)) := by
  have h1 : len < 1000 := kd_len hk
  refine va_zald hC.1 hC.2.1 hW.2.1 hW.1 x 3 (by rw [wl_at hx, ct_arr hk]; rfl) rfl (vp_in_nI hi (by omega)) hdg ?_
  rw [nI_clamp (show i < 2 ^ 31 by omega)]
  exact kk
theorem q_zast {x len i : Nat} {v : Int32} (hC : CallFix p m c cc nL s args GW own) (hW : Wd G n ad I L R A H0 H locs s) (hx : x < n) (hk : kd x = (3, len)) (hi : i < len) (hv : vp_nar .boolean v = v) (hdg : decode cc pc = .ok (.bastore, 1)) (kk : ∀ (H1 : Heap) (locs1 : List Loc), Wd G n ad (up2 I x i v) L R A H0 H1 locs1 s → W p l e Rm s m args below meth c H1 locs1 cells slots Q (F0 m (pc + 1) ls rest)) : W p l e Rm s m args below meth c H locs cells slots Q (F0 m pc ls (.int v :: .int (nI i) :: .ref (ad x) :: rest)) := by
  have h1 : len < 1000 := kd_len hk
  refine va_zast hC.1 hC.2.1 hW.2.1 hW.1 hW.2.2.1 hW.2.2.2.1 x 3 (by rw [wl_at hx, ct_arr hk]; rfl) rfl (vp_in_nI hi (by omega)) hdg (fun H1 locs1 hP hD hS => kk H1 locs1 ?_)
  rw [nI_clamp (show i < 2 ^ 31 by omega)] at hP hD
  rw [hv] at hP hD; rw [wl_set (fun k h => ct_I h) (by rw [ct_arr hk, up2_rowI]; rfl)] at hP hD
  exact ⟨hP, hW.2.1, hD, hS, hW.2.2.2.2⟩
theorem q_lald {x len i : Nat} (hC : CallFix p m c cc nL s args GW own) (hW : Wd G n ad I L R A H0 H locs s) (hx : x < n) (hk : kd x = (1, len)) (hi : i < len) (hdg : decode cc pc = .ok (.laload, 1)) (kk : W p l e Rm s m args below meth c H locs cells slots Q (F0 m (pc + 1) ls (.long (L x i) :: rest))) : W p l e Rm s m args below meth c H locs cells slots Q (F0 m pc ls (.int (nI i) :: .ref (ad x) :: rest)) := by
  have h1 : len < 1000 := kd_len hk
  refine va_lald hC.1 hC.2.1 hW.2.1 hW.1 x 1 (by rw [wl_at hx, ct_arr hk]; rfl) rfl (vp_in_nI hi (by omega)) hdg ?_
  rw [nI_clamp (show i < 2 ^ 31 by omega)]
  exact kk
theorem q_last {x len i : Nat} {v : Int64} (hC : CallFix p m c cc nL s args GW own) (hW : Wd G n ad I L R A H0 H locs s) (hx : x < n) (hk : kd x = (1, len)) (hi : i < len) (hdg : decode cc pc = .ok (.lastore, 1)) (kk : ∀ (H1 : Heap) (locs1 : List Loc), Wd G n ad I (up2 L x i v) R A H0 H1 locs1 s → W p l e Rm s m args below meth c H1 locs1 cells slots Q (F0 m (pc + 1) ls rest)) : W p l e Rm s m args below meth c H locs cells slots Q (F0 m pc ls (.long v :: .int (nI i) :: .ref (ad x) :: rest)) := by
  have h1 : len < 1000 := kd_len hk
  refine va_last hC.1 hC.2.1 hW.2.1 hW.1 hW.2.2.1 hW.2.2.2.1 x 1 (by rw [wl_at hx, ct_arr hk]; rfl) rfl (vp_in_nI hi (by omega)) hdg (fun H1 locs1 hP hD hS => kk H1 locs1 ?_)
  rw [nI_clamp (show i < 2 ^ 31 by omega)] at hP hD
  rw [wl_set (fun k h => ct_L h) (by rw [ct_arr hk, up2_rowL]; rfl)] at hP hD
  exact ⟨hP, hW.2.1, hD, hS, hW.2.2.2.2⟩
theorem q_aald4 {x len i y : Nat} (hC : CallFix p m c cc nL s args GW own) (hW : Wd G n ad I L R A H0 H locs s) (hx : x < n) (hk : kd x = (4, len)) (hi : i < len) (hr : R x i = some y) (hdg : decode cc pc = .ok (.aaload, 1)) (kk : W p l e Rm s m args below meth c H locs cells slots Q (F0 m (pc + 1) ls (.ref (ad y) :: rest))) : W p l e Rm s m args below meth c H locs cells slots Q (F0 m pc ls (.int (nI i) :: .ref (ad x) :: rest)) := by
  have h1 : len < 1000 := kd_len hk
  have ha : (wl G n ad I L R)[x]? = some (ad x, .inl (G.2 4, len, .inr (.inr (.inr (.inr (fun j => (R x j).map ad)))))) := by rw [wl_at hx, ct_arr hk]; rfl
  have hin : vp_in (nI i) len := vp_in_nI hi (by omega)
  have hcl : (nI i).toNatClampNeg = i := nI_clamp (by omega)
  refine W.aald (v := va_rf ((R x i).map ad)) (ty := .object "CoinRows$Model") hC.1 hC.2.1 (hW.1 x _ ha) ((hW.2.1.2 4 _ rfl).1 len (fun j => va_rf ((R x j).map ad))) rfl (fun q => by cases q) (by show ¬ (_ < 0 ∨ (arrV _ _ _).slots.size ≤ _); rw [arrV_size]; exact hin) (by show (arrV _ _ _).slots[_]? = _; rw [hcl, arrV_read _ _ hi]) rfl rfl hdg ?_
  rw [hr]
  exact kk
theorem q_aald5 {x len i y : Nat} (hC : CallFix p m c cc nL s args GW own) (hW : Wd G n ad I L R A H0 H locs s) (hx : x < n) (hk : kd x = (5, len)) (hi : i < len) (hr : R x i = some y) (hdg : decode cc pc = .ok (.aaload, 1)) (kk : W p l e Rm s m args below meth c H locs cells slots Q (F0 m (pc + 1) ls (.ref (ad y) :: rest))) : W p l e Rm s m args below meth c H locs cells slots Q (F0 m pc ls (.int (nI i) :: .ref (ad x) :: rest)) := by
  have h1 : len < 1000 := kd_len hk
  have ha : (wl G n ad I L R)[x]? = some (ad x, .inl (G.2 5, len, .inr (.inr (.inr (.inr (fun j => (R x j).map ad)))))) := by rw [wl_at hx, ct_arr hk]; rfl
  have hin : vp_in (nI i) len := vp_in_nI hi (by omega)
  have hcl : (nI i).toNatClampNeg = i := nI_clamp (by omega)
  refine W.aald (v := va_rf ((R x i).map ad)) (ty := .array .long) hC.1 hC.2.1 (hW.1 x _ ha) ((hW.2.1.2 5 _ rfl).1 len (fun j => va_rf ((R x j).map ad))) rfl (fun q => by cases q) (by show ¬ (_ < 0 ∨ (arrV _ _ _).slots.size ≤ _); rw [arrV_size]; exact hin) (by show (arrV _ _ _).slots[_]? = _; rw [hcl, arrV_read _ _ hi]) rfl rfl hdg ?_
  rw [hr]
  exact kk
theorem q_aald6 {x len i y : Nat} (hC : CallFix p m c cc nL s args GW own) (hW : Wd G n ad I L R A H0 H locs s) (hx : x < n) (hk : kd x = (6, len)) (hi : i < len) (hr : R x i = some y) (hdg : decode cc pc = .ok (.aaload, 1)) (kk : W p l e Rm s m args below meth c H locs cells slots Q (F0 m (pc + 1) ls (.ref (ad y) :: rest))) : W p l e Rm s m args below meth c H locs cells slots Q (F0 m pc ls (.int (nI i) :: .ref (ad x) :: rest)) := by
  have h1 : len < 1000 := kd_len hk
  have ha : (wl G n ad I L R)[x]? = some (ad x, .inl (G.2 6, len, .inr (.inr (.inr (.inr (fun j => (R x j).map ad)))))) := by rw [wl_at hx, ct_arr hk]; rfl
  have hin : vp_in (nI i) len := vp_in_nI hi (by omega)
  have hcl : (nI i).toNatClampNeg = i := nI_clamp (by omega)
  refine W.aald (v := va_rf ((R x i).map ad)) (ty := .array .int) hC.1 hC.2.1 (hW.1 x _ ha) ((hW.2.1.2 6 _ rfl).1 len (fun j => va_rf ((R x j).map ad))) rfl (fun q => by cases q) (by show ¬ (_ < 0 ∨ (arrV _ _ _).slots.size ≤ _); rw [arrV_size]; exact hin) (by show (arrV _ _ _).slots[_]? = _; rw [hcl, arrV_read _ _ hi]) rfl rfl hdg ?_
  rw [hr]
  exact kk
theorem q_aald4N {x len i : Nat} (hC : CallFix p m c cc nL s args GW own) (hW : Wd G n ad I L R A H0 H locs s) (hx : x < n) (hk : kd x = (4, len)) (hi : i < len) (hr : R x i = none) (hdg : decode cc pc = .ok (.aaload, 1)) (kk : W p l e Rm s m args below meth c H locs cells slots Q (F0 m (pc + 1) ls (.null :: rest))) : W p l e Rm s m args below meth c H locs cells slots Q (F0 m pc ls (.int (nI i) :: .ref (ad x) :: rest)) := by
  have h1 : len < 1000 := kd_len hk
  refine va_aldq hC.1 hC.2.1 hW.2.1 hW.1 x 4 (C := "CoinRows$Model") (by rw [wl_at hx, ct_arr hk]; rfl) rfl (vp_in_nI hi (by omega)) hdg ?_
  rw [nI_clamp (show i < 2 ^ 31 by omega), hr]
  exact kk
theorem q_aast4 {x len i y : Nat} (hC : CallFix p m c cc nL s args GW own) (hW : Wd G n ad I L R A H0 H locs s) (hx : x < n) (hk : kd x = (4, len)) (hi : i < len) (hy : y < n) (hky : kd y = (10, 3)) (hdg : decode cc pc = .ok (.aastore, 1)) (kk : ∀ (H1 : Heap) (locs1 : List Loc), Wd G n ad I L (up2 R x i (some y)) A H0 H1 locs1 s → W p l e Rm s m args below meth c H1 locs1 cells slots Q (F0 m (pc + 1) ls rest)) : W p l e Rm s m args below meth c H locs cells slots Q (F0 m pc ls (.ref (ad y) :: .int (nI i) :: .ref (ad x) :: rest)) := by
  have h1 : len < 1000 := kd_len hk
  refine va_astq hC.1 hC.2.1 hW.2.1 hW.1 hW.2.2.1 hW.2.2.2.1 x 4 y 0 (r := (RX0, TX0, 3)) (by rw [wl_at hx, ct_arr hk]; rfl) rfl (by rw [wl_at hy, ct_arr hky]; rfl) rfl (vp_in_nI hi (by omega)) hdg (fun H1 locs1 hP hD hS => kk H1 locs1 ?_)
  rw [nI_clamp (show i < 2 ^ 31 by omega)] at hP hD
  rw [wl_set (I' := I) (L' := L) (R' := up2 R x i (some y)) (fun k h => ct_R h) (by
    rw [ct_arr hk, up2_rowR]
    have e : (fun j => (va_up (R x) i (some y) j).map ad) = va_up (fun j => (R x j).map ad) i (some (ad y)) := by
      funext j
      by_cases h : j = i
      · subst h; simp [va_up]
      · simp [va_up, h]
    show (Sum.inl (G.2 4, len, Sum.inr (Sum.inr (Sum.inr (Sum.inr (fun j => (va_up (R x) i (some y) j).map ad))))) : va_E) = _
    rw [e])] at hP hD
  exact ⟨hP, hW.2.1, hD, hS, hW.2.2.2.2⟩
end QA
section QF
variable {p : Program} {l : Launch} {e : Env} {Rm : Room} {s : State} {m : MethodId} {args : Array Value} {below : List Frame} {meth : Method} {c : Code} {H : Heap} {locs : List Loc} {cells slots : Nat} {Q : State → Prop} {cc : ByteArray} {pc : Nat} {ls : Array Slot} {rest : List Value} {A : Nat → Prop} {H0 : Heap} {nL : Nat} {own : String} {G : Gx} {n : Nat} {ad : Nat → Nat} {I : Ic} {L : Lc} {R : Rc}
theorem ct_o0 {x : Nat} (hk : kd x = (10, 3)) : ct G ad I L R x = .inr (0, flds ad (I x) (L x) (R x) 10) := by rw [ct_arr hk]; rfl
theorem g_0_0 {y : Nat} {x index : Nat} (hC : CallFix p m c cc nL s args GW own) (hW : Wd G n ad I L R A H0 H locs s) (hx : x < n) (hk : kd x = (10, 3)) (hl : Cond.fieldLink own index "CoinRows$Model" "weights" "[I" ∈ GW) (hr : R x 0 = some y) (hdg : decode cc pc = .ok (.getfield index, 3)) (kk : W p l e Rm s m args below meth c H locs cells slots Q (F0 m (pc + 3) ls (.ref (ad y) :: rest))) : W p l e Rm s m args below meth c H locs cells slots Q (F0 m pc ls (.ref (ad x) :: rest)) := q_get (ci := 0) (j := 0) (T := TX0) (N := 3) hC hW hx (ct_o0 hk) rfl u_X0 (by decide) hl rfl (by show some (rfv ad (R x 0)) = _; rw [hr]; rfl) hdg kk
theorem p_0_0 {y : Nat} {x index : Nat} (hC : CallFix p m c cc nL s args GW own) (hW : Wd G n ad I L R A H0 H locs s) (hx : x < n) (hk : kd x = (10, 3)) (hl : Cond.fieldLink own index "CoinRows$Model" "weights" "[I" ∈ GW) (hin : meth.name = "<init>") (ho : own = "CoinRows$Model") (hdg : decode cc pc = .ok (.putfield index, 3)) (kk : ∀ (H1 : Heap) (locs1 : List Loc), Wd G n ad I L (up2 R x 0 (some y)) A H0 H1 locs1 s → W p l e Rm s m args below meth c H1 locs1 cells slots Q (F0 m (pc + 3) ls rest)) : W p l e Rm s m args below meth c H locs cells slots Q (F0 m pc ls (.ref (ad y) :: .ref (ad x) :: rest)) := q_putF (ci := 0) (j := 0) (T := TX0) (N := 3) (ty := .array .int) (v := .ref (ad y)) hC hW hx (ct_o0 hk) rfl u_X0 tyX0_ok nmX0 (by decide) hl rfl rfl hin (by rw [ho]; rfl) (by decide +kernel) rfl rfl (by show 0 < 3; decide) (by rw [ct_o0 hk, up2_rowR]; rfl) (fun k h => ct_R h) hdg kk
theorem g_0_1 {y : Nat} {x index : Nat} (hC : CallFix p m c cc nL s args GW own) (hW : Wd G n ad I L R A H0 H locs s) (hx : x < n) (hk : kd x = (10, 3)) (hl : Cond.fieldLink own index "CoinRows$Model" "row" "[I" ∈ GW) (hr : R x 1 = some y) (hdg : decode cc pc = .ok (.getfield index, 3)) (kk : W p l e Rm s m args below meth c H locs cells slots Q (F0 m (pc + 3) ls (.ref (ad y) :: rest))) : W p l e Rm s m args below meth c H locs cells slots Q (F0 m pc ls (.ref (ad x) :: rest)) := q_get (ci := 0) (j := 1) (T := TX0) (N := 3) hC hW hx (ct_o0 hk) rfl u_X0 (by decide) hl rfl (by show some (rfv ad (R x 1)) = _; rw [hr]; rfl) hdg kk
theorem p_0_1 {y : Nat} {x index : Nat} (hC : CallFix p m c cc nL s args GW own) (hW : Wd G n ad I L R A H0 H locs s) (hx : x < n) (hk : kd x = (10, 3)) (hl : Cond.fieldLink own index "CoinRows$Model" "row" "[I" ∈ GW) (hin : meth.name = "<init>") (ho : own = "CoinRows$Model") (hdg : decode cc pc = .ok (.putfield index, 3)) (kk : ∀ (H1 : Heap) (locs1 : List Loc), Wd G n ad I L (up2 R x 1 (some y)) A H0 H1 locs1 s → W p l e Rm s m args below meth c H1 locs1 cells slots Q (F0 m (pc + 3) ls rest)) : W p l e Rm s m args below meth c H locs cells slots Q (F0 m pc ls (.ref (ad y) :: .ref (ad x) :: rest)) := q_putF (ci := 0) (j := 1) (T := TX0) (N := 3) (ty := .array .int) (v := .ref (ad y)) hC hW hx (ct_o0 hk) rfl u_X0 tyX0_ok nmX0 (by decide) hl rfl rfl hin (by rw [ho]; rfl) (by decide +kernel) rfl rfl (by show 1 < 3; decide) (by rw [ct_o0 hk, up2_rowR]; rfl) (fun k h => ct_R h) hdg kk
theorem g_0_2 {x index : Nat} (hC : CallFix p m c cc nL s args GW own) (hW : Wd G n ad I L R A H0 H locs s) (hx : x < n) (hk : kd x = (10, 3)) (hl : Cond.fieldLink own index "CoinRows$Model" "length" "I" ∈ GW) (hdg : decode cc pc = .ok (.getfield index, 3)) (kk : W p l e Rm s m args below meth c H locs cells slots Q (F0 m (pc + 3) ls (.int (I x 2) :: rest))) : W p l e Rm s m args below meth c H locs cells slots Q (F0 m pc ls (.ref (ad x) :: rest)) := q_get (ci := 0) (j := 2) (T := TX0) (N := 3) hC hW hx (ct_o0 hk) rfl u_X0 (by decide) hl rfl rfl hdg kk
theorem p_0_2 {v : Int32} {x index : Nat} (hC : CallFix p m c cc nL s args GW own) (hW : Wd G n ad I L R A H0 H locs s) (hx : x < n) (hk : kd x = (10, 3)) (hl : Cond.fieldLink own index "CoinRows$Model" "length" "I" ∈ GW) (hdg : decode cc pc = .ok (.putfield index, 3)) (kk : ∀ (H1 : Heap) (locs1 : List Loc), Wd G n ad (up2 I x 2 v) L R A H0 H1 locs1 s → W p l e Rm s m args below meth c H1 locs1 cells slots Q (F0 m (pc + 3) ls rest)) : W p l e Rm s m args below meth c H locs cells slots Q (F0 m pc ls (.int v :: .ref (ad x) :: rest)) := q_put (ci := 0) (j := 2) (T := TX0) (N := 3) (ty := .int) (v := .int v) hC hW hx (ct_o0 hk) rfl u_X0 tyX0_ok nmX0 (by decide) hl rfl rfl (by decide +kernel) rfl rfl (by show 2 < 3; decide) (by rw [ct_o0 hk, up2_rowI]; rfl) (fun k h => ct_I h) hdg kk
theorem ct_o1 {x : Nat} (hk : kd x = (11, 4)) : ct G ad I L R x = .inr (1, flds ad (I x) (L x) (R x) 11) := by rw [ct_arr hk]; rfl
theorem g_1_0 {y : Nat} {x index : Nat} (hC : CallFix p m c cc nL s args GW own) (hW : Wd G n ad I L R A H0 H locs s) (hx : x < n) (hk : kd x = (11, 4)) (hl : Cond.fieldLink own index "CoinRows$Pad" "signs" "[C" ∈ GW) (hr : R x 0 = some y) (hdg : decode cc pc = .ok (.getfield index, 3)) (kk : W p l e Rm s m args below meth c H locs cells slots Q (F0 m (pc + 3) ls (.ref (ad y) :: rest))) : W p l e Rm s m args below meth c H locs cells slots Q (F0 m pc ls (.ref (ad x) :: rest)) := q_get (ci := 1) (j := 0) (T := TX1) (N := 4) hC hW hx (ct_o1 hk) rfl u_X1 (by decide) hl rfl (by show some (rfv ad (R x 0)) = _; rw [hr]; rfl) hdg kk
theorem p_1_0 {y : Nat} {x index : Nat} (hC : CallFix p m c cc nL s args GW own) (hW : Wd G n ad I L R A H0 H locs s) (hx : x < n) (hk : kd x = (11, 4)) (hl : Cond.fieldLink own index "CoinRows$Pad" "signs" "[C" ∈ GW) (hin : meth.name = "<init>") (ho : own = "CoinRows$Pad") (hdg : decode cc pc = .ok (.putfield index, 3)) (kk : ∀ (H1 : Heap) (locs1 : List Loc), Wd G n ad I L (up2 R x 0 (some y)) A H0 H1 locs1 s → W p l e Rm s m args below meth c H1 locs1 cells slots Q (F0 m (pc + 3) ls rest)) : W p l e Rm s m args below meth c H locs cells slots Q (F0 m pc ls (.ref (ad y) :: .ref (ad x) :: rest)) := q_putF (ci := 1) (j := 0) (T := TX1) (N := 4) (ty := .array .char) (v := .ref (ad y)) hC hW hx (ct_o1 hk) rfl u_X1 tyX1_ok nmX1 (by decide) hl rfl rfl hin (by rw [ho]; rfl) (by decide +kernel) rfl rfl (by show 0 < 4; decide) (by rw [ct_o1 hk, up2_rowR]; rfl) (fun k h => ct_R h) hdg kk
theorem g_1_1 {x index : Nat} (hC : CallFix p m c cc nL s args GW own) (hW : Wd G n ad I L R A H0 H locs s) (hx : x < n) (hk : kd x = (11, 4)) (hl : Cond.fieldLink own index "CoinRows$Pad" "length" "I" ∈ GW) (hdg : decode cc pc = .ok (.getfield index, 3)) (kk : W p l e Rm s m args below meth c H locs cells slots Q (F0 m (pc + 3) ls (.int (I x 1) :: rest))) : W p l e Rm s m args below meth c H locs cells slots Q (F0 m pc ls (.ref (ad x) :: rest)) := q_get (ci := 1) (j := 1) (T := TX1) (N := 4) hC hW hx (ct_o1 hk) rfl u_X1 (by decide) hl rfl rfl hdg kk
theorem p_1_1 {v : Int32} {x index : Nat} (hC : CallFix p m c cc nL s args GW own) (hW : Wd G n ad I L R A H0 H locs s) (hx : x < n) (hk : kd x = (11, 4)) (hl : Cond.fieldLink own index "CoinRows$Pad" "length" "I" ∈ GW) (hdg : decode cc pc = .ok (.putfield index, 3)) (kk : ∀ (H1 : Heap) (locs1 : List Loc), Wd G n ad (up2 I x 1 v) L R A H0 H1 locs1 s → W p l e Rm s m args below meth c H1 locs1 cells slots Q (F0 m (pc + 3) ls rest)) : W p l e Rm s m args below meth c H locs cells slots Q (F0 m pc ls (.int v :: .ref (ad x) :: rest)) := q_put (ci := 1) (j := 1) (T := TX1) (N := 4) (ty := .int) (v := .int v) hC hW hx (ct_o1 hk) rfl u_X1 tyX1_ok nmX1 (by decide) hl rfl rfl (by decide +kernel) rfl rfl (by show 1 < 4; decide) (by rw [ct_o1 hk, up2_rowI]; rfl) (fun k h => ct_I h) hdg kk
theorem g_1_2 {x index : Nat} (hC : CallFix p m c cc nL s args GW own) (hW : Wd G n ad I L R A H0 H locs s) (hx : x < n) (hk : kd x = (11, 4)) (hl : Cond.fieldLink own index "CoinRows$Pad" "at" "I" ∈ GW) (hdg : decode cc pc = .ok (.getfield index, 3)) (kk : W p l e Rm s m args below meth c H locs cells slots Q (F0 m (pc + 3) ls (.int (I x 2) :: rest))) : W p l e Rm s m args below meth c H locs cells slots Q (F0 m pc ls (.ref (ad x) :: rest)) := q_get (ci := 1) (j := 2) (T := TX1) (N := 4) hC hW hx (ct_o1 hk) rfl u_X1 (by decide) hl rfl rfl hdg kk
theorem p_1_2 {v : Int32} {x index : Nat} (hC : CallFix p m c cc nL s args GW own) (hW : Wd G n ad I L R A H0 H locs s) (hx : x < n) (hk : kd x = (11, 4)) (hl : Cond.fieldLink own index "CoinRows$Pad" "at" "I" ∈ GW) (hdg : decode cc pc = .ok (.putfield index, 3)) (kk : ∀ (H1 : Heap) (locs1 : List Loc), Wd G n ad (up2 I x 2 v) L R A H0 H1 locs1 s → W p l e Rm s m args below meth c H1 locs1 cells slots Q (F0 m (pc + 3) ls rest)) : W p l e Rm s m args below meth c H locs cells slots Q (F0 m pc ls (.int v :: .ref (ad x) :: rest)) := q_put (ci := 1) (j := 2) (T := TX1) (N := 4) (ty := .int) (v := .int v) hC hW hx (ct_o1 hk) rfl u_X1 tyX1_ok nmX1 (by decide) hl rfl rfl (by decide +kernel) rfl rfl (by show 2 < 4; decide) (by rw [ct_o1 hk, up2_rowI]; rfl) (fun k h => ct_I h) hdg kk
theorem g_1_3 {x index : Nat} (hC : CallFix p m c cc nL s args GW own) (hW : Wd G n ad I L R A H0 H locs s) (hx : x < n) (hk : kd x = (11, 4)) (hl : Cond.fieldLink own index "CoinRows$Pad" "parts" "I" ∈ GW) (hdg : decode cc pc = .ok (.getfield index, 3)) (kk : W p l e Rm s m args below meth c H locs cells slots Q (F0 m (pc + 3) ls (.int (I x 3) :: rest))) : W p l e Rm s m args below meth c H locs cells slots Q (F0 m pc ls (.ref (ad x) :: rest)) := q_get (ci := 1) (j := 3) (T := TX1) (N := 4) hC hW hx (ct_o1 hk) rfl u_X1 (by decide) hl rfl rfl hdg kk
theorem p_1_3 {v : Int32} {x index : Nat} (hC : CallFix p m c cc nL s args GW own) (hW : Wd G n ad I L R A H0 H locs s) (hx : x < n) (hk : kd x = (11, 4)) (hl : Cond.fieldLink own index "CoinRows$Pad" "parts" "I" ∈ GW) (hdg : decode cc pc = .ok (.putfield index, 3)) (kk : ∀ (H1 : Heap) (locs1 : List Loc), Wd G n ad (up2 I x 3 v) L R A H0 H1 locs1 s → W p l e Rm s m args below meth c H1 locs1 cells slots Q (F0 m (pc + 3) ls rest)) : W p l e Rm s m args below meth c H locs cells slots Q (F0 m pc ls (.int v :: .ref (ad x) :: rest)) := q_put (ci := 1) (j := 3) (T := TX1) (N := 4) (ty := .int) (v := .int v) hC hW hx (ct_o1 hk) rfl u_X1 tyX1_ok nmX1 (by decide) hl rfl rfl (by decide +kernel) rfl rfl (by show 3 < 4; decide) (by rw [ct_o1 hk, up2_rowI]; rfl) (fun k h => ct_I h) hdg kk
theorem ct_o2 {x : Nat} (hk : kd x = (12, 5)) : ct G ad I L R x = .inr (2, flds ad (I x) (L x) (R x) 12) := by rw [ct_arr hk]; rfl
theorem g_2_0 {y : Nat} {x index : Nat} (hC : CallFix p m c cc nL s args GW own) (hW : Wd G n ad I L R A H0 H locs s) (hx : x < n) (hk : kd x = (12, 5)) (hl : Cond.fieldLink own index "CoinRows$Sums" "before" "[[J" ∈ GW) (hr : R x 0 = some y) (hdg : decode cc pc = .ok (.getfield index, 3)) (kk : W p l e Rm s m args below meth c H locs cells slots Q (F0 m (pc + 3) ls (.ref (ad y) :: rest))) : W p l e Rm s m args below meth c H locs cells slots Q (F0 m pc ls (.ref (ad x) :: rest)) := q_get (ci := 2) (j := 0) (T := TX2) (N := 5) hC hW hx (ct_o2 hk) rfl u_X2 (by decide) hl rfl (by show some (rfv ad (R x 0)) = _; rw [hr]; rfl) hdg kk
theorem p_2_0 {y : Nat} {x index : Nat} (hC : CallFix p m c cc nL s args GW own) (hW : Wd G n ad I L R A H0 H locs s) (hx : x < n) (hk : kd x = (12, 5)) (hl : Cond.fieldLink own index "CoinRows$Sums" "before" "[[J" ∈ GW) (hin : meth.name = "<init>") (ho : own = "CoinRows$Sums") (hdg : decode cc pc = .ok (.putfield index, 3)) (kk : ∀ (H1 : Heap) (locs1 : List Loc), Wd G n ad I L (up2 R x 0 (some y)) A H0 H1 locs1 s → W p l e Rm s m args below meth c H1 locs1 cells slots Q (F0 m (pc + 3) ls rest)) : W p l e Rm s m args below meth c H locs cells slots Q (F0 m pc ls (.ref (ad y) :: .ref (ad x) :: rest)) := q_putF (ci := 2) (j := 0) (T := TX2) (N := 5) (ty := .array (.array .long)) (v := .ref (ad y)) hC hW hx (ct_o2 hk) rfl u_X2 tyX2_ok nmX2 (by decide) hl rfl rfl hin (by rw [ho]; rfl) (by decide +kernel) rfl rfl (by show 0 < 5; decide) (by rw [ct_o2 hk, up2_rowR]; rfl) (fun k h => ct_R h) hdg kk
theorem g_2_1 {y : Nat} {x index : Nat} (hC : CallFix p m c cc nL s args GW own) (hW : Wd G n ad I L R A H0 H locs s) (hx : x < n) (hk : kd x = (12, 5)) (hl : Cond.fieldLink own index "CoinRows$Sums" "reach" "[[J" ∈ GW) (hr : R x 1 = some y) (hdg : decode cc pc = .ok (.getfield index, 3)) (kk : W p l e Rm s m args below meth c H locs cells slots Q (F0 m (pc + 3) ls (.ref (ad y) :: rest))) : W p l e Rm s m args below meth c H locs cells slots Q (F0 m pc ls (.ref (ad x) :: rest)) := q_get (ci := 2) (j := 1) (T := TX2) (N := 5) hC hW hx (ct_o2 hk) rfl u_X2 (by decide) hl rfl (by show some (rfv ad (R x 1)) = _; rw [hr]; rfl) hdg kk
theorem p_2_1 {y : Nat} {x index : Nat} (hC : CallFix p m c cc nL s args GW own) (hW : Wd G n ad I L R A H0 H locs s) (hx : x < n) (hk : kd x = (12, 5)) (hl : Cond.fieldLink own index "CoinRows$Sums" "reach" "[[J" ∈ GW) (hin : meth.name = "<init>") (ho : own = "CoinRows$Sums") (hdg : decode cc pc = .ok (.putfield index, 3)) (kk : ∀ (H1 : Heap) (locs1 : List Loc), Wd G n ad I L (up2 R x 1 (some y)) A H0 H1 locs1 s → W p l e Rm s m args below meth c H1 locs1 cells slots Q (F0 m (pc + 3) ls rest)) : W p l e Rm s m args below meth c H locs cells slots Q (F0 m pc ls (.ref (ad y) :: .ref (ad x) :: rest)) := q_putF (ci := 2) (j := 1) (T := TX2) (N := 5) (ty := .array (.array .long)) (v := .ref (ad y)) hC hW hx (ct_o2 hk) rfl u_X2 tyX2_ok nmX2 (by decide) hl rfl rfl hin (by rw [ho]; rfl) (by decide +kernel) rfl rfl (by show 1 < 5; decide) (by rw [ct_o2 hk, up2_rowR]; rfl) (fun k h => ct_R h) hdg kk
theorem g_2_2 {y : Nat} {x index : Nat} (hC : CallFix p m c cc nL s args GW own) (hW : Wd G n ad I L R A H0 H locs s) (hx : x < n) (hk : kd x = (12, 5)) (hl : Cond.fieldLink own index "CoinRows$Sums" "after" "[[J" ∈ GW) (hr : R x 2 = some y) (hdg : decode cc pc = .ok (.getfield index, 3)) (kk : W p l e Rm s m args below meth c H locs cells slots Q (F0 m (pc + 3) ls (.ref (ad y) :: rest))) : W p l e Rm s m args below meth c H locs cells slots Q (F0 m pc ls (.ref (ad x) :: rest)) := q_get (ci := 2) (j := 2) (T := TX2) (N := 5) hC hW hx (ct_o2 hk) rfl u_X2 (by decide) hl rfl (by show some (rfv ad (R x 2)) = _; rw [hr]; rfl) hdg kk
theorem p_2_2 {y : Nat} {x index : Nat} (hC : CallFix p m c cc nL s args GW own) (hW : Wd G n ad I L R A H0 H locs s) (hx : x < n) (hk : kd x = (12, 5)) (hl : Cond.fieldLink own index "CoinRows$Sums" "after" "[[J" ∈ GW) (hin : meth.name = "<init>") (ho : own = "CoinRows$Sums") (hdg : decode cc pc = .ok (.putfield index, 3)) (kk : ∀ (H1 : Heap) (locs1 : List Loc), Wd G n ad I L (up2 R x 2 (some y)) A H0 H1 locs1 s → W p l e Rm s m args below meth c H1 locs1 cells slots Q (F0 m (pc + 3) ls rest)) : W p l e Rm s m args below meth c H locs cells slots Q (F0 m pc ls (.ref (ad y) :: .ref (ad x) :: rest)) := q_putF (ci := 2) (j := 2) (T := TX2) (N := 5) (ty := .array (.array .long)) (v := .ref (ad y)) hC hW hx (ct_o2 hk) rfl u_X2 tyX2_ok nmX2 (by decide) hl rfl rfl hin (by rw [ho]; rfl) (by decide +kernel) rfl rfl (by show 2 < 5; decide) (by rw [ct_o2 hk, up2_rowR]; rfl) (fun k h => ct_R h) hdg kk
theorem g_2_3 {y : Nat} {x index : Nat} (hC : CallFix p m c cc nL s args GW own) (hW : Wd G n ad I L R A H0 H locs s) (hx : x < n) (hk : kd x = (12, 5)) (hl : Cond.fieldLink own index "CoinRows$Sums" "best" "[[J" ∈ GW) (hr : R x 3 = some y) (hdg : decode cc pc = .ok (.getfield index, 3)) (kk : W p l e Rm s m args below meth c H locs cells slots Q (F0 m (pc + 3) ls (.ref (ad y) :: rest))) : W p l e Rm s m args below meth c H locs cells slots Q (F0 m pc ls (.ref (ad x) :: rest)) := q_get (ci := 2) (j := 3) (T := TX2) (N := 5) hC hW hx (ct_o2 hk) rfl u_X2 (by decide) hl rfl (by show some (rfv ad (R x 3)) = _; rw [hr]; rfl) hdg kk
theorem p_2_3 {y : Nat} {x index : Nat} (hC : CallFix p m c cc nL s args GW own) (hW : Wd G n ad I L R A H0 H locs s) (hx : x < n) (hk : kd x = (12, 5)) (hl : Cond.fieldLink own index "CoinRows$Sums" "best" "[[J" ∈ GW) (hin : meth.name = "<init>") (ho : own = "CoinRows$Sums") (hdg : decode cc pc = .ok (.putfield index, 3)) (kk : ∀ (H1 : Heap) (locs1 : List Loc), Wd G n ad I L (up2 R x 3 (some y)) A H0 H1 locs1 s → W p l e Rm s m args below meth c H1 locs1 cells slots Q (F0 m (pc + 3) ls rest)) : W p l e Rm s m args below meth c H locs cells slots Q (F0 m pc ls (.ref (ad y) :: .ref (ad x) :: rest)) := q_putF (ci := 2) (j := 3) (T := TX2) (N := 5) (ty := .array (.array .long)) (v := .ref (ad y)) hC hW hx (ct_o2 hk) rfl u_X2 tyX2_ok nmX2 (by decide) hl rfl rfl hin (by rw [ho]; rfl) (by decide +kernel) rfl rfl (by show 3 < 5; decide) (by rw [ct_o2 hk, up2_rowR]; rfl) (fun k h => ct_R h) hdg kk
theorem g_2_4 {y : Nat} {x index : Nat} (hC : CallFix p m c cc nL s args GW own) (hW : Wd G n ad I L R A H0 H locs s) (hx : x < n) (hk : kd x = (12, 5)) (hl : Cond.fieldLink own index "CoinRows$Sums" "rests" "[[I" ∈ GW) (hr : R x 4 = some y) (hdg : decode cc pc = .ok (.getfield index, 3)) (kk : W p l e Rm s m args below meth c H locs cells slots Q (F0 m (pc + 3) ls (.ref (ad y) :: rest))) : W p l e Rm s m args below meth c H locs cells slots Q (F0 m pc ls (.ref (ad x) :: rest)) := q_get (ci := 2) (j := 4) (T := TX2) (N := 5) hC hW hx (ct_o2 hk) rfl u_X2 (by decide) hl rfl (by show some (rfv ad (R x 4)) = _; rw [hr]; rfl) hdg kk
theorem p_2_4 {y : Nat} {x index : Nat} (hC : CallFix p m c cc nL s args GW own) (hW : Wd G n ad I L R A H0 H locs s) (hx : x < n) (hk : kd x = (12, 5)) (hl : Cond.fieldLink own index "CoinRows$Sums" "rests" "[[I" ∈ GW) (hin : meth.name = "<init>") (ho : own = "CoinRows$Sums") (hdg : decode cc pc = .ok (.putfield index, 3)) (kk : ∀ (H1 : Heap) (locs1 : List Loc), Wd G n ad I L (up2 R x 4 (some y)) A H0 H1 locs1 s → W p l e Rm s m args below meth c H1 locs1 cells slots Q (F0 m (pc + 3) ls rest)) : W p l e Rm s m args below meth c H locs cells slots Q (F0 m pc ls (.ref (ad y) :: .ref (ad x) :: rest)) := q_putF (ci := 2) (j := 4) (T := TX2) (N := 5) (ty := .array (.array .int)) (v := .ref (ad y)) hC hW hx (ct_o2 hk) rfl u_X2 tyX2_ok nmX2 (by decide) hl rfl rfl hin (by rw [ho]; rfl) (by decide +kernel) rfl rfl (by show 4 < 5; decide) (by rw [ct_o2 hk, up2_rowR]; rfl) (fun k h => ct_R h) hdg kk
theorem ct_o3 {x : Nat} (hk : kd x = (13, 1)) : ct G ad I L R x = .inr (3, flds ad (I x) (L x) (R x) 13) := by rw [ct_arr hk]; rfl
theorem g_3_0 {y : Nat} {x index : Nat} (hC : CallFix p m c cc nL s args GW own) (hW : Wd G n ad I L R A H0 H locs s) (hx : x < n) (hk : kd x = (13, 1)) (hl : Cond.fieldLink own index "CoinRows$Trainer" "expectations" "[J" ∈ GW) (hr : R x 0 = some y) (hdg : decode cc pc = .ok (.getfield index, 3)) (kk : W p l e Rm s m args below meth c H locs cells slots Q (F0 m (pc + 3) ls (.ref (ad y) :: rest))) : W p l e Rm s m args below meth c H locs cells slots Q (F0 m pc ls (.ref (ad x) :: rest)) := q_get (ci := 3) (j := 0) (T := TX3) (N := 1) hC hW hx (ct_o3 hk) rfl u_X3 (by decide) hl rfl (by show some (rfv ad (R x 0)) = _; rw [hr]; rfl) hdg kk
theorem p_3_0 {y : Nat} {x index : Nat} (hC : CallFix p m c cc nL s args GW own) (hW : Wd G n ad I L R A H0 H locs s) (hx : x < n) (hk : kd x = (13, 1)) (hl : Cond.fieldLink own index "CoinRows$Trainer" "expectations" "[J" ∈ GW) (hin : meth.name = "<init>") (ho : own = "CoinRows$Trainer") (hdg : decode cc pc = .ok (.putfield index, 3)) (kk : ∀ (H1 : Heap) (locs1 : List Loc), Wd G n ad I L (up2 R x 0 (some y)) A H0 H1 locs1 s → W p l e Rm s m args below meth c H1 locs1 cells slots Q (F0 m (pc + 3) ls rest)) : W p l e Rm s m args below meth c H locs cells slots Q (F0 m pc ls (.ref (ad y) :: .ref (ad x) :: rest)) := q_putF (ci := 3) (j := 0) (T := TX3) (N := 1) (ty := .array .long) (v := .ref (ad y)) hC hW hx (ct_o3 hk) rfl u_X3 tyX3_ok nmX3 (by decide) hl rfl rfl hin (by rw [ho]; rfl) (by decide +kernel) rfl rfl (by show 0 < 1; decide) (by rw [ct_o3 hk, up2_rowR]; rfl) (fun k h => ct_R h) hdg kk
theorem ct_o4 {x : Nat} (hk : kd x = (14, 4)) : ct G ad I L R x = .inr (4, flds ad (I x) (L x) (R x) 14) := by rw [ct_arr hk]; rfl
theorem g_4_0 {y : Nat} {x index : Nat} (hC : CallFix p m c cc nL s args GW own) (hW : Wd G n ad I L R A H0 H locs s) (hx : x < n) (hk : kd x = (14, 4)) (hl : Cond.fieldLink own index "CoinRows$Walk" "coins" "[I" ∈ GW) (hr : R x 0 = some y) (hdg : decode cc pc = .ok (.getfield index, 3)) (kk : W p l e Rm s m args below meth c H locs cells slots Q (F0 m (pc + 3) ls (.ref (ad y) :: rest))) : W p l e Rm s m args below meth c H locs cells slots Q (F0 m pc ls (.ref (ad x) :: rest)) := q_get (ci := 4) (j := 0) (T := TX4) (N := 4) hC hW hx (ct_o4 hk) rfl u_X4 (by decide) hl rfl (by show some (rfv ad (R x 0)) = _; rw [hr]; rfl) hdg kk
theorem p_4_0 {y : Nat} {x index : Nat} (hC : CallFix p m c cc nL s args GW own) (hW : Wd G n ad I L R A H0 H locs s) (hx : x < n) (hk : kd x = (14, 4)) (hl : Cond.fieldLink own index "CoinRows$Walk" "coins" "[I" ∈ GW) (hin : meth.name = "<init>") (ho : own = "CoinRows$Walk") (hdg : decode cc pc = .ok (.putfield index, 3)) (kk : ∀ (H1 : Heap) (locs1 : List Loc), Wd G n ad I L (up2 R x 0 (some y)) A H0 H1 locs1 s → W p l e Rm s m args below meth c H1 locs1 cells slots Q (F0 m (pc + 3) ls rest)) : W p l e Rm s m args below meth c H locs cells slots Q (F0 m pc ls (.ref (ad y) :: .ref (ad x) :: rest)) := q_putF (ci := 4) (j := 0) (T := TX4) (N := 4) (ty := .array .int) (v := .ref (ad y)) hC hW hx (ct_o4 hk) rfl u_X4 tyX4_ok nmX4 (by decide) hl rfl rfl hin (by rw [ho]; rfl) (by decide +kernel) rfl rfl (by show 0 < 4; decide) (by rw [ct_o4 hk, up2_rowR]; rfl) (fun k h => ct_R h) hdg kk
theorem g_4_1 {x index : Nat} (hC : CallFix p m c cc nL s args GW own) (hW : Wd G n ad I L R A H0 H locs s) (hx : x < n) (hk : kd x = (14, 4)) (hl : Cond.fieldLink own index "CoinRows$Walk" "size" "I" ∈ GW) (hdg : decode cc pc = .ok (.getfield index, 3)) (kk : W p l e Rm s m args below meth c H locs cells slots Q (F0 m (pc + 3) ls (.int (I x 1) :: rest))) : W p l e Rm s m args below meth c H locs cells slots Q (F0 m pc ls (.ref (ad x) :: rest)) := q_get (ci := 4) (j := 1) (T := TX4) (N := 4) hC hW hx (ct_o4 hk) rfl u_X4 (by decide) hl rfl rfl hdg kk
theorem p_4_1 {v : Int32} {x index : Nat} (hC : CallFix p m c cc nL s args GW own) (hW : Wd G n ad I L R A H0 H locs s) (hx : x < n) (hk : kd x = (14, 4)) (hl : Cond.fieldLink own index "CoinRows$Walk" "size" "I" ∈ GW) (hdg : decode cc pc = .ok (.putfield index, 3)) (kk : ∀ (H1 : Heap) (locs1 : List Loc), Wd G n ad (up2 I x 1 v) L R A H0 H1 locs1 s → W p l e Rm s m args below meth c H1 locs1 cells slots Q (F0 m (pc + 3) ls rest)) : W p l e Rm s m args below meth c H locs cells slots Q (F0 m pc ls (.int v :: .ref (ad x) :: rest)) := q_put (ci := 4) (j := 1) (T := TX4) (N := 4) (ty := .int) (v := .int v) hC hW hx (ct_o4 hk) rfl u_X4 tyX4_ok nmX4 (by decide) hl rfl rfl (by decide +kernel) rfl rfl (by show 1 < 4; decide) (by rw [ct_o4 hk, up2_rowI]; rfl) (fun k h => ct_I h) hdg kk
theorem g_4_2 {x index : Nat} (hC : CallFix p m c cc nL s args GW own) (hW : Wd G n ad I L R A H0 H locs s) (hx : x < n) (hk : kd x = (14, 4)) (hl : Cond.fieldLink own index "CoinRows$Walk" "product" "J" ∈ GW) (hdg : decode cc pc = .ok (.getfield index, 3)) (kk : W p l e Rm s m args below meth c H locs cells slots Q (F0 m (pc + 3) ls (.long (L x 2) :: rest))) : W p l e Rm s m args below meth c H locs cells slots Q (F0 m pc ls (.ref (ad x) :: rest)) := q_get (ci := 4) (j := 2) (T := TX4) (N := 4) hC hW hx (ct_o4 hk) rfl u_X4 (by decide) hl rfl rfl hdg kk
theorem p_4_2 {v : Int64} {x index : Nat} (hC : CallFix p m c cc nL s args GW own) (hW : Wd G n ad I L R A H0 H locs s) (hx : x < n) (hk : kd x = (14, 4)) (hl : Cond.fieldLink own index "CoinRows$Walk" "product" "J" ∈ GW) (hdg : decode cc pc = .ok (.putfield index, 3)) (kk : ∀ (H1 : Heap) (locs1 : List Loc), Wd G n ad I (up2 L x 2 v) R A H0 H1 locs1 s → W p l e Rm s m args below meth c H1 locs1 cells slots Q (F0 m (pc + 3) ls rest)) : W p l e Rm s m args below meth c H locs cells slots Q (F0 m pc ls (.long v :: .ref (ad x) :: rest)) := q_put (ci := 4) (j := 2) (T := TX4) (N := 4) (ty := .long) (v := .long v) hC hW hx (ct_o4 hk) rfl u_X4 tyX4_ok nmX4 (by decide) hl rfl rfl (by decide +kernel) rfl rfl (by show 2 < 4; decide) (by rw [ct_o4 hk, up2_rowL]; rfl) (fun k h => ct_L h) hdg kk
theorem g_4_3 {x index : Nat} (hC : CallFix p m c cc nL s args GW own) (hW : Wd G n ad I L R A H0 H locs s) (hx : x < n) (hk : kd x = (14, 4)) (hl : Cond.fieldLink own index "CoinRows$Walk" "skipped" "I" ∈ GW) (hdg : decode cc pc = .ok (.getfield index, 3)) (kk : W p l e Rm s m args below meth c H locs cells slots Q (F0 m (pc + 3) ls (.int (I x 3) :: rest))) : W p l e Rm s m args below meth c H locs cells slots Q (F0 m pc ls (.ref (ad x) :: rest)) := q_get (ci := 4) (j := 3) (T := TX4) (N := 4) hC hW hx (ct_o4 hk) rfl u_X4 (by decide) hl rfl rfl hdg kk
theorem p_4_3 {v : Int32} {x index : Nat} (hC : CallFix p m c cc nL s args GW own) (hW : Wd G n ad I L R A H0 H locs s) (hx : x < n) (hk : kd x = (14, 4)) (hl : Cond.fieldLink own index "CoinRows$Walk" "skipped" "I" ∈ GW) (hdg : decode cc pc = .ok (.putfield index, 3)) (kk : ∀ (H1 : Heap) (locs1 : List Loc), Wd G n ad (up2 I x 3 v) L R A H0 H1 locs1 s → W p l e Rm s m args below meth c H1 locs1 cells slots Q (F0 m (pc + 3) ls rest)) : W p l e Rm s m args below meth c H locs cells slots Q (F0 m pc ls (.int v :: .ref (ad x) :: rest)) := q_put (ci := 4) (j := 3) (T := TX4) (N := 4) (ty := .int) (v := .int v) hC hW hx (ct_o4 hk) rfl u_X4 tyX4_ok nmX4 (by decide) hl rfl rfl (by decide +kernel) rfl rfl (by show 3 < 4; decide) (by rw [ct_o4 hk, up2_rowI]; rfl) (fun k h => ct_I h) hdg kk
theorem ct_o5 {x : Nat} (hk : kd x = (15, 8)) : ct G ad I L R x = .inr (5, flds ad (I x) (L x) (R x) 15) := by rw [ct_arr hk]; rfl
theorem g_5_0 {y : Nat} {x index : Nat} (hC : CallFix p m c cc nL s args GW own) (hW : Wd G n ad I L R A H0 H locs s) (hx : x < n) (hk : kd x = (15, 8)) (hl : Cond.fieldLink own index "CoinRows" "model" "LCoinRows$Model;" ∈ GW) (hr : R x 0 = some y) (hdg : decode cc pc = .ok (.getfield index, 3)) (kk : W p l e Rm s m args below meth c H locs cells slots Q (F0 m (pc + 3) ls (.ref (ad y) :: rest))) : W p l e Rm s m args below meth c H locs cells slots Q (F0 m pc ls (.ref (ad x) :: rest)) := q_get (ci := 5) (j := 0) (T := TX5) (N := 8) hC hW hx (ct_o5 hk) rfl u_X5 (by decide) hl rfl (by show some (rfv ad (R x 0)) = _; rw [hr]; rfl) hdg kk
theorem p_5_0 {y : Nat} {x index : Nat} (hC : CallFix p m c cc nL s args GW own) (hW : Wd G n ad I L R A H0 H locs s) (hx : x < n) (hk : kd x = (15, 8)) (hl : Cond.fieldLink own index "CoinRows" "model" "LCoinRows$Model;" ∈ GW) (hin : meth.name = "<init>") (ho : own = "CoinRows") (hdg : decode cc pc = .ok (.putfield index, 3)) (kk : ∀ (H1 : Heap) (locs1 : List Loc), Wd G n ad I L (up2 R x 0 (some y)) A H0 H1 locs1 s → W p l e Rm s m args below meth c H1 locs1 cells slots Q (F0 m (pc + 3) ls rest)) : W p l e Rm s m args below meth c H locs cells slots Q (F0 m pc ls (.ref (ad y) :: .ref (ad x) :: rest)) := q_putF (ci := 5) (j := 0) (T := TX5) (N := 8) (ty := .object "CoinRows$Model") (v := .ref (ad y)) hC hW hx (ct_o5 hk) rfl u_X5 tyX5_ok nmX5 (by decide) hl rfl rfl hin (by rw [ho]; rfl) (by decide +kernel) rfl rfl (by show 0 < 8; decide) (by rw [ct_o5 hk, up2_rowR]; rfl) (fun k h => ct_R h) hdg kk
theorem g_5_1 {y : Nat} {x index : Nat} (hC : CallFix p m c cc nL s args GW own) (hW : Wd G n ad I L R A H0 H locs s) (hx : x < n) (hk : kd x = (15, 8)) (hl : Cond.fieldLink own index "CoinRows" "history" "[LCoinRows$Model;" ∈ GW) (hr : R x 1 = some y) (hdg : decode cc pc = .ok (.getfield index, 3)) (kk : W p l e Rm s m args below meth c H locs cells slots Q (F0 m (pc + 3) ls (.ref (ad y) :: rest))) : W p l e Rm s m args below meth c H locs cells slots Q (F0 m pc ls (.ref (ad x) :: rest)) := q_get (ci := 5) (j := 1) (T := TX5) (N := 8) hC hW hx (ct_o5 hk) rfl u_X5 (by decide) hl rfl (by show some (rfv ad (R x 1)) = _; rw [hr]; rfl) hdg kk
theorem p_5_1 {y : Nat} {x index : Nat} (hC : CallFix p m c cc nL s args GW own) (hW : Wd G n ad I L R A H0 H locs s) (hx : x < n) (hk : kd x = (15, 8)) (hl : Cond.fieldLink own index "CoinRows" "history" "[LCoinRows$Model;" ∈ GW) (hin : meth.name = "<init>") (ho : own = "CoinRows") (hdg : decode cc pc = .ok (.putfield index, 3)) (kk : ∀ (H1 : Heap) (locs1 : List Loc), Wd G n ad I L (up2 R x 1 (some y)) A H0 H1 locs1 s → W p l e Rm s m args below meth c H1 locs1 cells slots Q (F0 m (pc + 3) ls rest)) : W p l e Rm s m args below meth c H locs cells slots Q (F0 m pc ls (.ref (ad y) :: .ref (ad x) :: rest)) := q_putF (ci := 5) (j := 1) (T := TX5) (N := 8) (ty := .array (.object "CoinRows$Model")) (v := .ref (ad y)) hC hW hx (ct_o5 hk) rfl u_X5 tyX5_ok nmX5 (by decide) hl rfl rfl hin (by rw [ho]; rfl) (by decide +kernel) rfl rfl (by show 1 < 8; decide) (by rw [ct_o5 hk, up2_rowR]; rfl) (fun k h => ct_R h) hdg kk
theorem g_5_2 {x index : Nat} (hC : CallFix p m c cc nL s args GW own) (hW : Wd G n ad I L R A H0 H locs s) (hx : x < n) (hk : kd x = (15, 8)) (hl : Cond.fieldLink own index "CoinRows" "remembered" "I" ∈ GW) (hdg : decode cc pc = .ok (.getfield index, 3)) (kk : W p l e Rm s m args below meth c H locs cells slots Q (F0 m (pc + 3) ls (.int (I x 2) :: rest))) : W p l e Rm s m args below meth c H locs cells slots Q (F0 m pc ls (.ref (ad x) :: rest)) := q_get (ci := 5) (j := 2) (T := TX5) (N := 8) hC hW hx (ct_o5 hk) rfl u_X5 (by decide) hl rfl rfl hdg kk
theorem p_5_2 {v : Int32} {x index : Nat} (hC : CallFix p m c cc nL s args GW own) (hW : Wd G n ad I L R A H0 H locs s) (hx : x < n) (hk : kd x = (15, 8)) (hl : Cond.fieldLink own index "CoinRows" "remembered" "I" ∈ GW) (hdg : decode cc pc = .ok (.putfield index, 3)) (kk : ∀ (H1 : Heap) (locs1 : List Loc), Wd G n ad (up2 I x 2 v) L R A H0 H1 locs1 s → W p l e Rm s m args below meth c H1 locs1 cells slots Q (F0 m (pc + 3) ls rest)) : W p l e Rm s m args below meth c H locs cells slots Q (F0 m pc ls (.int v :: .ref (ad x) :: rest)) := q_put (ci := 5) (j := 2) (T := TX5) (N := 8) (ty := .int) (v := .int v) hC hW hx (ct_o5 hk) rfl u_X5 tyX5_ok nmX5 (by decide) hl rfl rfl (by decide +kernel) rfl rfl (by show 2 < 8; decide) (by rw [ct_o5 hk, up2_rowI]; rfl) (fun k h => ct_I h) hdg kk
theorem g_5_3 {y : Nat} {x index : Nat} (hC : CallFix p m c cc nL s args GW own) (hW : Wd G n ad I L R A H0 H locs s) (hx : x < n) (hk : kd x = (15, 8)) (hl : Cond.fieldLink own index "CoinRows" "slots" "[LCoinRows$Model;" ∈ GW) (hr : R x 3 = some y) (hdg : decode cc pc = .ok (.getfield index, 3)) (kk : W p l e Rm s m args below meth c H locs cells slots Q (F0 m (pc + 3) ls (.ref (ad y) :: rest))) : W p l e Rm s m args below meth c H locs cells slots Q (F0 m pc ls (.ref (ad x) :: rest)) := q_get (ci := 5) (j := 3) (T := TX5) (N := 8) hC hW hx (ct_o5 hk) rfl u_X5 (by decide) hl rfl (by show some (rfv ad (R x 3)) = _; rw [hr]; rfl) hdg kk
theorem p_5_3 {y : Nat} {x index : Nat} (hC : CallFix p m c cc nL s args GW own) (hW : Wd G n ad I L R A H0 H locs s) (hx : x < n) (hk : kd x = (15, 8)) (hl : Cond.fieldLink own index "CoinRows" "slots" "[LCoinRows$Model;" ∈ GW) (hin : meth.name = "<init>") (ho : own = "CoinRows") (hdg : decode cc pc = .ok (.putfield index, 3)) (kk : ∀ (H1 : Heap) (locs1 : List Loc), Wd G n ad I L (up2 R x 3 (some y)) A H0 H1 locs1 s → W p l e Rm s m args below meth c H1 locs1 cells slots Q (F0 m (pc + 3) ls rest)) : W p l e Rm s m args below meth c H locs cells slots Q (F0 m pc ls (.ref (ad y) :: .ref (ad x) :: rest)) := q_putF (ci := 5) (j := 3) (T := TX5) (N := 8) (ty := .array (.object "CoinRows$Model")) (v := .ref (ad y)) hC hW hx (ct_o5 hk) rfl u_X5 tyX5_ok nmX5 (by decide) hl rfl rfl hin (by rw [ho]; rfl) (by decide +kernel) rfl rfl (by show 3 < 8; decide) (by rw [ct_o5 hk, up2_rowR]; rfl) (fun k h => ct_R h) hdg kk
theorem g_5_4 {y : Nat} {x index : Nat} (hC : CallFix p m c cc nL s args GW own) (hW : Wd G n ad I L R A H0 H locs s) (hx : x < n) (hk : kd x = (15, 8)) (hl : Cond.fieldLink own index "CoinRows" "pad" "LCoinRows$Pad;" ∈ GW) (hr : R x 4 = some y) (hdg : decode cc pc = .ok (.getfield index, 3)) (kk : W p l e Rm s m args below meth c H locs cells slots Q (F0 m (pc + 3) ls (.ref (ad y) :: rest))) : W p l e Rm s m args below meth c H locs cells slots Q (F0 m pc ls (.ref (ad x) :: rest)) := q_get (ci := 5) (j := 4) (T := TX5) (N := 8) hC hW hx (ct_o5 hk) rfl u_X5 (by decide) hl rfl (by show some (rfv ad (R x 4)) = _; rw [hr]; rfl) hdg kk
theorem p_5_4 {y : Nat} {x index : Nat} (hC : CallFix p m c cc nL s args GW own) (hW : Wd G n ad I L R A H0 H locs s) (hx : x < n) (hk : kd x = (15, 8)) (hl : Cond.fieldLink own index "CoinRows" "pad" "LCoinRows$Pad;" ∈ GW) (hin : meth.name = "<init>") (ho : own = "CoinRows") (hdg : decode cc pc = .ok (.putfield index, 3)) (kk : ∀ (H1 : Heap) (locs1 : List Loc), Wd G n ad I L (up2 R x 4 (some y)) A H0 H1 locs1 s → W p l e Rm s m args below meth c H1 locs1 cells slots Q (F0 m (pc + 3) ls rest)) : W p l e Rm s m args below meth c H locs cells slots Q (F0 m pc ls (.ref (ad y) :: .ref (ad x) :: rest)) := q_putF (ci := 5) (j := 4) (T := TX5) (N := 8) (ty := .object "CoinRows$Pad") (v := .ref (ad y)) hC hW hx (ct_o5 hk) rfl u_X5 tyX5_ok nmX5 (by decide) hl rfl rfl hin (by rw [ho]; rfl) (by decide +kernel) rfl rfl (by show 4 < 8; decide) (by rw [ct_o5 hk, up2_rowR]; rfl) (fun k h => ct_R h) hdg kk
theorem g_5_5 {y : Nat} {x index : Nat} (hC : CallFix p m c cc nL s args GW own) (hW : Wd G n ad I L R A H0 H locs s) (hx : x < n) (hk : kd x = (15, 8)) (hl : Cond.fieldLink own index "CoinRows" "sums" "LCoinRows$Sums;" ∈ GW) (hr : R x 5 = some y) (hdg : decode cc pc = .ok (.getfield index, 3)) (kk : W p l e Rm s m args below meth c H locs cells slots Q (F0 m (pc + 3) ls (.ref (ad y) :: rest))) : W p l e Rm s m args below meth c H locs cells slots Q (F0 m pc ls (.ref (ad x) :: rest)) := q_get (ci := 5) (j := 5) (T := TX5) (N := 8) hC hW hx (ct_o5 hk) rfl u_X5 (by decide) hl rfl (by show some (rfv ad (R x 5)) = _; rw [hr]; rfl) hdg kk
theorem p_5_5 {y : Nat} {x index : Nat} (hC : CallFix p m c cc nL s args GW own) (hW : Wd G n ad I L R A H0 H locs s) (hx : x < n) (hk : kd x = (15, 8)) (hl : Cond.fieldLink own index "CoinRows" "sums" "LCoinRows$Sums;" ∈ GW) (hin : meth.name = "<init>") (ho : own = "CoinRows") (hdg : decode cc pc = .ok (.putfield index, 3)) (kk : ∀ (H1 : Heap) (locs1 : List Loc), Wd G n ad I L (up2 R x 5 (some y)) A H0 H1 locs1 s → W p l e Rm s m args below meth c H1 locs1 cells slots Q (F0 m (pc + 3) ls rest)) : W p l e Rm s m args below meth c H locs cells slots Q (F0 m pc ls (.ref (ad y) :: .ref (ad x) :: rest)) := q_putF (ci := 5) (j := 5) (T := TX5) (N := 8) (ty := .object "CoinRows$Sums") (v := .ref (ad y)) hC hW hx (ct_o5 hk) rfl u_X5 tyX5_ok nmX5 (by decide) hl rfl rfl hin (by rw [ho]; rfl) (by decide +kernel) rfl rfl (by show 5 < 8; decide) (by rw [ct_o5 hk, up2_rowR]; rfl) (fun k h => ct_R h) hdg kk
theorem g_5_6 {y : Nat} {x index : Nat} (hC : CallFix p m c cc nL s args GW own) (hW : Wd G n ad I L R A H0 H locs s) (hx : x < n) (hk : kd x = (15, 8)) (hl : Cond.fieldLink own index "CoinRows" "walk" "LCoinRows$Walk;" ∈ GW) (hr : R x 6 = some y) (hdg : decode cc pc = .ok (.getfield index, 3)) (kk : W p l e Rm s m args below meth c H locs cells slots Q (F0 m (pc + 3) ls (.ref (ad y) :: rest))) : W p l e Rm s m args below meth c H locs cells slots Q (F0 m pc ls (.ref (ad x) :: rest)) := q_get (ci := 5) (j := 6) (T := TX5) (N := 8) hC hW hx (ct_o5 hk) rfl u_X5 (by decide) hl rfl (by show some (rfv ad (R x 6)) = _; rw [hr]; rfl) hdg kk
theorem p_5_6 {y : Nat} {x index : Nat} (hC : CallFix p m c cc nL s args GW own) (hW : Wd G n ad I L R A H0 H locs s) (hx : x < n) (hk : kd x = (15, 8)) (hl : Cond.fieldLink own index "CoinRows" "walk" "LCoinRows$Walk;" ∈ GW) (hin : meth.name = "<init>") (ho : own = "CoinRows") (hdg : decode cc pc = .ok (.putfield index, 3)) (kk : ∀ (H1 : Heap) (locs1 : List Loc), Wd G n ad I L (up2 R x 6 (some y)) A H0 H1 locs1 s → W p l e Rm s m args below meth c H1 locs1 cells slots Q (F0 m (pc + 3) ls rest)) : W p l e Rm s m args below meth c H locs cells slots Q (F0 m pc ls (.ref (ad y) :: .ref (ad x) :: rest)) := q_putF (ci := 5) (j := 6) (T := TX5) (N := 8) (ty := .object "CoinRows$Walk") (v := .ref (ad y)) hC hW hx (ct_o5 hk) rfl u_X5 tyX5_ok nmX5 (by decide) hl rfl rfl hin (by rw [ho]; rfl) (by decide +kernel) rfl rfl (by show 6 < 8; decide) (by rw [ct_o5 hk, up2_rowR]; rfl) (fun k h => ct_R h) hdg kk
theorem g_5_7 {y : Nat} {x index : Nat} (hC : CallFix p m c cc nL s args GW own) (hW : Wd G n ad I L R A H0 H locs s) (hx : x < n) (hk : kd x = (15, 8)) (hl : Cond.fieldLink own index "CoinRows" "trainer" "LCoinRows$Trainer;" ∈ GW) (hr : R x 7 = some y) (hdg : decode cc pc = .ok (.getfield index, 3)) (kk : W p l e Rm s m args below meth c H locs cells slots Q (F0 m (pc + 3) ls (.ref (ad y) :: rest))) : W p l e Rm s m args below meth c H locs cells slots Q (F0 m pc ls (.ref (ad x) :: rest)) := q_get (ci := 5) (j := 7) (T := TX5) (N := 8) hC hW hx (ct_o5 hk) rfl u_X5 (by decide) hl rfl (by show some (rfv ad (R x 7)) = _; rw [hr]; rfl) hdg kk
theorem p_5_7 {y : Nat} {x index : Nat} (hC : CallFix p m c cc nL s args GW own) (hW : Wd G n ad I L R A H0 H locs s) (hx : x < n) (hk : kd x = (15, 8)) (hl : Cond.fieldLink own index "CoinRows" "trainer" "LCoinRows$Trainer;" ∈ GW) (hin : meth.name = "<init>") (ho : own = "CoinRows") (hdg : decode cc pc = .ok (.putfield index, 3)) (kk : ∀ (H1 : Heap) (locs1 : List Loc), Wd G n ad I L (up2 R x 7 (some y)) A H0 H1 locs1 s → W p l e Rm s m args below meth c H1 locs1 cells slots Q (F0 m (pc + 3) ls rest)) : W p l e Rm s m args below meth c H locs cells slots Q (F0 m pc ls (.ref (ad y) :: .ref (ad x) :: rest)) := q_putF (ci := 5) (j := 7) (T := TX5) (N := 8) (ty := .object "CoinRows$Trainer") (v := .ref (ad y)) hC hW hx (ct_o5 hk) rfl u_X5 tyX5_ok nmX5 (by decide) hl rfl rfl hin (by rw [ho]; rfl) (by decide +kernel) rfl rfl (by show 7 < 8; decide) (by rw [ct_o5 hk, up2_rowR]; rfl) (fun k h => ct_R h) hdg kk
theorem ct_o6 {x : Nat} (hk : kd x = (16, 16)) : ct G ad I L R x = .inr (6, flds ad (I x) (L x) (R x) 16) := by rw [ct_arr hk]; rfl
theorem g_6_0 {y : Nat} {x index : Nat} (hC : CallFix p m c cc nL s args GW own) (hW : Wd G n ad I L R A H0 H locs s) (hx : x < n) (hk : kd x = (16, 16)) (hl : Cond.fieldLink own index "CoinRowsModel" "now" "[I" ∈ GW) (hr : R x 0 = some y) (hdg : decode cc pc = .ok (.getfield index, 3)) (kk : W p l e Rm s m args below meth c H locs cells slots Q (F0 m (pc + 3) ls (.ref (ad y) :: rest))) : W p l e Rm s m args below meth c H locs cells slots Q (F0 m pc ls (.ref (ad x) :: rest)) := q_get (ci := 6) (j := 0) (T := TX6) (N := 16) hC hW hx (ct_o6 hk) rfl u_X6 (by decide) hl rfl (by show some (rfv ad (R x 0)) = _; rw [hr]; rfl) hdg kk
theorem p_6_0 {y : Nat} {x index : Nat} (hC : CallFix p m c cc nL s args GW own) (hW : Wd G n ad I L R A H0 H locs s) (hx : x < n) (hk : kd x = (16, 16)) (hl : Cond.fieldLink own index "CoinRowsModel" "now" "[I" ∈ GW) (hin : meth.name = "<init>") (ho : own = "CoinRowsModel") (hdg : decode cc pc = .ok (.putfield index, 3)) (kk : ∀ (H1 : Heap) (locs1 : List Loc), Wd G n ad I L (up2 R x 0 (some y)) A H0 H1 locs1 s → W p l e Rm s m args below meth c H1 locs1 cells slots Q (F0 m (pc + 3) ls rest)) : W p l e Rm s m args below meth c H locs cells slots Q (F0 m pc ls (.ref (ad y) :: .ref (ad x) :: rest)) := q_putF (ci := 6) (j := 0) (T := TX6) (N := 16) (ty := .array .int) (v := .ref (ad y)) hC hW hx (ct_o6 hk) rfl u_X6 tyX6_ok nmX6 (by decide) hl rfl rfl hin (by rw [ho]; rfl) (by decide +kernel) rfl rfl (by show 0 < 16; decide) (by rw [ct_o6 hk, up2_rowR]; rfl) (fun k h => ct_R h) hdg kk
theorem g_6_1 {y : Nat} {x index : Nat} (hC : CallFix p m c cc nL s args GW own) (hW : Wd G n ad I L R A H0 H locs s) (hx : x < n) (hk : kd x = (16, 16)) (hl : Cond.fieldLink own index "CoinRowsModel" "history" "[I" ∈ GW) (hr : R x 1 = some y) (hdg : decode cc pc = .ok (.getfield index, 3)) (kk : W p l e Rm s m args below meth c H locs cells slots Q (F0 m (pc + 3) ls (.ref (ad y) :: rest))) : W p l e Rm s m args below meth c H locs cells slots Q (F0 m pc ls (.ref (ad x) :: rest)) := q_get (ci := 6) (j := 1) (T := TX6) (N := 16) hC hW hx (ct_o6 hk) rfl u_X6 (by decide) hl rfl (by show some (rfv ad (R x 1)) = _; rw [hr]; rfl) hdg kk
theorem p_6_1 {y : Nat} {x index : Nat} (hC : CallFix p m c cc nL s args GW own) (hW : Wd G n ad I L R A H0 H locs s) (hx : x < n) (hk : kd x = (16, 16)) (hl : Cond.fieldLink own index "CoinRowsModel" "history" "[I" ∈ GW) (hin : meth.name = "<init>") (ho : own = "CoinRowsModel") (hdg : decode cc pc = .ok (.putfield index, 3)) (kk : ∀ (H1 : Heap) (locs1 : List Loc), Wd G n ad I L (up2 R x 1 (some y)) A H0 H1 locs1 s → W p l e Rm s m args below meth c H1 locs1 cells slots Q (F0 m (pc + 3) ls rest)) : W p l e Rm s m args below meth c H locs cells slots Q (F0 m pc ls (.ref (ad y) :: .ref (ad x) :: rest)) := q_putF (ci := 6) (j := 1) (T := TX6) (N := 16) (ty := .array .int) (v := .ref (ad y)) hC hW hx (ct_o6 hk) rfl u_X6 tyX6_ok nmX6 (by decide) hl rfl rfl hin (by rw [ho]; rfl) (by decide +kernel) rfl rfl (by show 1 < 16; decide) (by rw [ct_o6 hk, up2_rowR]; rfl) (fun k h => ct_R h) hdg kk
theorem g_6_2 {x index : Nat} (hC : CallFix p m c cc nL s args GW own) (hW : Wd G n ad I L R A H0 H locs s) (hx : x < n) (hk : kd x = (16, 16)) (hl : Cond.fieldLink own index "CoinRowsModel" "undos" "I" ∈ GW) (hdg : decode cc pc = .ok (.getfield index, 3)) (kk : W p l e Rm s m args below meth c H locs cells slots Q (F0 m (pc + 3) ls (.int (I x 2) :: rest))) : W p l e Rm s m args below meth c H locs cells slots Q (F0 m pc ls (.ref (ad x) :: rest)) := q_get (ci := 6) (j := 2) (T := TX6) (N := 16) hC hW hx (ct_o6 hk) rfl u_X6 (by decide) hl rfl rfl hdg kk
theorem p_6_2 {v : Int32} {x index : Nat} (hC : CallFix p m c cc nL s args GW own) (hW : Wd G n ad I L R A H0 H locs s) (hx : x < n) (hk : kd x = (16, 16)) (hl : Cond.fieldLink own index "CoinRowsModel" "undos" "I" ∈ GW) (hdg : decode cc pc = .ok (.putfield index, 3)) (kk : ∀ (H1 : Heap) (locs1 : List Loc), Wd G n ad (up2 I x 2 v) L R A H0 H1 locs1 s → W p l e Rm s m args below meth c H1 locs1 cells slots Q (F0 m (pc + 3) ls rest)) : W p l e Rm s m args below meth c H locs cells slots Q (F0 m pc ls (.int v :: .ref (ad x) :: rest)) := q_put (ci := 6) (j := 2) (T := TX6) (N := 16) (ty := .int) (v := .int v) hC hW hx (ct_o6 hk) rfl u_X6 tyX6_ok nmX6 (by decide) hl rfl rfl (by decide +kernel) rfl rfl (by show 2 < 16; decide) (by rw [ct_o6 hk, up2_rowI]; rfl) (fun k h => ct_I h) hdg kk
theorem g_6_3 {y : Nat} {x index : Nat} (hC : CallFix p m c cc nL s args GW own) (hW : Wd G n ad I L R A H0 H locs s) (hx : x < n) (hk : kd x = (16, 16)) (hl : Cond.fieldLink own index "CoinRowsModel" "saved" "[I" ∈ GW) (hr : R x 3 = some y) (hdg : decode cc pc = .ok (.getfield index, 3)) (kk : W p l e Rm s m args below meth c H locs cells slots Q (F0 m (pc + 3) ls (.ref (ad y) :: rest))) : W p l e Rm s m args below meth c H locs cells slots Q (F0 m pc ls (.ref (ad x) :: rest)) := q_get (ci := 6) (j := 3) (T := TX6) (N := 16) hC hW hx (ct_o6 hk) rfl u_X6 (by decide) hl rfl (by show some (rfv ad (R x 3)) = _; rw [hr]; rfl) hdg kk
theorem p_6_3 {y : Nat} {x index : Nat} (hC : CallFix p m c cc nL s args GW own) (hW : Wd G n ad I L R A H0 H locs s) (hx : x < n) (hk : kd x = (16, 16)) (hl : Cond.fieldLink own index "CoinRowsModel" "saved" "[I" ∈ GW) (hin : meth.name = "<init>") (ho : own = "CoinRowsModel") (hdg : decode cc pc = .ok (.putfield index, 3)) (kk : ∀ (H1 : Heap) (locs1 : List Loc), Wd G n ad I L (up2 R x 3 (some y)) A H0 H1 locs1 s → W p l e Rm s m args below meth c H1 locs1 cells slots Q (F0 m (pc + 3) ls rest)) : W p l e Rm s m args below meth c H locs cells slots Q (F0 m pc ls (.ref (ad y) :: .ref (ad x) :: rest)) := q_putF (ci := 6) (j := 3) (T := TX6) (N := 16) (ty := .array .int) (v := .ref (ad y)) hC hW hx (ct_o6 hk) rfl u_X6 tyX6_ok nmX6 (by decide) hl rfl rfl hin (by rw [ho]; rfl) (by decide +kernel) rfl rfl (by show 3 < 16; decide) (by rw [ct_o6 hk, up2_rowR]; rfl) (fun k h => ct_R h) hdg kk
theorem g_6_4 {y : Nat} {x index : Nat} (hC : CallFix p m c cc nL s args GW own) (hW : Wd G n ad I L R A H0 H locs s) (hx : x < n) (hk : kd x = (16, 16)) (hl : Cond.fieldLink own index "CoinRowsModel" "isSaved" "[Z" ∈ GW) (hr : R x 4 = some y) (hdg : decode cc pc = .ok (.getfield index, 3)) (kk : W p l e Rm s m args below meth c H locs cells slots Q (F0 m (pc + 3) ls (.ref (ad y) :: rest))) : W p l e Rm s m args below meth c H locs cells slots Q (F0 m pc ls (.ref (ad x) :: rest)) := q_get (ci := 6) (j := 4) (T := TX6) (N := 16) hC hW hx (ct_o6 hk) rfl u_X6 (by decide) hl rfl (by show some (rfv ad (R x 4)) = _; rw [hr]; rfl) hdg kk
theorem p_6_4 {y : Nat} {x index : Nat} (hC : CallFix p m c cc nL s args GW own) (hW : Wd G n ad I L R A H0 H locs s) (hx : x < n) (hk : kd x = (16, 16)) (hl : Cond.fieldLink own index "CoinRowsModel" "isSaved" "[Z" ∈ GW) (hin : meth.name = "<init>") (ho : own = "CoinRowsModel") (hdg : decode cc pc = .ok (.putfield index, 3)) (kk : ∀ (H1 : Heap) (locs1 : List Loc), Wd G n ad I L (up2 R x 4 (some y)) A H0 H1 locs1 s → W p l e Rm s m args below meth c H1 locs1 cells slots Q (F0 m (pc + 3) ls rest)) : W p l e Rm s m args below meth c H locs cells slots Q (F0 m pc ls (.ref (ad y) :: .ref (ad x) :: rest)) := q_putF (ci := 6) (j := 4) (T := TX6) (N := 16) (ty := .array .boolean) (v := .ref (ad y)) hC hW hx (ct_o6 hk) rfl u_X6 tyX6_ok nmX6 (by decide) hl rfl rfl hin (by rw [ho]; rfl) (by decide +kernel) rfl rfl (by show 4 < 16; decide) (by rw [ct_o6 hk, up2_rowR]; rfl) (fun k h => ct_R h) hdg kk
theorem g_6_5 {y : Nat} {x index : Nat} (hC : CallFix p m c cc nL s args GW own) (hW : Wd G n ad I L R A H0 H locs s) (hx : x < n) (hk : kd x = (16, 16)) (hl : Cond.fieldLink own index "CoinRowsModel" "pad" "[I" ∈ GW) (hr : R x 5 = some y) (hdg : decode cc pc = .ok (.getfield index, 3)) (kk : W p l e Rm s m args below meth c H locs cells slots Q (F0 m (pc + 3) ls (.ref (ad y) :: rest))) : W p l e Rm s m args below meth c H locs cells slots Q (F0 m pc ls (.ref (ad x) :: rest)) := q_get (ci := 6) (j := 5) (T := TX6) (N := 16) hC hW hx (ct_o6 hk) rfl u_X6 (by decide) hl rfl (by show some (rfv ad (R x 5)) = _; rw [hr]; rfl) hdg kk
theorem p_6_5 {y : Nat} {x index : Nat} (hC : CallFix p m c cc nL s args GW own) (hW : Wd G n ad I L R A H0 H locs s) (hx : x < n) (hk : kd x = (16, 16)) (hl : Cond.fieldLink own index "CoinRowsModel" "pad" "[I" ∈ GW) (hin : meth.name = "<init>") (ho : own = "CoinRowsModel") (hdg : decode cc pc = .ok (.putfield index, 3)) (kk : ∀ (H1 : Heap) (locs1 : List Loc), Wd G n ad I L (up2 R x 5 (some y)) A H0 H1 locs1 s → W p l e Rm s m args below meth c H1 locs1 cells slots Q (F0 m (pc + 3) ls rest)) : W p l e Rm s m args below meth c H locs cells slots Q (F0 m pc ls (.ref (ad y) :: .ref (ad x) :: rest)) := q_putF (ci := 6) (j := 5) (T := TX6) (N := 16) (ty := .array .int) (v := .ref (ad y)) hC hW hx (ct_o6 hk) rfl u_X6 tyX6_ok nmX6 (by decide) hl rfl rfl hin (by rw [ho]; rfl) (by decide +kernel) rfl rfl (by show 5 < 16; decide) (by rw [ct_o6 hk, up2_rowR]; rfl) (fun k h => ct_R h) hdg kk
theorem g_6_6 {x index : Nat} (hC : CallFix p m c cc nL s args GW own) (hW : Wd G n ad I L R A H0 H locs s) (hx : x < n) (hk : kd x = (16, 16)) (hl : Cond.fieldLink own index "CoinRowsModel" "signs" "I" ∈ GW) (hdg : decode cc pc = .ok (.getfield index, 3)) (kk : W p l e Rm s m args below meth c H locs cells slots Q (F0 m (pc + 3) ls (.int (I x 6) :: rest))) : W p l e Rm s m args below meth c H locs cells slots Q (F0 m pc ls (.ref (ad x) :: rest)) := q_get (ci := 6) (j := 6) (T := TX6) (N := 16) hC hW hx (ct_o6 hk) rfl u_X6 (by decide) hl rfl rfl hdg kk
theorem p_6_6 {v : Int32} {x index : Nat} (hC : CallFix p m c cc nL s args GW own) (hW : Wd G n ad I L R A H0 H locs s) (hx : x < n) (hk : kd x = (16, 16)) (hl : Cond.fieldLink own index "CoinRowsModel" "signs" "I" ∈ GW) (hdg : decode cc pc = .ok (.putfield index, 3)) (kk : ∀ (H1 : Heap) (locs1 : List Loc), Wd G n ad (up2 I x 6 v) L R A H0 H1 locs1 s → W p l e Rm s m args below meth c H1 locs1 cells slots Q (F0 m (pc + 3) ls rest)) : W p l e Rm s m args below meth c H locs cells slots Q (F0 m pc ls (.int v :: .ref (ad x) :: rest)) := q_put (ci := 6) (j := 6) (T := TX6) (N := 16) (ty := .int) (v := .int v) hC hW hx (ct_o6 hk) rfl u_X6 tyX6_ok nmX6 (by decide) hl rfl rfl (by decide +kernel) rfl rfl (by show 6 < 16; decide) (by rw [ct_o6 hk, up2_rowI]; rfl) (fun k h => ct_I h) hdg kk
theorem g_6_7 {y : Nat} {x index : Nat} (hC : CallFix p m c cc nL s args GW own) (hW : Wd G n ad I L R A H0 H locs s) (hx : x < n) (hk : kd x = (16, 16)) (hl : Cond.fieldLink own index "CoinRowsModel" "ahead" "[J" ∈ GW) (hr : R x 7 = some y) (hdg : decode cc pc = .ok (.getfield index, 3)) (kk : W p l e Rm s m args below meth c H locs cells slots Q (F0 m (pc + 3) ls (.ref (ad y) :: rest))) : W p l e Rm s m args below meth c H locs cells slots Q (F0 m pc ls (.ref (ad x) :: rest)) := q_get (ci := 6) (j := 7) (T := TX6) (N := 16) hC hW hx (ct_o6 hk) rfl u_X6 (by decide) hl rfl (by show some (rfv ad (R x 7)) = _; rw [hr]; rfl) hdg kk
theorem p_6_7 {y : Nat} {x index : Nat} (hC : CallFix p m c cc nL s args GW own) (hW : Wd G n ad I L R A H0 H locs s) (hx : x < n) (hk : kd x = (16, 16)) (hl : Cond.fieldLink own index "CoinRowsModel" "ahead" "[J" ∈ GW) (hin : meth.name = "<init>") (ho : own = "CoinRowsModel") (hdg : decode cc pc = .ok (.putfield index, 3)) (kk : ∀ (H1 : Heap) (locs1 : List Loc), Wd G n ad I L (up2 R x 7 (some y)) A H0 H1 locs1 s → W p l e Rm s m args below meth c H1 locs1 cells slots Q (F0 m (pc + 3) ls rest)) : W p l e Rm s m args below meth c H locs cells slots Q (F0 m pc ls (.ref (ad y) :: .ref (ad x) :: rest)) := q_putF (ci := 6) (j := 7) (T := TX6) (N := 16) (ty := .array .long) (v := .ref (ad y)) hC hW hx (ct_o6 hk) rfl u_X6 tyX6_ok nmX6 (by decide) hl rfl rfl hin (by rw [ho]; rfl) (by decide +kernel) rfl rfl (by show 7 < 16; decide) (by rw [ct_o6 hk, up2_rowR]; rfl) (fun k h => ct_R h) hdg kk
theorem g_6_8 {y : Nat} {x index : Nat} (hC : CallFix p m c cc nL s args GW own) (hW : Wd G n ad I L R A H0 H locs s) (hx : x < n) (hk : kd x = (16, 16)) (hl : Cond.fieldLink own index "CoinRowsModel" "behind" "[J" ∈ GW) (hr : R x 8 = some y) (hdg : decode cc pc = .ok (.getfield index, 3)) (kk : W p l e Rm s m args below meth c H locs cells slots Q (F0 m (pc + 3) ls (.ref (ad y) :: rest))) : W p l e Rm s m args below meth c H locs cells slots Q (F0 m pc ls (.ref (ad x) :: rest)) := q_get (ci := 6) (j := 8) (T := TX6) (N := 16) hC hW hx (ct_o6 hk) rfl u_X6 (by decide) hl rfl (by show some (rfv ad (R x 8)) = _; rw [hr]; rfl) hdg kk
theorem p_6_8 {y : Nat} {x index : Nat} (hC : CallFix p m c cc nL s args GW own) (hW : Wd G n ad I L R A H0 H locs s) (hx : x < n) (hk : kd x = (16, 16)) (hl : Cond.fieldLink own index "CoinRowsModel" "behind" "[J" ∈ GW) (hin : meth.name = "<init>") (ho : own = "CoinRowsModel") (hdg : decode cc pc = .ok (.putfield index, 3)) (kk : ∀ (H1 : Heap) (locs1 : List Loc), Wd G n ad I L (up2 R x 8 (some y)) A H0 H1 locs1 s → W p l e Rm s m args below meth c H1 locs1 cells slots Q (F0 m (pc + 3) ls rest)) : W p l e Rm s m args below meth c H locs cells slots Q (F0 m pc ls (.ref (ad y) :: .ref (ad x) :: rest)) := q_putF (ci := 6) (j := 8) (T := TX6) (N := 16) (ty := .array .long) (v := .ref (ad y)) hC hW hx (ct_o6 hk) rfl u_X6 tyX6_ok nmX6 (by decide) hl rfl rfl hin (by rw [ho]; rfl) (by decide +kernel) rfl rfl (by show 8 < 16; decide) (by rw [ct_o6 hk, up2_rowR]; rfl) (fun k h => ct_R h) hdg kk
theorem g_6_9 {y : Nat} {x index : Nat} (hC : CallFix p m c cc nL s args GW own) (hW : Wd G n ad I L R A H0 H locs s) (hx : x < n) (hk : kd x = (16, 16)) (hl : Cond.fieldLink own index "CoinRowsModel" "many" "[I" ∈ GW) (hr : R x 9 = some y) (hdg : decode cc pc = .ok (.getfield index, 3)) (kk : W p l e Rm s m args below meth c H locs cells slots Q (F0 m (pc + 3) ls (.ref (ad y) :: rest))) : W p l e Rm s m args below meth c H locs cells slots Q (F0 m pc ls (.ref (ad x) :: rest)) := q_get (ci := 6) (j := 9) (T := TX6) (N := 16) hC hW hx (ct_o6 hk) rfl u_X6 (by decide) hl rfl (by show some (rfv ad (R x 9)) = _; rw [hr]; rfl) hdg kk
theorem p_6_9 {y : Nat} {x index : Nat} (hC : CallFix p m c cc nL s args GW own) (hW : Wd G n ad I L R A H0 H locs s) (hx : x < n) (hk : kd x = (16, 16)) (hl : Cond.fieldLink own index "CoinRowsModel" "many" "[I" ∈ GW) (hin : meth.name = "<init>") (ho : own = "CoinRowsModel") (hdg : decode cc pc = .ok (.putfield index, 3)) (kk : ∀ (H1 : Heap) (locs1 : List Loc), Wd G n ad I L (up2 R x 9 (some y)) A H0 H1 locs1 s → W p l e Rm s m args below meth c H1 locs1 cells slots Q (F0 m (pc + 3) ls rest)) : W p l e Rm s m args below meth c H locs cells slots Q (F0 m pc ls (.ref (ad y) :: .ref (ad x) :: rest)) := q_putF (ci := 6) (j := 9) (T := TX6) (N := 16) (ty := .array .int) (v := .ref (ad y)) hC hW hx (ct_o6 hk) rfl u_X6 tyX6_ok nmX6 (by decide) hl rfl rfl hin (by rw [ho]; rfl) (by decide +kernel) rfl rfl (by show 9 < 16; decide) (by rw [ct_o6 hk, up2_rowR]; rfl) (fun k h => ct_R h) hdg kk
theorem g_6_10 {y : Nat} {x index : Nat} (hC : CallFix p m c cc nL s args GW own) (hW : Wd G n ad I L R A H0 H locs s) (hx : x < n) (hk : kd x = (16, 16)) (hl : Cond.fieldLink own index "CoinRowsModel" "heaviest" "[J" ∈ GW) (hr : R x 10 = some y) (hdg : decode cc pc = .ok (.getfield index, 3)) (kk : W p l e Rm s m args below meth c H locs cells slots Q (F0 m (pc + 3) ls (.ref (ad y) :: rest))) : W p l e Rm s m args below meth c H locs cells slots Q (F0 m pc ls (.ref (ad x) :: rest)) := q_get (ci := 6) (j := 10) (T := TX6) (N := 16) hC hW hx (ct_o6 hk) rfl u_X6 (by decide) hl rfl (by show some (rfv ad (R x 10)) = _; rw [hr]; rfl) hdg kk
theorem p_6_10 {y : Nat} {x index : Nat} (hC : CallFix p m c cc nL s args GW own) (hW : Wd G n ad I L R A H0 H locs s) (hx : x < n) (hk : kd x = (16, 16)) (hl : Cond.fieldLink own index "CoinRowsModel" "heaviest" "[J" ∈ GW) (hin : meth.name = "<init>") (ho : own = "CoinRowsModel") (hdg : decode cc pc = .ok (.putfield index, 3)) (kk : ∀ (H1 : Heap) (locs1 : List Loc), Wd G n ad I L (up2 R x 10 (some y)) A H0 H1 locs1 s → W p l e Rm s m args below meth c H1 locs1 cells slots Q (F0 m (pc + 3) ls rest)) : W p l e Rm s m args below meth c H locs cells slots Q (F0 m pc ls (.ref (ad y) :: .ref (ad x) :: rest)) := q_putF (ci := 6) (j := 10) (T := TX6) (N := 16) (ty := .array .long) (v := .ref (ad y)) hC hW hx (ct_o6 hk) rfl u_X6 tyX6_ok nmX6 (by decide) hl rfl rfl hin (by rw [ho]; rfl) (by decide +kernel) rfl rfl (by show 10 < 16; decide) (by rw [ct_o6 hk, up2_rowR]; rfl) (fun k h => ct_R h) hdg kk
theorem g_6_11 {y : Nat} {x index : Nat} (hC : CallFix p m c cc nL s args GW own) (hW : Wd G n ad I L R A H0 H locs s) (hx : x < n) (hk : kd x = (16, 16)) (hl : Cond.fieldLink own index "CoinRowsModel" "coins" "[I" ∈ GW) (hr : R x 11 = some y) (hdg : decode cc pc = .ok (.getfield index, 3)) (kk : W p l e Rm s m args below meth c H locs cells slots Q (F0 m (pc + 3) ls (.ref (ad y) :: rest))) : W p l e Rm s m args below meth c H locs cells slots Q (F0 m pc ls (.ref (ad x) :: rest)) := q_get (ci := 6) (j := 11) (T := TX6) (N := 16) hC hW hx (ct_o6 hk) rfl u_X6 (by decide) hl rfl (by show some (rfv ad (R x 11)) = _; rw [hr]; rfl) hdg kk
theorem p_6_11 {y : Nat} {x index : Nat} (hC : CallFix p m c cc nL s args GW own) (hW : Wd G n ad I L R A H0 H locs s) (hx : x < n) (hk : kd x = (16, 16)) (hl : Cond.fieldLink own index "CoinRowsModel" "coins" "[I" ∈ GW) (hin : meth.name = "<init>") (ho : own = "CoinRowsModel") (hdg : decode cc pc = .ok (.putfield index, 3)) (kk : ∀ (H1 : Heap) (locs1 : List Loc), Wd G n ad I L (up2 R x 11 (some y)) A H0 H1 locs1 s → W p l e Rm s m args below meth c H1 locs1 cells slots Q (F0 m (pc + 3) ls rest)) : W p l e Rm s m args below meth c H locs cells slots Q (F0 m pc ls (.ref (ad y) :: .ref (ad x) :: rest)) := q_putF (ci := 6) (j := 11) (T := TX6) (N := 16) (ty := .array .int) (v := .ref (ad y)) hC hW hx (ct_o6 hk) rfl u_X6 tyX6_ok nmX6 (by decide) hl rfl rfl hin (by rw [ho]; rfl) (by decide +kernel) rfl rfl (by show 11 < 16; decide) (by rw [ct_o6 hk, up2_rowR]; rfl) (fun k h => ct_R h) hdg kk
theorem g_6_12 {x index : Nat} (hC : CallFix p m c cc nL s args GW own) (hW : Wd G n ad I L R A H0 H locs s) (hx : x < n) (hk : kd x = (16, 16)) (hl : Cond.fieldLink own index "CoinRowsModel" "length" "I" ∈ GW) (hdg : decode cc pc = .ok (.getfield index, 3)) (kk : W p l e Rm s m args below meth c H locs cells slots Q (F0 m (pc + 3) ls (.int (I x 12) :: rest))) : W p l e Rm s m args below meth c H locs cells slots Q (F0 m pc ls (.ref (ad x) :: rest)) := q_get (ci := 6) (j := 12) (T := TX6) (N := 16) hC hW hx (ct_o6 hk) rfl u_X6 (by decide) hl rfl rfl hdg kk
theorem p_6_12 {v : Int32} {x index : Nat} (hC : CallFix p m c cc nL s args GW own) (hW : Wd G n ad I L R A H0 H locs s) (hx : x < n) (hk : kd x = (16, 16)) (hl : Cond.fieldLink own index "CoinRowsModel" "length" "I" ∈ GW) (hdg : decode cc pc = .ok (.putfield index, 3)) (kk : ∀ (H1 : Heap) (locs1 : List Loc), Wd G n ad (up2 I x 12 v) L R A H0 H1 locs1 s → W p l e Rm s m args below meth c H1 locs1 cells slots Q (F0 m (pc + 3) ls rest)) : W p l e Rm s m args below meth c H locs cells slots Q (F0 m pc ls (.int v :: .ref (ad x) :: rest)) := q_put (ci := 6) (j := 12) (T := TX6) (N := 16) (ty := .int) (v := .int v) hC hW hx (ct_o6 hk) rfl u_X6 tyX6_ok nmX6 (by decide) hl rfl rfl (by decide +kernel) rfl rfl (by show 12 < 16; decide) (by rw [ct_o6 hk, up2_rowI]; rfl) (fun k h => ct_I h) hdg kk
theorem g_6_13 {x index : Nat} (hC : CallFix p m c cc nL s args GW own) (hW : Wd G n ad I L R A H0 H locs s) (hx : x < n) (hk : kd x = (16, 16)) (hl : Cond.fieldLink own index "CoinRowsModel" "weighs" "J" ∈ GW) (hdg : decode cc pc = .ok (.getfield index, 3)) (kk : W p l e Rm s m args below meth c H locs cells slots Q (F0 m (pc + 3) ls (.long (L x 13) :: rest))) : W p l e Rm s m args below meth c H locs cells slots Q (F0 m pc ls (.ref (ad x) :: rest)) := q_get (ci := 6) (j := 13) (T := TX6) (N := 16) hC hW hx (ct_o6 hk) rfl u_X6 (by decide) hl rfl rfl hdg kk
theorem p_6_13 {v : Int64} {x index : Nat} (hC : CallFix p m c cc nL s args GW own) (hW : Wd G n ad I L R A H0 H locs s) (hx : x < n) (hk : kd x = (16, 16)) (hl : Cond.fieldLink own index "CoinRowsModel" "weighs" "J" ∈ GW) (hdg : decode cc pc = .ok (.putfield index, 3)) (kk : ∀ (H1 : Heap) (locs1 : List Loc), Wd G n ad I (up2 L x 13 v) R A H0 H1 locs1 s → W p l e Rm s m args below meth c H1 locs1 cells slots Q (F0 m (pc + 3) ls rest)) : W p l e Rm s m args below meth c H locs cells slots Q (F0 m pc ls (.long v :: .ref (ad x) :: rest)) := q_put (ci := 6) (j := 13) (T := TX6) (N := 16) (ty := .long) (v := .long v) hC hW hx (ct_o6 hk) rfl u_X6 tyX6_ok nmX6 (by decide) hl rfl rfl (by decide +kernel) rfl rfl (by show 13 < 16; decide) (by rw [ct_o6 hk, up2_rowL]; rfl) (fun k h => ct_L h) hdg kk
theorem g_6_14 {y : Nat} {x index : Nat} (hC : CallFix p m c cc nL s args GW own) (hW : Wd G n ad I L R A H0 H locs s) (hx : x < n) (hk : kd x = (16, 16)) (hl : Cond.fieldLink own index "CoinRowsModel" "numbers" "[J" ∈ GW) (hr : R x 14 = some y) (hdg : decode cc pc = .ok (.getfield index, 3)) (kk : W p l e Rm s m args below meth c H locs cells slots Q (F0 m (pc + 3) ls (.ref (ad y) :: rest))) : W p l e Rm s m args below meth c H locs cells slots Q (F0 m pc ls (.ref (ad x) :: rest)) := q_get (ci := 6) (j := 14) (T := TX6) (N := 16) hC hW hx (ct_o6 hk) rfl u_X6 (by decide) hl rfl (by show some (rfv ad (R x 14)) = _; rw [hr]; rfl) hdg kk
theorem p_6_14 {y : Nat} {x index : Nat} (hC : CallFix p m c cc nL s args GW own) (hW : Wd G n ad I L R A H0 H locs s) (hx : x < n) (hk : kd x = (16, 16)) (hl : Cond.fieldLink own index "CoinRowsModel" "numbers" "[J" ∈ GW) (hin : meth.name = "<init>") (ho : own = "CoinRowsModel") (hdg : decode cc pc = .ok (.putfield index, 3)) (kk : ∀ (H1 : Heap) (locs1 : List Loc), Wd G n ad I L (up2 R x 14 (some y)) A H0 H1 locs1 s → W p l e Rm s m args below meth c H1 locs1 cells slots Q (F0 m (pc + 3) ls rest)) : W p l e Rm s m args below meth c H locs cells slots Q (F0 m pc ls (.ref (ad y) :: .ref (ad x) :: rest)) := q_putF (ci := 6) (j := 14) (T := TX6) (N := 16) (ty := .array .long) (v := .ref (ad y)) hC hW hx (ct_o6 hk) rfl u_X6 tyX6_ok nmX6 (by decide) hl rfl rfl hin (by rw [ho]; rfl) (by decide +kernel) rfl rfl (by show 14 < 16; decide) (by rw [ct_o6 hk, up2_rowR]; rfl) (fun k h => ct_R h) hdg kk
theorem g_6_15 {x index : Nat} (hC : CallFix p m c cc nL s args GW own) (hW : Wd G n ad I L R A H0 H locs s) (hx : x < n) (hk : kd x = (16, 16)) (hl : Cond.fieldLink own index "CoinRowsModel" "parts" "I" ∈ GW) (hdg : decode cc pc = .ok (.getfield index, 3)) (kk : W p l e Rm s m args below meth c H locs cells slots Q (F0 m (pc + 3) ls (.int (I x 15) :: rest))) : W p l e Rm s m args below meth c H locs cells slots Q (F0 m pc ls (.ref (ad x) :: rest)) := q_get (ci := 6) (j := 15) (T := TX6) (N := 16) hC hW hx (ct_o6 hk) rfl u_X6 (by decide) hl rfl rfl hdg kk
theorem p_6_15 {v : Int32} {x index : Nat} (hC : CallFix p m c cc nL s args GW own) (hW : Wd G n ad I L R A H0 H locs s) (hx : x < n) (hk : kd x = (16, 16)) (hl : Cond.fieldLink own index "CoinRowsModel" "parts" "I" ∈ GW) (hdg : decode cc pc = .ok (.putfield index, 3)) (kk : ∀ (H1 : Heap) (locs1 : List Loc), Wd G n ad (up2 I x 15 v) L R A H0 H1 locs1 s → W p l e Rm s m args below meth c H1 locs1 cells slots Q (F0 m (pc + 3) ls rest)) : W p l e Rm s m args below meth c H locs cells slots Q (F0 m pc ls (.int v :: .ref (ad x) :: rest)) := q_put (ci := 6) (j := 15) (T := TX6) (N := 16) (ty := .int) (v := .int v) hC hW hx (ct_o6 hk) rfl u_X6 tyX6_ok nmX6 (by decide) hl rfl rfl (by decide +kernel) rfl rfl (by show 15 < 16; decide) (by rw [ct_o6 hk, up2_rowI]; rfl) (fun k h => ct_I h) hdg kk
end QF
end
section
def qI0 (G : Gx) (A : Nat → Prop) (z : Sx) (post : Int32 → Prop) : Array Value → State → Outcome → State → Prop := va_Qi (S := Unit) (fun r _ => post r) (fun _ t => qW G A z t) A
def qI1 (G : Gx) (A : Nat → Prop) (n : Nat) (ad : Nat → Nat) (R : Rc) (post : Int32 → Ic → Lc → Prop) : Array Value → State → Outcome → State → Prop := va_Qi (S := Ic × Lc) (fun r u => post r u.1 u.2) (fun u t => qW G A (n, ad, u.1, u.2, R) t) A
def qI2 (G : Gx) (A : Nat → Prop) (post : Int32 → Sx → Prop) : Array Value → State → Outcome → State → Prop := va_Qi (S := Sx) (fun r u => post r u) (fun u t => qW G A u t) A
def qL0 (G : Gx) (A : Nat → Prop) (z : Sx) (post : Int64 → Prop) : Array Value → State → Outcome → State → Prop := va_Ql (S := Unit) (fun r _ => post r) (fun _ t => qW G A z t) A
def qL1 (G : Gx) (A : Nat → Prop) (n : Nat) (ad : Nat → Nat) (R : Rc) (post : Int64 → Ic → Lc → Prop) : Array Value → State → Outcome → State → Prop := va_Ql (S := Ic × Lc) (fun r u => post r u.1 u.2) (fun u t => qW G A (n, ad, u.1, u.2, R) t) A
def qL2 (G : Gx) (A : Nat → Prop) (post : Int64 → Sx → Prop) : Array Value → State → Outcome → State → Prop := va_Ql (S := Sx) (fun r u => post r u) (fun u t => qW G A u t) A
def qV1 (G : Gx) (A : Nat → Prop) (n : Nat) (ad : Nat → Nat) (R : Rc) (post : Ic → Lc → Prop) : Array Value → State → Outcome → State → Prop := va_Qv (S := Ic × Lc) (fun u => post u.1 u.2) (fun u t => qW G A (n, ad, u.1, u.2, R) t) A
def qV2 (G : Gx) (A : Nat → Prop) (post : Sx → Prop) : Array Value → State → Outcome → State → Prop := va_Qv (S := Sx) (fun u => post u) (fun u t => qW G A u t) A
theorem qA_mono {A : Nat → Prop} {n : Nat} {ad : Nat → Nat} {G : Gx} {I : Ic} {L : Lc} {R : Rc} {H0 H : Heap} {locs : List Loc} {s : State} (hW : Wd G n ad I L R A H0 H locs s) : ∀ q, qA n ad H.size q → A q := by
  intro q h
  rcases h with ⟨k, hk, rfl⟩ | h
  · exact hW.2.2.1.2 k _ (wl_at hk)
  · exact hW.2.2.2.2.1 q (Nat.le_trans hW.2.2.2.1.1 h)
theorem qA_self {G : Gx} {n : Nat} {ad : Nat → Nat} {I : Ic} {L : Lc} {R : Rc} {sz : Nat} {B : Nat → Prop} (h : va_D B (wl G n ad I L R)) : va_D (qA n ad sz) (wl G n ad I L R) := ⟨h.1, fun k q hk => by
  obtain ⟨h1, h2⟩ := wl_some hk
  exact Or.inl ⟨k, h1, by rw [h2]⟩⟩
theorem gI_of {ws : List Cond} (h : ∀ w ∈ ws, w ∈ GW) : GoodIn GW ws := fun w hw => ⟨h w hw, good_of_word (gw_good (h w hw))⟩
abbrev mV (y : MethodName) (bytes : ByteArray) (maxL : Nat) (ret : Option FieldType) (C : String) (k : Nat) : Prop := (Cond.instanceMethod y ∈ GW ∧ Cond.selects C y y ∈ GW ∧ Cond.initialized C ∈ GW ∧ Cond.code y bytes maxL ret ∈ GW) ∧ (y.cls = C ∧ y.cls ≠ "java/lang/invoke/MethodHandle" ∧ y.cls ≠ "java/lang/invoke/VarHandle" ∧ (parseMethodDescriptor y.desc).map (fun d => d.parameters.length) = some k)
abbrev mS (y : MethodName) (bytes : ByteArray) (maxL : Nat) (ret : Option FieldType) (C : String) (k : Nat) : Prop := (Cond.static y ∈ GW ∧ Cond.initialized C ∈ GW ∧ Cond.code y bytes maxL ret ∈ GW) ∧ (y.cls = C ∧ y.cls ≠ "java/lang/invoke/MethodHandle" ∧ y.cls ≠ "java/lang/invoke/VarHandle" ∧ (parseMethodDescriptor y.desc).map (fun d => d.parameters.length) = some k)
abbrev mI (y : MethodName) (bytes : ByteArray) (maxL : Nat) (k : Nat) : Prop := (Cond.instanceMethod y ∈ GW ∧ Cond.initialized y.cls ∈ GW ∧ Cond.code y bytes maxL none ∈ GW) ∧ y.name = "<init>" ∧ (y.cls ≠ "java/lang/invoke/MethodHandle" ∧ y.cls ≠ "java/lang/invoke/VarHandle" ∧ (parseMethodDescriptor y.desc).map (fun d => d.parameters.length) = some k)
theorem gI_c {y : MethodName} {bytes : ByteArray} {maxL : Nat} {ret : Option FieldType} (h : Cond.code y bytes maxL ret ∈ GW) : ∀ w ∈ Cond.code y bytes maxL ret :: GW, w ∈ GW := fun w hw => by
  rcases List.mem_cons.mp hw with h1 | h1
  · rw [h1]; exact h
  · exact h1
theorem gI_V {y : MethodName} {bytes : ByteArray} {maxL k index : Nat} {ret : Option FieldType} {own C : String} (hm : mV y bytes maxL ret C k) (hl : Cond.methodLink own index y ∈ GW) : GoodIn GW (wsV own index C y (Cond.code y bytes maxL ret :: GW)) := gI_of fun w hw => by
  unfold wsV at hw
  rcases List.mem_append.mp hw with h | h
  · simp only [List.mem_cons, List.not_mem_nil, or_false] at h
    rcases h with h | h | h | h <;> rw [h]
    · exact hl
    · exact hm.1.1
    · exact hm.1.2.1
    · exact hm.1.2.2.1
  · exact gI_c hm.1.2.2.2 w h
theorem gI_S {y : MethodName} {bytes : ByteArray} {maxL k index : Nat} {ret : Option FieldType} {own : String} (hm : mS y bytes maxL ret own k) (hl : Cond.methodLink own index y ∈ GW) : GoodIn GW (wsS own index y (Cond.code y bytes maxL ret :: GW)) := gI_of fun w hw => by
  unfold wsS at hw
  rcases List.mem_append.mp hw with h | h
  · simp only [List.mem_cons, List.not_mem_nil, or_false] at h
    rcases h with h | h | h <;> rw [h]
    · exact hl
    · exact hm.1.1
    · exact hm.1.2.1
  · exact gI_c hm.1.2.2 w h
theorem qPre_blind {G : Gx} {n : Nat} {ad : Nat → Nat} {sz : Nat} {I : Ic} {L : Lc} {R : Rc} {av : List Value} : FrameBlind (qPre G n ad sz I L R av) := fun a U g mk q => by
  obtain ⟨q0, q1, qP, qK, qD, qN⟩ := q
  exact ⟨q0, q1, qP, va_K.moved (u := U) (U := U.calling g mk a) (Vm.Alike.refl U.vm) qK, qD, NB.same (s := U) rfl qN⟩
theorem qPre_of {G : Gx} {n : Nat} {ad : Nat → Nat} {I : Ic} {L : Lc} {R : Rc} {A : Nat → Prop} {H0 H : Heap} {locs : List Loc} {s : State} (hW : Wd G n ad I L R A H0 H locs s) (av : List Value) : ∀ U : State, U.heap = H → s.WarmedH U.vm → qPre G n ad H.size I L R av av.toArray U := fun U hU hWm =>
  ⟨rfl, by rw [hU], by rw [hU]; exact hW.1, va_K.moved hWm.alike hW.2.1, ⟨hW.2.2.1.1, fun _ _ _ => trivial⟩, NB.moved hWm hW.2.2.2.2.2⟩
section QC
variable {p : Program} {l : Launch} {e : Env} {Rm : Room} {s : State} {m : MethodId} {args : Array Value} {below : List Frame} {meth : Method} {c : Code} {H : Heap} {locs : List Loc} {cells slots : Nat} {Q : State → Prop} {cc : ByteArray} {pc : Nat} {ls : Array Slot} {rest st0 : List Value} {A : Nat → Prop} {H0 : Heap} {nL : Nat} {own : String} {G : Gx} {n : Nat} {ad : Nat → Nat} {I : Ic} {L : Lc} {R : Rc}
theorem q_rV {y : MethodName} {bytes : ByteArray} {maxL mc ms index k : Nat} {ret : Option FieldType} {rm : Room} {Qc : Array Value → State → Outcome → State → Prop} {As : List Value} {C : String} {T : u_T} {x ci N : Nat} {fs : List Value} (hC : CallFix p m c cc nL s args GW own) (hW : Wd G n ad I L R A H0 H locs s) (hm : mV y bytes maxL ret C k) (hl : Cond.methodLink own index y ∈ GW) (hM : Met l y (Cond.code y bytes maxL ret :: GW) rm (qPre G n ad H.size I L R (.ref (ad x) :: As)) Qc mc ms (qA n ad H.size)) (hx : x < n) (he : ct G ad I L R x = .inr (ci, fs)) (hc : vwCl[ci]? = some (C, T, N)) (hrm : rm.cells = mc ∧ rm.slots = ms) (hR : rm.frames + 1 ≤ Rm.frames ∧ 8 + (maxL + 11) + rm.locals ≤ Rm.locals) (hf : cells + mc ≤ Rm.cells ∧ slots + ms ≤ Rm.slots) (hls : ls.size = nL) (hst : st0 = As.reverse ++ .ref (ad x) :: rest) (hk : As.length = k) (hrs : (rest.map fun v => v.category).sum ≤ 8) (hdg : decode cc pc = .ok (.invokevirtual index, 3)) :
    va_Run p l e Rm s m args below meth c H locs cells slots mc ms (F0 m pc ls st0) rest (Qc (Value.ref (ad x) :: As).toArray) (qA n ad H.size) :=
  va_runV (g := F0 m pc ls st0) hC hM (cwV k hC.2.2.2.2 (gI_V hm hl) rfl hrm.1 hrm.2 hm.2 hR) ⟨qPre_blind, va_recv hW.2.1 hW.1 hc (show (wl G n ad I L R)[x]? = some (ad x, .inr (ci, fs)) by rw [wl_at hx, he]), qPre_of hW _⟩ rfl hk hls hst (lv_room (ls := ls) (m := m) (rest := st0) hrs) hdg hf
theorem q_rS {y : MethodName} {bytes : ByteArray} {maxL mc ms index k : Nat} {ret : Option FieldType} {rm : Room} {Qc : Array Value → State → Outcome → State → Prop} {As : List Value} (hC : CallFix p m c cc nL s args GW own) (hW : Wd G n ad I L R A H0 H locs s) (hm : mS y bytes maxL ret own k) (hl : Cond.methodLink own index y ∈ GW) (hM : Met l y (Cond.code y bytes maxL ret :: GW) rm (qPre G n ad H.size I L R As) Qc mc ms (qA n ad H.size)) (hrm : rm.cells = mc ∧ rm.slots = ms) (hR : rm.frames + 1 ≤ Rm.frames ∧ 8 + (maxL + 11) + rm.locals ≤ Rm.locals) (hf : cells + mc ≤ Rm.cells ∧ slots + ms ≤ Rm.slots) (hls : ls.size = nL) (hst : st0 = As.reverse ++ rest) (hk : As.length = k) (hrs : (rest.map fun v => v.category).sum ≤ 8) (hdg : decode cc pc = .ok (.invokestatic index, 3)) :
    va_Run p l e Rm s m args below meth c H locs cells slots mc ms (F0 m pc ls st0) rest (Qc As.toArray) (qA n ad H.size) :=
  va_runS (g := F0 m pc ls st0) hC hM (cwS k hC.2.2.2.2 (gI_S hm hl) rfl hrm.1 hrm.2 hm.2 hR) ⟨qPre_blind, qPre_of hW _⟩ rfl hk hls hst (lv_room (ls := ls) (m := m) (rest := st0) hrs) hdg hf
theorem q_rSN {y : MethodName} {bytes : ByteArray} {maxL mc ms index k : Nat} {ret : Option FieldType} {rm : Room} {Qc : Array Value → State → Outcome → State → Prop} {As : List Value} {host C : String} (hC : CallFix p m c cc nL s args GW own) (hW : Wd G n ad I L R A H0 H locs s) (hm : mS y bytes maxL ret C k) (hl : va_Nw (.methodLinkNest own index y host) s) (hM : Met l y (Cond.code y bytes maxL ret :: GW) rm (qPre G n ad H.size I L R As) Qc mc ms (qA n ad H.size)) (hrm : rm.cells = mc ∧ rm.slots = ms) (hR : rm.frames + 1 ≤ Rm.frames ∧ 8 + (maxL + 11) + rm.locals ≤ Rm.locals) (hf : cells + mc ≤ Rm.cells ∧ slots + ms ≤ Rm.slots) (hls : ls.size = nL) (hst : st0 = As.reverse ++ rest) (hk : As.length = k) (hrs : (rest.map fun v => v.category).sum ≤ 8) (hdg : decode cc pc = .ok (.invokestatic index, 3)) :
    va_Run p l e Rm s m args below meth c H locs cells slots mc ms (F0 m pc ls st0) rest (Qc As.toArray) (qA n ad H.size) :=
  va_runSN (g := F0 m pc ls st0) hC hM ⟨va_cnB k hC.2.2.2.2 (gI_of (gI_c hm.1.2.2)) rfl hrm.1 hrm.2 hl (by rw [hm.2.1]; exact hC.2.2.2.2 _ hm.1.2.1) hm.2.2 hR, hC.2.2.2.2 _ hm.1.1, trivial⟩ ⟨qPre_blind, qPre_of hW _⟩ rfl hk hls hst (lv_room (ls := ls) (m := m) (rest := st0) hrs) hdg hf
theorem q_rI {y : MethodName} {bytes : ByteArray} {maxL mc ms index k : Nat} {rm : Room} {Qc : Array Value → State → Outcome → State → Prop} {As : List Value} {x : Nat} (hC : CallFix p m c cc nL s args GW own) (hW : Wd G n ad I L R A H0 H locs s) (hm : mI y bytes maxL k) (hl : Cond.methodLink own index y ∈ GW) (hM : Met l y (Cond.code y bytes maxL none :: GW) rm (qPre G n ad H.size I L R (.ref (ad x) :: As)) Qc mc ms (qA n ad H.size)) (hrm : rm.cells = mc ∧ rm.slots = ms) (hR : rm.frames + 1 ≤ Rm.frames ∧ 8 + (maxL + 11) + rm.locals ≤ Rm.locals) (hf : cells + mc ≤ Rm.cells ∧ slots + ms ≤ Rm.slots) (hls : ls.size = nL) (hst : st0 = As.reverse ++ .ref (ad x) :: rest) (hk : As.length = k) (hrs : (rest.map fun v => v.category).sum ≤ 8) (hdg : decode cc pc = .ok (.invokespecial index, 3)) :
    va_Run p l e Rm s m args below meth c H locs cells slots mc ms (F0 m pc ls st0) rest (Qc (Value.ref (ad x) :: As).toArray) (qA n ad H.size) :=
  va_runI (g := F0 m pc ls st0) hC hM (cwI k hC.2.2.2.2 (gI_of (gI_c hm.1.2.2)) rfl hrm.1 hrm.2 (hC.2.2.2.2 _ hm.1.2.1) (hC.2.2.2.2 _ hl) (hC.2.2.2.2 _ hm.1.1) hm.2.1 hm.2.2 hR) ⟨qPre_blind, qPre_of hW _⟩ rfl hk hls hst (lv_room (ls := ls) (m := m) (rest := st0) hrs) hdg hf
theorem q_rIN {y : MethodName} {bytes : ByteArray} {maxL mc ms index k : Nat} {rm : Room} {Qc : Array Value → State → Outcome → State → Prop} {As : List Value} {x : Nat} {host : String} (hC : CallFix p m c cc nL s args GW own) (hW : Wd G n ad I L R A H0 H locs s) (hm : mI y bytes maxL k) (hl : va_Nw (.methodLinkNest own index y host) s) (hM : Met l y (Cond.code y bytes maxL none :: GW) rm (qPre G n ad H.size I L R (.ref (ad x) :: As)) Qc mc ms (qA n ad H.size)) (hrm : rm.cells = mc ∧ rm.slots = ms) (hR : rm.frames + 1 ≤ Rm.frames ∧ 8 + (maxL + 11) + rm.locals ≤ Rm.locals) (hf : cells + mc ≤ Rm.cells ∧ slots + ms ≤ Rm.slots) (hls : ls.size = nL) (hst : st0 = As.reverse ++ .ref (ad x) :: rest) (hk : As.length = k) (hrs : (rest.map fun v => v.category).sum ≤ 8) (hdg : decode cc pc = .ok (.invokespecial index, 3)) :
    va_Run p l e Rm s m args below meth c H locs cells slots mc ms (F0 m pc ls st0) rest (Qc (Value.ref (ad x) :: As).toArray) (qA n ad H.size) :=
  va_runIN (g := F0 m pc ls st0) hC hM ⟨va_cnB k hC.2.2.2.2 (gI_of (gI_c hm.1.2.2)) rfl hrm.1 hrm.2 hl (hC.2.2.2.2 _ hm.1.2.1) hm.2.2 hR, hm.2.1, hC.2.2.2.2 _ hm.1.1⟩ ⟨qPre_blind, qPre_of hW _⟩ rfl hk hls hst (lv_room (ls := ls) (m := m) (rest := st0) hrs) hdg hf

theorem q_kI0 {post : Int32 → Prop} {a : Array Value} {mc ms : Nat} (hr : va_Run p l e Rm s m args below meth c H locs cells slots mc ms (F0 m pc ls st0) rest (qI0 G (qA n ad H.size) (n, ad, I, L, R) post a) (qA n ad H.size)) (hW : Wd G n ad I L R A H0 H locs s)
    (kk : ∀ (r : Int32) (H1 : Heap) (locs1 : List Loc), post r → Wd G n ad I L R A H0 H1 locs1 s → W p l e Rm s m args below meth c H1 locs1 (cells + mc) (slots + ms) Q (F0 m (pc + 3) ls (.int r :: rest))) : W p l e Rm s m args below meth c H locs cells slots Q (F0 m pc ls st0) :=
  va_calli hr hW.2.2.2.1 (fun q _ h => qA_mono hW q h) (qA_mono hW) (fun r u t H1 locs1 ht hvm hp hB hz hkeep hS => kk r H1 locs1 hp ⟨by rw [← ht]; exact hB.1, hW.2.1, hB.2.weaken (fun k q _ h => qA_mono hW q.1 h), hS, hW.2.2.2.2⟩)
theorem q_kI1 {post : Int32 → Ic → Lc → Prop} {a : Array Value} {mc ms : Nat} (hr : va_Run p l e Rm s m args below meth c H locs cells slots mc ms (F0 m pc ls st0) rest (qI1 G (qA n ad H.size) n ad R post a) (qA n ad H.size)) (hW : Wd G n ad I L R A H0 H locs s)
    (kk : ∀ (r : Int32) (I1 : Ic) (L1 : Lc) (H1 : Heap) (locs1 : List Loc), post r I1 L1 → Wd G n ad I1 L1 R A H0 H1 locs1 s → W p l e Rm s m args below meth c H1 locs1 (cells + mc) (slots + ms) Q (F0 m (pc + 3) ls (.int r :: rest))) : W p l e Rm s m args below meth c H locs cells slots Q (F0 m pc ls st0) :=
  va_calli hr hW.2.2.2.1 (fun q _ h => qA_mono hW q h) (qA_mono hW) (fun r u t H1 locs1 ht hvm hp hB hz hkeep hS => kk r u.1 u.2 H1 locs1 hp ⟨by rw [← ht]; exact hB.1, hW.2.1, hB.2.weaken (fun k q _ h => qA_mono hW q.1 h), hS, hW.2.2.2.2⟩)
theorem q_kI2 {post : Int32 → Sx → Prop} {a : Array Value} {mc ms : Nat} (hr : va_Run p l e Rm s m args below meth c H locs cells slots mc ms (F0 m pc ls st0) rest (qI2 G (qA n ad H.size) post a) (qA n ad H.size)) (hW : Wd G n ad I L R A H0 H locs s)
    (kk : ∀ (r : Int32) (n1 : Nat) (ad1 : Nat → Nat) (I1 : Ic) (L1 : Lc) (R1 : Rc) (H1 : Heap) (locs1 : List Loc), post r (n1, ad1, I1, L1, R1) → Wd G n1 ad1 I1 L1 R1 A H0 H1 locs1 s → W p l e Rm s m args below meth c H1 locs1 (cells + mc) (slots + ms) Q (F0 m (pc + 3) ls (.int r :: rest))) : W p l e Rm s m args below meth c H locs cells slots Q (F0 m pc ls st0) :=
  va_calli hr hW.2.2.2.1 (fun q _ h => qA_mono hW q h) (qA_mono hW) (fun r u t H1 locs1 ht hvm hp hB hz hkeep hS => kk r u.1 u.2.1 u.2.2.1 u.2.2.2.1 u.2.2.2.2 H1 locs1 hp ⟨by rw [← ht]; exact hB.1, hW.2.1, hB.2.weaken (fun k q _ h => qA_mono hW q.1 h), hS, hW.2.2.2.2⟩)
theorem q_kL0 {post : Int64 → Prop} {a : Array Value} {mc ms : Nat} (hr : va_Run p l e Rm s m args below meth c H locs cells slots mc ms (F0 m pc ls st0) rest (qL0 G (qA n ad H.size) (n, ad, I, L, R) post a) (qA n ad H.size)) (hW : Wd G n ad I L R A H0 H locs s)
    (kk : ∀ (r : Int64) (H1 : Heap) (locs1 : List Loc), post r → Wd G n ad I L R A H0 H1 locs1 s → W p l e Rm s m args below meth c H1 locs1 (cells + mc) (slots + ms) Q (F0 m (pc + 3) ls (.long r :: rest))) : W p l e Rm s m args below meth c H locs cells slots Q (F0 m pc ls st0) :=
  va_calll hr hW.2.2.2.1 (fun q _ h => qA_mono hW q h) (qA_mono hW) (fun r u t H1 locs1 ht hvm hp hB hz hkeep hS => kk r H1 locs1 hp ⟨by rw [← ht]; exact hB.1, hW.2.1, hB.2.weaken (fun k q _ h => qA_mono hW q.1 h), hS, hW.2.2.2.2⟩)
theorem q_kL1 {post : Int64 → Ic → Lc → Prop} {a : Array Value} {mc ms : Nat} (hr : va_Run p l e Rm s m args below meth c H locs cells slots mc ms (F0 m pc ls st0) rest (qL1 G (qA n ad H.size) n ad R post a) (qA n ad H.size)) (hW : Wd G n ad I L R A H0 H locs s)
    (kk : ∀ (r : Int64) (I1 : Ic) (L1 : Lc) (H1 : Heap) (locs1 : List Loc), post r I1 L1 → Wd G n ad I1 L1 R A H0 H1 locs1 s → W p l e Rm s m args below meth c H1 locs1 (cells + mc) (slots + ms) Q (F0 m (pc + 3) ls (.long r :: rest))) : W p l e Rm s m args below meth c H locs cells slots Q (F0 m pc ls st0) :=
  va_calll hr hW.2.2.2.1 (fun q _ h => qA_mono hW q h) (qA_mono hW) (fun r u t H1 locs1 ht hvm hp hB hz hkeep hS => kk r u.1 u.2 H1 locs1 hp ⟨by rw [← ht]; exact hB.1, hW.2.1, hB.2.weaken (fun k q _ h => qA_mono hW q.1 h), hS, hW.2.2.2.2⟩)
theorem q_kL2 {post : Int64 → Sx → Prop} {a : Array Value} {mc ms : Nat} (hr : va_Run p l e Rm s m args below meth c H locs cells slots mc ms (F0 m pc ls st0) rest (qL2 G (qA n ad H.size) post a) (qA n ad H.size)) (hW : Wd G n ad I L R A H0 H locs s)
    (kk : ∀ (r : Int64) (n1 : Nat) (ad1 : Nat → Nat) (I1 : Ic) (L1 : Lc) (R1 : Rc) (H1 : Heap) (locs1 : List Loc), post r (n1, ad1, I1, L1, R1) → Wd G n1 ad1 I1 L1 R1 A H0 H1 locs1 s → W p l e Rm s m args below meth c H1 locs1 (cells + mc) (slots + ms) Q (F0 m (pc + 3) ls (.long r :: rest))) : W p l e Rm s m args below meth c H locs cells slots Q (F0 m pc ls st0) :=
  va_calll hr hW.2.2.2.1 (fun q _ h => qA_mono hW q h) (qA_mono hW) (fun r u t H1 locs1 ht hvm hp hB hz hkeep hS => kk r u.1 u.2.1 u.2.2.1 u.2.2.2.1 u.2.2.2.2 H1 locs1 hp ⟨by rw [← ht]; exact hB.1, hW.2.1, hB.2.weaken (fun k q _ h => qA_mono hW q.1 h), hS, hW.2.2.2.2⟩)
theorem q_kV1 {post : Ic → Lc → Prop} {a : Array Value} {mc ms : Nat} (hr : va_Run p l e Rm s m args below meth c H locs cells slots mc ms (F0 m pc ls st0) rest (qV1 G (qA n ad H.size) n ad R post a) (qA n ad H.size)) (hW : Wd G n ad I L R A H0 H locs s)
    (kk : ∀ (I1 : Ic) (L1 : Lc) (H1 : Heap) (locs1 : List Loc), post I1 L1 → Wd G n ad I1 L1 R A H0 H1 locs1 s → W p l e Rm s m args below meth c H1 locs1 (cells + mc) (slots + ms) Q (F0 m (pc + 3) ls rest)) : W p l e Rm s m args below meth c H locs cells slots Q (F0 m pc ls st0) :=
  va_callv hr hW.2.2.2.1 (fun q _ h => qA_mono hW q h) (qA_mono hW) (fun u t H1 locs1 ht hvm hp hB hz hkeep hS => kk u.1 u.2 H1 locs1 hp ⟨by rw [← ht]; exact hB.1, hW.2.1, hB.2.weaken (fun k q _ h => qA_mono hW q.1 h), hS, hW.2.2.2.2⟩)
theorem q_kV2 {post : Sx → Prop} {a : Array Value} {mc ms : Nat} (hr : va_Run p l e Rm s m args below meth c H locs cells slots mc ms (F0 m pc ls st0) rest (qV2 G (qA n ad H.size) post a) (qA n ad H.size)) (hW : Wd G n ad I L R A H0 H locs s)
    (kk : ∀ (n1 : Nat) (ad1 : Nat → Nat) (I1 : Ic) (L1 : Lc) (R1 : Rc) (H1 : Heap) (locs1 : List Loc), post (n1, ad1, I1, L1, R1) → Wd G n1 ad1 I1 L1 R1 A H0 H1 locs1 s → W p l e Rm s m args below meth c H1 locs1 (cells + mc) (slots + ms) Q (F0 m (pc + 3) ls rest)) : W p l e Rm s m args below meth c H locs cells slots Q (F0 m pc ls st0) :=
  va_callv hr hW.2.2.2.1 (fun q _ h => qA_mono hW q h) (qA_mono hW) (fun u t H1 locs1 ht hvm hp hB hz hkeep hS => kk u.1 u.2.1 u.2.2.1 u.2.2.2.1 u.2.2.2.2 H1 locs1 hp ⟨by rw [← ht]; exact hB.1, hW.2.1, hB.2.weaken (fun k q _ h => qA_mono hW q.1 h), hS, hW.2.2.2.2⟩)
theorem q_iret0 {post : Int32 → Prop} {v : Int32} (hC : CallFix p m c cc nL s args GW own) (hW : Wd G n ad I L R A s.heap H locs s) (hr : meth.sig.returnType = some .int) (hlocks : meth.locks = false) (hp : post v) (hdg : decode cc pc = .ok (.ireturn, 1)) : W p l e Rm s m args below meth c H locs cells slots (MQ below (qI0 G A (n, ad, I, L, R) post) args s cells slots A) (F0 m pc ls [.int v]) :=
  W.iret hC.1 hC.2.1 hr (fun t ht _ => ⟨⟨v, (), rfl, hp, by show va_P _ _ _ _; rw [ht]; exact hW.1, hW.2.2.1⟩, hW.2.2.2.1.F ht⟩) hW.2.2.2.1.2.2 hdg hlocks
theorem q_zret0 {post : Int32 → Prop} {v : Int32} (hC : CallFix p m c cc nL s args GW own) (hW : Wd G n ad I L R A s.heap H locs s) (hr : meth.sig.returnType = some .boolean) (hlocks : meth.locks = false) (hnar : narrow .boolean (.int v) = .int v) (hp : post v) (hdg : decode cc pc = .ok (.ireturn, 1)) : W p l e Rm s m args below meth c H locs cells slots (MQ below (qI0 G A (n, ad, I, L, R) post) args s cells slots A) (F0 m pc ls [.int v]) :=
  W.zret hC.1 hC.2.1 hr hnar (fun t ht _ => ⟨⟨v, (), rfl, hp, by show va_P _ _ _ _; rw [ht]; exact hW.1, hW.2.2.1⟩, hW.2.2.2.1.F ht⟩) hW.2.2.2.1.2.2 hdg hlocks
theorem q_iret1 {post : Int32 → Ic → Lc → Prop} {v : Int32} (hC : CallFix p m c cc nL s args GW own) (hW : Wd G n ad I L R A s.heap H locs s) (hr : meth.sig.returnType = some .int) (hlocks : meth.locks = false) (hp : post v I L) (hdg : decode cc pc = .ok (.ireturn, 1)) : W p l e Rm s m args below meth c H locs cells slots (MQ below (qI1 G A n ad R post) args s cells slots A) (F0 m pc ls [.int v]) :=
  W.iret hC.1 hC.2.1 hr (fun t ht _ => ⟨⟨v, (I, L), rfl, hp, by show va_P _ _ _ _; rw [ht]; exact hW.1, hW.2.2.1⟩, hW.2.2.2.1.F ht⟩) hW.2.2.2.1.2.2 hdg hlocks
theorem q_zret1 {post : Int32 → Ic → Lc → Prop} {v : Int32} (hC : CallFix p m c cc nL s args GW own) (hW : Wd G n ad I L R A s.heap H locs s) (hr : meth.sig.returnType = some .boolean) (hlocks : meth.locks = false) (hnar : narrow .boolean (.int v) = .int v) (hp : post v I L) (hdg : decode cc pc = .ok (.ireturn, 1)) : W p l e Rm s m args below meth c H locs cells slots (MQ below (qI1 G A n ad R post) args s cells slots A) (F0 m pc ls [.int v]) :=
  W.zret hC.1 hC.2.1 hr hnar (fun t ht _ => ⟨⟨v, (I, L), rfl, hp, by show va_P _ _ _ _; rw [ht]; exact hW.1, hW.2.2.1⟩, hW.2.2.2.1.F ht⟩) hW.2.2.2.1.2.2 hdg hlocks
theorem q_iret2 {post : Int32 → Sx → Prop} {v : Int32} (hC : CallFix p m c cc nL s args GW own) (hW : Wd G n ad I L R A s.heap H locs s) (hr : meth.sig.returnType = some .int) (hlocks : meth.locks = false) (hp : post v (n, ad, I, L, R)) (hdg : decode cc pc = .ok (.ireturn, 1)) : W p l e Rm s m args below meth c H locs cells slots (MQ below (qI2 G A post) args s cells slots A) (F0 m pc ls [.int v]) :=
  W.iret hC.1 hC.2.1 hr (fun t ht _ => ⟨⟨v, (n, ad, I, L, R), rfl, hp, by show va_P _ _ _ _; rw [ht]; exact hW.1, hW.2.2.1⟩, hW.2.2.2.1.F ht⟩) hW.2.2.2.1.2.2 hdg hlocks
theorem q_zret2 {post : Int32 → Sx → Prop} {v : Int32} (hC : CallFix p m c cc nL s args GW own) (hW : Wd G n ad I L R A s.heap H locs s) (hr : meth.sig.returnType = some .boolean) (hlocks : meth.locks = false) (hnar : narrow .boolean (.int v) = .int v) (hp : post v (n, ad, I, L, R)) (hdg : decode cc pc = .ok (.ireturn, 1)) : W p l e Rm s m args below meth c H locs cells slots (MQ below (qI2 G A post) args s cells slots A) (F0 m pc ls [.int v]) :=
  W.zret hC.1 hC.2.1 hr hnar (fun t ht _ => ⟨⟨v, (n, ad, I, L, R), rfl, hp, by show va_P _ _ _ _; rw [ht]; exact hW.1, hW.2.2.1⟩, hW.2.2.2.1.F ht⟩) hW.2.2.2.1.2.2 hdg hlocks
theorem q_lret0 {post : Int64 → Prop} {v : Int64} (hC : CallFix p m c cc nL s args GW own) (hW : Wd G n ad I L R A s.heap H locs s) (hr : meth.sig.returnType = some .long) (hlocks : meth.locks = false) (hp : post v) (hdg : decode cc pc = .ok (.lreturn, 1)) : W p l e Rm s m args below meth c H locs cells slots (MQ below (qL0 G A (n, ad, I, L, R) post) args s cells slots A) (F0 m pc ls [.long v]) :=
  W.lret hC.1 hC.2.1 hr (fun t ht _ => ⟨⟨v, (), rfl, hp, by show va_P _ _ _ _; rw [ht]; exact hW.1, hW.2.2.1⟩, hW.2.2.2.1.F ht⟩) hW.2.2.2.1.2.2 hdg hlocks
theorem q_lret1 {post : Int64 → Ic → Lc → Prop} {v : Int64} (hC : CallFix p m c cc nL s args GW own) (hW : Wd G n ad I L R A s.heap H locs s) (hr : meth.sig.returnType = some .long) (hlocks : meth.locks = false) (hp : post v I L) (hdg : decode cc pc = .ok (.lreturn, 1)) : W p l e Rm s m args below meth c H locs cells slots (MQ below (qL1 G A n ad R post) args s cells slots A) (F0 m pc ls [.long v]) :=
  W.lret hC.1 hC.2.1 hr (fun t ht _ => ⟨⟨v, (I, L), rfl, hp, by show va_P _ _ _ _; rw [ht]; exact hW.1, hW.2.2.1⟩, hW.2.2.2.1.F ht⟩) hW.2.2.2.1.2.2 hdg hlocks
theorem q_lret2 {post : Int64 → Sx → Prop} {v : Int64} (hC : CallFix p m c cc nL s args GW own) (hW : Wd G n ad I L R A s.heap H locs s) (hr : meth.sig.returnType = some .long) (hlocks : meth.locks = false) (hp : post v (n, ad, I, L, R)) (hdg : decode cc pc = .ok (.lreturn, 1)) : W p l e Rm s m args below meth c H locs cells slots (MQ below (qL2 G A post) args s cells slots A) (F0 m pc ls [.long v]) :=
  W.lret hC.1 hC.2.1 hr (fun t ht _ => ⟨⟨v, (n, ad, I, L, R), rfl, hp, by show va_P _ _ _ _; rw [ht]; exact hW.1, hW.2.2.1⟩, hW.2.2.2.1.F ht⟩) hW.2.2.2.1.2.2 hdg hlocks
theorem q_vret1 {post : Ic → Lc → Prop} (hC : CallFix p m c cc nL s args GW own) (hW : Wd G n ad I L R A s.heap H locs s) (hr : meth.sig.returnType = none) (hlocks : meth.locks = false) (hp : post I L) (hdg : decode cc pc = .ok (.return_, 1)) : W p l e Rm s m args below meth c H locs cells slots (MQ below (qV1 G A n ad R post) args s cells slots A) (F0 m pc ls []) :=
  W.vret hC.1 hC.2.1 hr (fun t ht _ => ⟨⟨(I, L), rfl, hp, by show va_P _ _ _ _; rw [ht]; exact hW.1, hW.2.2.1⟩, hW.2.2.2.1.F ht⟩) hW.2.2.2.1.2.2 hdg hlocks
theorem q_vret2 {post : Sx → Prop} (hC : CallFix p m c cc nL s args GW own) (hW : Wd G n ad I L R A s.heap H locs s) (hr : meth.sig.returnType = none) (hlocks : meth.locks = false) (hp : post (n, ad, I, L, R)) (hdg : decode cc pc = .ok (.return_, 1)) : W p l e Rm s m args below meth c H locs cells slots (MQ below (qV2 G A post) args s cells slots A) (F0 m pc ls []) :=
  W.vret hC.1 hC.2.1 hr (fun t ht _ => ⟨⟨(n, ad, I, L, R), rfl, hp, by show va_P _ _ _ _; rw [ht]; exact hW.1, hW.2.2.1⟩, hW.2.2.2.1.F ht⟩) hW.2.2.2.1.2.2 hdg hlocks
end QC
theorem q_met {l : Launch} {G : Gx} {n : Nat} {ad : Nat → Nat} {I : Ic} {L : Lc} {R : Rc} {y : MethodName} {cc : ByteArray} {maxL mc ms sz : Nat} {ret : Option FieldType} {rm : Room} {av : List Value} {Qc : Array Value → State → Outcome → State → Prop} (hy : plainName y.cls = true) (hlen : (lg_sl av).length ≤ maxL)
    (body : ∀ (p : Program) (e : Env) (s : State) (m : MethodId) (below : List Frame) (meth : Method) (c : Code), CallFix p m c cc maxL s av.toArray GW y.cls → meth.sig.returnType = ret → meth.locks = false → meth.name = y.name → s.heap.size = sz → Wd G n ad I L R (qA n ad sz) s.heap s.heap [] s → ∀ ls : Array Slot, lv_has ls maxL (lv_args 0 av) →
      W p l e rm s m av.toArray below meth c s.heap [] 0 0 (MQ below Qc av.toArray s mc ms (qA n ad sz)) (F0 m 0 ls [])) : Met l y (Cond.code y cc maxL ret :: GW) rm (qPre G n ad sz I L R av) Qc mc ms (qA n ad sz) := by
  refine Met.ofW (cc := cc) (maxL := maxL) (ret := ret) hy rfl ?_
  intro p e s m args below meth c s₁ B hml hv
  obtain ⟨rfl, hsz, hP, hK, hD, hN⟩ := hv
  have hts := atoms_spec (ws := Cond.code y cc maxL ret :: GW) B.pre
  rw [lg_entry_eq]
  exact body p e s m below meth c ⟨B.exec, B.bytes, hml, findClass_of_methodNamed B.named, fun w hw => hts w (List.mem_cons_of_mem _ hw)⟩ B.returns B.notSynchronized (name_of_methodNamed B.named B.method).1 hsz ⟨hP, hK, qA_self hD, va_S.rf, fun q h => Or.inr (by omega), hN⟩ _ (lv_entry av hlen)
end
section
theorem dX0_init_0 : decode cX0_init 0 = .ok (.aload_n 0, 1) := by decide +kernel
theorem dX0_init_1 : decode cX0_init 1 = .ok (.invokespecial 3, 3) := by decide +kernel
theorem dX0_init_4 : decode cX0_init 4 = .ok (.aload_n 0, 1) := by decide +kernel
theorem dX0_init_5 : decode cX0_init 5 = .ok (.bipush 58, 2) := by decide +kernel
theorem dX0_init_7 : decode cX0_init 7 = .ok (.newarray .int, 2) := by decide +kernel
theorem dX0_init_9 : decode cX0_init 9 = .ok (.putfield 9, 3) := by decide +kernel
theorem dX0_init_12 : decode cX0_init 12 = .ok (.aload_n 0, 1) := by decide +kernel
theorem dX0_init_13 : decode cX0_init 13 = .ok (.bipush 6, 2) := by decide +kernel
theorem dX0_init_15 : decode cX0_init 15 = .ok (.newarray .int, 2) := by decide +kernel
theorem dX0_init_17 : decode cX0_init 17 = .ok (.putfield 15, 3) := by decide +kernel
theorem dX0_init_20 : decode cX0_init 20 = .ok (.aload_n 0, 1) := by decide +kernel
theorem dX0_init_21 : decode cX0_init 21 = .ok (.iconst 0, 1) := by decide +kernel
theorem dX0_init_22 : decode cX0_init 22 = .ok (.putfield 18, 3) := by decide +kernel
theorem dX0_init_25 : decode cX0_init 25 = .ok (.return_, 1) := by decide +kernel
theorem dX0_copyFrom_0 : decode cX0_copyFrom 0 = .ok (.aload_n 1, 1) := by decide +kernel
theorem dX0_copyFrom_1 : decode cX0_copyFrom 1 = .ok (.getfield 9, 3) := by decide +kernel
theorem dX0_copyFrom_4 : decode cX0_copyFrom 4 = .ok (.iconst 0, 1) := by decide +kernel
theorem dX0_copyFrom_5 : decode cX0_copyFrom 5 = .ok (.aload_n 0, 1) := by decide +kernel
theorem dX0_copyFrom_6 : decode cX0_copyFrom 6 = .ok (.getfield 9, 3) := by decide +kernel
theorem dX0_copyFrom_9 : decode cX0_copyFrom 9 = .ok (.iconst 0, 1) := by decide +kernel
theorem dX0_copyFrom_10 : decode cX0_copyFrom 10 = .ok (.bipush 58, 2) := by decide +kernel
theorem dX0_copyFrom_12 : decode cX0_copyFrom 12 = .ok (.invokestatic 22, 3) := by decide +kernel
theorem dX0_copyFrom_15 : decode cX0_copyFrom 15 = .ok (.aload_n 1, 1) := by decide +kernel
theorem dX0_copyFrom_16 : decode cX0_copyFrom 16 = .ok (.getfield 15, 3) := by decide +kernel
theorem dX0_copyFrom_19 : decode cX0_copyFrom 19 = .ok (.iconst 0, 1) := by decide +kernel
theorem dX0_copyFrom_20 : decode cX0_copyFrom 20 = .ok (.aload_n 0, 1) := by decide +kernel
theorem dX0_copyFrom_21 : decode cX0_copyFrom 21 = .ok (.getfield 15, 3) := by decide +kernel
theorem dX0_copyFrom_24 : decode cX0_copyFrom 24 = .ok (.iconst 0, 1) := by decide +kernel
theorem dX0_copyFrom_25 : decode cX0_copyFrom 25 = .ok (.bipush 6, 2) := by decide +kernel
theorem dX0_copyFrom_27 : decode cX0_copyFrom 27 = .ok (.invokestatic 22, 3) := by decide +kernel
theorem dX0_copyFrom_30 : decode cX0_copyFrom 30 = .ok (.aload_n 0, 1) := by decide +kernel
theorem dX0_copyFrom_31 : decode cX0_copyFrom 31 = .ok (.aload_n 1, 1) := by decide +kernel
theorem dX0_copyFrom_32 : decode cX0_copyFrom 32 = .ok (.getfield 18, 3) := by decide +kernel
theorem dX0_copyFrom_35 : decode cX0_copyFrom 35 = .ok (.putfield 18, 3) := by decide +kernel
theorem dX0_copyFrom_38 : decode cX0_copyFrom 38 = .ok (.return_, 1) := by decide +kernel
theorem dX0_hasPlace_0 : decode cX0_hasPlace 0 = .ok (.iload_n 1, 1) := by decide +kernel
theorem dX0_hasPlace_1 : decode cX0_hasPlace 1 = .ok (.ifCond .lt 15, 3) := by decide +kernel
theorem dX0_hasPlace_4 : decode cX0_hasPlace 4 = .ok (.iload_n 1, 1) := by decide +kernel
theorem dX0_hasPlace_5 : decode cX0_hasPlace 5 = .ok (.aload_n 0, 1) := by decide +kernel
theorem dX0_hasPlace_6 : decode cX0_hasPlace 6 = .ok (.getfield 18, 3) := by decide +kernel
theorem dX0_hasPlace_9 : decode cX0_hasPlace 9 = .ok (.if_icmp .ge 7, 3) := by decide +kernel
theorem dX0_hasPlace_12 : decode cX0_hasPlace 12 = .ok (.iconst 1, 1) := by decide +kernel
theorem dX0_hasPlace_13 : decode cX0_hasPlace 13 = .ok (.goto 4, 3) := by decide +kernel
theorem dX0_hasPlace_16 : decode cX0_hasPlace 16 = .ok (.iconst 0, 1) := by decide +kernel
theorem dX0_hasPlace_17 : decode cX0_hasPlace 17 = .ok (.ireturn, 1) := by decide +kernel
theorem dX0_append_0 : decode cX0_append 0 = .ok (.aload_n 0, 1) := by decide +kernel
theorem dX0_append_1 : decode cX0_append 1 = .ok (.getfield 18, 3) := by decide +kernel
theorem dX0_append_4 : decode cX0_append 4 = .ok (.bipush 6, 2) := by decide +kernel
theorem dX0_append_6 : decode cX0_append 6 = .ok (.if_icmp .ge 23, 3) := by decide +kernel
theorem dX0_append_9 : decode cX0_append 9 = .ok (.aload_n 0, 1) := by decide +kernel
theorem dX0_append_10 : decode cX0_append 10 = .ok (.getfield 15, 3) := by decide +kernel
theorem dX0_append_13 : decode cX0_append 13 = .ok (.aload_n 0, 1) := by decide +kernel
theorem dX0_append_14 : decode cX0_append 14 = .ok (.getfield 18, 3) := by decide +kernel
theorem dX0_append_17 : decode cX0_append 17 = .ok (.iload_n 1, 1) := by decide +kernel
theorem dX0_append_18 : decode cX0_append 18 = .ok (.iastore, 1) := by decide +kernel
theorem dX0_append_19 : decode cX0_append 19 = .ok (.aload_n 0, 1) := by decide +kernel
theorem dX0_append_20 : decode cX0_append 20 = .ok (.dup, 1) := by decide +kernel
theorem dX0_append_21 : decode cX0_append 21 = .ok (.getfield 18, 3) := by decide +kernel
theorem dX0_append_24 : decode cX0_append 24 = .ok (.iconst 1, 1) := by decide +kernel
theorem dX0_append_25 : decode cX0_append 25 = .ok (.iadd, 1) := by decide +kernel
theorem dX0_append_26 : decode cX0_append 26 = .ok (.putfield 18, 3) := by decide +kernel
theorem dX0_append_29 : decode cX0_append 29 = .ok (.return_, 1) := by decide +kernel
theorem dX0_countWeights_0 : decode cX0_countWeights 0 = .ok (.iconst 0, 1) := by decide +kernel
theorem dX0_countWeights_1 : decode cX0_countWeights 1 = .ok (.istore_n 1, 1) := by decide +kernel
theorem dX0_countWeights_2 : decode cX0_countWeights 2 = .ok (.iconst 0, 1) := by decide +kernel
theorem dX0_countWeights_3 : decode cX0_countWeights 3 = .ok (.istore_n 2, 1) := by decide +kernel
theorem dX0_countWeights_4 : decode cX0_countWeights 4 = .ok (.iload_n 2, 1) := by decide +kernel
theorem dX0_countWeights_5 : decode cX0_countWeights 5 = .ok (.bipush 58, 2) := by decide +kernel
theorem dX0_countWeights_7 : decode cX0_countWeights 7 = .ok (.if_icmp .ge 21, 3) := by decide +kernel
theorem dX0_countWeights_10 : decode cX0_countWeights 10 = .ok (.aload_n 0, 1) := by decide +kernel
theorem dX0_countWeights_11 : decode cX0_countWeights 11 = .ok (.getfield 9, 3) := by decide +kernel
theorem dX0_countWeights_14 : decode cX0_countWeights 14 = .ok (.iload_n 2, 1) := by decide +kernel
theorem dX0_countWeights_15 : decode cX0_countWeights 15 = .ok (.iaload, 1) := by decide +kernel
theorem dX0_countWeights_16 : decode cX0_countWeights 16 = .ok (.ifCond .eq 6, 3) := by decide +kernel
theorem dX0_countWeights_19 : decode cX0_countWeights 19 = .ok (.iinc 1 1, 3) := by decide +kernel
theorem dX0_countWeights_22 : decode cX0_countWeights 22 = .ok (.iinc 2 1, 3) := by decide +kernel
theorem dX0_countWeights_25 : decode cX0_countWeights 25 = .ok (.goto (-21), 3) := by decide +kernel
theorem dX0_countWeights_28 : decode cX0_countWeights 28 = .ok (.iload_n 1, 1) := by decide +kernel
theorem dX0_countWeights_29 : decode cX0_countWeights 29 = .ok (.ireturn, 1) := by decide +kernel
theorem dX0_stepWeight_0 : decode cX0_stepWeight 0 = .ok (.aload_n 0, 1) := by decide +kernel
theorem dX0_stepWeight_1 : decode cX0_stepWeight 1 = .ok (.getfield 9, 3) := by decide +kernel
theorem dX0_stepWeight_4 : decode cX0_stepWeight 4 = .ok (.iload_n 1, 1) := by decide +kernel
theorem dX0_stepWeight_5 : decode cX0_stepWeight 5 = .ok (.bipush 6, 2) := by decide +kernel
theorem dX0_stepWeight_7 : decode cX0_stepWeight 7 = .ok (.imul, 1) := by decide +kernel
theorem dX0_stepWeight_8 : decode cX0_stepWeight 8 = .ok (.iload_n 2, 1) := by decide +kernel
theorem dX0_stepWeight_9 : decode cX0_stepWeight 9 = .ok (.iadd, 1) := by decide +kernel
theorem dX0_stepWeight_10 : decode cX0_stepWeight 10 = .ok (.iaload, 1) := by decide +kernel
theorem dX0_stepWeight_11 : decode cX0_stepWeight 11 = .ok (.ireturn, 1) := by decide +kernel
theorem dX0_letterWeight_0 : decode cX0_letterWeight 0 = .ok (.aload_n 0, 1) := by decide +kernel
theorem dX0_letterWeight_1 : decode cX0_letterWeight 1 = .ok (.getfield 9, 3) := by decide +kernel
theorem dX0_letterWeight_4 : decode cX0_letterWeight 4 = .ok (.bipush 42, 2) := by decide +kernel
theorem dX0_letterWeight_6 : decode cX0_letterWeight 6 = .ok (.iload_n 1, 1) := by decide +kernel
theorem dX0_letterWeight_7 : decode cX0_letterWeight 7 = .ok (.iconst 4, 1) := by decide +kernel
theorem dX0_letterWeight_8 : decode cX0_letterWeight 8 = .ok (.imul, 1) := by decide +kernel
theorem dX0_letterWeight_9 : decode cX0_letterWeight 9 = .ok (.iadd, 1) := by decide +kernel
theorem dX0_letterWeight_10 : decode cX0_letterWeight 10 = .ok (.iload_n 2, 1) := by decide +kernel
theorem dX0_letterWeight_11 : decode cX0_letterWeight 11 = .ok (.iadd, 1) := by decide +kernel
theorem dX0_letterWeight_12 : decode cX0_letterWeight 12 = .ok (.iaload, 1) := by decide +kernel
theorem dX0_letterWeight_13 : decode cX0_letterWeight 13 = .ok (.ireturn, 1) := by decide +kernel
theorem dX0_moveWeight_0 : decode cX0_moveWeight 0 = .ok (.iload_n 2, 1) := by decide +kernel
theorem dX0_moveWeight_1 : decode cX0_moveWeight 1 = .ok (.iconst 4, 1) := by decide +kernel
theorem dX0_moveWeight_2 : decode cX0_moveWeight 2 = .ok (.if_icmp .lt 10, 3) := by decide +kernel
theorem dX0_moveWeight_5 : decode cX0_moveWeight 5 = .ok (.aload_n 0, 1) := by decide +kernel
theorem dX0_moveWeight_6 : decode cX0_moveWeight 6 = .ok (.iload_n 1, 1) := by decide +kernel
theorem dX0_moveWeight_7 : decode cX0_moveWeight 7 = .ok (.iload_n 2, 1) := by decide +kernel
theorem dX0_moveWeight_8 : decode cX0_moveWeight 8 = .ok (.invokevirtual 28, 3) := by decide +kernel
theorem dX0_moveWeight_11 : decode cX0_moveWeight 11 = .ok (.ireturn, 1) := by decide +kernel
theorem dX0_moveWeight_12 : decode cX0_moveWeight 12 = .ok (.iload_n 3, 1) := by decide +kernel
theorem dX0_moveWeight_13 : decode cX0_moveWeight 13 = .ok (.aload_n 0, 1) := by decide +kernel
theorem dX0_moveWeight_14 : decode cX0_moveWeight 14 = .ok (.getfield 18, 3) := by decide +kernel
theorem dX0_moveWeight_17 : decode cX0_moveWeight 17 = .ok (.if_icmp .ge 24, 3) := by decide +kernel
theorem dX0_moveWeight_20 : decode cX0_moveWeight 20 = .ok (.aload_n 0, 1) := by decide +kernel
theorem dX0_moveWeight_21 : decode cX0_moveWeight 21 = .ok (.iload_n 1, 1) := by decide +kernel
theorem dX0_moveWeight_22 : decode cX0_moveWeight 22 = .ok (.iload_n 2, 1) := by decide +kernel
theorem dX0_moveWeight_23 : decode cX0_moveWeight 23 = .ok (.invokevirtual 28, 3) := by decide +kernel
theorem dX0_moveWeight_26 : decode cX0_moveWeight 26 = .ok (.aload_n 0, 1) := by decide +kernel
theorem dX0_moveWeight_27 : decode cX0_moveWeight 27 = .ok (.iload_n 2, 1) := by decide +kernel
theorem dX0_moveWeight_28 : decode cX0_moveWeight 28 = .ok (.aload_n 0, 1) := by decide +kernel
theorem dX0_moveWeight_29 : decode cX0_moveWeight 29 = .ok (.getfield 15, 3) := by decide +kernel
theorem dX0_moveWeight_32 : decode cX0_moveWeight 32 = .ok (.iload_n 3, 1) := by decide +kernel
theorem dX0_moveWeight_33 : decode cX0_moveWeight 33 = .ok (.iaload, 1) := by decide +kernel
theorem dX0_moveWeight_34 : decode cX0_moveWeight 34 = .ok (.invokevirtual 32, 3) := by decide +kernel
theorem dX0_moveWeight_37 : decode cX0_moveWeight 37 = .ok (.imul, 1) := by decide +kernel
theorem dX0_moveWeight_38 : decode cX0_moveWeight 38 = .ok (.goto 4, 3) := by decide +kernel
theorem dX0_moveWeight_41 : decode cX0_moveWeight 41 = .ok (.iconst 0, 1) := by decide +kernel
theorem dX0_moveWeight_42 : decode cX0_moveWeight 42 = .ok (.ireturn, 1) := by decide +kernel
theorem dX1_init_0 : decode cX1_init 0 = .ok (.aload_n 0, 1) := by decide +kernel
theorem dX1_init_1 : decode cX1_init 1 = .ok (.invokespecial 3, 3) := by decide +kernel
theorem dX1_init_4 : decode cX1_init 4 = .ok (.aload_n 0, 1) := by decide +kernel
theorem dX1_init_5 : decode cX1_init 5 = .ok (.bipush 80, 2) := by decide +kernel
theorem dX1_init_7 : decode cX1_init 7 = .ok (.newarray .char, 2) := by decide +kernel
theorem dX1_init_9 : decode cX1_init 9 = .ok (.putfield 9, 3) := by decide +kernel
theorem dX1_init_12 : decode cX1_init 12 = .ok (.aload_n 0, 1) := by decide +kernel
theorem dX1_init_13 : decode cX1_init 13 = .ok (.iconst 0, 1) := by decide +kernel
theorem dX1_init_14 : decode cX1_init 14 = .ok (.putfield 15, 3) := by decide +kernel
theorem dX1_init_17 : decode cX1_init 17 = .ok (.aload_n 0, 1) := by decide +kernel
theorem dX1_init_18 : decode cX1_init 18 = .ok (.iconst 0, 1) := by decide +kernel
theorem dX1_init_19 : decode cX1_init 19 = .ok (.putfield 19, 3) := by decide +kernel
theorem dX1_init_22 : decode cX1_init 22 = .ok (.aload_n 0, 1) := by decide +kernel
theorem dX1_init_23 : decode cX1_init 23 = .ok (.iconst 0, 1) := by decide +kernel
theorem dX1_init_24 : decode cX1_init 24 = .ok (.putfield 22, 3) := by decide +kernel
theorem dX1_init_27 : decode cX1_init 27 = .ok (.return_, 1) := by decide +kernel
theorem dX1_countSigns_0 : decode cX1_countSigns 0 = .ok (.lload_n 0, 1) := by decide +kernel
theorem dX1_countSigns_1 : decode cX1_countSigns 1 = .ok (.lstore_n 2, 1) := by decide +kernel
theorem dX1_countSigns_2 : decode cX1_countSigns 2 = .ok (.iconst 0, 1) := by decide +kernel
theorem dX1_countSigns_3 : decode cX1_countSigns 3 = .ok (.istore 4, 2) := by decide +kernel
theorem dX1_countSigns_5 : decode cX1_countSigns 5 = .ok (.iload 4, 2) := by decide +kernel
theorem dX1_countSigns_7 : decode cX1_countSigns 7 = .ok (.bipush 8, 2) := by decide +kernel
theorem dX1_countSigns_9 : decode cX1_countSigns 9 = .ok (.if_icmp .ge 50, 3) := by decide +kernel
theorem dX1_countSigns_12 : decode cX1_countSigns 12 = .ok (.lload_n 2, 1) := by decide +kernel
theorem dX1_countSigns_13 : decode cX1_countSigns 13 = .ok (.ldc2_w 25, 3) := by decide +kernel
theorem dX1_countSigns_16 : decode cX1_countSigns 16 = .ok (.land, 1) := by decide +kernel
theorem dX1_countSigns_17 : decode cX1_countSigns 17 = .ok (.lconst 0, 1) := by decide +kernel
theorem dX1_countSigns_18 : decode cX1_countSigns 18 = .ok (.lcmp, 1) := by decide +kernel
theorem dX1_countSigns_19 : decode cX1_countSigns 19 = .ok (.ifCond .eq 40, 3) := by decide +kernel
theorem dX1_countSigns_22 : decode cX1_countSigns 22 = .ok (.lload_n 2, 1) := by decide +kernel
theorem dX1_countSigns_23 : decode cX1_countSigns 23 = .ok (.ldc2_w 25, 3) := by decide +kernel
theorem dX1_countSigns_26 : decode cX1_countSigns 26 = .ok (.land, 1) := by decide +kernel
theorem dX1_countSigns_27 : decode cX1_countSigns 27 = .ok (.ldc2_w 27, 3) := by decide +kernel
theorem dX1_countSigns_30 : decode cX1_countSigns 30 = .ok (.lcmp, 1) := by decide +kernel
theorem dX1_countSigns_31 : decode cX1_countSigns 31 = .ok (.ifCond .lt 15, 3) := by decide +kernel
theorem dX1_countSigns_34 : decode cX1_countSigns 34 = .ok (.lload_n 2, 1) := by decide +kernel
theorem dX1_countSigns_35 : decode cX1_countSigns 35 = .ok (.ldc2_w 25, 3) := by decide +kernel
theorem dX1_countSigns_38 : decode cX1_countSigns 38 = .ok (.land, 1) := by decide +kernel
theorem dX1_countSigns_39 : decode cX1_countSigns 39 = .ok (.ldc2_w 29, 3) := by decide +kernel
theorem dX1_countSigns_42 : decode cX1_countSigns 42 = .ok (.lcmp, 1) := by decide +kernel
theorem dX1_countSigns_43 : decode cX1_countSigns 43 = .ok (.ifCond .le 5, 3) := by decide +kernel
theorem dX1_countSigns_46 : decode cX1_countSigns 46 = .ok (.iconst (-1), 1) := by decide +kernel
theorem dX1_countSigns_47 : decode cX1_countSigns 47 = .ok (.ireturn, 1) := by decide +kernel
theorem dX1_countSigns_48 : decode cX1_countSigns 48 = .ok (.lload_n 2, 1) := by decide +kernel
theorem dX1_countSigns_49 : decode cX1_countSigns 49 = .ok (.bipush 8, 2) := by decide +kernel
theorem dX1_countSigns_51 : decode cX1_countSigns 51 = .ok (.lushr, 1) := by decide +kernel
theorem dX1_countSigns_52 : decode cX1_countSigns 52 = .ok (.lstore_n 2, 1) := by decide +kernel
theorem dX1_countSigns_53 : decode cX1_countSigns 53 = .ok (.iinc 4 1, 3) := by decide +kernel
theorem dX1_countSigns_56 : decode cX1_countSigns 56 = .ok (.goto (-51), 3) := by decide +kernel
theorem dX1_countSigns_59 : decode cX1_countSigns 59 = .ok (.iload 4, 2) := by decide +kernel
theorem dX1_countSigns_61 : decode cX1_countSigns 61 = .ok (.ifCond .le 14, 3) := by decide +kernel
theorem dX1_countSigns_64 : decode cX1_countSigns 64 = .ok (.lload_n 2, 1) := by decide +kernel
theorem dX1_countSigns_65 : decode cX1_countSigns 65 = .ok (.lconst 0, 1) := by decide +kernel
theorem dX1_countSigns_66 : decode cX1_countSigns 66 = .ok (.lcmp, 1) := by decide +kernel
theorem dX1_countSigns_67 : decode cX1_countSigns 67 = .ok (.ifCond .ne 8, 3) := by decide +kernel
theorem dX1_countSigns_70 : decode cX1_countSigns 70 = .ok (.iload 4, 2) := by decide +kernel
theorem dX1_countSigns_72 : decode cX1_countSigns 72 = .ok (.goto 4, 3) := by decide +kernel
theorem dX1_countSigns_75 : decode cX1_countSigns 75 = .ok (.iconst (-1), 1) := by decide +kernel
theorem dX1_countSigns_76 : decode cX1_countSigns 76 = .ok (.ireturn, 1) := by decide +kernel
theorem dX1_append_0 : decode cX1_append 0 = .ok (.iload_n 3, 1) := by decide +kernel
theorem dX1_append_1 : decode cX1_append 1 = .ok (.iconst 1, 1) := by decide +kernel
theorem dX1_append_2 : decode cX1_append 2 = .ok (.isub, 1) := by decide +kernel
theorem dX1_append_3 : decode cX1_append 3 = .ok (.istore 4, 2) := by decide +kernel
theorem dX1_append_5 : decode cX1_append 5 = .ok (.iload 4, 2) := by decide +kernel
theorem dX1_append_7 : decode cX1_append 7 = .ok (.ifCond .lt 50, 3) := by decide +kernel
theorem dX1_append_10 : decode cX1_append 10 = .ok (.aload_n 0, 1) := by decide +kernel
theorem dX1_append_11 : decode cX1_append 11 = .ok (.getfield 15, 3) := by decide +kernel
theorem dX1_append_14 : decode cX1_append 14 = .ok (.bipush 80, 2) := by decide +kernel
theorem dX1_append_16 : decode cX1_append 16 = .ok (.if_icmp .ge 41, 3) := by decide +kernel
theorem dX1_append_19 : decode cX1_append 19 = .ok (.aload_n 0, 1) := by decide +kernel
theorem dX1_append_20 : decode cX1_append 20 = .ok (.getfield 9, 3) := by decide +kernel
theorem dX1_append_23 : decode cX1_append 23 = .ok (.aload_n 0, 1) := by decide +kernel
theorem dX1_append_24 : decode cX1_append 24 = .ok (.getfield 15, 3) := by decide +kernel
theorem dX1_append_27 : decode cX1_append 27 = .ok (.lload_n 1, 1) := by decide +kernel
theorem dX1_append_28 : decode cX1_append 28 = .ok (.bipush 8, 2) := by decide +kernel
theorem dX1_append_30 : decode cX1_append 30 = .ok (.iload 4, 2) := by decide +kernel
theorem dX1_append_32 : decode cX1_append 32 = .ok (.imul, 1) := by decide +kernel
theorem dX1_append_33 : decode cX1_append 33 = .ok (.lushr, 1) := by decide +kernel
theorem dX1_append_34 : decode cX1_append 34 = .ok (.ldc2_w 25, 3) := by decide +kernel
theorem dX1_append_37 : decode cX1_append 37 = .ok (.land, 1) := by decide +kernel
theorem dX1_append_38 : decode cX1_append 38 = .ok (.l2i, 1) := by decide +kernel
theorem dX1_append_39 : decode cX1_append 39 = .ok (.i2c, 1) := by decide +kernel
theorem dX1_append_40 : decode cX1_append 40 = .ok (.castore, 1) := by decide +kernel
theorem dX1_append_41 : decode cX1_append 41 = .ok (.aload_n 0, 1) := by decide +kernel
theorem dX1_append_42 : decode cX1_append 42 = .ok (.dup, 1) := by decide +kernel
theorem dX1_append_43 : decode cX1_append 43 = .ok (.getfield 15, 3) := by decide +kernel
theorem dX1_append_46 : decode cX1_append 46 = .ok (.iconst 1, 1) := by decide +kernel
theorem dX1_append_47 : decode cX1_append 47 = .ok (.iadd, 1) := by decide +kernel
theorem dX1_append_48 : decode cX1_append 48 = .ok (.putfield 15, 3) := by decide +kernel
theorem dX1_append_51 : decode cX1_append 51 = .ok (.iinc 4 (-1), 3) := by decide +kernel
theorem dX1_append_54 : decode cX1_append 54 = .ok (.goto (-49), 3) := by decide +kernel
theorem dX1_append_57 : decode cX1_append 57 = .ok (.return_, 1) := by decide +kernel
theorem dX1_clear_0 : decode cX1_clear 0 = .ok (.aload_n 0, 1) := by decide +kernel
theorem dX1_clear_1 : decode cX1_clear 1 = .ok (.getfield 15, 3) := by decide +kernel
theorem dX1_clear_4 : decode cX1_clear 4 = .ok (.istore_n 1, 1) := by decide +kernel
theorem dX1_clear_5 : decode cX1_clear 5 = .ok (.aload_n 0, 1) := by decide +kernel
theorem dX1_clear_6 : decode cX1_clear 6 = .ok (.iconst 0, 1) := by decide +kernel
theorem dX1_clear_7 : decode cX1_clear 7 = .ok (.putfield 15, 3) := by decide +kernel
theorem dX1_clear_10 : decode cX1_clear 10 = .ok (.iload_n 1, 1) := by decide +kernel
theorem dX1_clear_11 : decode cX1_clear 11 = .ok (.ireturn, 1) := by decide +kernel
theorem dX1_read_0 : decode cX1_read 0 = .ok (.aload_n 0, 1) := by decide +kernel
theorem dX1_read_1 : decode cX1_read 1 = .ok (.iconst 0, 1) := by decide +kernel
theorem dX1_read_2 : decode cX1_read 2 = .ok (.putfield 19, 3) := by decide +kernel
theorem dX1_read_5 : decode cX1_read 5 = .ok (.aload_n 0, 1) := by decide +kernel
theorem dX1_read_6 : decode cX1_read 6 = .ok (.iconst 0, 1) := by decide +kernel
theorem dX1_read_7 : decode cX1_read 7 = .ok (.putfield 22, 3) := by decide +kernel
theorem dX1_read_10 : decode cX1_read 10 = .ok (.aload_n 0, 1) := by decide +kernel
theorem dX1_read_11 : decode cX1_read 11 = .ok (.getfield 22, 3) := by decide +kernel
theorem dX1_read_14 : decode cX1_read 14 = .ok (.bipush 80, 2) := by decide +kernel
theorem dX1_read_16 : decode cX1_read 16 = .ok (.if_icmp .ge 49, 3) := by decide +kernel
theorem dX1_read_19 : decode cX1_read 19 = .ok (.aload_n 0, 1) := by decide +kernel
theorem dX1_read_20 : decode cX1_read 20 = .ok (.aload_n 1, 1) := by decide +kernel
theorem dX1_read_21 : decode cX1_read 21 = .ok (.invokevirtual 31, 3) := by decide +kernel
theorem dX1_read_24 : decode cX1_read 24 = .ok (.ifCond .ne 5, 3) := by decide +kernel
theorem dX1_read_27 : decode cX1_read 27 = .ok (.iconst 0, 1) := by decide +kernel
theorem dX1_read_28 : decode cX1_read 28 = .ok (.ireturn, 1) := by decide +kernel
theorem dX1_read_29 : decode cX1_read 29 = .ok (.aload_n 0, 1) := by decide +kernel
theorem dX1_read_30 : decode cX1_read 30 = .ok (.dup, 1) := by decide +kernel
theorem dX1_read_31 : decode cX1_read 31 = .ok (.getfield 22, 3) := by decide +kernel
theorem dX1_read_34 : decode cX1_read 34 = .ok (.iconst 1, 1) := by decide +kernel
theorem dX1_read_35 : decode cX1_read 35 = .ok (.iadd, 1) := by decide +kernel
theorem dX1_read_36 : decode cX1_read 36 = .ok (.putfield 22, 3) := by decide +kernel
theorem dX1_read_39 : decode cX1_read 39 = .ok (.aload_n 0, 1) := by decide +kernel
theorem dX1_read_40 : decode cX1_read 40 = .ok (.getfield 19, 3) := by decide +kernel
theorem dX1_read_43 : decode cX1_read 43 = .ok (.aload_n 0, 1) := by decide +kernel
theorem dX1_read_44 : decode cX1_read 44 = .ok (.getfield 15, 3) := by decide +kernel
theorem dX1_read_47 : decode cX1_read 47 = .ok (.if_icmp .lt 5, 3) := by decide +kernel
theorem dX1_read_50 : decode cX1_read 50 = .ok (.iconst 1, 1) := by decide +kernel
theorem dX1_read_51 : decode cX1_read 51 = .ok (.ireturn, 1) := by decide +kernel
theorem dX1_read_52 : decode cX1_read 52 = .ok (.aload_n 0, 1) := by decide +kernel
theorem dX1_read_53 : decode cX1_read 53 = .ok (.bipush 59, 2) := by decide +kernel
theorem dX1_read_55 : decode cX1_read 55 = .ok (.bipush 59, 2) := by decide +kernel
theorem dX1_read_57 : decode cX1_read 57 = .ok (.invokevirtual 35, 3) := by decide +kernel
theorem dX1_read_60 : decode cX1_read 60 = .ok (.ifCond .ne (-50), 3) := by decide +kernel
theorem dX1_read_63 : decode cX1_read 63 = .ok (.iconst 0, 1) := by decide +kernel
theorem dX1_read_64 : decode cX1_read 64 = .ok (.ireturn, 1) := by decide +kernel
theorem dX1_read_65 : decode cX1_read 65 = .ok (.iconst 0, 1) := by decide +kernel
theorem dX1_read_66 : decode cX1_read 66 = .ok (.ireturn, 1) := by decide +kernel
theorem dX1_readPart_0 : decode cX1_readPart 0 = .ok (.aload_n 0, 1) := by decide +kernel
theorem dX1_readPart_1 : decode cX1_readPart 1 = .ok (.bipush 64, 2) := by decide +kernel
theorem dX1_readPart_3 : decode cX1_readPart 3 = .ok (.bipush 64, 2) := by decide +kernel
theorem dX1_readPart_5 : decode cX1_readPart 5 = .ok (.invokevirtual 35, 3) := by decide +kernel
theorem dX1_readPart_8 : decode cX1_readPart 8 = .ok (.ifCond .eq 9, 3) := by decide +kernel
theorem dX1_readPart_11 : decode cX1_readPart 11 = .ok (.aload_n 0, 1) := by decide +kernel
theorem dX1_readPart_12 : decode cX1_readPart 12 = .ok (.aload_n 1, 1) := by decide +kernel
theorem dX1_readPart_13 : decode cX1_readPart 13 = .ok (.invokevirtual 39, 3) := by decide +kernel
theorem dX1_readPart_16 : decode cX1_readPart 16 = .ok (.ireturn, 1) := by decide +kernel
theorem dX1_readPart_17 : decode cX1_readPart 17 = .ok (.aload_n 0, 1) := by decide +kernel
theorem dX1_readPart_18 : decode cX1_readPart 18 = .ok (.bipush 33, 2) := by decide +kernel
theorem dX1_readPart_20 : decode cX1_readPart 20 = .ok (.bipush 33, 2) := by decide +kernel
theorem dX1_readPart_22 : decode cX1_readPart 22 = .ok (.invokevirtual 35, 3) := by decide +kernel
theorem dX1_readPart_25 : decode cX1_readPart 25 = .ok (.ifCond .eq 9, 3) := by decide +kernel
theorem dX1_readPart_28 : decode cX1_readPart 28 = .ok (.aload_n 0, 1) := by decide +kernel
theorem dX1_readPart_29 : decode cX1_readPart 29 = .ok (.aload_n 1, 1) := by decide +kernel
theorem dX1_readPart_30 : decode cX1_readPart 30 = .ok (.invokevirtual 42, 3) := by decide +kernel
theorem dX1_readPart_33 : decode cX1_readPart 33 = .ok (.ireturn, 1) := by decide +kernel
theorem dX1_readPart_34 : decode cX1_readPart 34 = .ok (.aload_n 0, 1) := by decide +kernel
theorem dX1_readPart_35 : decode cX1_readPart 35 = .ok (.bipush 48, 2) := by decide +kernel
theorem dX1_readPart_37 : decode cX1_readPart 37 = .ok (.bipush 53, 2) := by decide +kernel
theorem dX1_readPart_39 : decode cX1_readPart 39 = .ok (.invokevirtual 35, 3) := by decide +kernel
theorem dX1_readPart_42 : decode cX1_readPart 42 = .ok (.ifCond .ne 5, 3) := by decide +kernel
theorem dX1_readPart_45 : decode cX1_readPart 45 = .ok (.iconst 0, 1) := by decide +kernel
theorem dX1_readPart_46 : decode cX1_readPart 46 = .ok (.ireturn, 1) := by decide +kernel
theorem dX1_readPart_47 : decode cX1_readPart 47 = .ok (.aload_n 0, 1) := by decide +kernel
theorem dX1_readPart_48 : decode cX1_readPart 48 = .ok (.invokevirtual 45, 3) := by decide +kernel
theorem dX1_readPart_51 : decode cX1_readPart 51 = .ok (.bipush 48, 2) := by decide +kernel
theorem dX1_readPart_53 : decode cX1_readPart 53 = .ok (.isub, 1) := by decide +kernel
theorem dX1_readPart_54 : decode cX1_readPart 54 = .ok (.istore_n 2, 1) := by decide +kernel
theorem dX1_readPart_55 : decode cX1_readPart 55 = .ok (.aload_n 0, 1) := by decide +kernel
theorem dX1_readPart_56 : decode cX1_readPart 56 = .ok (.bipush 62, 2) := by decide +kernel
theorem dX1_readPart_58 : decode cX1_readPart 58 = .ok (.bipush 62, 2) := by decide +kernel
theorem dX1_readPart_60 : decode cX1_readPart 60 = .ok (.invokevirtual 35, 3) := by decide +kernel
theorem dX1_readPart_63 : decode cX1_readPart 63 = .ok (.ifCond .eq 10, 3) := by decide +kernel
theorem dX1_readPart_66 : decode cX1_readPart 66 = .ok (.aload_n 0, 1) := by decide +kernel
theorem dX1_readPart_67 : decode cX1_readPart 67 = .ok (.aload_n 1, 1) := by decide +kernel
theorem dX1_readPart_68 : decode cX1_readPart 68 = .ok (.iload_n 2, 1) := by decide +kernel
theorem dX1_readPart_69 : decode cX1_readPart 69 = .ok (.invokevirtual 49, 3) := by decide +kernel
theorem dX1_readPart_72 : decode cX1_readPart 72 = .ok (.ireturn, 1) := by decide +kernel
theorem dX1_readPart_73 : decode cX1_readPart 73 = .ok (.iload_n 2, 1) := by decide +kernel
theorem dX1_readPart_74 : decode cX1_readPart 74 = .ok (.iconst 4, 1) := by decide +kernel
theorem dX1_readPart_75 : decode cX1_readPart 75 = .ok (.if_icmp .ge 27, 3) := by decide +kernel
theorem dX1_readPart_78 : decode cX1_readPart 78 = .ok (.aload_n 0, 1) := by decide +kernel
theorem dX1_readPart_79 : decode cX1_readPart 79 = .ok (.bipush 61, 2) := by decide +kernel
theorem dX1_readPart_81 : decode cX1_readPart 81 = .ok (.bipush 61, 2) := by decide +kernel
theorem dX1_readPart_83 : decode cX1_readPart 83 = .ok (.invokevirtual 35, 3) := by decide +kernel
theorem dX1_readPart_86 : decode cX1_readPart 86 = .ok (.ifCond .eq 16, 3) := by decide +kernel
theorem dX1_readPart_89 : decode cX1_readPart 89 = .ok (.aload_n 0, 1) := by decide +kernel
theorem dX1_readPart_90 : decode cX1_readPart 90 = .ok (.aload_n 1, 1) := by decide +kernel
theorem dX1_readPart_91 : decode cX1_readPart 91 = .ok (.iload_n 2, 1) := by decide +kernel
theorem dX1_readPart_92 : decode cX1_readPart 92 = .ok (.invokevirtual 53, 3) := by decide +kernel
theorem dX1_readPart_95 : decode cX1_readPart 95 = .ok (.ifCond .eq 7, 3) := by decide +kernel
theorem dX1_readPart_98 : decode cX1_readPart 98 = .ok (.iconst 1, 1) := by decide +kernel
theorem dX1_readPart_99 : decode cX1_readPart 99 = .ok (.goto 4, 3) := by decide +kernel
theorem dX1_readPart_102 : decode cX1_readPart 102 = .ok (.iconst 0, 1) := by decide +kernel
theorem dX1_readPart_103 : decode cX1_readPart 103 = .ok (.ireturn, 1) := by decide +kernel
theorem dX1_readBegin_0 : decode cX1_readBegin 0 = .ok (.aload_n 0, 1) := by decide +kernel
theorem dX1_readBegin_1 : decode cX1_readBegin 1 = .ok (.bipush 48, 2) := by decide +kernel
theorem dX1_readBegin_3 : decode cX1_readBegin 3 = .ok (.bipush 53, 2) := by decide +kernel
theorem dX1_readBegin_5 : decode cX1_readBegin 5 = .ok (.invokevirtual 35, 3) := by decide +kernel
theorem dX1_readBegin_8 : decode cX1_readBegin 8 = .ok (.ifCond .ne 5, 3) := by decide +kernel
theorem dX1_readBegin_11 : decode cX1_readBegin 11 = .ok (.iconst 0, 1) := by decide +kernel
theorem dX1_readBegin_12 : decode cX1_readBegin 12 = .ok (.ireturn, 1) := by decide +kernel
theorem dX1_readBegin_13 : decode cX1_readBegin 13 = .ok (.aload_n 0, 1) := by decide +kernel
theorem dX1_readBegin_14 : decode cX1_readBegin 14 = .ok (.aload_n 1, 1) := by decide +kernel
theorem dX1_readBegin_15 : decode cX1_readBegin 15 = .ok (.bipush 36, 2) := by decide +kernel
theorem dX1_readBegin_17 : decode cX1_readBegin 17 = .ok (.aload_n 0, 1) := by decide +kernel
theorem dX1_readBegin_18 : decode cX1_readBegin 18 = .ok (.invokevirtual 45, 3) := by decide +kernel
theorem dX1_readBegin_21 : decode cX1_readBegin 21 = .ok (.iadd, 1) := by decide +kernel
theorem dX1_readBegin_22 : decode cX1_readBegin 22 = .ok (.bipush 48, 2) := by decide +kernel
theorem dX1_readBegin_24 : decode cX1_readBegin 24 = .ok (.isub, 1) := by decide +kernel
theorem dX1_readBegin_25 : decode cX1_readBegin 25 = .ok (.iconst 3, 1) := by decide +kernel
theorem dX1_readBegin_26 : decode cX1_readBegin 26 = .ok (.invokevirtual 56, 3) := by decide +kernel
theorem dX1_readBegin_29 : decode cX1_readBegin 29 = .ok (.ireturn, 1) := by decide +kernel
theorem dX1_readStep_0 : decode cX1_readStep 0 = .ok (.aload_n 0, 1) := by decide +kernel
theorem dX1_readStep_1 : decode cX1_readStep 1 = .ok (.bipush 48, 2) := by decide +kernel
theorem dX1_readStep_3 : decode cX1_readStep 3 = .ok (.bipush 53, 2) := by decide +kernel
theorem dX1_readStep_5 : decode cX1_readStep 5 = .ok (.invokevirtual 35, 3) := by decide +kernel
theorem dX1_readStep_8 : decode cX1_readStep 8 = .ok (.ifCond .ne 5, 3) := by decide +kernel
theorem dX1_readStep_11 : decode cX1_readStep 11 = .ok (.iconst 0, 1) := by decide +kernel
theorem dX1_readStep_12 : decode cX1_readStep 12 = .ok (.ireturn, 1) := by decide +kernel
theorem dX1_readStep_13 : decode cX1_readStep 13 = .ok (.aload_n 0, 1) := by decide +kernel
theorem dX1_readStep_14 : decode cX1_readStep 14 = .ok (.invokevirtual 45, 3) := by decide +kernel
theorem dX1_readStep_17 : decode cX1_readStep 17 = .ok (.bipush 48, 2) := by decide +kernel
theorem dX1_readStep_19 : decode cX1_readStep 19 = .ok (.isub, 1) := by decide +kernel
theorem dX1_readStep_20 : decode cX1_readStep 20 = .ok (.istore_n 3, 1) := by decide +kernel
theorem dX1_readStep_21 : decode cX1_readStep 21 = .ok (.aload_n 0, 1) := by decide +kernel
theorem dX1_readStep_22 : decode cX1_readStep 22 = .ok (.aload_n 1, 1) := by decide +kernel
theorem dX1_readStep_23 : decode cX1_readStep 23 = .ok (.iload_n 2, 1) := by decide +kernel
theorem dX1_readStep_24 : decode cX1_readStep 24 = .ok (.bipush 6, 2) := by decide +kernel
theorem dX1_readStep_26 : decode cX1_readStep 26 = .ok (.imul, 1) := by decide +kernel
theorem dX1_readStep_27 : decode cX1_readStep 27 = .ok (.iload_n 3, 1) := by decide +kernel
theorem dX1_readStep_28 : decode cX1_readStep 28 = .ok (.iadd, 1) := by decide +kernel
theorem dX1_readStep_29 : decode cX1_readStep 29 = .ok (.iload_n 2, 1) := by decide +kernel
theorem dX1_readStep_30 : decode cX1_readStep 30 = .ok (.iload_n 3, 1) := by decide +kernel
theorem dX1_readStep_31 : decode cX1_readStep 31 = .ok (.invokestatic 60, 3) := by decide +kernel
theorem dX1_readStep_34 : decode cX1_readStep 34 = .ok (.ifCond .eq 7, 3) := by decide +kernel
theorem dX1_readStep_37 : decode cX1_readStep 37 = .ok (.iconst 0, 1) := by decide +kernel
theorem dX1_readStep_38 : decode cX1_readStep 38 = .ok (.goto 4, 3) := by decide +kernel
theorem dX1_readStep_41 : decode cX1_readStep 41 = .ok (.iconst 3, 1) := by decide +kernel
theorem dX1_readStep_42 : decode cX1_readStep 42 = .ok (.invokevirtual 56, 3) := by decide +kernel
theorem dX1_readStep_45 : decode cX1_readStep 45 = .ok (.ireturn, 1) := by decide +kernel
theorem dX1_readLetter_0 : decode cX1_readLetter 0 = .ok (.aload_n 0, 1) := by decide +kernel
theorem dX1_readLetter_1 : decode cX1_readLetter 1 = .ok (.bipush 97, 2) := by decide +kernel
theorem dX1_readLetter_3 : decode cX1_readLetter 3 = .ok (.bipush 100, 2) := by decide +kernel
theorem dX1_readLetter_5 : decode cX1_readLetter 5 = .ok (.invokevirtual 35, 3) := by decide +kernel
theorem dX1_readLetter_8 : decode cX1_readLetter 8 = .ok (.ifCond .ne 5, 3) := by decide +kernel
theorem dX1_readLetter_11 : decode cX1_readLetter 11 = .ok (.iconst 0, 1) := by decide +kernel
theorem dX1_readLetter_12 : decode cX1_readLetter 12 = .ok (.ireturn, 1) := by decide +kernel
theorem dX1_readLetter_13 : decode cX1_readLetter 13 = .ok (.aload_n 0, 1) := by decide +kernel
theorem dX1_readLetter_14 : decode cX1_readLetter 14 = .ok (.aload_n 1, 1) := by decide +kernel
theorem dX1_readLetter_15 : decode cX1_readLetter 15 = .ok (.bipush 42, 2) := by decide +kernel
theorem dX1_readLetter_17 : decode cX1_readLetter 17 = .ok (.iload_n 2, 1) := by decide +kernel
theorem dX1_readLetter_18 : decode cX1_readLetter 18 = .ok (.iconst 4, 1) := by decide +kernel
theorem dX1_readLetter_19 : decode cX1_readLetter 19 = .ok (.imul, 1) := by decide +kernel
theorem dX1_readLetter_20 : decode cX1_readLetter 20 = .ok (.iadd, 1) := by decide +kernel
theorem dX1_readLetter_21 : decode cX1_readLetter 21 = .ok (.aload_n 0, 1) := by decide +kernel
theorem dX1_readLetter_22 : decode cX1_readLetter 22 = .ok (.invokevirtual 45, 3) := by decide +kernel
theorem dX1_readLetter_25 : decode cX1_readLetter 25 = .ok (.iadd, 1) := by decide +kernel
theorem dX1_readLetter_26 : decode cX1_readLetter 26 = .ok (.bipush 97, 2) := by decide +kernel
theorem dX1_readLetter_28 : decode cX1_readLetter 28 = .ok (.isub, 1) := by decide +kernel
theorem dX1_readLetter_29 : decode cX1_readLetter 29 = .ok (.iconst 3, 1) := by decide +kernel
theorem dX1_readLetter_30 : decode cX1_readLetter 30 = .ok (.invokevirtual 56, 3) := by decide +kernel
theorem dX1_readLetter_33 : decode cX1_readLetter 33 = .ok (.ireturn, 1) := by decide +kernel
theorem dX1_readWeight_0 : decode cX1_readWeight 0 = .ok (.aload_n 0, 1) := by decide +kernel
theorem dX1_readWeight_1 : decode cX1_readWeight 1 = .ok (.bipush 48, 2) := by decide +kernel
theorem dX1_readWeight_3 : decode cX1_readWeight 3 = .ok (.bipush 48, 2) := by decide +kernel
theorem dX1_readWeight_5 : decode cX1_readWeight 5 = .ok (.iload_n 3, 1) := by decide +kernel
theorem dX1_readWeight_6 : decode cX1_readWeight 6 = .ok (.iadd, 1) := by decide +kernel
theorem dX1_readWeight_7 : decode cX1_readWeight 7 = .ok (.invokevirtual 35, 3) := by decide +kernel
theorem dX1_readWeight_10 : decode cX1_readWeight 10 = .ok (.ifCond .ne 5, 3) := by decide +kernel
theorem dX1_readWeight_13 : decode cX1_readWeight 13 = .ok (.iconst 0, 1) := by decide +kernel
theorem dX1_readWeight_14 : decode cX1_readWeight 14 = .ok (.ireturn, 1) := by decide +kernel
theorem dX1_readWeight_15 : decode cX1_readWeight 15 = .ok (.aload_n 1, 1) := by decide +kernel
theorem dX1_readWeight_16 : decode cX1_readWeight 16 = .ok (.ifnull 16, 3) := by decide +kernel
theorem dX1_readWeight_19 : decode cX1_readWeight 19 = .ok (.aload_n 1, 1) := by decide +kernel
theorem dX1_readWeight_20 : decode cX1_readWeight 20 = .ok (.getfield 63, 3) := by decide +kernel
theorem dX1_readWeight_23 : decode cX1_readWeight 23 = .ok (.iload_n 2, 1) := by decide +kernel
theorem dX1_readWeight_24 : decode cX1_readWeight 24 = .ok (.aload_n 0, 1) := by decide +kernel
theorem dX1_readWeight_25 : decode cX1_readWeight 25 = .ok (.invokevirtual 45, 3) := by decide +kernel
theorem dX1_readWeight_28 : decode cX1_readWeight 28 = .ok (.bipush 48, 2) := by decide +kernel
theorem dX1_readWeight_30 : decode cX1_readWeight 30 = .ok (.isub, 1) := by decide +kernel
theorem dX1_readWeight_31 : decode cX1_readWeight 31 = .ok (.iastore, 1) := by decide +kernel
theorem dX1_readWeight_32 : decode cX1_readWeight 32 = .ok (.iconst 1, 1) := by decide +kernel
theorem dX1_readWeight_33 : decode cX1_readWeight 33 = .ok (.ireturn, 1) := by decide +kernel
theorem dX1_readRow_0 : decode cX1_readRow 0 = .ok (.aload_n 1, 1) := by decide +kernel
theorem dX1_readRow_1 : decode cX1_readRow 1 = .ok (.ifnull 8, 3) := by decide +kernel
theorem dX1_readRow_4 : decode cX1_readRow 4 = .ok (.aload_n 1, 1) := by decide +kernel
theorem dX1_readRow_5 : decode cX1_readRow 5 = .ok (.iconst 0, 1) := by decide +kernel
theorem dX1_readRow_6 : decode cX1_readRow 6 = .ok (.putfield 69, 3) := by decide +kernel
theorem dX1_readRow_9 : decode cX1_readRow 9 = .ok (.iconst 0, 1) := by decide +kernel
theorem dX1_readRow_10 : decode cX1_readRow 10 = .ok (.istore_n 2, 1) := by decide +kernel
theorem dX1_readRow_11 : decode cX1_readRow 11 = .ok (.iload_n 2, 1) := by decide +kernel
theorem dX1_readRow_12 : decode cX1_readRow 12 = .ok (.bipush 6, 2) := by decide +kernel
theorem dX1_readRow_14 : decode cX1_readRow 14 = .ok (.if_icmp .ge 35, 3) := by decide +kernel
theorem dX1_readRow_17 : decode cX1_readRow 17 = .ok (.aload_n 0, 1) := by decide +kernel
theorem dX1_readRow_18 : decode cX1_readRow 18 = .ok (.bipush 97, 2) := by decide +kernel
theorem dX1_readRow_20 : decode cX1_readRow 20 = .ok (.bipush 100, 2) := by decide +kernel
theorem dX1_readRow_22 : decode cX1_readRow 22 = .ok (.invokevirtual 35, 3) := by decide +kernel
theorem dX1_readRow_25 : decode cX1_readRow 25 = .ok (.ifCond .eq 24, 3) := by decide +kernel
theorem dX1_readRow_28 : decode cX1_readRow 28 = .ok (.aload_n 1, 1) := by decide +kernel
theorem dX1_readRow_29 : decode cX1_readRow 29 = .ok (.ifnull 14, 3) := by decide +kernel
theorem dX1_readRow_32 : decode cX1_readRow 32 = .ok (.aload_n 1, 1) := by decide +kernel
theorem dX1_readRow_33 : decode cX1_readRow 33 = .ok (.aload_n 0, 1) := by decide +kernel
theorem dX1_readRow_34 : decode cX1_readRow 34 = .ok (.invokevirtual 45, 3) := by decide +kernel
theorem dX1_readRow_37 : decode cX1_readRow 37 = .ok (.bipush 97, 2) := by decide +kernel
theorem dX1_readRow_39 : decode cX1_readRow 39 = .ok (.isub, 1) := by decide +kernel
theorem dX1_readRow_40 : decode cX1_readRow 40 = .ok (.invokevirtual 70, 3) := by decide +kernel
theorem dX1_readRow_43 : decode cX1_readRow 43 = .ok (.iinc 2 1, 3) := by decide +kernel
theorem dX1_readRow_46 : decode cX1_readRow 46 = .ok (.goto (-35), 3) := by decide +kernel
theorem dX1_readRow_49 : decode cX1_readRow 49 = .ok (.iconst 1, 1) := by decide +kernel
theorem dX1_readRow_50 : decode cX1_readRow 50 = .ok (.ireturn, 1) := by decide +kernel
theorem dX1_accept_0 : decode cX1_accept 0 = .ok (.aload_n 0, 1) := by decide +kernel
theorem dX1_accept_1 : decode cX1_accept 1 = .ok (.getfield 19, 3) := by decide +kernel
theorem dX1_accept_4 : decode cX1_accept 4 = .ok (.aload_n 0, 1) := by decide +kernel
theorem dX1_accept_5 : decode cX1_accept 5 = .ok (.getfield 15, 3) := by decide +kernel
theorem dX1_accept_8 : decode cX1_accept 8 = .ok (.if_icmp .ge 29, 3) := by decide +kernel
theorem dX1_accept_11 : decode cX1_accept 11 = .ok (.aload_n 0, 1) := by decide +kernel
theorem dX1_accept_12 : decode cX1_accept 12 = .ok (.getfield 9, 3) := by decide +kernel
theorem dX1_accept_15 : decode cX1_accept 15 = .ok (.aload_n 0, 1) := by decide +kernel
theorem dX1_accept_16 : decode cX1_accept 16 = .ok (.getfield 19, 3) := by decide +kernel
theorem dX1_accept_19 : decode cX1_accept 19 = .ok (.caload, 1) := by decide +kernel
theorem dX1_accept_20 : decode cX1_accept 20 = .ok (.iload_n 1, 1) := by decide +kernel
theorem dX1_accept_21 : decode cX1_accept 21 = .ok (.if_icmp .lt 16, 3) := by decide +kernel
theorem dX1_accept_24 : decode cX1_accept 24 = .ok (.aload_n 0, 1) := by decide +kernel
theorem dX1_accept_25 : decode cX1_accept 25 = .ok (.getfield 9, 3) := by decide +kernel
theorem dX1_accept_28 : decode cX1_accept 28 = .ok (.aload_n 0, 1) := by decide +kernel
theorem dX1_accept_29 : decode cX1_accept 29 = .ok (.getfield 19, 3) := by decide +kernel
theorem dX1_accept_32 : decode cX1_accept 32 = .ok (.caload, 1) := by decide +kernel
theorem dX1_accept_33 : decode cX1_accept 33 = .ok (.iload_n 2, 1) := by decide +kernel
theorem dX1_accept_34 : decode cX1_accept 34 = .ok (.if_icmp .le 5, 3) := by decide +kernel
theorem dX1_accept_37 : decode cX1_accept 37 = .ok (.iconst 0, 1) := by decide +kernel
theorem dX1_accept_38 : decode cX1_accept 38 = .ok (.ireturn, 1) := by decide +kernel
theorem dX1_accept_39 : decode cX1_accept 39 = .ok (.aload_n 0, 1) := by decide +kernel
theorem dX1_accept_40 : decode cX1_accept 40 = .ok (.dup, 1) := by decide +kernel
theorem dX1_accept_41 : decode cX1_accept 41 = .ok (.getfield 19, 3) := by decide +kernel
theorem dX1_accept_44 : decode cX1_accept 44 = .ok (.iconst 1, 1) := by decide +kernel
theorem dX1_accept_45 : decode cX1_accept 45 = .ok (.iadd, 1) := by decide +kernel
theorem dX1_accept_46 : decode cX1_accept 46 = .ok (.putfield 19, 3) := by decide +kernel
theorem dX1_accept_49 : decode cX1_accept 49 = .ok (.iconst 1, 1) := by decide +kernel
theorem dX1_accept_50 : decode cX1_accept 50 = .ok (.ireturn, 1) := by decide +kernel
theorem dX1_latest_0 : decode cX1_latest 0 = .ok (.aload_n 0, 1) := by decide +kernel
theorem dX1_latest_1 : decode cX1_latest 1 = .ok (.getfield 19, 3) := by decide +kernel
theorem dX1_latest_4 : decode cX1_latest 4 = .ok (.ifCond .le 17, 3) := by decide +kernel
theorem dX1_latest_7 : decode cX1_latest 7 = .ok (.aload_n 0, 1) := by decide +kernel
theorem dX1_latest_8 : decode cX1_latest 8 = .ok (.getfield 9, 3) := by decide +kernel
theorem dX1_latest_11 : decode cX1_latest 11 = .ok (.aload_n 0, 1) := by decide +kernel
theorem dX1_latest_12 : decode cX1_latest 12 = .ok (.getfield 19, 3) := by decide +kernel
theorem dX1_latest_15 : decode cX1_latest 15 = .ok (.iconst 1, 1) := by decide +kernel
theorem dX1_latest_16 : decode cX1_latest 16 = .ok (.isub, 1) := by decide +kernel
theorem dX1_latest_17 : decode cX1_latest 17 = .ok (.caload, 1) := by decide +kernel
theorem dX1_latest_18 : decode cX1_latest 18 = .ok (.goto 4, 3) := by decide +kernel
theorem dX1_latest_21 : decode cX1_latest 21 = .ok (.iconst 0, 1) := by decide +kernel
theorem dX1_latest_22 : decode cX1_latest 22 = .ok (.ireturn, 1) := by decide +kernel
theorem dX2_init_0 : decode cX2_init 0 = .ok (.aload_n 0, 1) := by decide +kernel
theorem dX2_init_1 : decode cX2_init 1 = .ok (.invokespecial 3, 3) := by decide +kernel
theorem dX2_init_4 : decode cX2_init 4 = .ok (.aload_n 0, 1) := by decide +kernel
theorem dX2_init_5 : decode cX2_init 5 = .ok (.bipush 7, 2) := by decide +kernel
theorem dX2_init_7 : decode cX2_init 7 = .ok (.bipush 7, 2) := by decide +kernel
theorem dX2_init_9 : decode cX2_init 9 = .ok (.multianewarray 9 2, 4) := by decide +kernel
theorem dX2_init_13 : decode cX2_init 13 = .ok (.putfield 11, 3) := by decide +kernel
theorem dX2_init_16 : decode cX2_init 16 = .ok (.aload_n 0, 1) := by decide +kernel
theorem dX2_init_17 : decode cX2_init 17 = .ok (.bipush 7, 2) := by decide +kernel
theorem dX2_init_19 : decode cX2_init 19 = .ok (.iconst 4, 1) := by decide +kernel
theorem dX2_init_20 : decode cX2_init 20 = .ok (.multianewarray 9 2, 4) := by decide +kernel
theorem dX2_init_24 : decode cX2_init 24 = .ok (.putfield 16, 3) := by decide +kernel
theorem dX2_init_27 : decode cX2_init 27 = .ok (.aload_n 0, 1) := by decide +kernel
theorem dX2_init_28 : decode cX2_init 28 = .ok (.bipush 7, 2) := by decide +kernel
theorem dX2_init_30 : decode cX2_init 30 = .ok (.bipush 7, 2) := by decide +kernel
theorem dX2_init_32 : decode cX2_init 32 = .ok (.multianewarray 9 2, 4) := by decide +kernel
theorem dX2_init_36 : decode cX2_init 36 = .ok (.putfield 19, 3) := by decide +kernel
theorem dX2_init_39 : decode cX2_init 39 = .ok (.aload_n 0, 1) := by decide +kernel
theorem dX2_init_40 : decode cX2_init 40 = .ok (.bipush 7, 2) := by decide +kernel
theorem dX2_init_42 : decode cX2_init 42 = .ok (.bipush 7, 2) := by decide +kernel
theorem dX2_init_44 : decode cX2_init 44 = .ok (.multianewarray 9 2, 4) := by decide +kernel
theorem dX2_init_48 : decode cX2_init 48 = .ok (.putfield 22, 3) := by decide +kernel
theorem dX2_init_51 : decode cX2_init 51 = .ok (.aload_n 0, 1) := by decide +kernel
theorem dX2_init_52 : decode cX2_init 52 = .ok (.bipush 7, 2) := by decide +kernel
theorem dX2_init_54 : decode cX2_init 54 = .ok (.bipush 7, 2) := by decide +kernel
theorem dX2_init_56 : decode cX2_init 56 = .ok (.multianewarray 25 2, 4) := by decide +kernel
theorem dX2_init_60 : decode cX2_init 60 = .ok (.putfield 27, 3) := by decide +kernel
theorem dX2_init_63 : decode cX2_init 63 = .ok (.aload_n 0, 1) := by decide +kernel
theorem dX2_init_64 : decode cX2_init 64 = .ok (.getfield 11, 3) := by decide +kernel
theorem dX2_init_67 : decode cX2_init 67 = .ok (.iconst 0, 1) := by decide +kernel
theorem dX2_init_68 : decode cX2_init 68 = .ok (.aaload, 1) := by decide +kernel
theorem dX2_init_69 : decode cX2_init 69 = .ok (.bipush 6, 2) := by decide +kernel
theorem dX2_init_71 : decode cX2_init 71 = .ok (.lconst 1, 1) := by decide +kernel
theorem dX2_init_72 : decode cX2_init 72 = .ok (.lastore, 1) := by decide +kernel
theorem dX2_init_73 : decode cX2_init 73 = .ok (.return_, 1) := by decide +kernel
theorem dX2_measure_0 : decode cX2_measure 0 = .ok (.aload_n 0, 1) := by decide +kernel
theorem dX2_measure_1 : decode cX2_measure 1 = .ok (.aload_n 1, 1) := by decide +kernel
theorem dX2_measure_2 : decode cX2_measure 2 = .ok (.invokevirtual 30, 3) := by decide +kernel
theorem dX2_measure_5 : decode cX2_measure 5 = .ok (.aload_n 0, 1) := by decide +kernel
theorem dX2_measure_6 : decode cX2_measure 6 = .ok (.aload_n 1, 1) := by decide +kernel
theorem dX2_measure_7 : decode cX2_measure 7 = .ok (.invokevirtual 34, 3) := by decide +kernel
theorem dX2_measure_10 : decode cX2_measure 10 = .ok (.return_, 1) := by decide +kernel
theorem dX2_whole_0 : decode cX2_whole 0 = .ok (.aload_n 0, 1) := by decide +kernel
theorem dX2_whole_1 : decode cX2_whole 1 = .ok (.getfield 19, 3) := by decide +kernel
theorem dX2_whole_4 : decode cX2_whole 4 = .ok (.iconst 0, 1) := by decide +kernel
theorem dX2_whole_5 : decode cX2_whole 5 = .ok (.aaload, 1) := by decide +kernel
theorem dX2_whole_6 : decode cX2_whole 6 = .ok (.bipush 6, 2) := by decide +kernel
theorem dX2_whole_8 : decode cX2_whole 8 = .ok (.laload, 1) := by decide +kernel
theorem dX2_whole_9 : decode cX2_whole 9 = .ok (.lreturn, 1) := by decide +kernel
theorem dX2_number_0 : decode cX2_number 0 = .ok (.aload_n 0, 1) := by decide +kernel
theorem dX2_number_1 : decode cX2_number 1 = .ok (.getfield 27, 3) := by decide +kernel
theorem dX2_number_4 : decode cX2_number 4 = .ok (.iconst 0, 1) := by decide +kernel
theorem dX2_number_5 : decode cX2_number 5 = .ok (.aaload, 1) := by decide +kernel
theorem dX2_number_6 : decode cX2_number 6 = .ok (.bipush 6, 2) := by decide +kernel
theorem dX2_number_8 : decode cX2_number 8 = .ok (.iaload, 1) := by decide +kernel
theorem dX2_number_9 : decode cX2_number 9 = .ok (.ireturn, 1) := by decide +kernel
theorem dX2_greatest_0 : decode cX2_greatest 0 = .ok (.aload_n 0, 1) := by decide +kernel
theorem dX2_greatest_1 : decode cX2_greatest 1 = .ok (.getfield 22, 3) := by decide +kernel
theorem dX2_greatest_4 : decode cX2_greatest 4 = .ok (.iconst 0, 1) := by decide +kernel
theorem dX2_greatest_5 : decode cX2_greatest 5 = .ok (.aaload, 1) := by decide +kernel
theorem dX2_greatest_6 : decode cX2_greatest 6 = .ok (.bipush 6, 2) := by decide +kernel
theorem dX2_greatest_8 : decode cX2_greatest 8 = .ok (.laload, 1) := by decide +kernel
theorem dX2_greatest_9 : decode cX2_greatest 9 = .ok (.lreturn, 1) := by decide +kernel
theorem dX2_through_0 : decode cX2_through 0 = .ok (.aload_n 0, 1) := by decide +kernel
theorem dX2_through_1 : decode cX2_through 1 = .ok (.getfield 11, 3) := by decide +kernel
theorem dX2_through_4 : decode cX2_through 4 = .ok (.iload_n 1, 1) := by decide +kernel
theorem dX2_through_5 : decode cX2_through 5 = .ok (.iconst 1, 1) := by decide +kernel
theorem dX2_through_6 : decode cX2_through 6 = .ok (.iadd, 1) := by decide +kernel
theorem dX2_through_7 : decode cX2_through 7 = .ok (.aaload, 1) := by decide +kernel
theorem dX2_through_8 : decode cX2_through 8 = .ok (.iload_n 2, 1) := by decide +kernel
theorem dX2_through_9 : decode cX2_through 9 = .ok (.laload, 1) := by decide +kernel
theorem dX2_through_10 : decode cX2_through 10 = .ok (.aload_n 0, 1) := by decide +kernel
theorem dX2_through_11 : decode cX2_through 11 = .ok (.getfield 19, 3) := by decide +kernel
theorem dX2_through_14 : decode cX2_through 14 = .ok (.iload_n 1, 1) := by decide +kernel
theorem dX2_through_15 : decode cX2_through 15 = .ok (.iconst 1, 1) := by decide +kernel
theorem dX2_through_16 : decode cX2_through 16 = .ok (.iadd, 1) := by decide +kernel
theorem dX2_through_17 : decode cX2_through 17 = .ok (.aaload, 1) := by decide +kernel
theorem dX2_through_18 : decode cX2_through 18 = .ok (.iload_n 2, 1) := by decide +kernel
theorem dX2_through_19 : decode cX2_through 19 = .ok (.laload, 1) := by decide +kernel
theorem dX2_through_20 : decode cX2_through 20 = .ok (.lmul, 1) := by decide +kernel
theorem dX2_through_21 : decode cX2_through 21 = .ok (.lreturn, 1) := by decide +kernel
theorem dX2_ofStep_0 : decode cX2_ofStep 0 = .ok (.lconst 0, 1) := by decide +kernel
theorem dX2_ofStep_1 : decode cX2_ofStep 1 = .ok (.lstore 4, 2) := by decide +kernel
theorem dX2_ofStep_3 : decode cX2_ofStep 3 = .ok (.iconst 0, 1) := by decide +kernel
theorem dX2_ofStep_4 : decode cX2_ofStep 4 = .ok (.istore 6, 2) := by decide +kernel
theorem dX2_ofStep_6 : decode cX2_ofStep 6 = .ok (.iload 6, 2) := by decide +kernel
theorem dX2_ofStep_8 : decode cX2_ofStep 8 = .ok (.aload_n 1, 1) := by decide +kernel
theorem dX2_ofStep_9 : decode cX2_ofStep 9 = .ok (.getfield 37, 3) := by decide +kernel
theorem dX2_ofStep_12 : decode cX2_ofStep 12 = .ok (.if_icmp .ge 59, 3) := by decide +kernel
theorem dX2_ofStep_15 : decode cX2_ofStep 15 = .ok (.iload_n 3, 1) := by decide +kernel
theorem dX2_ofStep_16 : decode cX2_ofStep 16 = .ok (.iconst 4, 1) := by decide +kernel
theorem dX2_ofStep_17 : decode cX2_ofStep 17 = .ok (.if_icmp .ge 10, 3) := by decide +kernel
theorem dX2_ofStep_20 : decode cX2_ofStep 20 = .ok (.iload 6, 2) := by decide +kernel
theorem dX2_ofStep_22 : decode cX2_ofStep 22 = .ok (.iconst 1, 1) := by decide +kernel
theorem dX2_ofStep_23 : decode cX2_ofStep 23 = .ok (.iadd, 1) := by decide +kernel
theorem dX2_ofStep_24 : decode cX2_ofStep 24 = .ok (.goto 5, 3) := by decide +kernel
theorem dX2_ofStep_27 : decode cX2_ofStep 27 = .ok (.iload 6, 2) := by decide +kernel
theorem dX2_ofStep_29 : decode cX2_ofStep 29 = .ok (.istore 7, 2) := by decide +kernel
theorem dX2_ofStep_31 : decode cX2_ofStep 31 = .ok (.lload 4, 2) := by decide +kernel
theorem dX2_ofStep_33 : decode cX2_ofStep 33 = .ok (.aload_n 0, 1) := by decide +kernel
theorem dX2_ofStep_34 : decode cX2_ofStep 34 = .ok (.getfield 11, 3) := by decide +kernel
theorem dX2_ofStep_37 : decode cX2_ofStep 37 = .ok (.iload 6, 2) := by decide +kernel
theorem dX2_ofStep_39 : decode cX2_ofStep 39 = .ok (.aaload, 1) := by decide +kernel
theorem dX2_ofStep_40 : decode cX2_ofStep 40 = .ok (.iload_n 2, 1) := by decide +kernel
theorem dX2_ofStep_41 : decode cX2_ofStep 41 = .ok (.laload, 1) := by decide +kernel
theorem dX2_ofStep_42 : decode cX2_ofStep 42 = .ok (.aload_n 1, 1) := by decide +kernel
theorem dX2_ofStep_43 : decode cX2_ofStep 43 = .ok (.iload_n 2, 1) := by decide +kernel
theorem dX2_ofStep_44 : decode cX2_ofStep 44 = .ok (.iload_n 3, 1) := by decide +kernel
theorem dX2_ofStep_45 : decode cX2_ofStep 45 = .ok (.iload 6, 2) := by decide +kernel
theorem dX2_ofStep_47 : decode cX2_ofStep 47 = .ok (.invokevirtual 43, 3) := by decide +kernel
theorem dX2_ofStep_50 : decode cX2_ofStep 50 = .ok (.i2l, 1) := by decide +kernel
theorem dX2_ofStep_51 : decode cX2_ofStep 51 = .ok (.lmul, 1) := by decide +kernel
theorem dX2_ofStep_52 : decode cX2_ofStep 52 = .ok (.aload_n 0, 1) := by decide +kernel
theorem dX2_ofStep_53 : decode cX2_ofStep 53 = .ok (.getfield 19, 3) := by decide +kernel
theorem dX2_ofStep_56 : decode cX2_ofStep 56 = .ok (.iload 7, 2) := by decide +kernel
theorem dX2_ofStep_58 : decode cX2_ofStep 58 = .ok (.aaload, 1) := by decide +kernel
theorem dX2_ofStep_59 : decode cX2_ofStep 59 = .ok (.iload_n 3, 1) := by decide +kernel
theorem dX2_ofStep_60 : decode cX2_ofStep 60 = .ok (.laload, 1) := by decide +kernel
theorem dX2_ofStep_61 : decode cX2_ofStep 61 = .ok (.lmul, 1) := by decide +kernel
theorem dX2_ofStep_62 : decode cX2_ofStep 62 = .ok (.ladd, 1) := by decide +kernel
theorem dX2_ofStep_63 : decode cX2_ofStep 63 = .ok (.lstore 4, 2) := by decide +kernel
theorem dX2_ofStep_65 : decode cX2_ofStep 65 = .ok (.iinc 6 1, 3) := by decide +kernel
theorem dX2_ofStep_68 : decode cX2_ofStep 68 = .ok (.goto (-62), 3) := by decide +kernel
theorem dX2_ofStep_71 : decode cX2_ofStep 71 = .ok (.lload 4, 2) := by decide +kernel
theorem dX2_ofStep_73 : decode cX2_ofStep 73 = .ok (.lreturn, 1) := by decide +kernel
theorem dX2_ofLetter_0 : decode cX2_ofLetter 0 = .ok (.lconst 0, 1) := by decide +kernel
theorem dX2_ofLetter_1 : decode cX2_ofLetter 1 = .ok (.lstore 4, 2) := by decide +kernel
theorem dX2_ofLetter_3 : decode cX2_ofLetter 3 = .ok (.iconst 0, 1) := by decide +kernel
theorem dX2_ofLetter_4 : decode cX2_ofLetter 4 = .ok (.istore 6, 2) := by decide +kernel
theorem dX2_ofLetter_6 : decode cX2_ofLetter 6 = .ok (.iload 6, 2) := by decide +kernel
theorem dX2_ofLetter_8 : decode cX2_ofLetter 8 = .ok (.aload_n 1, 1) := by decide +kernel
theorem dX2_ofLetter_9 : decode cX2_ofLetter 9 = .ok (.getfield 37, 3) := by decide +kernel
theorem dX2_ofLetter_12 : decode cX2_ofLetter 12 = .ok (.if_icmp .ge 32, 3) := by decide +kernel
theorem dX2_ofLetter_15 : decode cX2_ofLetter 15 = .ok (.aload_n 1, 1) := by decide +kernel
theorem dX2_ofLetter_16 : decode cX2_ofLetter 16 = .ok (.getfield 47, 3) := by decide +kernel
theorem dX2_ofLetter_19 : decode cX2_ofLetter 19 = .ok (.iload 6, 2) := by decide +kernel
theorem dX2_ofLetter_21 : decode cX2_ofLetter 21 = .ok (.iaload, 1) := by decide +kernel
theorem dX2_ofLetter_22 : decode cX2_ofLetter 22 = .ok (.iload_n 3, 1) := by decide +kernel
theorem dX2_ofLetter_23 : decode cX2_ofLetter 23 = .ok (.if_icmp .ne 15, 3) := by decide +kernel
theorem dX2_ofLetter_26 : decode cX2_ofLetter 26 = .ok (.lload 4, 2) := by decide +kernel
theorem dX2_ofLetter_28 : decode cX2_ofLetter 28 = .ok (.aload_n 0, 1) := by decide +kernel
theorem dX2_ofLetter_29 : decode cX2_ofLetter 29 = .ok (.iload 6, 2) := by decide +kernel
theorem dX2_ofLetter_31 : decode cX2_ofLetter 31 = .ok (.iload_n 2, 1) := by decide +kernel
theorem dX2_ofLetter_32 : decode cX2_ofLetter 32 = .ok (.invokevirtual 51, 3) := by decide +kernel
theorem dX2_ofLetter_35 : decode cX2_ofLetter 35 = .ok (.ladd, 1) := by decide +kernel
theorem dX2_ofLetter_36 : decode cX2_ofLetter 36 = .ok (.lstore 4, 2) := by decide +kernel
theorem dX2_ofLetter_38 : decode cX2_ofLetter 38 = .ok (.iinc 6 1, 3) := by decide +kernel
theorem dX2_ofLetter_41 : decode cX2_ofLetter 41 = .ok (.goto (-35), 3) := by decide +kernel
theorem dX2_ofLetter_44 : decode cX2_ofLetter 44 = .ok (.lload 4, 2) := by decide +kernel
theorem dX2_ofLetter_46 : decode cX2_ofLetter 46 = .ok (.lreturn, 1) := by decide +kernel
theorem dX2_wholeIfNext_0 : decode cX2_wholeIfNext 0 = .ok (.lconst 0, 1) := by decide +kernel
theorem dX2_wholeIfNext_1 : decode cX2_wholeIfNext 1 = .ok (.lstore_n 3, 1) := by decide +kernel
theorem dX2_wholeIfNext_2 : decode cX2_wholeIfNext 2 = .ok (.iconst 0, 1) := by decide +kernel
theorem dX2_wholeIfNext_3 : decode cX2_wholeIfNext 3 = .ok (.istore 5, 2) := by decide +kernel
theorem dX2_wholeIfNext_5 : decode cX2_wholeIfNext 5 = .ok (.iload 5, 2) := by decide +kernel
theorem dX2_wholeIfNext_7 : decode cX2_wholeIfNext 7 = .ok (.iconst 4, 1) := by decide +kernel
theorem dX2_wholeIfNext_8 : decode cX2_wholeIfNext 8 = .ok (.if_icmp .ge 33, 3) := by decide +kernel
theorem dX2_wholeIfNext_11 : decode cX2_wholeIfNext 11 = .ok (.lload_n 3, 1) := by decide +kernel
theorem dX2_wholeIfNext_12 : decode cX2_wholeIfNext 12 = .ok (.aload_n 0, 1) := by decide +kernel
theorem dX2_wholeIfNext_13 : decode cX2_wholeIfNext 13 = .ok (.getfield 16, 3) := by decide +kernel
theorem dX2_wholeIfNext_16 : decode cX2_wholeIfNext 16 = .ok (.aload_n 1, 1) := by decide +kernel
theorem dX2_wholeIfNext_17 : decode cX2_wholeIfNext 17 = .ok (.getfield 37, 3) := by decide +kernel
theorem dX2_wholeIfNext_20 : decode cX2_wholeIfNext 20 = .ok (.aaload, 1) := by decide +kernel
theorem dX2_wholeIfNext_21 : decode cX2_wholeIfNext 21 = .ok (.iload 5, 2) := by decide +kernel
theorem dX2_wholeIfNext_23 : decode cX2_wholeIfNext 23 = .ok (.laload, 1) := by decide +kernel
theorem dX2_wholeIfNext_24 : decode cX2_wholeIfNext 24 = .ok (.aload_n 1, 1) := by decide +kernel
theorem dX2_wholeIfNext_25 : decode cX2_wholeIfNext 25 = .ok (.iload 5, 2) := by decide +kernel
theorem dX2_wholeIfNext_27 : decode cX2_wholeIfNext 27 = .ok (.iload_n 2, 1) := by decide +kernel
theorem dX2_wholeIfNext_28 : decode cX2_wholeIfNext 28 = .ok (.invokevirtual 55, 3) := by decide +kernel
theorem dX2_wholeIfNext_31 : decode cX2_wholeIfNext 31 = .ok (.i2l, 1) := by decide +kernel
theorem dX2_wholeIfNext_32 : decode cX2_wholeIfNext 32 = .ok (.lmul, 1) := by decide +kernel
theorem dX2_wholeIfNext_33 : decode cX2_wholeIfNext 33 = .ok (.ladd, 1) := by decide +kernel
theorem dX2_wholeIfNext_34 : decode cX2_wholeIfNext 34 = .ok (.lstore_n 3, 1) := by decide +kernel
theorem dX2_wholeIfNext_35 : decode cX2_wholeIfNext 35 = .ok (.iinc 5 1, 3) := by decide +kernel
theorem dX2_wholeIfNext_38 : decode cX2_wholeIfNext 38 = .ok (.goto (-33), 3) := by decide +kernel
theorem dX2_wholeIfNext_41 : decode cX2_wholeIfNext 41 = .ok (.lload_n 3, 1) := by decide +kernel
theorem dX2_wholeIfNext_42 : decode cX2_wholeIfNext 42 = .ok (.lreturn, 1) := by decide +kernel
theorem dX2_wholeIfChanged_0 : decode cX2_wholeIfChanged 0 = .ok (.lconst 0, 1) := by decide +kernel
theorem dX2_wholeIfChanged_1 : decode cX2_wholeIfChanged 1 = .ok (.lstore 4, 2) := by decide +kernel
theorem dX2_wholeIfChanged_3 : decode cX2_wholeIfChanged 3 = .ok (.iconst 0, 1) := by decide +kernel
theorem dX2_wholeIfChanged_4 : decode cX2_wholeIfChanged 4 = .ok (.istore 6, 2) := by decide +kernel
theorem dX2_wholeIfChanged_6 : decode cX2_wholeIfChanged 6 = .ok (.iload 6, 2) := by decide +kernel
theorem dX2_wholeIfChanged_8 : decode cX2_wholeIfChanged 8 = .ok (.iconst 4, 1) := by decide +kernel
theorem dX2_wholeIfChanged_9 : decode cX2_wholeIfChanged 9 = .ok (.if_icmp .ge 44, 3) := by decide +kernel
theorem dX2_wholeIfChanged_12 : decode cX2_wholeIfChanged 12 = .ok (.lload 4, 2) := by decide +kernel
theorem dX2_wholeIfChanged_14 : decode cX2_wholeIfChanged 14 = .ok (.aload_n 0, 1) := by decide +kernel
theorem dX2_wholeIfChanged_15 : decode cX2_wholeIfChanged 15 = .ok (.getfield 16, 3) := by decide +kernel
theorem dX2_wholeIfChanged_18 : decode cX2_wholeIfChanged 18 = .ok (.iload_n 2, 1) := by decide +kernel
theorem dX2_wholeIfChanged_19 : decode cX2_wholeIfChanged 19 = .ok (.aaload, 1) := by decide +kernel
theorem dX2_wholeIfChanged_20 : decode cX2_wholeIfChanged 20 = .ok (.iload 6, 2) := by decide +kernel
theorem dX2_wholeIfChanged_22 : decode cX2_wholeIfChanged 22 = .ok (.laload, 1) := by decide +kernel
theorem dX2_wholeIfChanged_23 : decode cX2_wholeIfChanged 23 = .ok (.aload_n 1, 1) := by decide +kernel
theorem dX2_wholeIfChanged_24 : decode cX2_wholeIfChanged 24 = .ok (.iload 6, 2) := by decide +kernel
theorem dX2_wholeIfChanged_26 : decode cX2_wholeIfChanged 26 = .ok (.iload_n 3, 1) := by decide +kernel
theorem dX2_wholeIfChanged_27 : decode cX2_wholeIfChanged 27 = .ok (.invokevirtual 55, 3) := by decide +kernel
theorem dX2_wholeIfChanged_30 : decode cX2_wholeIfChanged 30 = .ok (.i2l, 1) := by decide +kernel
theorem dX2_wholeIfChanged_31 : decode cX2_wholeIfChanged 31 = .ok (.lmul, 1) := by decide +kernel
theorem dX2_wholeIfChanged_32 : decode cX2_wholeIfChanged 32 = .ok (.aload_n 0, 1) := by decide +kernel
theorem dX2_wholeIfChanged_33 : decode cX2_wholeIfChanged 33 = .ok (.getfield 19, 3) := by decide +kernel
theorem dX2_wholeIfChanged_36 : decode cX2_wholeIfChanged 36 = .ok (.iload_n 2, 1) := by decide +kernel
theorem dX2_wholeIfChanged_37 : decode cX2_wholeIfChanged 37 = .ok (.iconst 1, 1) := by decide +kernel
theorem dX2_wholeIfChanged_38 : decode cX2_wholeIfChanged 38 = .ok (.iadd, 1) := by decide +kernel
theorem dX2_wholeIfChanged_39 : decode cX2_wholeIfChanged 39 = .ok (.aaload, 1) := by decide +kernel
theorem dX2_wholeIfChanged_40 : decode cX2_wholeIfChanged 40 = .ok (.iload 6, 2) := by decide +kernel
theorem dX2_wholeIfChanged_42 : decode cX2_wholeIfChanged 42 = .ok (.laload, 1) := by decide +kernel
theorem dX2_wholeIfChanged_43 : decode cX2_wholeIfChanged 43 = .ok (.lmul, 1) := by decide +kernel
theorem dX2_wholeIfChanged_44 : decode cX2_wholeIfChanged 44 = .ok (.ladd, 1) := by decide +kernel
theorem dX2_wholeIfChanged_45 : decode cX2_wholeIfChanged 45 = .ok (.lstore 4, 2) := by decide +kernel
theorem dX2_wholeIfChanged_47 : decode cX2_wholeIfChanged 47 = .ok (.iinc 6 1, 3) := by decide +kernel
theorem dX2_wholeIfChanged_50 : decode cX2_wholeIfChanged 50 = .ok (.goto (-44), 3) := by decide +kernel
theorem dX2_wholeIfChanged_53 : decode cX2_wholeIfChanged 53 = .ok (.lload 4, 2) := by decide +kernel
theorem dX2_wholeIfChanged_55 : decode cX2_wholeIfChanged 55 = .ok (.lreturn, 1) := by decide +kernel
theorem dX2_sumBeginnings_0 : decode cX2_sumBeginnings 0 = .ok (.iconst 0, 1) := by decide +kernel
theorem dX2_sumBeginnings_1 : decode cX2_sumBeginnings 1 = .ok (.istore_n 2, 1) := by decide +kernel
theorem dX2_sumBeginnings_2 : decode cX2_sumBeginnings 2 = .ok (.iload_n 2, 1) := by decide +kernel
theorem dX2_sumBeginnings_3 : decode cX2_sumBeginnings 3 = .ok (.aload_n 1, 1) := by decide +kernel
theorem dX2_sumBeginnings_4 : decode cX2_sumBeginnings 4 = .ok (.getfield 37, 3) := by decide +kernel
theorem dX2_sumBeginnings_7 : decode cX2_sumBeginnings 7 = .ok (.if_icmp .gt 105, 3) := by decide +kernel
theorem dX2_sumBeginnings_10 : decode cX2_sumBeginnings 10 = .ok (.iconst 4, 1) := by decide +kernel
theorem dX2_sumBeginnings_11 : decode cX2_sumBeginnings 11 = .ok (.istore_n 3, 1) := by decide +kernel
theorem dX2_sumBeginnings_12 : decode cX2_sumBeginnings 12 = .ok (.iload_n 3, 1) := by decide +kernel
theorem dX2_sumBeginnings_13 : decode cX2_sumBeginnings 13 = .ok (.bipush 6, 2) := by decide +kernel
theorem dX2_sumBeginnings_15 : decode cX2_sumBeginnings 15 = .ok (.if_icmp .ge 24, 3) := by decide +kernel
theorem dX2_sumBeginnings_18 : decode cX2_sumBeginnings 18 = .ok (.aload_n 0, 1) := by decide +kernel
theorem dX2_sumBeginnings_19 : decode cX2_sumBeginnings 19 = .ok (.getfield 11, 3) := by decide +kernel
theorem dX2_sumBeginnings_22 : decode cX2_sumBeginnings 22 = .ok (.iload_n 2, 1) := by decide +kernel
theorem dX2_sumBeginnings_23 : decode cX2_sumBeginnings 23 = .ok (.aaload, 1) := by decide +kernel
theorem dX2_sumBeginnings_24 : decode cX2_sumBeginnings 24 = .ok (.iload_n 3, 1) := by decide +kernel
theorem dX2_sumBeginnings_25 : decode cX2_sumBeginnings 25 = .ok (.aload_n 0, 1) := by decide +kernel
theorem dX2_sumBeginnings_26 : decode cX2_sumBeginnings 26 = .ok (.aload_n 1, 1) := by decide +kernel
theorem dX2_sumBeginnings_27 : decode cX2_sumBeginnings 27 = .ok (.iload_n 2, 1) := by decide +kernel
theorem dX2_sumBeginnings_28 : decode cX2_sumBeginnings 28 = .ok (.iload_n 3, 1) := by decide +kernel
theorem dX2_sumBeginnings_29 : decode cX2_sumBeginnings 29 = .ok (.invokevirtual 59, 3) := by decide +kernel
theorem dX2_sumBeginnings_32 : decode cX2_sumBeginnings 32 = .ok (.lastore, 1) := by decide +kernel
theorem dX2_sumBeginnings_33 : decode cX2_sumBeginnings 33 = .ok (.iinc 3 1, 3) := by decide +kernel
theorem dX2_sumBeginnings_36 : decode cX2_sumBeginnings 36 = .ok (.goto (-24), 3) := by decide +kernel
theorem dX2_sumBeginnings_39 : decode cX2_sumBeginnings 39 = .ok (.iconst 0, 1) := by decide +kernel
theorem dX2_sumBeginnings_40 : decode cX2_sumBeginnings 40 = .ok (.istore_n 3, 1) := by decide +kernel
theorem dX2_sumBeginnings_41 : decode cX2_sumBeginnings 41 = .ok (.iload_n 3, 1) := by decide +kernel
theorem dX2_sumBeginnings_42 : decode cX2_sumBeginnings 42 = .ok (.iconst 4, 1) := by decide +kernel
theorem dX2_sumBeginnings_43 : decode cX2_sumBeginnings 43 = .ok (.if_icmp .ge 63, 3) := by decide +kernel
theorem dX2_sumBeginnings_46 : decode cX2_sumBeginnings 46 = .ok (.aload_n 0, 1) := by decide +kernel
theorem dX2_sumBeginnings_47 : decode cX2_sumBeginnings 47 = .ok (.getfield 16, 3) := by decide +kernel
theorem dX2_sumBeginnings_50 : decode cX2_sumBeginnings 50 = .ok (.iload_n 2, 1) := by decide +kernel
theorem dX2_sumBeginnings_51 : decode cX2_sumBeginnings 51 = .ok (.aaload, 1) := by decide +kernel
theorem dX2_sumBeginnings_52 : decode cX2_sumBeginnings 52 = .ok (.iload_n 3, 1) := by decide +kernel
theorem dX2_sumBeginnings_53 : decode cX2_sumBeginnings 53 = .ok (.aload_n 0, 1) := by decide +kernel
theorem dX2_sumBeginnings_54 : decode cX2_sumBeginnings 54 = .ok (.aload_n 1, 1) := by decide +kernel
theorem dX2_sumBeginnings_55 : decode cX2_sumBeginnings 55 = .ok (.iload_n 2, 1) := by decide +kernel
theorem dX2_sumBeginnings_56 : decode cX2_sumBeginnings 56 = .ok (.iload_n 3, 1) := by decide +kernel
theorem dX2_sumBeginnings_57 : decode cX2_sumBeginnings 57 = .ok (.invokevirtual 59, 3) := by decide +kernel
theorem dX2_sumBeginnings_60 : decode cX2_sumBeginnings 60 = .ok (.lastore, 1) := by decide +kernel
theorem dX2_sumBeginnings_61 : decode cX2_sumBeginnings 61 = .ok (.iload_n 2, 1) := by decide +kernel
theorem dX2_sumBeginnings_62 : decode cX2_sumBeginnings 62 = .ok (.aload_n 1, 1) := by decide +kernel
theorem dX2_sumBeginnings_63 : decode cX2_sumBeginnings 63 = .ok (.getfield 37, 3) := by decide +kernel
theorem dX2_sumBeginnings_66 : decode cX2_sumBeginnings 66 = .ok (.if_icmp .ge 34, 3) := by decide +kernel
theorem dX2_sumBeginnings_69 : decode cX2_sumBeginnings 69 = .ok (.aload_n 0, 1) := by decide +kernel
theorem dX2_sumBeginnings_70 : decode cX2_sumBeginnings 70 = .ok (.getfield 11, 3) := by decide +kernel
theorem dX2_sumBeginnings_73 : decode cX2_sumBeginnings 73 = .ok (.iload_n 2, 1) := by decide +kernel
theorem dX2_sumBeginnings_74 : decode cX2_sumBeginnings 74 = .ok (.iconst 1, 1) := by decide +kernel
theorem dX2_sumBeginnings_75 : decode cX2_sumBeginnings 75 = .ok (.iadd, 1) := by decide +kernel
theorem dX2_sumBeginnings_76 : decode cX2_sumBeginnings 76 = .ok (.aaload, 1) := by decide +kernel
theorem dX2_sumBeginnings_77 : decode cX2_sumBeginnings 77 = .ok (.iload_n 3, 1) := by decide +kernel
theorem dX2_sumBeginnings_78 : decode cX2_sumBeginnings 78 = .ok (.aload_n 0, 1) := by decide +kernel
theorem dX2_sumBeginnings_79 : decode cX2_sumBeginnings 79 = .ok (.getfield 16, 3) := by decide +kernel
theorem dX2_sumBeginnings_82 : decode cX2_sumBeginnings 82 = .ok (.iload_n 2, 1) := by decide +kernel
theorem dX2_sumBeginnings_83 : decode cX2_sumBeginnings 83 = .ok (.aaload, 1) := by decide +kernel
theorem dX2_sumBeginnings_84 : decode cX2_sumBeginnings 84 = .ok (.iload_n 3, 1) := by decide +kernel
theorem dX2_sumBeginnings_85 : decode cX2_sumBeginnings 85 = .ok (.laload, 1) := by decide +kernel
theorem dX2_sumBeginnings_86 : decode cX2_sumBeginnings 86 = .ok (.aload_n 1, 1) := by decide +kernel
theorem dX2_sumBeginnings_87 : decode cX2_sumBeginnings 87 = .ok (.iload_n 3, 1) := by decide +kernel
theorem dX2_sumBeginnings_88 : decode cX2_sumBeginnings 88 = .ok (.aload_n 1, 1) := by decide +kernel
theorem dX2_sumBeginnings_89 : decode cX2_sumBeginnings 89 = .ok (.getfield 47, 3) := by decide +kernel
theorem dX2_sumBeginnings_92 : decode cX2_sumBeginnings 92 = .ok (.iload_n 2, 1) := by decide +kernel
theorem dX2_sumBeginnings_93 : decode cX2_sumBeginnings 93 = .ok (.iaload, 1) := by decide +kernel
theorem dX2_sumBeginnings_94 : decode cX2_sumBeginnings 94 = .ok (.invokevirtual 55, 3) := by decide +kernel
theorem dX2_sumBeginnings_97 : decode cX2_sumBeginnings 97 = .ok (.i2l, 1) := by decide +kernel
theorem dX2_sumBeginnings_98 : decode cX2_sumBeginnings 98 = .ok (.lmul, 1) := by decide +kernel
theorem dX2_sumBeginnings_99 : decode cX2_sumBeginnings 99 = .ok (.lastore, 1) := by decide +kernel
theorem dX2_sumBeginnings_100 : decode cX2_sumBeginnings 100 = .ok (.iinc 3 1, 3) := by decide +kernel
theorem dX2_sumBeginnings_103 : decode cX2_sumBeginnings 103 = .ok (.goto (-62), 3) := by decide +kernel
theorem dX2_sumBeginnings_106 : decode cX2_sumBeginnings 106 = .ok (.iinc 2 1, 3) := by decide +kernel
theorem dX2_sumBeginnings_109 : decode cX2_sumBeginnings 109 = .ok (.goto (-107), 3) := by decide +kernel
theorem dX2_sumBeginnings_112 : decode cX2_sumBeginnings 112 = .ok (.return_, 1) := by decide +kernel
theorem dX2_arrive_0 : decode cX2_arrive 0 = .ok (.lconst 0, 1) := by decide +kernel
theorem dX2_arrive_1 : decode cX2_arrive 1 = .ok (.lstore 4, 2) := by decide +kernel
theorem dX2_arrive_3 : decode cX2_arrive 3 = .ok (.iconst 0, 1) := by decide +kernel
theorem dX2_arrive_4 : decode cX2_arrive 4 = .ok (.istore 6, 2) := by decide +kernel
theorem dX2_arrive_6 : decode cX2_arrive 6 = .ok (.iload 6, 2) := by decide +kernel
theorem dX2_arrive_8 : decode cX2_arrive 8 = .ok (.bipush 6, 2) := by decide +kernel
theorem dX2_arrive_10 : decode cX2_arrive 10 = .ok (.if_icmp .gt 32, 3) := by decide +kernel
theorem dX2_arrive_13 : decode cX2_arrive 13 = .ok (.lload 4, 2) := by decide +kernel
theorem dX2_arrive_15 : decode cX2_arrive 15 = .ok (.aload_n 0, 1) := by decide +kernel
theorem dX2_arrive_16 : decode cX2_arrive 16 = .ok (.getfield 11, 3) := by decide +kernel
theorem dX2_arrive_19 : decode cX2_arrive 19 = .ok (.iload_n 2, 1) := by decide +kernel
theorem dX2_arrive_20 : decode cX2_arrive 20 = .ok (.aaload, 1) := by decide +kernel
theorem dX2_arrive_21 : decode cX2_arrive 21 = .ok (.iload 6, 2) := by decide +kernel
theorem dX2_arrive_23 : decode cX2_arrive 23 = .ok (.laload, 1) := by decide +kernel
theorem dX2_arrive_24 : decode cX2_arrive 24 = .ok (.aload_n 1, 1) := by decide +kernel
theorem dX2_arrive_25 : decode cX2_arrive 25 = .ok (.iload 6, 2) := by decide +kernel
theorem dX2_arrive_27 : decode cX2_arrive 27 = .ok (.iload_n 3, 1) := by decide +kernel
theorem dX2_arrive_28 : decode cX2_arrive 28 = .ok (.invokevirtual 63, 3) := by decide +kernel
theorem dX2_arrive_31 : decode cX2_arrive 31 = .ok (.i2l, 1) := by decide +kernel
theorem dX2_arrive_32 : decode cX2_arrive 32 = .ok (.lmul, 1) := by decide +kernel
theorem dX2_arrive_33 : decode cX2_arrive 33 = .ok (.ladd, 1) := by decide +kernel
theorem dX2_arrive_34 : decode cX2_arrive 34 = .ok (.lstore 4, 2) := by decide +kernel
theorem dX2_arrive_36 : decode cX2_arrive 36 = .ok (.iinc 6 1, 3) := by decide +kernel
theorem dX2_arrive_39 : decode cX2_arrive 39 = .ok (.goto (-33), 3) := by decide +kernel
theorem dX2_arrive_42 : decode cX2_arrive 42 = .ok (.lload 4, 2) := by decide +kernel
theorem dX2_arrive_44 : decode cX2_arrive 44 = .ok (.lreturn, 1) := by decide +kernel
theorem dX2_sumRests_0 : decode cX2_sumRests 0 = .ok (.iconst 0, 1) := by decide +kernel
theorem dX2_sumRests_1 : decode cX2_sumRests 1 = .ok (.istore_n 2, 1) := by decide +kernel
theorem dX2_sumRests_2 : decode cX2_sumRests 2 = .ok (.iload_n 2, 1) := by decide +kernel
theorem dX2_sumRests_3 : decode cX2_sumRests 3 = .ok (.bipush 6, 2) := by decide +kernel
theorem dX2_sumRests_5 : decode cX2_sumRests 5 = .ok (.if_icmp .gt 93, 3) := by decide +kernel
theorem dX2_sumRests_8 : decode cX2_sumRests 8 = .ok (.iload_n 2, 1) := by decide +kernel
theorem dX2_sumRests_9 : decode cX2_sumRests 9 = .ok (.iconst 4, 1) := by decide +kernel
theorem dX2_sumRests_10 : decode cX2_sumRests 10 = .ok (.if_icmp .lt 16, 3) := by decide +kernel
theorem dX2_sumRests_13 : decode cX2_sumRests 13 = .ok (.iload_n 2, 1) := by decide +kernel
theorem dX2_sumRests_14 : decode cX2_sumRests 14 = .ok (.bipush 6, 2) := by decide +kernel
theorem dX2_sumRests_16 : decode cX2_sumRests 16 = .ok (.if_icmp .ne 14, 3) := by decide +kernel
theorem dX2_sumRests_19 : decode cX2_sumRests 19 = .ok (.aload_n 1, 1) := by decide +kernel
theorem dX2_sumRests_20 : decode cX2_sumRests 20 = .ok (.getfield 37, 3) := by decide +kernel
theorem dX2_sumRests_23 : decode cX2_sumRests 23 = .ok (.ifCond .ne 7, 3) := by decide +kernel
theorem dX2_sumRests_26 : decode cX2_sumRests 26 = .ok (.iconst 1, 1) := by decide +kernel
theorem dX2_sumRests_27 : decode cX2_sumRests 27 = .ok (.goto 4, 3) := by decide +kernel
theorem dX2_sumRests_30 : decode cX2_sumRests 30 = .ok (.iconst 0, 1) := by decide +kernel
theorem dX2_sumRests_31 : decode cX2_sumRests 31 = .ok (.istore_n 3, 1) := by decide +kernel
theorem dX2_sumRests_32 : decode cX2_sumRests 32 = .ok (.aload_n 0, 1) := by decide +kernel
theorem dX2_sumRests_33 : decode cX2_sumRests 33 = .ok (.getfield 19, 3) := by decide +kernel
theorem dX2_sumRests_36 : decode cX2_sumRests 36 = .ok (.aload_n 1, 1) := by decide +kernel
theorem dX2_sumRests_37 : decode cX2_sumRests 37 = .ok (.getfield 37, 3) := by decide +kernel
theorem dX2_sumRests_40 : decode cX2_sumRests 40 = .ok (.aaload, 1) := by decide +kernel
theorem dX2_sumRests_41 : decode cX2_sumRests 41 = .ok (.iload_n 2, 1) := by decide +kernel
theorem dX2_sumRests_42 : decode cX2_sumRests 42 = .ok (.iload_n 3, 1) := by decide +kernel
theorem dX2_sumRests_43 : decode cX2_sumRests 43 = .ok (.ifCond .eq 7, 3) := by decide +kernel
theorem dX2_sumRests_46 : decode cX2_sumRests 46 = .ok (.lconst 1, 1) := by decide +kernel
theorem dX2_sumRests_47 : decode cX2_sumRests 47 = .ok (.goto 4, 3) := by decide +kernel
theorem dX2_sumRests_50 : decode cX2_sumRests 50 = .ok (.lconst 0, 1) := by decide +kernel
theorem dX2_sumRests_51 : decode cX2_sumRests 51 = .ok (.lastore, 1) := by decide +kernel
theorem dX2_sumRests_52 : decode cX2_sumRests 52 = .ok (.aload_n 0, 1) := by decide +kernel
theorem dX2_sumRests_53 : decode cX2_sumRests 53 = .ok (.getfield 22, 3) := by decide +kernel
theorem dX2_sumRests_56 : decode cX2_sumRests 56 = .ok (.aload_n 1, 1) := by decide +kernel
theorem dX2_sumRests_57 : decode cX2_sumRests 57 = .ok (.getfield 37, 3) := by decide +kernel
theorem dX2_sumRests_60 : decode cX2_sumRests 60 = .ok (.aaload, 1) := by decide +kernel
theorem dX2_sumRests_61 : decode cX2_sumRests 61 = .ok (.iload_n 2, 1) := by decide +kernel
theorem dX2_sumRests_62 : decode cX2_sumRests 62 = .ok (.iload_n 3, 1) := by decide +kernel
theorem dX2_sumRests_63 : decode cX2_sumRests 63 = .ok (.ifCond .eq 7, 3) := by decide +kernel
theorem dX2_sumRests_66 : decode cX2_sumRests 66 = .ok (.lconst 1, 1) := by decide +kernel
theorem dX2_sumRests_67 : decode cX2_sumRests 67 = .ok (.goto 4, 3) := by decide +kernel
theorem dX2_sumRests_70 : decode cX2_sumRests 70 = .ok (.lconst 0, 1) := by decide +kernel
theorem dX2_sumRests_71 : decode cX2_sumRests 71 = .ok (.lastore, 1) := by decide +kernel
theorem dX2_sumRests_72 : decode cX2_sumRests 72 = .ok (.aload_n 0, 1) := by decide +kernel
theorem dX2_sumRests_73 : decode cX2_sumRests 73 = .ok (.getfield 27, 3) := by decide +kernel
theorem dX2_sumRests_76 : decode cX2_sumRests 76 = .ok (.aload_n 1, 1) := by decide +kernel
theorem dX2_sumRests_77 : decode cX2_sumRests 77 = .ok (.getfield 37, 3) := by decide +kernel
theorem dX2_sumRests_80 : decode cX2_sumRests 80 = .ok (.aaload, 1) := by decide +kernel
theorem dX2_sumRests_81 : decode cX2_sumRests 81 = .ok (.iload_n 2, 1) := by decide +kernel
theorem dX2_sumRests_82 : decode cX2_sumRests 82 = .ok (.iload_n 3, 1) := by decide +kernel
theorem dX2_sumRests_83 : decode cX2_sumRests 83 = .ok (.ifCond .eq 7, 3) := by decide +kernel
theorem dX2_sumRests_86 : decode cX2_sumRests 86 = .ok (.iconst 1, 1) := by decide +kernel
theorem dX2_sumRests_87 : decode cX2_sumRests 87 = .ok (.goto 4, 3) := by decide +kernel
theorem dX2_sumRests_90 : decode cX2_sumRests 90 = .ok (.iconst 0, 1) := by decide +kernel
theorem dX2_sumRests_91 : decode cX2_sumRests 91 = .ok (.iastore, 1) := by decide +kernel
theorem dX2_sumRests_92 : decode cX2_sumRests 92 = .ok (.iinc 2 1, 3) := by decide +kernel
theorem dX2_sumRests_95 : decode cX2_sumRests 95 = .ok (.goto (-93), 3) := by decide +kernel
theorem dX2_sumRests_98 : decode cX2_sumRests 98 = .ok (.aload_n 1, 1) := by decide +kernel
theorem dX2_sumRests_99 : decode cX2_sumRests 99 = .ok (.getfield 37, 3) := by decide +kernel
theorem dX2_sumRests_102 : decode cX2_sumRests 102 = .ok (.iconst 1, 1) := by decide +kernel
theorem dX2_sumRests_103 : decode cX2_sumRests 103 = .ok (.isub, 1) := by decide +kernel
theorem dX2_sumRests_104 : decode cX2_sumRests 104 = .ok (.istore_n 2, 1) := by decide +kernel
theorem dX2_sumRests_105 : decode cX2_sumRests 105 = .ok (.iload_n 2, 1) := by decide +kernel
theorem dX2_sumRests_106 : decode cX2_sumRests 106 = .ok (.ifCond .lt 36, 3) := by decide +kernel
theorem dX2_sumRests_109 : decode cX2_sumRests 109 = .ok (.iconst 5, 1) := by decide +kernel
theorem dX2_sumRests_110 : decode cX2_sumRests 110 = .ok (.istore_n 3, 1) := by decide +kernel
theorem dX2_sumRests_111 : decode cX2_sumRests 111 = .ok (.iload_n 3, 1) := by decide +kernel
theorem dX2_sumRests_112 : decode cX2_sumRests 112 = .ok (.ifCond .lt 16, 3) := by decide +kernel
theorem dX2_sumRests_115 : decode cX2_sumRests 115 = .ok (.aload_n 0, 1) := by decide +kernel
theorem dX2_sumRests_116 : decode cX2_sumRests 116 = .ok (.aload_n 1, 1) := by decide +kernel
theorem dX2_sumRests_117 : decode cX2_sumRests 117 = .ok (.iload_n 2, 1) := by decide +kernel
theorem dX2_sumRests_118 : decode cX2_sumRests 118 = .ok (.iload_n 3, 1) := by decide +kernel
theorem dX2_sumRests_119 : decode cX2_sumRests 119 = .ok (.invokevirtual 66, 3) := by decide +kernel
theorem dX2_sumRests_122 : decode cX2_sumRests 122 = .ok (.iinc 3 (-1), 3) := by decide +kernel
theorem dX2_sumRests_125 : decode cX2_sumRests 125 = .ok (.goto (-14), 3) := by decide +kernel
theorem dX2_sumRests_128 : decode cX2_sumRests 128 = .ok (.aload_n 0, 1) := by decide +kernel
theorem dX2_sumRests_129 : decode cX2_sumRests 129 = .ok (.aload_n 1, 1) := by decide +kernel
theorem dX2_sumRests_130 : decode cX2_sumRests 130 = .ok (.iload_n 2, 1) := by decide +kernel
theorem dX2_sumRests_131 : decode cX2_sumRests 131 = .ok (.bipush 6, 2) := by decide +kernel
theorem dX2_sumRests_133 : decode cX2_sumRests 133 = .ok (.invokevirtual 66, 3) := by decide +kernel
theorem dX2_sumRests_136 : decode cX2_sumRests 136 = .ok (.iinc 2 (-1), 3) := by decide +kernel
theorem dX2_sumRests_139 : decode cX2_sumRests 139 = .ok (.goto (-34), 3) := by decide +kernel
theorem dX2_sumRests_142 : decode cX2_sumRests 142 = .ok (.return_, 1) := by decide +kernel
theorem dX2_sumRestsBehind_0 : decode cX2_sumRestsBehind 0 = .ok (.lconst 0, 1) := by decide +kernel
theorem dX2_sumRestsBehind_1 : decode cX2_sumRestsBehind 1 = .ok (.lstore 4, 2) := by decide +kernel
theorem dX2_sumRestsBehind_3 : decode cX2_sumRestsBehind 3 = .ok (.lconst 0, 1) := by decide +kernel
theorem dX2_sumRestsBehind_4 : decode cX2_sumRestsBehind 4 = .ok (.lstore 6, 2) := by decide +kernel
theorem dX2_sumRestsBehind_6 : decode cX2_sumRestsBehind 6 = .ok (.iconst 0, 1) := by decide +kernel
theorem dX2_sumRestsBehind_7 : decode cX2_sumRestsBehind 7 = .ok (.istore 8, 2) := by decide +kernel
theorem dX2_sumRestsBehind_9 : decode cX2_sumRestsBehind 9 = .ok (.iconst 0, 1) := by decide +kernel
theorem dX2_sumRestsBehind_10 : decode cX2_sumRestsBehind 10 = .ok (.istore 9, 2) := by decide +kernel
theorem dX2_sumRestsBehind_12 : decode cX2_sumRestsBehind 12 = .ok (.iload 9, 2) := by decide +kernel
theorem dX2_sumRestsBehind_14 : decode cX2_sumRestsBehind 14 = .ok (.bipush 6, 2) := by decide +kernel
theorem dX2_sumRestsBehind_16 : decode cX2_sumRestsBehind 16 = .ok (.if_icmp .ge 94, 3) := by decide +kernel
theorem dX2_sumRestsBehind_19 : decode cX2_sumRestsBehind 19 = .ok (.aload_n 1, 1) := by decide +kernel
theorem dX2_sumRestsBehind_20 : decode cX2_sumRestsBehind 20 = .ok (.iload_n 3, 1) := by decide +kernel
theorem dX2_sumRestsBehind_21 : decode cX2_sumRestsBehind 21 = .ok (.iload 9, 2) := by decide +kernel
theorem dX2_sumRestsBehind_23 : decode cX2_sumRestsBehind 23 = .ok (.iload_n 2, 1) := by decide +kernel
theorem dX2_sumRestsBehind_24 : decode cX2_sumRestsBehind 24 = .ok (.invokevirtual 43, 3) := by decide +kernel
theorem dX2_sumRestsBehind_27 : decode cX2_sumRestsBehind 27 = .ok (.istore 10, 2) := by decide +kernel
theorem dX2_sumRestsBehind_29 : decode cX2_sumRestsBehind 29 = .ok (.iload 10, 2) := by decide +kernel
theorem dX2_sumRestsBehind_31 : decode cX2_sumRestsBehind 31 = .ok (.ifCond .le 73, 3) := by decide +kernel
theorem dX2_sumRestsBehind_34 : decode cX2_sumRestsBehind 34 = .ok (.iload 9, 2) := by decide +kernel
theorem dX2_sumRestsBehind_36 : decode cX2_sumRestsBehind 36 = .ok (.iconst 4, 1) := by decide +kernel
theorem dX2_sumRestsBehind_37 : decode cX2_sumRestsBehind 37 = .ok (.if_icmp .ge 9, 3) := by decide +kernel
theorem dX2_sumRestsBehind_40 : decode cX2_sumRestsBehind 40 = .ok (.iload_n 2, 1) := by decide +kernel
theorem dX2_sumRestsBehind_41 : decode cX2_sumRestsBehind 41 = .ok (.iconst 1, 1) := by decide +kernel
theorem dX2_sumRestsBehind_42 : decode cX2_sumRestsBehind 42 = .ok (.iadd, 1) := by decide +kernel
theorem dX2_sumRestsBehind_43 : decode cX2_sumRestsBehind 43 = .ok (.goto 4, 3) := by decide +kernel
theorem dX2_sumRestsBehind_46 : decode cX2_sumRestsBehind 46 = .ok (.iload_n 2, 1) := by decide +kernel
theorem dX2_sumRestsBehind_47 : decode cX2_sumRestsBehind 47 = .ok (.istore 11, 2) := by decide +kernel
theorem dX2_sumRestsBehind_49 : decode cX2_sumRestsBehind 49 = .ok (.lload 4, 2) := by decide +kernel
theorem dX2_sumRestsBehind_51 : decode cX2_sumRestsBehind 51 = .ok (.iload 10, 2) := by decide +kernel
theorem dX2_sumRestsBehind_53 : decode cX2_sumRestsBehind 53 = .ok (.i2l, 1) := by decide +kernel
theorem dX2_sumRestsBehind_54 : decode cX2_sumRestsBehind 54 = .ok (.aload_n 0, 1) := by decide +kernel
theorem dX2_sumRestsBehind_55 : decode cX2_sumRestsBehind 55 = .ok (.getfield 19, 3) := by decide +kernel
theorem dX2_sumRestsBehind_58 : decode cX2_sumRestsBehind 58 = .ok (.iload 11, 2) := by decide +kernel
theorem dX2_sumRestsBehind_60 : decode cX2_sumRestsBehind 60 = .ok (.aaload, 1) := by decide +kernel
theorem dX2_sumRestsBehind_61 : decode cX2_sumRestsBehind 61 = .ok (.iload 9, 2) := by decide +kernel
theorem dX2_sumRestsBehind_63 : decode cX2_sumRestsBehind 63 = .ok (.laload, 1) := by decide +kernel
theorem dX2_sumRestsBehind_64 : decode cX2_sumRestsBehind 64 = .ok (.lmul, 1) := by decide +kernel
theorem dX2_sumRestsBehind_65 : decode cX2_sumRestsBehind 65 = .ok (.ladd, 1) := by decide +kernel
theorem dX2_sumRestsBehind_66 : decode cX2_sumRestsBehind 66 = .ok (.lstore 4, 2) := by decide +kernel
theorem dX2_sumRestsBehind_68 : decode cX2_sumRestsBehind 68 = .ok (.lload 6, 2) := by decide +kernel
theorem dX2_sumRestsBehind_70 : decode cX2_sumRestsBehind 70 = .ok (.iload 10, 2) := by decide +kernel
theorem dX2_sumRestsBehind_72 : decode cX2_sumRestsBehind 72 = .ok (.i2l, 1) := by decide +kernel
theorem dX2_sumRestsBehind_73 : decode cX2_sumRestsBehind 73 = .ok (.aload_n 0, 1) := by decide +kernel
theorem dX2_sumRestsBehind_74 : decode cX2_sumRestsBehind 74 = .ok (.getfield 22, 3) := by decide +kernel
theorem dX2_sumRestsBehind_77 : decode cX2_sumRestsBehind 77 = .ok (.iload 11, 2) := by decide +kernel
theorem dX2_sumRestsBehind_79 : decode cX2_sumRestsBehind 79 = .ok (.aaload, 1) := by decide +kernel
theorem dX2_sumRestsBehind_80 : decode cX2_sumRestsBehind 80 = .ok (.iload 9, 2) := by decide +kernel
theorem dX2_sumRestsBehind_82 : decode cX2_sumRestsBehind 82 = .ok (.laload, 1) := by decide +kernel
theorem dX2_sumRestsBehind_83 : decode cX2_sumRestsBehind 83 = .ok (.lmul, 1) := by decide +kernel
theorem dX2_sumRestsBehind_84 : decode cX2_sumRestsBehind 84 = .ok (.invokestatic 70, 3) := by decide +kernel
theorem dX2_sumRestsBehind_87 : decode cX2_sumRestsBehind 87 = .ok (.lstore 6, 2) := by decide +kernel
theorem dX2_sumRestsBehind_89 : decode cX2_sumRestsBehind 89 = .ok (.iload 8, 2) := by decide +kernel
theorem dX2_sumRestsBehind_91 : decode cX2_sumRestsBehind 91 = .ok (.aload_n 0, 1) := by decide +kernel
theorem dX2_sumRestsBehind_92 : decode cX2_sumRestsBehind 92 = .ok (.getfield 27, 3) := by decide +kernel
theorem dX2_sumRestsBehind_95 : decode cX2_sumRestsBehind 95 = .ok (.iload 11, 2) := by decide +kernel
theorem dX2_sumRestsBehind_97 : decode cX2_sumRestsBehind 97 = .ok (.aaload, 1) := by decide +kernel
theorem dX2_sumRestsBehind_98 : decode cX2_sumRestsBehind 98 = .ok (.iload 9, 2) := by decide +kernel
theorem dX2_sumRestsBehind_100 : decode cX2_sumRestsBehind 100 = .ok (.iaload, 1) := by decide +kernel
theorem dX2_sumRestsBehind_101 : decode cX2_sumRestsBehind 101 = .ok (.iadd, 1) := by decide +kernel
theorem dX2_sumRestsBehind_102 : decode cX2_sumRestsBehind 102 = .ok (.istore 8, 2) := by decide +kernel
theorem dX2_sumRestsBehind_104 : decode cX2_sumRestsBehind 104 = .ok (.iinc 9 1, 3) := by decide +kernel
theorem dX2_sumRestsBehind_107 : decode cX2_sumRestsBehind 107 = .ok (.goto (-95), 3) := by decide +kernel
theorem dX2_sumRestsBehind_110 : decode cX2_sumRestsBehind 110 = .ok (.aload_n 0, 1) := by decide +kernel
theorem dX2_sumRestsBehind_111 : decode cX2_sumRestsBehind 111 = .ok (.getfield 19, 3) := by decide +kernel
theorem dX2_sumRestsBehind_114 : decode cX2_sumRestsBehind 114 = .ok (.iload_n 2, 1) := by decide +kernel
theorem dX2_sumRestsBehind_115 : decode cX2_sumRestsBehind 115 = .ok (.aaload, 1) := by decide +kernel
theorem dX2_sumRestsBehind_116 : decode cX2_sumRestsBehind 116 = .ok (.iload_n 3, 1) := by decide +kernel
theorem dX2_sumRestsBehind_117 : decode cX2_sumRestsBehind 117 = .ok (.lload 4, 2) := by decide +kernel
theorem dX2_sumRestsBehind_119 : decode cX2_sumRestsBehind 119 = .ok (.lastore, 1) := by decide +kernel
theorem dX2_sumRestsBehind_120 : decode cX2_sumRestsBehind 120 = .ok (.aload_n 0, 1) := by decide +kernel
theorem dX2_sumRestsBehind_121 : decode cX2_sumRestsBehind 121 = .ok (.getfield 22, 3) := by decide +kernel
theorem dX2_sumRestsBehind_124 : decode cX2_sumRestsBehind 124 = .ok (.iload_n 2, 1) := by decide +kernel
theorem dX2_sumRestsBehind_125 : decode cX2_sumRestsBehind 125 = .ok (.aaload, 1) := by decide +kernel
theorem dX2_sumRestsBehind_126 : decode cX2_sumRestsBehind 126 = .ok (.iload_n 3, 1) := by decide +kernel
theorem dX2_sumRestsBehind_127 : decode cX2_sumRestsBehind 127 = .ok (.lload 6, 2) := by decide +kernel
theorem dX2_sumRestsBehind_129 : decode cX2_sumRestsBehind 129 = .ok (.lastore, 1) := by decide +kernel
theorem dX2_sumRestsBehind_130 : decode cX2_sumRestsBehind 130 = .ok (.aload_n 0, 1) := by decide +kernel
theorem dX2_sumRestsBehind_131 : decode cX2_sumRestsBehind 131 = .ok (.getfield 27, 3) := by decide +kernel
theorem dX2_sumRestsBehind_134 : decode cX2_sumRestsBehind 134 = .ok (.iload_n 2, 1) := by decide +kernel
theorem dX2_sumRestsBehind_135 : decode cX2_sumRestsBehind 135 = .ok (.aaload, 1) := by decide +kernel
theorem dX2_sumRestsBehind_136 : decode cX2_sumRestsBehind 136 = .ok (.iload_n 3, 1) := by decide +kernel
theorem dX2_sumRestsBehind_137 : decode cX2_sumRestsBehind 137 = .ok (.iload 8, 2) := by decide +kernel
theorem dX2_sumRestsBehind_139 : decode cX2_sumRestsBehind 139 = .ok (.iastore, 1) := by decide +kernel
theorem dX2_sumRestsBehind_140 : decode cX2_sumRestsBehind 140 = .ok (.return_, 1) := by decide +kernel
theorem dX3_init_0 : decode cX3_init 0 = .ok (.aload_n 0, 1) := by decide +kernel
theorem dX3_init_1 : decode cX3_init 1 = .ok (.invokespecial 3, 3) := by decide +kernel
theorem dX3_init_4 : decode cX3_init 4 = .ok (.aload_n 0, 1) := by decide +kernel
theorem dX3_init_5 : decode cX3_init 5 = .ok (.bipush 58, 2) := by decide +kernel
theorem dX3_init_7 : decode cX3_init 7 = .ok (.newarray .long, 2) := by decide +kernel
theorem dX3_init_9 : decode cX3_init 9 = .ok (.putfield 9, 3) := by decide +kernel
theorem dX3_init_12 : decode cX3_init 12 = .ok (.return_, 1) := by decide +kernel
theorem dX3_improve_0 : decode cX3_improve 0 = .ok (.iconst 0, 1) := by decide +kernel
theorem dX3_improve_1 : decode cX3_improve 1 = .ok (.istore_n 3, 1) := by decide +kernel
theorem dX3_improve_2 : decode cX3_improve 2 = .ok (.iload_n 3, 1) := by decide +kernel
theorem dX3_improve_3 : decode cX3_improve 3 = .ok (.bipush 6, 2) := by decide +kernel
theorem dX3_improve_5 : decode cX3_improve 5 = .ok (.if_icmp .gt 45, 3) := by decide +kernel
theorem dX3_improve_8 : decode cX3_improve 8 = .ok (.iconst 0, 1) := by decide +kernel
theorem dX3_improve_9 : decode cX3_improve 9 = .ok (.istore 4, 2) := by decide +kernel
theorem dX3_improve_11 : decode cX3_improve 11 = .ok (.iload 4, 2) := by decide +kernel
theorem dX3_improve_13 : decode cX3_improve 13 = .ok (.bipush 6, 2) := by decide +kernel
theorem dX3_improve_15 : decode cX3_improve 15 = .ok (.if_icmp .ge 29, 3) := by decide +kernel
theorem dX3_improve_18 : decode cX3_improve 18 = .ok (.aload_n 0, 1) := by decide +kernel
theorem dX3_improve_19 : decode cX3_improve 19 = .ok (.getfield 9, 3) := by decide +kernel
theorem dX3_improve_22 : decode cX3_improve 22 = .ok (.iload_n 3, 1) := by decide +kernel
theorem dX3_improve_23 : decode cX3_improve 23 = .ok (.bipush 6, 2) := by decide +kernel
theorem dX3_improve_25 : decode cX3_improve 25 = .ok (.imul, 1) := by decide +kernel
theorem dX3_improve_26 : decode cX3_improve 26 = .ok (.iload 4, 2) := by decide +kernel
theorem dX3_improve_28 : decode cX3_improve 28 = .ok (.iadd, 1) := by decide +kernel
theorem dX3_improve_29 : decode cX3_improve 29 = .ok (.aload_n 2, 1) := by decide +kernel
theorem dX3_improve_30 : decode cX3_improve 30 = .ok (.aload_n 1, 1) := by decide +kernel
theorem dX3_improve_31 : decode cX3_improve 31 = .ok (.iload_n 3, 1) := by decide +kernel
theorem dX3_improve_32 : decode cX3_improve 32 = .ok (.iload 4, 2) := by decide +kernel
theorem dX3_improve_34 : decode cX3_improve 34 = .ok (.invokevirtual 15, 3) := by decide +kernel
theorem dX3_improve_37 : decode cX3_improve 37 = .ok (.lastore, 1) := by decide +kernel
theorem dX3_improve_38 : decode cX3_improve 38 = .ok (.iinc 4 1, 3) := by decide +kernel
theorem dX3_improve_41 : decode cX3_improve 41 = .ok (.goto (-30), 3) := by decide +kernel
theorem dX3_improve_44 : decode cX3_improve 44 = .ok (.iinc 3 1, 3) := by decide +kernel
theorem dX3_improve_47 : decode cX3_improve 47 = .ok (.goto (-45), 3) := by decide +kernel
theorem dX3_improve_50 : decode cX3_improve 50 = .ok (.iconst 0, 1) := by decide +kernel
theorem dX3_improve_51 : decode cX3_improve 51 = .ok (.istore_n 3, 1) := by decide +kernel
theorem dX3_improve_52 : decode cX3_improve 52 = .ok (.iload_n 3, 1) := by decide +kernel
theorem dX3_improve_53 : decode cX3_improve 53 = .ok (.iconst 4, 1) := by decide +kernel
theorem dX3_improve_54 : decode cX3_improve 54 = .ok (.if_icmp .ge 46, 3) := by decide +kernel
theorem dX3_improve_57 : decode cX3_improve 57 = .ok (.iconst 0, 1) := by decide +kernel
theorem dX3_improve_58 : decode cX3_improve 58 = .ok (.istore 4, 2) := by decide +kernel
theorem dX3_improve_60 : decode cX3_improve 60 = .ok (.iload 4, 2) := by decide +kernel
theorem dX3_improve_62 : decode cX3_improve 62 = .ok (.iconst 4, 1) := by decide +kernel
theorem dX3_improve_63 : decode cX3_improve 63 = .ok (.if_icmp .ge 31, 3) := by decide +kernel
theorem dX3_improve_66 : decode cX3_improve 66 = .ok (.aload_n 0, 1) := by decide +kernel
theorem dX3_improve_67 : decode cX3_improve 67 = .ok (.getfield 9, 3) := by decide +kernel
theorem dX3_improve_70 : decode cX3_improve 70 = .ok (.bipush 42, 2) := by decide +kernel
theorem dX3_improve_72 : decode cX3_improve 72 = .ok (.iload_n 3, 1) := by decide +kernel
theorem dX3_improve_73 : decode cX3_improve 73 = .ok (.iconst 4, 1) := by decide +kernel
theorem dX3_improve_74 : decode cX3_improve 74 = .ok (.imul, 1) := by decide +kernel
theorem dX3_improve_75 : decode cX3_improve 75 = .ok (.iadd, 1) := by decide +kernel
theorem dX3_improve_76 : decode cX3_improve 76 = .ok (.iload 4, 2) := by decide +kernel
theorem dX3_improve_78 : decode cX3_improve 78 = .ok (.iadd, 1) := by decide +kernel
theorem dX3_improve_79 : decode cX3_improve 79 = .ok (.aload_n 2, 1) := by decide +kernel
theorem dX3_improve_80 : decode cX3_improve 80 = .ok (.aload_n 1, 1) := by decide +kernel
theorem dX3_improve_81 : decode cX3_improve 81 = .ok (.iload_n 3, 1) := by decide +kernel
theorem dX3_improve_82 : decode cX3_improve 82 = .ok (.iload 4, 2) := by decide +kernel
theorem dX3_improve_84 : decode cX3_improve 84 = .ok (.invokevirtual 21, 3) := by decide +kernel
theorem dX3_improve_87 : decode cX3_improve 87 = .ok (.lastore, 1) := by decide +kernel
theorem dX3_improve_88 : decode cX3_improve 88 = .ok (.iinc 4 1, 3) := by decide +kernel
theorem dX3_improve_91 : decode cX3_improve 91 = .ok (.goto (-31), 3) := by decide +kernel
theorem dX3_improve_94 : decode cX3_improve 94 = .ok (.iinc 3 1, 3) := by decide +kernel
theorem dX3_improve_97 : decode cX3_improve 97 = .ok (.goto (-45), 3) := by decide +kernel
theorem dX3_improve_100 : decode cX3_improve 100 = .ok (.iconst 0, 1) := by decide +kernel
theorem dX3_improve_101 : decode cX3_improve 101 = .ok (.istore_n 3, 1) := by decide +kernel
theorem dX3_improve_102 : decode cX3_improve 102 = .ok (.iconst 0, 1) := by decide +kernel
theorem dX3_improve_103 : decode cX3_improve 103 = .ok (.istore 4, 2) := by decide +kernel
theorem dX3_improve_105 : decode cX3_improve 105 = .ok (.iload 4, 2) := by decide +kernel
theorem dX3_improve_107 : decode cX3_improve 107 = .ok (.bipush 6, 2) := by decide +kernel
theorem dX3_improve_109 : decode cX3_improve 109 = .ok (.if_icmp .gt 24, 3) := by decide +kernel
theorem dX3_improve_112 : decode cX3_improve 112 = .ok (.iload_n 3, 1) := by decide +kernel
theorem dX3_improve_113 : decode cX3_improve 113 = .ok (.aload_n 0, 1) := by decide +kernel
theorem dX3_improve_114 : decode cX3_improve 114 = .ok (.aload_n 1, 1) := by decide +kernel
theorem dX3_improve_115 : decode cX3_improve 115 = .ok (.iload 4, 2) := by decide +kernel
theorem dX3_improve_117 : decode cX3_improve 117 = .ok (.bipush 6, 2) := by decide +kernel
theorem dX3_improve_119 : decode cX3_improve 119 = .ok (.imul, 1) := by decide +kernel
theorem dX3_improve_120 : decode cX3_improve 120 = .ok (.bipush 6, 2) := by decide +kernel
theorem dX3_improve_122 : decode cX3_improve 122 = .ok (.invokevirtual 24, 3) := by decide +kernel
theorem dX3_improve_125 : decode cX3_improve 125 = .ok (.iadd, 1) := by decide +kernel
theorem dX3_improve_126 : decode cX3_improve 126 = .ok (.istore_n 3, 1) := by decide +kernel
theorem dX3_improve_127 : decode cX3_improve 127 = .ok (.iinc 4 1, 3) := by decide +kernel
theorem dX3_improve_130 : decode cX3_improve 130 = .ok (.goto (-25), 3) := by decide +kernel
theorem dX3_improve_133 : decode cX3_improve 133 = .ok (.iconst 0, 1) := by decide +kernel
theorem dX3_improve_134 : decode cX3_improve 134 = .ok (.istore 4, 2) := by decide +kernel
theorem dX3_improve_136 : decode cX3_improve 136 = .ok (.iload 4, 2) := by decide +kernel
theorem dX3_improve_138 : decode cX3_improve 138 = .ok (.iconst 4, 1) := by decide +kernel
theorem dX3_improve_139 : decode cX3_improve 139 = .ok (.if_icmp .ge 25, 3) := by decide +kernel
theorem dX3_improve_142 : decode cX3_improve 142 = .ok (.iload_n 3, 1) := by decide +kernel
theorem dX3_improve_143 : decode cX3_improve 143 = .ok (.aload_n 0, 1) := by decide +kernel
theorem dX3_improve_144 : decode cX3_improve 144 = .ok (.aload_n 1, 1) := by decide +kernel
theorem dX3_improve_145 : decode cX3_improve 145 = .ok (.bipush 42, 2) := by decide +kernel
theorem dX3_improve_147 : decode cX3_improve 147 = .ok (.iload 4, 2) := by decide +kernel
theorem dX3_improve_149 : decode cX3_improve 149 = .ok (.iconst 4, 1) := by decide +kernel
theorem dX3_improve_150 : decode cX3_improve 150 = .ok (.imul, 1) := by decide +kernel
theorem dX3_improve_151 : decode cX3_improve 151 = .ok (.iadd, 1) := by decide +kernel
theorem dX3_improve_152 : decode cX3_improve 152 = .ok (.iconst 4, 1) := by decide +kernel
theorem dX3_improve_153 : decode cX3_improve 153 = .ok (.invokevirtual 24, 3) := by decide +kernel
theorem dX3_improve_156 : decode cX3_improve 156 = .ok (.iadd, 1) := by decide +kernel
theorem dX3_improve_157 : decode cX3_improve 157 = .ok (.istore_n 3, 1) := by decide +kernel
theorem dX3_improve_158 : decode cX3_improve 158 = .ok (.iinc 4 1, 3) := by decide +kernel
theorem dX3_improve_161 : decode cX3_improve 161 = .ok (.goto (-25), 3) := by decide +kernel
theorem dX3_improve_164 : decode cX3_improve 164 = .ok (.iload_n 3, 1) := by decide +kernel
theorem dX3_improve_165 : decode cX3_improve 165 = .ok (.ireturn, 1) := by decide +kernel
theorem dX3_improveGroup_0 : decode cX3_improveGroup 0 = .ok (.lconst 0, 1) := by decide +kernel
theorem dX3_improveGroup_1 : decode cX3_improveGroup 1 = .ok (.lstore 4, 2) := by decide +kernel
theorem dX3_improveGroup_3 : decode cX3_improveGroup 3 = .ok (.iload_n 2, 1) := by decide +kernel
theorem dX3_improveGroup_4 : decode cX3_improveGroup 4 = .ok (.istore 6, 2) := by decide +kernel
theorem dX3_improveGroup_6 : decode cX3_improveGroup 6 = .ok (.iload 6, 2) := by decide +kernel
theorem dX3_improveGroup_8 : decode cX3_improveGroup 8 = .ok (.iload_n 2, 1) := by decide +kernel
theorem dX3_improveGroup_9 : decode cX3_improveGroup 9 = .ok (.iload_n 3, 1) := by decide +kernel
theorem dX3_improveGroup_10 : decode cX3_improveGroup 10 = .ok (.iadd, 1) := by decide +kernel
theorem dX3_improveGroup_11 : decode cX3_improveGroup 11 = .ok (.if_icmp .ge 23, 3) := by decide +kernel
theorem dX3_improveGroup_14 : decode cX3_improveGroup 14 = .ok (.lload 4, 2) := by decide +kernel
theorem dX3_improveGroup_16 : decode cX3_improveGroup 16 = .ok (.aload_n 0, 1) := by decide +kernel
theorem dX3_improveGroup_17 : decode cX3_improveGroup 17 = .ok (.getfield 9, 3) := by decide +kernel
theorem dX3_improveGroup_20 : decode cX3_improveGroup 20 = .ok (.iload 6, 2) := by decide +kernel
theorem dX3_improveGroup_22 : decode cX3_improveGroup 22 = .ok (.laload, 1) := by decide +kernel
theorem dX3_improveGroup_23 : decode cX3_improveGroup 23 = .ok (.invokestatic 28, 3) := by decide +kernel
theorem dX3_improveGroup_26 : decode cX3_improveGroup 26 = .ok (.lstore 4, 2) := by decide +kernel
theorem dX3_improveGroup_28 : decode cX3_improveGroup 28 = .ok (.iinc 6 1, 3) := by decide +kernel
theorem dX3_improveGroup_31 : decode cX3_improveGroup 31 = .ok (.goto (-25), 3) := by decide +kernel
theorem dX3_improveGroup_34 : decode cX3_improveGroup 34 = .ok (.lload 4, 2) := by decide +kernel
theorem dX3_improveGroup_36 : decode cX3_improveGroup 36 = .ok (.lconst 0, 1) := by decide +kernel
theorem dX3_improveGroup_37 : decode cX3_improveGroup 37 = .ok (.lcmp, 1) := by decide +kernel
theorem dX3_improveGroup_38 : decode cX3_improveGroup 38 = .ok (.ifCond .ne 5, 3) := by decide +kernel
theorem dX3_improveGroup_41 : decode cX3_improveGroup 41 = .ok (.iconst 0, 1) := by decide +kernel
theorem dX3_improveGroup_42 : decode cX3_improveGroup 42 = .ok (.ireturn, 1) := by decide +kernel
theorem dX3_improveGroup_43 : decode cX3_improveGroup 43 = .ok (.iconst 0, 1) := by decide +kernel
theorem dX3_improveGroup_44 : decode cX3_improveGroup 44 = .ok (.istore 6, 2) := by decide +kernel
theorem dX3_improveGroup_46 : decode cX3_improveGroup 46 = .ok (.iload_n 2, 1) := by decide +kernel
theorem dX3_improveGroup_47 : decode cX3_improveGroup 47 = .ok (.istore 7, 2) := by decide +kernel
theorem dX3_improveGroup_49 : decode cX3_improveGroup 49 = .ok (.iload 7, 2) := by decide +kernel
theorem dX3_improveGroup_51 : decode cX3_improveGroup 51 = .ok (.iload_n 2, 1) := by decide +kernel
theorem dX3_improveGroup_52 : decode cX3_improveGroup 52 = .ok (.iload_n 3, 1) := by decide +kernel
theorem dX3_improveGroup_53 : decode cX3_improveGroup 53 = .ok (.iadd, 1) := by decide +kernel
theorem dX3_improveGroup_54 : decode cX3_improveGroup 54 = .ok (.if_icmp .ge 57, 3) := by decide +kernel
theorem dX3_improveGroup_57 : decode cX3_improveGroup 57 = .ok (.ldc2_w 34, 3) := by decide +kernel
theorem dX3_improveGroup_60 : decode cX3_improveGroup 60 = .ok (.aload_n 0, 1) := by decide +kernel
theorem dX3_improveGroup_61 : decode cX3_improveGroup 61 = .ok (.getfield 9, 3) := by decide +kernel
theorem dX3_improveGroup_64 : decode cX3_improveGroup 64 = .ok (.iload 7, 2) := by decide +kernel
theorem dX3_improveGroup_66 : decode cX3_improveGroup 66 = .ok (.laload, 1) := by decide +kernel
theorem dX3_improveGroup_67 : decode cX3_improveGroup 67 = .ok (.lmul, 1) := by decide +kernel
theorem dX3_improveGroup_68 : decode cX3_improveGroup 68 = .ok (.lload 4, 2) := by decide +kernel
theorem dX3_improveGroup_70 : decode cX3_improveGroup 70 = .ok (.ladd, 1) := by decide +kernel
theorem dX3_improveGroup_71 : decode cX3_improveGroup 71 = .ok (.ldc2_w 36, 3) := by decide +kernel
theorem dX3_improveGroup_74 : decode cX3_improveGroup 74 = .ok (.lload 4, 2) := by decide +kernel
theorem dX3_improveGroup_76 : decode cX3_improveGroup 76 = .ok (.lmul, 1) := by decide +kernel
theorem dX3_improveGroup_77 : decode cX3_improveGroup 77 = .ok (.ldiv, 1) := by decide +kernel
theorem dX3_improveGroup_78 : decode cX3_improveGroup 78 = .ok (.l2i, 1) := by decide +kernel
theorem dX3_improveGroup_79 : decode cX3_improveGroup 79 = .ok (.istore 8, 2) := by decide +kernel
theorem dX3_improveGroup_81 : decode cX3_improveGroup 81 = .ok (.iload 8, 2) := by decide +kernel
theorem dX3_improveGroup_83 : decode cX3_improveGroup 83 = .ok (.aload_n 1, 1) := by decide +kernel
theorem dX3_improveGroup_84 : decode cX3_improveGroup 84 = .ok (.getfield 38, 3) := by decide +kernel
theorem dX3_improveGroup_87 : decode cX3_improveGroup 87 = .ok (.iload 7, 2) := by decide +kernel
theorem dX3_improveGroup_89 : decode cX3_improveGroup 89 = .ok (.iaload, 1) := by decide +kernel
theorem dX3_improveGroup_90 : decode cX3_improveGroup 90 = .ok (.if_icmp .eq 15, 3) := by decide +kernel
theorem dX3_improveGroup_93 : decode cX3_improveGroup 93 = .ok (.aload_n 1, 1) := by decide +kernel
theorem dX3_improveGroup_94 : decode cX3_improveGroup 94 = .ok (.getfield 38, 3) := by decide +kernel
theorem dX3_improveGroup_97 : decode cX3_improveGroup 97 = .ok (.iload 7, 2) := by decide +kernel
theorem dX3_improveGroup_99 : decode cX3_improveGroup 99 = .ok (.iload 8, 2) := by decide +kernel
theorem dX3_improveGroup_101 : decode cX3_improveGroup 101 = .ok (.iastore, 1) := by decide +kernel
theorem dX3_improveGroup_102 : decode cX3_improveGroup 102 = .ok (.iinc 6 1, 3) := by decide +kernel
theorem dX3_improveGroup_105 : decode cX3_improveGroup 105 = .ok (.iinc 7 1, 3) := by decide +kernel
theorem dX3_improveGroup_108 : decode cX3_improveGroup 108 = .ok (.goto (-59), 3) := by decide +kernel
theorem dX3_improveGroup_111 : decode cX3_improveGroup 111 = .ok (.iload 6, 2) := by decide +kernel
theorem dX3_improveGroup_113 : decode cX3_improveGroup 113 = .ok (.ireturn, 1) := by decide +kernel
theorem dX4_init_0 : decode cX4_init 0 = .ok (.aload_n 0, 1) := by decide +kernel
theorem dX4_init_1 : decode cX4_init 1 = .ok (.invokespecial 3, 3) := by decide +kernel
theorem dX4_init_4 : decode cX4_init 4 = .ok (.aload_n 0, 1) := by decide +kernel
theorem dX4_init_5 : decode cX4_init 5 = .ok (.bipush 18, 2) := by decide +kernel
theorem dX4_init_7 : decode cX4_init 7 = .ok (.newarray .int, 2) := by decide +kernel
theorem dX4_init_9 : decode cX4_init 9 = .ok (.putfield 9, 3) := by decide +kernel
theorem dX4_init_12 : decode cX4_init 12 = .ok (.aload_n 0, 1) := by decide +kernel
theorem dX4_init_13 : decode cX4_init 13 = .ok (.iconst 0, 1) := by decide +kernel
theorem dX4_init_14 : decode cX4_init 14 = .ok (.putfield 15, 3) := by decide +kernel
theorem dX4_init_17 : decode cX4_init 17 = .ok (.aload_n 0, 1) := by decide +kernel
theorem dX4_init_18 : decode cX4_init 18 = .ok (.lconst 1, 1) := by decide +kernel
theorem dX4_init_19 : decode cX4_init 19 = .ok (.putfield 19, 3) := by decide +kernel
theorem dX4_init_22 : decode cX4_init 22 = .ok (.aload_n 0, 1) := by decide +kernel
theorem dX4_init_23 : decode cX4_init 23 = .ok (.iconst 0, 1) := by decide +kernel
theorem dX4_init_24 : decode cX4_init 24 = .ok (.putfield 23, 3) := by decide +kernel
theorem dX4_init_27 : decode cX4_init 27 = .ok (.return_, 1) := by decide +kernel
theorem dX4_follow_0 : decode cX4_follow 0 = .ok (.aload_n 0, 1) := by decide +kernel
theorem dX4_follow_1 : decode cX4_follow 1 = .ok (.iconst 0, 1) := by decide +kernel
theorem dX4_follow_2 : decode cX4_follow 2 = .ok (.putfield 15, 3) := by decide +kernel
theorem dX4_follow_5 : decode cX4_follow 5 = .ok (.aload_n 0, 1) := by decide +kernel
theorem dX4_follow_6 : decode cX4_follow 6 = .ok (.lconst 1, 1) := by decide +kernel
theorem dX4_follow_7 : decode cX4_follow 7 = .ok (.putfield 19, 3) := by decide +kernel
theorem dX4_follow_10 : decode cX4_follow 10 = .ok (.iload_n 3, 1) := by decide +kernel
theorem dX4_follow_11 : decode cX4_follow 11 = .ok (.istore 4, 2) := by decide +kernel
theorem dX4_follow_13 : decode cX4_follow 13 = .ok (.bipush 6, 2) := by decide +kernel
theorem dX4_follow_15 : decode cX4_follow 15 = .ok (.istore 5, 2) := by decide +kernel
theorem dX4_follow_17 : decode cX4_follow 17 = .ok (.iconst 0, 1) := by decide +kernel
theorem dX4_follow_18 : decode cX4_follow 18 = .ok (.istore 6, 2) := by decide +kernel
theorem dX4_follow_20 : decode cX4_follow 20 = .ok (.iload 6, 2) := by decide +kernel
theorem dX4_follow_22 : decode cX4_follow 22 = .ok (.aload_n 1, 1) := by decide +kernel
theorem dX4_follow_23 : decode cX4_follow 23 = .ok (.getfield 26, 3) := by decide +kernel
theorem dX4_follow_26 : decode cX4_follow 26 = .ok (.if_icmp .ge 99, 3) := by decide +kernel
theorem dX4_follow_29 : decode cX4_follow 29 = .ok (.aload_n 0, 1) := by decide +kernel
theorem dX4_follow_30 : decode cX4_follow 30 = .ok (.getfield 15, 3) := by decide +kernel
theorem dX4_follow_33 : decode cX4_follow 33 = .ok (.bipush 18, 2) := by decide +kernel
theorem dX4_follow_35 : decode cX4_follow 35 = .ok (.if_icmp .ge 90, 3) := by decide +kernel
theorem dX4_follow_38 : decode cX4_follow 38 = .ok (.aload_n 0, 1) := by decide +kernel
theorem dX4_follow_39 : decode cX4_follow 39 = .ok (.aload_n 1, 1) := by decide +kernel
theorem dX4_follow_40 : decode cX4_follow 40 = .ok (.aload_n 2, 1) := by decide +kernel
theorem dX4_follow_41 : decode cX4_follow 41 = .ok (.iload 6, 2) := by decide +kernel
theorem dX4_follow_43 : decode cX4_follow 43 = .ok (.iload 5, 2) := by decide +kernel
theorem dX4_follow_45 : decode cX4_follow 45 = .ok (.iload 4, 2) := by decide +kernel
theorem dX4_follow_47 : decode cX4_follow 47 = .ok (.invokevirtual 31, 3) := by decide +kernel
theorem dX4_follow_50 : decode cX4_follow 50 = .ok (.istore 7, 2) := by decide +kernel
theorem dX4_follow_52 : decode cX4_follow 52 = .ok (.iload 4, 2) := by decide +kernel
theorem dX4_follow_54 : decode cX4_follow 54 = .ok (.aload_n 0, 1) := by decide +kernel
theorem dX4_follow_55 : decode cX4_follow 55 = .ok (.getfield 23, 3) := by decide +kernel
theorem dX4_follow_58 : decode cX4_follow 58 = .ok (.isub, 1) := by decide +kernel
theorem dX4_follow_59 : decode cX4_follow 59 = .ok (.istore 4, 2) := by decide +kernel
theorem dX4_follow_61 : decode cX4_follow 61 = .ok (.aload_n 0, 1) := by decide +kernel
theorem dX4_follow_62 : decode cX4_follow 62 = .ok (.dup, 1) := by decide +kernel
theorem dX4_follow_63 : decode cX4_follow 63 = .ok (.getfield 19, 3) := by decide +kernel
theorem dX4_follow_66 : decode cX4_follow 66 = .ok (.aload_n 1, 1) := by decide +kernel
theorem dX4_follow_67 : decode cX4_follow 67 = .ok (.iload 5, 2) := by decide +kernel
theorem dX4_follow_69 : decode cX4_follow 69 = .ok (.iload 7, 2) := by decide +kernel
theorem dX4_follow_71 : decode cX4_follow 71 = .ok (.iload 6, 2) := by decide +kernel
theorem dX4_follow_73 : decode cX4_follow 73 = .ok (.invokevirtual 35, 3) := by decide +kernel
theorem dX4_follow_76 : decode cX4_follow 76 = .ok (.i2l, 1) := by decide +kernel
theorem dX4_follow_77 : decode cX4_follow 77 = .ok (.lmul, 1) := by decide +kernel
theorem dX4_follow_78 : decode cX4_follow 78 = .ok (.putfield 19, 3) := by decide +kernel
theorem dX4_follow_81 : decode cX4_follow 81 = .ok (.aload_n 0, 1) := by decide +kernel
theorem dX4_follow_82 : decode cX4_follow 82 = .ok (.getfield 9, 3) := by decide +kernel
theorem dX4_follow_85 : decode cX4_follow 85 = .ok (.aload_n 0, 1) := by decide +kernel
theorem dX4_follow_86 : decode cX4_follow 86 = .ok (.getfield 15, 3) := by decide +kernel
theorem dX4_follow_89 : decode cX4_follow 89 = .ok (.iload 7, 2) := by decide +kernel
theorem dX4_follow_91 : decode cX4_follow 91 = .ok (.iastore, 1) := by decide +kernel
theorem dX4_follow_92 : decode cX4_follow 92 = .ok (.aload_n 0, 1) := by decide +kernel
theorem dX4_follow_93 : decode cX4_follow 93 = .ok (.dup, 1) := by decide +kernel
theorem dX4_follow_94 : decode cX4_follow 94 = .ok (.getfield 15, 3) := by decide +kernel
theorem dX4_follow_97 : decode cX4_follow 97 = .ok (.iconst 1, 1) := by decide +kernel
theorem dX4_follow_98 : decode cX4_follow 98 = .ok (.iadd, 1) := by decide +kernel
theorem dX4_follow_99 : decode cX4_follow 99 = .ok (.putfield 15, 3) := by decide +kernel
theorem dX4_follow_102 : decode cX4_follow 102 = .ok (.iload 6, 2) := by decide +kernel
theorem dX4_follow_104 : decode cX4_follow 104 = .ok (.iload 7, 2) := by decide +kernel
theorem dX4_follow_106 : decode cX4_follow 106 = .ok (.iconst 4, 1) := by decide +kernel
theorem dX4_follow_107 : decode cX4_follow 107 = .ok (.if_icmp .ge 7, 3) := by decide +kernel
theorem dX4_follow_110 : decode cX4_follow 110 = .ok (.iconst 1, 1) := by decide +kernel
theorem dX4_follow_111 : decode cX4_follow 111 = .ok (.goto 4, 3) := by decide +kernel
theorem dX4_follow_114 : decode cX4_follow 114 = .ok (.iconst 0, 1) := by decide +kernel
theorem dX4_follow_115 : decode cX4_follow 115 = .ok (.iadd, 1) := by decide +kernel
theorem dX4_follow_116 : decode cX4_follow 116 = .ok (.istore 6, 2) := by decide +kernel
theorem dX4_follow_118 : decode cX4_follow 118 = .ok (.iload 7, 2) := by decide +kernel
theorem dX4_follow_120 : decode cX4_follow 120 = .ok (.istore 5, 2) := by decide +kernel
theorem dX4_follow_122 : decode cX4_follow 122 = .ok (.goto (-102), 3) := by decide +kernel
theorem dX4_follow_125 : decode cX4_follow 125 = .ok (.return_, 1) := by decide +kernel
theorem dX4_findBest_0 : decode cX4_findBest 0 = .ok (.iconst 0, 1) := by decide +kernel
theorem dX4_findBest_1 : decode cX4_findBest 1 = .ok (.istore_n 3, 1) := by decide +kernel
theorem dX4_findBest_2 : decode cX4_findBest 2 = .ok (.bipush 6, 2) := by decide +kernel
theorem dX4_findBest_4 : decode cX4_findBest 4 = .ok (.istore 4, 2) := by decide +kernel
theorem dX4_findBest_6 : decode cX4_findBest 6 = .ok (.iconst 0, 1) := by decide +kernel
theorem dX4_findBest_7 : decode cX4_findBest 7 = .ok (.istore 5, 2) := by decide +kernel
theorem dX4_findBest_9 : decode cX4_findBest 9 = .ok (.iconst 0, 1) := by decide +kernel
theorem dX4_findBest_10 : decode cX4_findBest 10 = .ok (.istore 6, 2) := by decide +kernel
theorem dX4_findBest_12 : decode cX4_findBest 12 = .ok (.iload 5, 2) := by decide +kernel
theorem dX4_findBest_14 : decode cX4_findBest 14 = .ok (.aload_n 1, 1) := by decide +kernel
theorem dX4_findBest_15 : decode cX4_findBest 15 = .ok (.getfield 26, 3) := by decide +kernel
theorem dX4_findBest_18 : decode cX4_findBest 18 = .ok (.if_icmp .ge 51, 3) := by decide +kernel
theorem dX4_findBest_21 : decode cX4_findBest 21 = .ok (.iload 6, 2) := by decide +kernel
theorem dX4_findBest_23 : decode cX4_findBest 23 = .ok (.bipush 18, 2) := by decide +kernel
theorem dX4_findBest_25 : decode cX4_findBest 25 = .ok (.if_icmp .ge 44, 3) := by decide +kernel
theorem dX4_findBest_28 : decode cX4_findBest 28 = .ok (.aload_n 0, 1) := by decide +kernel
theorem dX4_findBest_29 : decode cX4_findBest 29 = .ok (.aload_n 1, 1) := by decide +kernel
theorem dX4_findBest_30 : decode cX4_findBest 30 = .ok (.aload_n 2, 1) := by decide +kernel
theorem dX4_findBest_31 : decode cX4_findBest 31 = .ok (.iload 5, 2) := by decide +kernel
theorem dX4_findBest_33 : decode cX4_findBest 33 = .ok (.iload 4, 2) := by decide +kernel
theorem dX4_findBest_35 : decode cX4_findBest 35 = .ok (.invokevirtual 39, 3) := by decide +kernel
theorem dX4_findBest_38 : decode cX4_findBest 38 = .ok (.istore 4, 2) := by decide +kernel
theorem dX4_findBest_40 : decode cX4_findBest 40 = .ok (.iload_n 3, 1) := by decide +kernel
theorem dX4_findBest_41 : decode cX4_findBest 41 = .ok (.aload_n 0, 1) := by decide +kernel
theorem dX4_findBest_42 : decode cX4_findBest 42 = .ok (.getfield 23, 3) := by decide +kernel
theorem dX4_findBest_45 : decode cX4_findBest 45 = .ok (.iadd, 1) := by decide +kernel
theorem dX4_findBest_46 : decode cX4_findBest 46 = .ok (.istore_n 3, 1) := by decide +kernel
theorem dX4_findBest_47 : decode cX4_findBest 47 = .ok (.iload 5, 2) := by decide +kernel
theorem dX4_findBest_49 : decode cX4_findBest 49 = .ok (.iload 4, 2) := by decide +kernel
theorem dX4_findBest_51 : decode cX4_findBest 51 = .ok (.iconst 4, 1) := by decide +kernel
theorem dX4_findBest_52 : decode cX4_findBest 52 = .ok (.if_icmp .ge 7, 3) := by decide +kernel
theorem dX4_findBest_55 : decode cX4_findBest 55 = .ok (.iconst 1, 1) := by decide +kernel
theorem dX4_findBest_56 : decode cX4_findBest 56 = .ok (.goto 4, 3) := by decide +kernel
theorem dX4_findBest_59 : decode cX4_findBest 59 = .ok (.iconst 0, 1) := by decide +kernel
theorem dX4_findBest_60 : decode cX4_findBest 60 = .ok (.iadd, 1) := by decide +kernel
theorem dX4_findBest_61 : decode cX4_findBest 61 = .ok (.istore 5, 2) := by decide +kernel
theorem dX4_findBest_63 : decode cX4_findBest 63 = .ok (.iinc 6 1, 3) := by decide +kernel
theorem dX4_findBest_66 : decode cX4_findBest 66 = .ok (.goto (-54), 3) := by decide +kernel
theorem dX4_findBest_69 : decode cX4_findBest 69 = .ok (.iload_n 3, 1) := by decide +kernel
theorem dX4_findBest_70 : decode cX4_findBest 70 = .ok (.ireturn, 1) := by decide +kernel
theorem dX4_tell_0 : decode cX4_tell 0 = .ok (.iload_n 1, 1) := by decide +kernel
theorem dX4_tell_1 : decode cX4_tell 1 = .ok (.iconst (-1), 1) := by decide +kernel
theorem dX4_tell_2 : decode cX4_tell 2 = .ok (.if_icmp .ne 8, 3) := by decide +kernel
theorem dX4_tell_5 : decode cX4_tell 5 = .ok (.aload_n 0, 1) := by decide +kernel
theorem dX4_tell_6 : decode cX4_tell 6 = .ok (.getfield 15, 3) := by decide +kernel
theorem dX4_tell_9 : decode cX4_tell 9 = .ok (.ireturn, 1) := by decide +kernel
theorem dX4_tell_10 : decode cX4_tell 10 = .ok (.iload_n 1, 1) := by decide +kernel
theorem dX4_tell_11 : decode cX4_tell 11 = .ok (.ifCond .lt 20, 3) := by decide +kernel
theorem dX4_tell_14 : decode cX4_tell 14 = .ok (.iload_n 1, 1) := by decide +kernel
theorem dX4_tell_15 : decode cX4_tell 15 = .ok (.aload_n 0, 1) := by decide +kernel
theorem dX4_tell_16 : decode cX4_tell 16 = .ok (.getfield 15, 3) := by decide +kernel
theorem dX4_tell_19 : decode cX4_tell 19 = .ok (.if_icmp .ge 12, 3) := by decide +kernel
theorem dX4_tell_22 : decode cX4_tell 22 = .ok (.aload_n 0, 1) := by decide +kernel
theorem dX4_tell_23 : decode cX4_tell 23 = .ok (.getfield 9, 3) := by decide +kernel
theorem dX4_tell_26 : decode cX4_tell 26 = .ok (.iload_n 1, 1) := by decide +kernel
theorem dX4_tell_27 : decode cX4_tell 27 = .ok (.iaload, 1) := by decide +kernel
theorem dX4_tell_28 : decode cX4_tell 28 = .ok (.goto 5, 3) := by decide +kernel
theorem dX4_tell_31 : decode cX4_tell 31 = .ok (.bipush (-6), 2) := by decide +kernel
theorem dX4_tell_33 : decode cX4_tell 33 = .ok (.ireturn, 1) := by decide +kernel
theorem dX4_chooseByNumber_0 : decode cX4_chooseByNumber 0 = .ok (.aload_n 0, 1) := by decide +kernel
theorem dX4_chooseByNumber_1 : decode cX4_chooseByNumber 1 = .ok (.iconst 0, 1) := by decide +kernel
theorem dX4_chooseByNumber_2 : decode cX4_chooseByNumber 2 = .ok (.putfield 23, 3) := by decide +kernel
theorem dX4_chooseByNumber_5 : decode cX4_chooseByNumber 5 = .ok (.iconst 0, 1) := by decide +kernel
theorem dX4_chooseByNumber_6 : decode cX4_chooseByNumber 6 = .ok (.istore 6, 2) := by decide +kernel
theorem dX4_chooseByNumber_8 : decode cX4_chooseByNumber 8 = .ok (.iload 6, 2) := by decide +kernel
theorem dX4_chooseByNumber_10 : decode cX4_chooseByNumber 10 = .ok (.iconst 5, 1) := by decide +kernel
theorem dX4_chooseByNumber_11 : decode cX4_chooseByNumber 11 = .ok (.if_icmp .ge 47, 3) := by decide +kernel
theorem dX4_chooseByNumber_14 : decode cX4_chooseByNumber 14 = .ok (.aload_n 1, 1) := by decide +kernel
theorem dX4_chooseByNumber_15 : decode cX4_chooseByNumber 15 = .ok (.aload_n 2, 1) := by decide +kernel
theorem dX4_chooseByNumber_16 : decode cX4_chooseByNumber 16 = .ok (.iload_n 3, 1) := by decide +kernel
theorem dX4_chooseByNumber_17 : decode cX4_chooseByNumber 17 = .ok (.iload 4, 2) := by decide +kernel
theorem dX4_chooseByNumber_19 : decode cX4_chooseByNumber 19 = .ok (.iload 6, 2) := by decide +kernel
theorem dX4_chooseByNumber_21 : decode cX4_chooseByNumber 21 = .ok (.invokestatic 43, 3) := by decide +kernel
theorem dX4_chooseByNumber_24 : decode cX4_chooseByNumber 24 = .ok (.istore 7, 2) := by decide +kernel
theorem dX4_chooseByNumber_26 : decode cX4_chooseByNumber 26 = .ok (.iload 5, 2) := by decide +kernel
theorem dX4_chooseByNumber_28 : decode cX4_chooseByNumber 28 = .ok (.aload_n 0, 1) := by decide +kernel
theorem dX4_chooseByNumber_29 : decode cX4_chooseByNumber 29 = .ok (.getfield 23, 3) := by decide +kernel
theorem dX4_chooseByNumber_32 : decode cX4_chooseByNumber 32 = .ok (.iload 7, 2) := by decide +kernel
theorem dX4_chooseByNumber_34 : decode cX4_chooseByNumber 34 = .ok (.iadd, 1) := by decide +kernel
theorem dX4_chooseByNumber_35 : decode cX4_chooseByNumber 35 = .ok (.if_icmp .ge 6, 3) := by decide +kernel
theorem dX4_chooseByNumber_38 : decode cX4_chooseByNumber 38 = .ok (.iload 6, 2) := by decide +kernel
theorem dX4_chooseByNumber_40 : decode cX4_chooseByNumber 40 = .ok (.ireturn, 1) := by decide +kernel
theorem dX4_chooseByNumber_41 : decode cX4_chooseByNumber 41 = .ok (.aload_n 0, 1) := by decide +kernel
theorem dX4_chooseByNumber_42 : decode cX4_chooseByNumber 42 = .ok (.dup, 1) := by decide +kernel
theorem dX4_chooseByNumber_43 : decode cX4_chooseByNumber 43 = .ok (.getfield 23, 3) := by decide +kernel
theorem dX4_chooseByNumber_46 : decode cX4_chooseByNumber 46 = .ok (.iload 7, 2) := by decide +kernel
theorem dX4_chooseByNumber_48 : decode cX4_chooseByNumber 48 = .ok (.iadd, 1) := by decide +kernel
theorem dX4_chooseByNumber_49 : decode cX4_chooseByNumber 49 = .ok (.putfield 23, 3) := by decide +kernel
theorem dX4_chooseByNumber_52 : decode cX4_chooseByNumber 52 = .ok (.iinc 6 1, 3) := by decide +kernel
theorem dX4_chooseByNumber_55 : decode cX4_chooseByNumber 55 = .ok (.goto (-47), 3) := by decide +kernel
theorem dX4_chooseByNumber_58 : decode cX4_chooseByNumber 58 = .ok (.iconst 5, 1) := by decide +kernel
theorem dX4_chooseByNumber_59 : decode cX4_chooseByNumber 59 = .ok (.ireturn, 1) := by decide +kernel
theorem dX4_chooseBest_0 : decode cX4_chooseBest 0 = .ok (.aload_n 0, 1) := by decide +kernel
theorem dX4_chooseBest_1 : decode cX4_chooseBest 1 = .ok (.iconst 0, 1) := by decide +kernel
theorem dX4_chooseBest_2 : decode cX4_chooseBest 2 = .ok (.putfield 23, 3) := by decide +kernel
theorem dX4_chooseBest_5 : decode cX4_chooseBest 5 = .ok (.iconst 0, 1) := by decide +kernel
theorem dX4_chooseBest_6 : decode cX4_chooseBest 6 = .ok (.istore 5, 2) := by decide +kernel
theorem dX4_chooseBest_8 : decode cX4_chooseBest 8 = .ok (.iload 5, 2) := by decide +kernel
theorem dX4_chooseBest_10 : decode cX4_chooseBest 10 = .ok (.iconst 5, 1) := by decide +kernel
theorem dX4_chooseBest_11 : decode cX4_chooseBest 11 = .ok (.if_icmp .ge 93, 3) := by decide +kernel
theorem dX4_chooseBest_14 : decode cX4_chooseBest 14 = .ok (.aload_n 1, 1) := by decide +kernel
theorem dX4_chooseBest_15 : decode cX4_chooseBest 15 = .ok (.aload_n 2, 1) := by decide +kernel
theorem dX4_chooseBest_16 : decode cX4_chooseBest 16 = .ok (.iload_n 3, 1) := by decide +kernel
theorem dX4_chooseBest_17 : decode cX4_chooseBest 17 = .ok (.iload 4, 2) := by decide +kernel
theorem dX4_chooseBest_19 : decode cX4_chooseBest 19 = .ok (.iload 5, 2) := by decide +kernel
theorem dX4_chooseBest_21 : decode cX4_chooseBest 21 = .ok (.invokestatic 43, 3) := by decide +kernel
theorem dX4_chooseBest_24 : decode cX4_chooseBest 24 = .ok (.istore 6, 2) := by decide +kernel
theorem dX4_chooseBest_26 : decode cX4_chooseBest 26 = .ok (.iload 5, 2) := by decide +kernel
theorem dX4_chooseBest_28 : decode cX4_chooseBest 28 = .ok (.iconst 4, 1) := by decide +kernel
theorem dX4_chooseBest_29 : decode cX4_chooseBest 29 = .ok (.if_icmp .ge 9, 3) := by decide +kernel
theorem dX4_chooseBest_32 : decode cX4_chooseBest 32 = .ok (.iload_n 3, 1) := by decide +kernel
theorem dX4_chooseBest_33 : decode cX4_chooseBest 33 = .ok (.iconst 1, 1) := by decide +kernel
theorem dX4_chooseBest_34 : decode cX4_chooseBest 34 = .ok (.iadd, 1) := by decide +kernel
theorem dX4_chooseBest_35 : decode cX4_chooseBest 35 = .ok (.goto 4, 3) := by decide +kernel
theorem dX4_chooseBest_38 : decode cX4_chooseBest 38 = .ok (.iload_n 3, 1) := by decide +kernel
theorem dX4_chooseBest_39 : decode cX4_chooseBest 39 = .ok (.istore 7, 2) := by decide +kernel
theorem dX4_chooseBest_41 : decode cX4_chooseBest 41 = .ok (.aload_n 1, 1) := by decide +kernel
theorem dX4_chooseBest_42 : decode cX4_chooseBest 42 = .ok (.iload 4, 2) := by decide +kernel
theorem dX4_chooseBest_44 : decode cX4_chooseBest 44 = .ok (.iload 5, 2) := by decide +kernel
theorem dX4_chooseBest_46 : decode cX4_chooseBest 46 = .ok (.iload_n 3, 1) := by decide +kernel
theorem dX4_chooseBest_47 : decode cX4_chooseBest 47 = .ok (.invokevirtual 35, 3) := by decide +kernel
theorem dX4_chooseBest_50 : decode cX4_chooseBest 50 = .ok (.i2l, 1) := by decide +kernel
theorem dX4_chooseBest_51 : decode cX4_chooseBest 51 = .ok (.aload_n 2, 1) := by decide +kernel
theorem dX4_chooseBest_52 : decode cX4_chooseBest 52 = .ok (.getfield 46, 3) := by decide +kernel
theorem dX4_chooseBest_55 : decode cX4_chooseBest 55 = .ok (.iload 7, 2) := by decide +kernel
theorem dX4_chooseBest_57 : decode cX4_chooseBest 57 = .ok (.aaload, 1) := by decide +kernel
theorem dX4_chooseBest_58 : decode cX4_chooseBest 58 = .ok (.iload 5, 2) := by decide +kernel
theorem dX4_chooseBest_60 : decode cX4_chooseBest 60 = .ok (.laload, 1) := by decide +kernel
theorem dX4_chooseBest_61 : decode cX4_chooseBest 61 = .ok (.lmul, 1) := by decide +kernel
theorem dX4_chooseBest_62 : decode cX4_chooseBest 62 = .ok (.lstore 8, 2) := by decide +kernel
theorem dX4_chooseBest_64 : decode cX4_chooseBest 64 = .ok (.iload 6, 2) := by decide +kernel
theorem dX4_chooseBest_66 : decode cX4_chooseBest 66 = .ok (.ifCond .le 21, 3) := by decide +kernel
theorem dX4_chooseBest_69 : decode cX4_chooseBest 69 = .ok (.lload 8, 2) := by decide +kernel
theorem dX4_chooseBest_71 : decode cX4_chooseBest 71 = .ok (.aload_n 2, 1) := by decide +kernel
theorem dX4_chooseBest_72 : decode cX4_chooseBest 72 = .ok (.getfield 46, 3) := by decide +kernel
theorem dX4_chooseBest_75 : decode cX4_chooseBest 75 = .ok (.iload_n 3, 1) := by decide +kernel
theorem dX4_chooseBest_76 : decode cX4_chooseBest 76 = .ok (.aaload, 1) := by decide +kernel
theorem dX4_chooseBest_77 : decode cX4_chooseBest 77 = .ok (.iload 4, 2) := by decide +kernel
theorem dX4_chooseBest_79 : decode cX4_chooseBest 79 = .ok (.laload, 1) := by decide +kernel
theorem dX4_chooseBest_80 : decode cX4_chooseBest 80 = .ok (.lcmp, 1) := by decide +kernel
theorem dX4_chooseBest_81 : decode cX4_chooseBest 81 = .ok (.ifCond .ne 6, 3) := by decide +kernel
theorem dX4_chooseBest_84 : decode cX4_chooseBest 84 = .ok (.iload 5, 2) := by decide +kernel
theorem dX4_chooseBest_86 : decode cX4_chooseBest 86 = .ok (.ireturn, 1) := by decide +kernel
theorem dX4_chooseBest_87 : decode cX4_chooseBest 87 = .ok (.aload_n 0, 1) := by decide +kernel
theorem dX4_chooseBest_88 : decode cX4_chooseBest 88 = .ok (.dup, 1) := by decide +kernel
theorem dX4_chooseBest_89 : decode cX4_chooseBest 89 = .ok (.getfield 23, 3) := by decide +kernel
theorem dX4_chooseBest_92 : decode cX4_chooseBest 92 = .ok (.iload 6, 2) := by decide +kernel
theorem dX4_chooseBest_94 : decode cX4_chooseBest 94 = .ok (.iadd, 1) := by decide +kernel
theorem dX4_chooseBest_95 : decode cX4_chooseBest 95 = .ok (.putfield 23, 3) := by decide +kernel
theorem dX4_chooseBest_98 : decode cX4_chooseBest 98 = .ok (.iinc 5 1, 3) := by decide +kernel
theorem dX4_chooseBest_101 : decode cX4_chooseBest 101 = .ok (.goto (-93), 3) := by decide +kernel
theorem dX4_chooseBest_104 : decode cX4_chooseBest 104 = .ok (.iconst 5, 1) := by decide +kernel
theorem dX4_chooseBest_105 : decode cX4_chooseBest 105 = .ok (.ireturn, 1) := by decide +kernel
theorem dX4_restsThrough_0 : decode cX4_restsThrough 0 = .ok (.iload 4, 2) := by decide +kernel
theorem dX4_restsThrough_2 : decode cX4_restsThrough 2 = .ok (.iconst 4, 1) := by decide +kernel
theorem dX4_restsThrough_3 : decode cX4_restsThrough 3 = .ok (.if_icmp .ge 9, 3) := by decide +kernel
theorem dX4_restsThrough_6 : decode cX4_restsThrough 6 = .ok (.iload_n 2, 1) := by decide +kernel
theorem dX4_restsThrough_7 : decode cX4_restsThrough 7 = .ok (.iconst 1, 1) := by decide +kernel
theorem dX4_restsThrough_8 : decode cX4_restsThrough 8 = .ok (.iadd, 1) := by decide +kernel
theorem dX4_restsThrough_9 : decode cX4_restsThrough 9 = .ok (.goto 4, 3) := by decide +kernel
theorem dX4_restsThrough_12 : decode cX4_restsThrough 12 = .ok (.iload_n 2, 1) := by decide +kernel
theorem dX4_restsThrough_13 : decode cX4_restsThrough 13 = .ok (.istore 5, 2) := by decide +kernel
theorem dX4_restsThrough_15 : decode cX4_restsThrough 15 = .ok (.aload_n 0, 1) := by decide +kernel
theorem dX4_restsThrough_16 : decode cX4_restsThrough 16 = .ok (.iload_n 3, 1) := by decide +kernel
theorem dX4_restsThrough_17 : decode cX4_restsThrough 17 = .ok (.iload 4, 2) := by decide +kernel
theorem dX4_restsThrough_19 : decode cX4_restsThrough 19 = .ok (.iload_n 2, 1) := by decide +kernel
theorem dX4_restsThrough_20 : decode cX4_restsThrough 20 = .ok (.invokevirtual 35, 3) := by decide +kernel
theorem dX4_restsThrough_23 : decode cX4_restsThrough 23 = .ok (.ifCond .le 16, 3) := by decide +kernel
theorem dX4_restsThrough_26 : decode cX4_restsThrough 26 = .ok (.aload_n 1, 1) := by decide +kernel
theorem dX4_restsThrough_27 : decode cX4_restsThrough 27 = .ok (.getfield 52, 3) := by decide +kernel
theorem dX4_restsThrough_30 : decode cX4_restsThrough 30 = .ok (.iload 5, 2) := by decide +kernel
theorem dX4_restsThrough_32 : decode cX4_restsThrough 32 = .ok (.aaload, 1) := by decide +kernel
theorem dX4_restsThrough_33 : decode cX4_restsThrough 33 = .ok (.iload 4, 2) := by decide +kernel
theorem dX4_restsThrough_35 : decode cX4_restsThrough 35 = .ok (.iaload, 1) := by decide +kernel
theorem dX4_restsThrough_36 : decode cX4_restsThrough 36 = .ok (.goto 4, 3) := by decide +kernel
theorem dX4_restsThrough_39 : decode cX4_restsThrough 39 = .ok (.iconst 0, 1) := by decide +kernel
theorem dX4_restsThrough_40 : decode cX4_restsThrough 40 = .ok (.ireturn, 1) := by decide +kernel
theorem dX5_init_0 : decode cX5_init 0 = .ok (.aload_n 0, 1) := by decide +kernel
theorem dX5_init_1 : decode cX5_init 1 = .ok (.invokespecial 3, 3) := by decide +kernel
theorem dX5_init_4 : decode cX5_init 4 = .ok (.aload_n 0, 1) := by decide +kernel
theorem dX5_init_5 : decode cX5_init 5 = .ok (.new 9, 3) := by decide +kernel
theorem dX5_init_8 : decode cX5_init 8 = .ok (.dup, 1) := by decide +kernel
theorem dX5_init_9 : decode cX5_init 9 = .ok (.invokespecial 11, 3) := by decide +kernel
theorem dX5_init_12 : decode cX5_init 12 = .ok (.putfield 12, 3) := by decide +kernel
theorem dX5_init_15 : decode cX5_init 15 = .ok (.aload_n 0, 1) := by decide +kernel
theorem dX5_init_16 : decode cX5_init 16 = .ok (.bipush 6, 2) := by decide +kernel
theorem dX5_init_18 : decode cX5_init 18 = .ok (.anewarray 9, 3) := by decide +kernel
theorem dX5_init_21 : decode cX5_init 21 = .ok (.putfield 16, 3) := by decide +kernel
theorem dX5_init_24 : decode cX5_init 24 = .ok (.aload_n 0, 1) := by decide +kernel
theorem dX5_init_25 : decode cX5_init 25 = .ok (.iconst 0, 1) := by decide +kernel
theorem dX5_init_26 : decode cX5_init 26 = .ok (.putfield 20, 3) := by decide +kernel
theorem dX5_init_29 : decode cX5_init 29 = .ok (.aload_n 0, 1) := by decide +kernel
theorem dX5_init_30 : decode cX5_init 30 = .ok (.iconst 2, 1) := by decide +kernel
theorem dX5_init_31 : decode cX5_init 31 = .ok (.anewarray 9, 3) := by decide +kernel
theorem dX5_init_34 : decode cX5_init 34 = .ok (.putfield 24, 3) := by decide +kernel
theorem dX5_init_37 : decode cX5_init 37 = .ok (.aload_n 0, 1) := by decide +kernel
theorem dX5_init_38 : decode cX5_init 38 = .ok (.new 27, 3) := by decide +kernel
theorem dX5_init_41 : decode cX5_init 41 = .ok (.dup, 1) := by decide +kernel
theorem dX5_init_42 : decode cX5_init 42 = .ok (.invokespecial 29, 3) := by decide +kernel
theorem dX5_init_45 : decode cX5_init 45 = .ok (.putfield 30, 3) := by decide +kernel
theorem dX5_init_48 : decode cX5_init 48 = .ok (.aload_n 0, 1) := by decide +kernel
theorem dX5_init_49 : decode cX5_init 49 = .ok (.new 34, 3) := by decide +kernel
theorem dX5_init_52 : decode cX5_init 52 = .ok (.dup, 1) := by decide +kernel
theorem dX5_init_53 : decode cX5_init 53 = .ok (.invokespecial 36, 3) := by decide +kernel
theorem dX5_init_56 : decode cX5_init 56 = .ok (.putfield 37, 3) := by decide +kernel
theorem dX5_init_59 : decode cX5_init 59 = .ok (.aload_n 0, 1) := by decide +kernel
theorem dX5_init_60 : decode cX5_init 60 = .ok (.new 41, 3) := by decide +kernel
theorem dX5_init_63 : decode cX5_init 63 = .ok (.dup, 1) := by decide +kernel
theorem dX5_init_64 : decode cX5_init 64 = .ok (.invokespecial 43, 3) := by decide +kernel
theorem dX5_init_67 : decode cX5_init 67 = .ok (.putfield 44, 3) := by decide +kernel
theorem dX5_init_70 : decode cX5_init 70 = .ok (.aload_n 0, 1) := by decide +kernel
theorem dX5_init_71 : decode cX5_init 71 = .ok (.new 48, 3) := by decide +kernel
theorem dX5_init_74 : decode cX5_init 74 = .ok (.dup, 1) := by decide +kernel
theorem dX5_init_75 : decode cX5_init 75 = .ok (.invokespecial 50, 3) := by decide +kernel
theorem dX5_init_78 : decode cX5_init 78 = .ok (.putfield 51, 3) := by decide +kernel
theorem dX5_init_81 : decode cX5_init 81 = .ok (.aload_n 0, 1) := by decide +kernel
theorem dX5_init_82 : decode cX5_init 82 = .ok (.getfield 12, 3) := by decide +kernel
theorem dX5_init_85 : decode cX5_init 85 = .ok (.getfield 55, 3) := by decide +kernel
theorem dX5_init_88 : decode cX5_init 88 = .ok (.bipush 36, 2) := by decide +kernel
theorem dX5_init_90 : decode cX5_init 90 = .ok (.iconst 1, 1) := by decide +kernel
theorem dX5_init_91 : decode cX5_init 91 = .ok (.iastore, 1) := by decide +kernel
theorem dX5_init_92 : decode cX5_init 92 = .ok (.aload_n 0, 1) := by decide +kernel
theorem dX5_init_93 : decode cX5_init 93 = .ok (.getfield 12, 3) := by decide +kernel
theorem dX5_init_96 : decode cX5_init 96 = .ok (.getfield 55, 3) := by decide +kernel
theorem dX5_init_99 : decode cX5_init 99 = .ok (.iconst 0, 1) := by decide +kernel
theorem dX5_init_100 : decode cX5_init 100 = .ok (.iconst 1, 1) := by decide +kernel
theorem dX5_init_101 : decode cX5_init 101 = .ok (.iastore, 1) := by decide +kernel
theorem dX5_init_102 : decode cX5_init 102 = .ok (.iconst 0, 1) := by decide +kernel
theorem dX5_init_103 : decode cX5_init 103 = .ok (.istore_n 1, 1) := by decide +kernel
theorem dX5_init_104 : decode cX5_init 104 = .ok (.iload_n 1, 1) := by decide +kernel
theorem dX5_init_105 : decode cX5_init 105 = .ok (.iconst 4, 1) := by decide +kernel
theorem dX5_init_106 : decode cX5_init 106 = .ok (.if_icmp .ge 22, 3) := by decide +kernel
theorem dX5_init_109 : decode cX5_init 109 = .ok (.aload_n 0, 1) := by decide +kernel
theorem dX5_init_110 : decode cX5_init 110 = .ok (.getfield 12, 3) := by decide +kernel
theorem dX5_init_113 : decode cX5_init 113 = .ok (.getfield 55, 3) := by decide +kernel
theorem dX5_init_116 : decode cX5_init 116 = .ok (.bipush 42, 2) := by decide +kernel
theorem dX5_init_118 : decode cX5_init 118 = .ok (.iload_n 1, 1) := by decide +kernel
theorem dX5_init_119 : decode cX5_init 119 = .ok (.iadd, 1) := by decide +kernel
theorem dX5_init_120 : decode cX5_init 120 = .ok (.iconst 1, 1) := by decide +kernel
theorem dX5_init_121 : decode cX5_init 121 = .ok (.iastore, 1) := by decide +kernel
theorem dX5_init_122 : decode cX5_init 122 = .ok (.iinc 1 1, 3) := by decide +kernel
theorem dX5_init_125 : decode cX5_init 125 = .ok (.goto (-21), 3) := by decide +kernel
theorem dX5_init_128 : decode cX5_init 128 = .ok (.iconst 0, 1) := by decide +kernel
theorem dX5_init_129 : decode cX5_init 129 = .ok (.istore_n 1, 1) := by decide +kernel
theorem dX5_init_130 : decode cX5_init 130 = .ok (.iload_n 1, 1) := by decide +kernel
theorem dX5_init_131 : decode cX5_init 131 = .ok (.bipush 6, 2) := by decide +kernel
theorem dX5_init_133 : decode cX5_init 133 = .ok (.if_icmp .ge 22, 3) := by decide +kernel
theorem dX5_init_136 : decode cX5_init 136 = .ok (.aload_n 0, 1) := by decide +kernel
theorem dX5_init_137 : decode cX5_init 137 = .ok (.getfield 16, 3) := by decide +kernel
theorem dX5_init_140 : decode cX5_init 140 = .ok (.iload_n 1, 1) := by decide +kernel
theorem dX5_init_141 : decode cX5_init 141 = .ok (.new 9, 3) := by decide +kernel
theorem dX5_init_144 : decode cX5_init 144 = .ok (.dup, 1) := by decide +kernel
theorem dX5_init_145 : decode cX5_init 145 = .ok (.invokespecial 11, 3) := by decide +kernel
theorem dX5_init_148 : decode cX5_init 148 = .ok (.aastore, 1) := by decide +kernel
theorem dX5_init_149 : decode cX5_init 149 = .ok (.iinc 1 1, 3) := by decide +kernel
theorem dX5_init_152 : decode cX5_init 152 = .ok (.goto (-22), 3) := by decide +kernel
theorem dX5_init_155 : decode cX5_init 155 = .ok (.return_, 1) := by decide +kernel
theorem dX5_give_0 : decode cX5_give 0 = .ok (.iload_n 1, 1) := by decide +kernel
theorem dX5_give_1 : decode cX5_give 1 = .ok (.invokestatic 59, 3) := by decide +kernel
theorem dX5_give_4 : decode cX5_give 4 = .ok (.ifCond .eq 14, 3) := by decide +kernel
theorem dX5_give_7 : decode cX5_give 7 = .ok (.iload 4, 2) := by decide +kernel
theorem dX5_give_9 : decode cX5_give 9 = .ok (.ifCond .lt 9, 3) := by decide +kernel
theorem dX5_give_12 : decode cX5_give 12 = .ok (.iload 4, 2) := by decide +kernel
theorem dX5_give_14 : decode cX5_give 14 = .ok (.iconst 3, 1) := by decide +kernel
theorem dX5_give_15 : decode cX5_give 15 = .ok (.if_icmp .le 6, 3) := by decide +kernel
theorem dX5_give_18 : decode cX5_give 18 = .ok (.bipush (-2), 2) := by decide +kernel
theorem dX5_give_20 : decode cX5_give 20 = .ok (.ireturn, 1) := by decide +kernel
theorem dX5_give_21 : decode cX5_give 21 = .ok (.iload_n 1, 1) := by decide +kernel
theorem dX5_give_22 : decode cX5_give 22 = .ok (.iload_n 2, 1) := by decide +kernel
theorem dX5_give_23 : decode cX5_give 23 = .ok (.iload_n 3, 1) := by decide +kernel
theorem dX5_give_24 : decode cX5_give 24 = .ok (.invokestatic 63, 3) := by decide +kernel
theorem dX5_give_27 : decode cX5_give 27 = .ok (.istore 5, 2) := by decide +kernel
theorem dX5_give_29 : decode cX5_give 29 = .ok (.iload 5, 2) := by decide +kernel
theorem dX5_give_31 : decode cX5_give 31 = .ok (.ifCond .ge 5, 3) := by decide +kernel
theorem dX5_give_34 : decode cX5_give 34 = .ok (.iconst (-1), 1) := by decide +kernel
theorem dX5_give_35 : decode cX5_give 35 = .ok (.ireturn, 1) := by decide +kernel
theorem dX5_give_36 : decode cX5_give 36 = .ok (.iload 4, 2) := by decide +kernel
theorem dX5_give_38 : decode cX5_give 38 = .ok (.ifCond .le 19, 3) := by decide +kernel
theorem dX5_give_41 : decode cX5_give 41 = .ok (.iload_n 1, 1) := by decide +kernel
theorem dX5_give_42 : decode cX5_give 42 = .ok (.iconst 1, 1) := by decide +kernel
theorem dX5_give_43 : decode cX5_give 43 = .ok (.if_icmp .ne 14, 3) := by decide +kernel
theorem dX5_give_46 : decode cX5_give 46 = .ok (.iload_n 2, 1) := by decide +kernel
theorem dX5_give_47 : decode cX5_give 47 = .ok (.iload_n 3, 1) := by decide +kernel
theorem dX5_give_48 : decode cX5_give 48 = .ok (.invokestatic 67, 3) := by decide +kernel
theorem dX5_give_51 : decode cX5_give 51 = .ok (.ifCond .eq 6, 3) := by decide +kernel
theorem dX5_give_54 : decode cX5_give 54 = .ok (.bipush (-5), 2) := by decide +kernel
theorem dX5_give_56 : decode cX5_give 56 = .ok (.ireturn, 1) := by decide +kernel
theorem dX5_give_57 : decode cX5_give 57 = .ok (.aload_n 0, 1) := by decide +kernel
theorem dX5_give_58 : decode cX5_give 58 = .ok (.invokevirtual 71, 3) := by decide +kernel
theorem dX5_give_61 : decode cX5_give 61 = .ok (.aload_n 0, 1) := by decide +kernel
theorem dX5_give_62 : decode cX5_give 62 = .ok (.getfield 12, 3) := by decide +kernel
theorem dX5_give_65 : decode cX5_give 65 = .ok (.getfield 55, 3) := by decide +kernel
theorem dX5_give_68 : decode cX5_give 68 = .ok (.iload 5, 2) := by decide +kernel
theorem dX5_give_70 : decode cX5_give 70 = .ok (.iaload, 1) := by decide +kernel
theorem dX5_give_71 : decode cX5_give 71 = .ok (.istore 6, 2) := by decide +kernel
theorem dX5_give_73 : decode cX5_give 73 = .ok (.aload_n 0, 1) := by decide +kernel
theorem dX5_give_74 : decode cX5_give 74 = .ok (.getfield 12, 3) := by decide +kernel
theorem dX5_give_77 : decode cX5_give 77 = .ok (.getfield 55, 3) := by decide +kernel
theorem dX5_give_80 : decode cX5_give 80 = .ok (.iload 5, 2) := by decide +kernel
theorem dX5_give_82 : decode cX5_give 82 = .ok (.iload 4, 2) := by decide +kernel
theorem dX5_give_84 : decode cX5_give 84 = .ok (.iastore, 1) := by decide +kernel
theorem dX5_give_85 : decode cX5_give 85 = .ok (.iload 6, 2) := by decide +kernel
theorem dX5_give_87 : decode cX5_give 87 = .ok (.ireturn, 1) := by decide +kernel
theorem dX5_weight_0 : decode cX5_weight 0 = .ok (.iload_n 1, 1) := by decide +kernel
theorem dX5_weight_1 : decode cX5_weight 1 = .ok (.invokestatic 59, 3) := by decide +kernel
theorem dX5_weight_4 : decode cX5_weight 4 = .ok (.ifCond .ne 6, 3) := by decide +kernel
theorem dX5_weight_7 : decode cX5_weight 7 = .ok (.bipush (-2), 2) := by decide +kernel
theorem dX5_weight_9 : decode cX5_weight 9 = .ok (.ireturn, 1) := by decide +kernel
theorem dX5_weight_10 : decode cX5_weight 10 = .ok (.iload_n 1, 1) := by decide +kernel
theorem dX5_weight_11 : decode cX5_weight 11 = .ok (.iload_n 2, 1) := by decide +kernel
theorem dX5_weight_12 : decode cX5_weight 12 = .ok (.iload_n 3, 1) := by decide +kernel
theorem dX5_weight_13 : decode cX5_weight 13 = .ok (.invokestatic 63, 3) := by decide +kernel
theorem dX5_weight_16 : decode cX5_weight 16 = .ok (.istore 4, 2) := by decide +kernel
theorem dX5_weight_18 : decode cX5_weight 18 = .ok (.iload 4, 2) := by decide +kernel
theorem dX5_weight_20 : decode cX5_weight 20 = .ok (.ifCond .ge 7, 3) := by decide +kernel
theorem dX5_weight_23 : decode cX5_weight 23 = .ok (.iconst (-1), 1) := by decide +kernel
theorem dX5_weight_24 : decode cX5_weight 24 = .ok (.goto 13, 3) := by decide +kernel
theorem dX5_weight_27 : decode cX5_weight 27 = .ok (.aload_n 0, 1) := by decide +kernel
theorem dX5_weight_28 : decode cX5_weight 28 = .ok (.getfield 12, 3) := by decide +kernel
theorem dX5_weight_31 : decode cX5_weight 31 = .ok (.getfield 55, 3) := by decide +kernel
theorem dX5_weight_34 : decode cX5_weight 34 = .ok (.iload 4, 2) := by decide +kernel
theorem dX5_weight_36 : decode cX5_weight 36 = .ok (.iaload, 1) := by decide +kernel
theorem dX5_weight_37 : decode cX5_weight 37 = .ok (.ireturn, 1) := by decide +kernel
theorem dX5_add_0 : decode cX5_add 0 = .ok (.iload_n 1, 1) := by decide +kernel
theorem dX5_add_1 : decode cX5_add 1 = .ok (.ifCond .lt 8, 3) := by decide +kernel
theorem dX5_add_4 : decode cX5_add 4 = .ok (.iload_n 1, 1) := by decide +kernel
theorem dX5_add_5 : decode cX5_add 5 = .ok (.iconst 4, 1) := by decide +kernel
theorem dX5_add_6 : decode cX5_add 6 = .ok (.if_icmp .lt 6, 3) := by decide +kernel
theorem dX5_add_9 : decode cX5_add 9 = .ok (.bipush (-2), 2) := by decide +kernel
theorem dX5_add_11 : decode cX5_add 11 = .ok (.ireturn, 1) := by decide +kernel
theorem dX5_add_12 : decode cX5_add 12 = .ok (.aload_n 0, 1) := by decide +kernel
theorem dX5_add_13 : decode cX5_add 13 = .ok (.getfield 12, 3) := by decide +kernel
theorem dX5_add_16 : decode cX5_add 16 = .ok (.getfield 74, 3) := by decide +kernel
theorem dX5_add_19 : decode cX5_add 19 = .ok (.bipush 6, 2) := by decide +kernel
theorem dX5_add_21 : decode cX5_add 21 = .ok (.if_icmp .lt 6, 3) := by decide +kernel
theorem dX5_add_24 : decode cX5_add 24 = .ok (.bipush (-4), 2) := by decide +kernel
theorem dX5_add_26 : decode cX5_add 26 = .ok (.ireturn, 1) := by decide +kernel
theorem dX5_add_27 : decode cX5_add 27 = .ok (.aload_n 0, 1) := by decide +kernel
theorem dX5_add_28 : decode cX5_add 28 = .ok (.invokevirtual 71, 3) := by decide +kernel
theorem dX5_add_31 : decode cX5_add 31 = .ok (.aload_n 0, 1) := by decide +kernel
theorem dX5_add_32 : decode cX5_add 32 = .ok (.getfield 12, 3) := by decide +kernel
theorem dX5_add_35 : decode cX5_add 35 = .ok (.iload_n 1, 1) := by decide +kernel
theorem dX5_add_36 : decode cX5_add 36 = .ok (.invokevirtual 77, 3) := by decide +kernel
theorem dX5_add_39 : decode cX5_add 39 = .ok (.aload_n 0, 1) := by decide +kernel
theorem dX5_add_40 : decode cX5_add 40 = .ok (.getfield 12, 3) := by decide +kernel
theorem dX5_add_43 : decode cX5_add 43 = .ok (.getfield 74, 3) := by decide +kernel
theorem dX5_add_46 : decode cX5_add 46 = .ok (.ireturn, 1) := by decide +kernel
theorem dX5_cut_0 : decode cX5_cut 0 = .ok (.aload_n 0, 1) := by decide +kernel
theorem dX5_cut_1 : decode cX5_cut 1 = .ok (.getfield 12, 3) := by decide +kernel
theorem dX5_cut_4 : decode cX5_cut 4 = .ok (.getfield 74, 3) := by decide +kernel
theorem dX5_cut_7 : decode cX5_cut 7 = .ok (.ifCond .gt 6, 3) := by decide +kernel
theorem dX5_cut_10 : decode cX5_cut 10 = .ok (.bipush (-5), 2) := by decide +kernel
theorem dX5_cut_12 : decode cX5_cut 12 = .ok (.ireturn, 1) := by decide +kernel
theorem dX5_cut_13 : decode cX5_cut 13 = .ok (.aload_n 0, 1) := by decide +kernel
theorem dX5_cut_14 : decode cX5_cut 14 = .ok (.invokevirtual 71, 3) := by decide +kernel
theorem dX5_cut_17 : decode cX5_cut 17 = .ok (.aload_n 0, 1) := by decide +kernel
theorem dX5_cut_18 : decode cX5_cut 18 = .ok (.getfield 12, 3) := by decide +kernel
theorem dX5_cut_21 : decode cX5_cut 21 = .ok (.dup, 1) := by decide +kernel
theorem dX5_cut_22 : decode cX5_cut 22 = .ok (.getfield 74, 3) := by decide +kernel
theorem dX5_cut_25 : decode cX5_cut 25 = .ok (.iconst 1, 1) := by decide +kernel
theorem dX5_cut_26 : decode cX5_cut 26 = .ok (.isub, 1) := by decide +kernel
theorem dX5_cut_27 : decode cX5_cut 27 = .ok (.putfield 74, 3) := by decide +kernel
theorem dX5_cut_30 : decode cX5_cut 30 = .ok (.aload_n 0, 1) := by decide +kernel
theorem dX5_cut_31 : decode cX5_cut 31 = .ok (.getfield 12, 3) := by decide +kernel
theorem dX5_cut_34 : decode cX5_cut 34 = .ok (.getfield 81, 3) := by decide +kernel
theorem dX5_cut_37 : decode cX5_cut 37 = .ok (.aload_n 0, 1) := by decide +kernel
theorem dX5_cut_38 : decode cX5_cut 38 = .ok (.getfield 12, 3) := by decide +kernel
theorem dX5_cut_41 : decode cX5_cut 41 = .ok (.getfield 74, 3) := by decide +kernel
theorem dX5_cut_44 : decode cX5_cut 44 = .ok (.iaload, 1) := by decide +kernel
theorem dX5_cut_45 : decode cX5_cut 45 = .ok (.ireturn, 1) := by decide +kernel
theorem dX5_letter_0 : decode cX5_letter 0 = .ok (.aload_n 0, 1) := by decide +kernel
theorem dX5_letter_1 : decode cX5_letter 1 = .ok (.getfield 12, 3) := by decide +kernel
theorem dX5_letter_4 : decode cX5_letter 4 = .ok (.iload_n 1, 1) := by decide +kernel
theorem dX5_letter_5 : decode cX5_letter 5 = .ok (.invokevirtual 84, 3) := by decide +kernel
theorem dX5_letter_8 : decode cX5_letter 8 = .ok (.ifCond .eq 15, 3) := by decide +kernel
theorem dX5_letter_11 : decode cX5_letter 11 = .ok (.aload_n 0, 1) := by decide +kernel
theorem dX5_letter_12 : decode cX5_letter 12 = .ok (.getfield 12, 3) := by decide +kernel
theorem dX5_letter_15 : decode cX5_letter 15 = .ok (.getfield 81, 3) := by decide +kernel
theorem dX5_letter_18 : decode cX5_letter 18 = .ok (.iload_n 1, 1) := by decide +kernel
theorem dX5_letter_19 : decode cX5_letter 19 = .ok (.iaload, 1) := by decide +kernel
theorem dX5_letter_20 : decode cX5_letter 20 = .ok (.goto 4, 3) := by decide +kernel
theorem dX5_letter_23 : decode cX5_letter 23 = .ok (.iconst (-1), 1) := by decide +kernel
theorem dX5_letter_24 : decode cX5_letter 24 = .ok (.ireturn, 1) := by decide +kernel
theorem dX5_train_0 : decode cX5_train 0 = .ok (.aload_n 0, 1) := by decide +kernel
theorem dX5_train_1 : decode cX5_train 1 = .ok (.getfield 12, 3) := by decide +kernel
theorem dX5_train_4 : decode cX5_train 4 = .ok (.getfield 74, 3) := by decide +kernel
theorem dX5_train_7 : decode cX5_train 7 = .ok (.ifCond .ne 6, 3) := by decide +kernel
theorem dX5_train_10 : decode cX5_train 10 = .ok (.bipush (-5), 2) := by decide +kernel
theorem dX5_train_12 : decode cX5_train 12 = .ok (.ireturn, 1) := by decide +kernel
theorem dX5_train_13 : decode cX5_train 13 = .ok (.aload_n 0, 1) := by decide +kernel
theorem dX5_train_14 : decode cX5_train 14 = .ok (.getfield 37, 3) := by decide +kernel
theorem dX5_train_17 : decode cX5_train 17 = .ok (.aload_n 0, 1) := by decide +kernel
theorem dX5_train_18 : decode cX5_train 18 = .ok (.getfield 12, 3) := by decide +kernel
theorem dX5_train_21 : decode cX5_train 21 = .ok (.invokevirtual 87, 3) := by decide +kernel
theorem dX5_train_24 : decode cX5_train 24 = .ok (.aload_n 0, 1) := by decide +kernel
theorem dX5_train_25 : decode cX5_train 25 = .ok (.getfield 37, 3) := by decide +kernel
theorem dX5_train_28 : decode cX5_train 28 = .ok (.invokevirtual 91, 3) := by decide +kernel
theorem dX5_train_31 : decode cX5_train 31 = .ok (.lconst 0, 1) := by decide +kernel
theorem dX5_train_32 : decode cX5_train 32 = .ok (.lcmp, 1) := by decide +kernel
theorem dX5_train_33 : decode cX5_train 33 = .ok (.ifCond .ne 6, 3) := by decide +kernel
theorem dX5_train_36 : decode cX5_train 36 = .ok (.bipush (-5), 2) := by decide +kernel
theorem dX5_train_38 : decode cX5_train 38 = .ok (.ireturn, 1) := by decide +kernel
theorem dX5_train_39 : decode cX5_train 39 = .ok (.aload_n 0, 1) := by decide +kernel
theorem dX5_train_40 : decode cX5_train 40 = .ok (.invokevirtual 71, 3) := by decide +kernel
theorem dX5_train_43 : decode cX5_train 43 = .ok (.aload_n 0, 1) := by decide +kernel
theorem dX5_train_44 : decode cX5_train 44 = .ok (.getfield 51, 3) := by decide +kernel
theorem dX5_train_47 : decode cX5_train 47 = .ok (.aload_n 0, 1) := by decide +kernel
theorem dX5_train_48 : decode cX5_train 48 = .ok (.getfield 12, 3) := by decide +kernel
theorem dX5_train_51 : decode cX5_train 51 = .ok (.aload_n 0, 1) := by decide +kernel
theorem dX5_train_52 : decode cX5_train 52 = .ok (.getfield 37, 3) := by decide +kernel
theorem dX5_train_55 : decode cX5_train 55 = .ok (.invokevirtual 95, 3) := by decide +kernel
theorem dX5_train_58 : decode cX5_train 58 = .ok (.ireturn, 1) := by decide +kernel
theorem dX5_put_0 : decode cX5_put 0 = .ok (.lload_n 1, 1) := by decide +kernel
theorem dX5_put_1 : decode cX5_put 1 = .ok (.invokestatic 99, 3) := by decide +kernel
theorem dX5_put_4 : decode cX5_put 4 = .ok (.istore_n 3, 1) := by decide +kernel
theorem dX5_put_5 : decode cX5_put 5 = .ok (.iload_n 3, 1) := by decide +kernel
theorem dX5_put_6 : decode cX5_put 6 = .ok (.iconst 1, 1) := by decide +kernel
theorem dX5_put_7 : decode cX5_put 7 = .ok (.if_icmp .ge 6, 3) := by decide +kernel
theorem dX5_put_10 : decode cX5_put 10 = .ok (.bipush (-2), 2) := by decide +kernel
theorem dX5_put_12 : decode cX5_put 12 = .ok (.ireturn, 1) := by decide +kernel
theorem dX5_put_13 : decode cX5_put 13 = .ok (.aload_n 0, 1) := by decide +kernel
theorem dX5_put_14 : decode cX5_put 14 = .ok (.getfield 30, 3) := by decide +kernel
theorem dX5_put_17 : decode cX5_put 17 = .ok (.getfield 103, 3) := by decide +kernel
theorem dX5_put_20 : decode cX5_put 20 = .ok (.iload_n 3, 1) := by decide +kernel
theorem dX5_put_21 : decode cX5_put 21 = .ok (.iadd, 1) := by decide +kernel
theorem dX5_put_22 : decode cX5_put 22 = .ok (.bipush 80, 2) := by decide +kernel
theorem dX5_put_24 : decode cX5_put 24 = .ok (.if_icmp .le 6, 3) := by decide +kernel
theorem dX5_put_27 : decode cX5_put 27 = .ok (.bipush (-4), 2) := by decide +kernel
theorem dX5_put_29 : decode cX5_put 29 = .ok (.ireturn, 1) := by decide +kernel
theorem dX5_put_30 : decode cX5_put 30 = .ok (.aload_n 0, 1) := by decide +kernel
theorem dX5_put_31 : decode cX5_put 31 = .ok (.getfield 30, 3) := by decide +kernel
theorem dX5_put_34 : decode cX5_put 34 = .ok (.lload_n 1, 1) := by decide +kernel
theorem dX5_put_35 : decode cX5_put 35 = .ok (.iload_n 3, 1) := by decide +kernel
theorem dX5_put_36 : decode cX5_put 36 = .ok (.invokevirtual 104, 3) := by decide +kernel
theorem dX5_put_39 : decode cX5_put 39 = .ok (.aload_n 0, 1) := by decide +kernel
theorem dX5_put_40 : decode cX5_put 40 = .ok (.getfield 30, 3) := by decide +kernel
theorem dX5_put_43 : decode cX5_put 43 = .ok (.getfield 103, 3) := by decide +kernel
theorem dX5_put_46 : decode cX5_put 46 = .ok (.ireturn, 1) := by decide +kernel
theorem dX5_wipe_0 : decode cX5_wipe 0 = .ok (.aload_n 0, 1) := by decide +kernel
theorem dX5_wipe_1 : decode cX5_wipe 1 = .ok (.getfield 30, 3) := by decide +kernel
theorem dX5_wipe_4 : decode cX5_wipe 4 = .ok (.invokevirtual 107, 3) := by decide +kernel
theorem dX5_wipe_7 : decode cX5_wipe 7 = .ok (.ireturn, 1) := by decide +kernel
theorem dX5_fault_0 : decode cX5_fault 0 = .ok (.aload_n 0, 1) := by decide +kernel
theorem dX5_fault_1 : decode cX5_fault 1 = .ok (.getfield 30, 3) := by decide +kernel
theorem dX5_fault_4 : decode cX5_fault 4 = .ok (.aconst_null, 1) := by decide +kernel
theorem dX5_fault_5 : decode cX5_fault 5 = .ok (.invokevirtual 111, 3) := by decide +kernel
theorem dX5_fault_8 : decode cX5_fault 8 = .ok (.ifCond .eq 8, 3) := by decide +kernel
theorem dX5_fault_11 : decode cX5_fault 11 = .ok (.bipush (-6), 2) := by decide +kernel
theorem dX5_fault_13 : decode cX5_fault 13 = .ok (.goto 10, 3) := by decide +kernel
theorem dX5_fault_16 : decode cX5_fault 16 = .ok (.aload_n 0, 1) := by decide +kernel
theorem dX5_fault_17 : decode cX5_fault 17 = .ok (.getfield 30, 3) := by decide +kernel
theorem dX5_fault_20 : decode cX5_fault 20 = .ok (.getfield 115, 3) := by decide +kernel
theorem dX5_fault_23 : decode cX5_fault 23 = .ok (.ireturn, 1) := by decide +kernel
theorem dX5_load_0 : decode cX5_load 0 = .ok (.aload_n 0, 1) := by decide +kernel
theorem dX5_load_1 : decode cX5_load 1 = .ok (.getfield 30, 3) := by decide +kernel
theorem dX5_load_4 : decode cX5_load 4 = .ok (.aconst_null, 1) := by decide +kernel
theorem dX5_load_5 : decode cX5_load 5 = .ok (.invokevirtual 111, 3) := by decide +kernel
theorem dX5_load_8 : decode cX5_load 8 = .ok (.ifCond .ne 6, 3) := by decide +kernel
theorem dX5_load_11 : decode cX5_load 11 = .ok (.bipush (-3), 2) := by decide +kernel
theorem dX5_load_13 : decode cX5_load 13 = .ok (.ireturn, 1) := by decide +kernel
theorem dX5_load_14 : decode cX5_load 14 = .ok (.aload_n 0, 1) := by decide +kernel
theorem dX5_load_15 : decode cX5_load 15 = .ok (.invokevirtual 71, 3) := by decide +kernel
theorem dX5_load_18 : decode cX5_load 18 = .ok (.aload_n 0, 1) := by decide +kernel
theorem dX5_load_19 : decode cX5_load 19 = .ok (.getfield 30, 3) := by decide +kernel
theorem dX5_load_22 : decode cX5_load 22 = .ok (.aload_n 0, 1) := by decide +kernel
theorem dX5_load_23 : decode cX5_load 23 = .ok (.getfield 12, 3) := by decide +kernel
theorem dX5_load_26 : decode cX5_load 26 = .ok (.invokevirtual 111, 3) := by decide +kernel
theorem dX5_load_29 : decode cX5_load 29 = .ok (.pop, 1) := by decide +kernel
theorem dX5_load_30 : decode cX5_load 30 = .ok (.aload_n 0, 1) := by decide +kernel
theorem dX5_load_31 : decode cX5_load 31 = .ok (.getfield 30, 3) := by decide +kernel
theorem dX5_load_34 : decode cX5_load 34 = .ok (.invokevirtual 107, 3) := by decide +kernel
theorem dX5_load_37 : decode cX5_load 37 = .ok (.pop, 1) := by decide +kernel
theorem dX5_load_38 : decode cX5_load 38 = .ok (.aload_n 0, 1) := by decide +kernel
theorem dX5_load_39 : decode cX5_load 39 = .ok (.getfield 30, 3) := by decide +kernel
theorem dX5_load_42 : decode cX5_load 42 = .ok (.getfield 118, 3) := by decide +kernel
theorem dX5_load_45 : decode cX5_load 45 = .ok (.ireturn, 1) := by decide +kernel
theorem dX5_total_0 : decode cX5_total 0 = .ok (.aload_n 0, 1) := by decide +kernel
theorem dX5_total_1 : decode cX5_total 1 = .ok (.getfield 37, 3) := by decide +kernel
theorem dX5_total_4 : decode cX5_total 4 = .ok (.aload_n 0, 1) := by decide +kernel
theorem dX5_total_5 : decode cX5_total 5 = .ok (.getfield 12, 3) := by decide +kernel
theorem dX5_total_8 : decode cX5_total 8 = .ok (.invokevirtual 87, 3) := by decide +kernel
theorem dX5_total_11 : decode cX5_total 11 = .ok (.aload_n 0, 1) := by decide +kernel
theorem dX5_total_12 : decode cX5_total 12 = .ok (.getfield 37, 3) := by decide +kernel
theorem dX5_total_15 : decode cX5_total 15 = .ok (.invokevirtual 91, 3) := by decide +kernel
theorem dX5_total_18 : decode cX5_total 18 = .ok (.lreturn, 1) := by decide +kernel
theorem dX5_forward_0 : decode cX5_forward 0 = .ok (.aload_n 0, 1) := by decide +kernel
theorem dX5_forward_1 : decode cX5_forward 1 = .ok (.getfield 12, 3) := by decide +kernel
theorem dX5_forward_4 : decode cX5_forward 4 = .ok (.iload_n 1, 1) := by decide +kernel
theorem dX5_forward_5 : decode cX5_forward 5 = .ok (.invokevirtual 84, 3) := by decide +kernel
theorem dX5_forward_8 : decode cX5_forward 8 = .ok (.ifCond .eq 10, 3) := by decide +kernel
theorem dX5_forward_11 : decode cX5_forward 11 = .ok (.iload_n 2, 1) := by decide +kernel
theorem dX5_forward_12 : decode cX5_forward 12 = .ok (.invokestatic 121, 3) := by decide +kernel
theorem dX5_forward_15 : decode cX5_forward 15 = .ok (.ifCond .ne 7, 3) := by decide +kernel
theorem dX5_forward_18 : decode cX5_forward 18 = .ok (.ldc2_w 124, 3) := by decide +kernel
theorem dX5_forward_21 : decode cX5_forward 21 = .ok (.lreturn, 1) := by decide +kernel
theorem dX5_forward_22 : decode cX5_forward 22 = .ok (.aload_n 0, 1) := by decide +kernel
theorem dX5_forward_23 : decode cX5_forward 23 = .ok (.getfield 37, 3) := by decide +kernel
theorem dX5_forward_26 : decode cX5_forward 26 = .ok (.aload_n 0, 1) := by decide +kernel
theorem dX5_forward_27 : decode cX5_forward 27 = .ok (.getfield 12, 3) := by decide +kernel
theorem dX5_forward_30 : decode cX5_forward 30 = .ok (.invokevirtual 87, 3) := by decide +kernel
theorem dX5_forward_33 : decode cX5_forward 33 = .ok (.aload_n 0, 1) := by decide +kernel
theorem dX5_forward_34 : decode cX5_forward 34 = .ok (.getfield 37, 3) := by decide +kernel
theorem dX5_forward_37 : decode cX5_forward 37 = .ok (.getfield 126, 3) := by decide +kernel
theorem dX5_forward_40 : decode cX5_forward 40 = .ok (.iload_n 1, 1) := by decide +kernel
theorem dX5_forward_41 : decode cX5_forward 41 = .ok (.iconst 1, 1) := by decide +kernel
theorem dX5_forward_42 : decode cX5_forward 42 = .ok (.iadd, 1) := by decide +kernel
theorem dX5_forward_43 : decode cX5_forward 43 = .ok (.aaload, 1) := by decide +kernel
theorem dX5_forward_44 : decode cX5_forward 44 = .ok (.iload_n 2, 1) := by decide +kernel
theorem dX5_forward_45 : decode cX5_forward 45 = .ok (.laload, 1) := by decide +kernel
theorem dX5_forward_46 : decode cX5_forward 46 = .ok (.lreturn, 1) := by decide +kernel
theorem dX5_backward_0 : decode cX5_backward 0 = .ok (.aload_n 0, 1) := by decide +kernel
theorem dX5_backward_1 : decode cX5_backward 1 = .ok (.getfield 12, 3) := by decide +kernel
theorem dX5_backward_4 : decode cX5_backward 4 = .ok (.iload_n 1, 1) := by decide +kernel
theorem dX5_backward_5 : decode cX5_backward 5 = .ok (.invokevirtual 84, 3) := by decide +kernel
theorem dX5_backward_8 : decode cX5_backward 8 = .ok (.ifCond .eq 10, 3) := by decide +kernel
theorem dX5_backward_11 : decode cX5_backward 11 = .ok (.iload_n 2, 1) := by decide +kernel
theorem dX5_backward_12 : decode cX5_backward 12 = .ok (.invokestatic 121, 3) := by decide +kernel
theorem dX5_backward_15 : decode cX5_backward 15 = .ok (.ifCond .ne 7, 3) := by decide +kernel
theorem dX5_backward_18 : decode cX5_backward 18 = .ok (.ldc2_w 124, 3) := by decide +kernel
theorem dX5_backward_21 : decode cX5_backward 21 = .ok (.lreturn, 1) := by decide +kernel
theorem dX5_backward_22 : decode cX5_backward 22 = .ok (.aload_n 0, 1) := by decide +kernel
theorem dX5_backward_23 : decode cX5_backward 23 = .ok (.getfield 37, 3) := by decide +kernel
theorem dX5_backward_26 : decode cX5_backward 26 = .ok (.aload_n 0, 1) := by decide +kernel
theorem dX5_backward_27 : decode cX5_backward 27 = .ok (.getfield 12, 3) := by decide +kernel
theorem dX5_backward_30 : decode cX5_backward 30 = .ok (.invokevirtual 87, 3) := by decide +kernel
theorem dX5_backward_33 : decode cX5_backward 33 = .ok (.aload_n 0, 1) := by decide +kernel
theorem dX5_backward_34 : decode cX5_backward 34 = .ok (.getfield 37, 3) := by decide +kernel
theorem dX5_backward_37 : decode cX5_backward 37 = .ok (.getfield 130, 3) := by decide +kernel
theorem dX5_backward_40 : decode cX5_backward 40 = .ok (.iload_n 1, 1) := by decide +kernel
theorem dX5_backward_41 : decode cX5_backward 41 = .ok (.iconst 1, 1) := by decide +kernel
theorem dX5_backward_42 : decode cX5_backward 42 = .ok (.iadd, 1) := by decide +kernel
theorem dX5_backward_43 : decode cX5_backward 43 = .ok (.aaload, 1) := by decide +kernel
theorem dX5_backward_44 : decode cX5_backward 44 = .ok (.iload_n 2, 1) := by decide +kernel
theorem dX5_backward_45 : decode cX5_backward 45 = .ok (.laload, 1) := by decide +kernel
theorem dX5_backward_46 : decode cX5_backward 46 = .ok (.lreturn, 1) := by decide +kernel
theorem dX5_ways_0 : decode cX5_ways 0 = .ok (.aload_n 0, 1) := by decide +kernel
theorem dX5_ways_1 : decode cX5_ways 1 = .ok (.getfield 37, 3) := by decide +kernel
theorem dX5_ways_4 : decode cX5_ways 4 = .ok (.aload_n 0, 1) := by decide +kernel
theorem dX5_ways_5 : decode cX5_ways 5 = .ok (.getfield 12, 3) := by decide +kernel
theorem dX5_ways_8 : decode cX5_ways 8 = .ok (.invokevirtual 87, 3) := by decide +kernel
theorem dX5_ways_11 : decode cX5_ways 11 = .ok (.aload_n 0, 1) := by decide +kernel
theorem dX5_ways_12 : decode cX5_ways 12 = .ok (.getfield 37, 3) := by decide +kernel
theorem dX5_ways_15 : decode cX5_ways 15 = .ok (.invokevirtual 133, 3) := by decide +kernel
theorem dX5_ways_18 : decode cX5_ways 18 = .ok (.ireturn, 1) := by decide +kernel
theorem dX5_way_0 : decode cX5_way 0 = .ok (.aload_n 0, 1) := by decide +kernel
theorem dX5_way_1 : decode cX5_way 1 = .ok (.getfield 37, 3) := by decide +kernel
theorem dX5_way_4 : decode cX5_way 4 = .ok (.aload_n 0, 1) := by decide +kernel
theorem dX5_way_5 : decode cX5_way 5 = .ok (.getfield 12, 3) := by decide +kernel
theorem dX5_way_8 : decode cX5_way 8 = .ok (.invokevirtual 87, 3) := by decide +kernel
theorem dX5_way_11 : decode cX5_way 11 = .ok (.iload_n 1, 1) := by decide +kernel
theorem dX5_way_12 : decode cX5_way 12 = .ok (.ifCond .lt 14, 3) := by decide +kernel
theorem dX5_way_15 : decode cX5_way 15 = .ok (.iload_n 1, 1) := by decide +kernel
theorem dX5_way_16 : decode cX5_way 16 = .ok (.aload_n 0, 1) := by decide +kernel
theorem dX5_way_17 : decode cX5_way 17 = .ok (.getfield 37, 3) := by decide +kernel
theorem dX5_way_20 : decode cX5_way 20 = .ok (.invokevirtual 133, 3) := by decide +kernel
theorem dX5_way_23 : decode cX5_way 23 = .ok (.if_icmp .lt 5, 3) := by decide +kernel
theorem dX5_way_26 : decode cX5_way 26 = .ok (.iconst (-1), 1) := by decide +kernel
theorem dX5_way_27 : decode cX5_way 27 = .ok (.ireturn, 1) := by decide +kernel
theorem dX5_way_28 : decode cX5_way 28 = .ok (.iload_n 2, 1) := by decide +kernel
theorem dX5_way_29 : decode cX5_way 29 = .ok (.iconst (-1), 1) := by decide +kernel
theorem dX5_way_30 : decode cX5_way 30 = .ok (.if_icmp .ge 6, 3) := by decide +kernel
theorem dX5_way_33 : decode cX5_way 33 = .ok (.bipush (-2), 2) := by decide +kernel
theorem dX5_way_35 : decode cX5_way 35 = .ok (.ireturn, 1) := by decide +kernel
theorem dX5_way_36 : decode cX5_way 36 = .ok (.aload_n 0, 1) := by decide +kernel
theorem dX5_way_37 : decode cX5_way 37 = .ok (.getfield 44, 3) := by decide +kernel
theorem dX5_way_40 : decode cX5_way 40 = .ok (.aload_n 0, 1) := by decide +kernel
theorem dX5_way_41 : decode cX5_way 41 = .ok (.getfield 12, 3) := by decide +kernel
theorem dX5_way_44 : decode cX5_way 44 = .ok (.aload_n 0, 1) := by decide +kernel
theorem dX5_way_45 : decode cX5_way 45 = .ok (.getfield 37, 3) := by decide +kernel
theorem dX5_way_48 : decode cX5_way 48 = .ok (.iload_n 1, 1) := by decide +kernel
theorem dX5_way_49 : decode cX5_way 49 = .ok (.invokevirtual 136, 3) := by decide +kernel
theorem dX5_way_52 : decode cX5_way 52 = .ok (.aload_n 0, 1) := by decide +kernel
theorem dX5_way_53 : decode cX5_way 53 = .ok (.getfield 44, 3) := by decide +kernel
theorem dX5_way_56 : decode cX5_way 56 = .ok (.iload_n 2, 1) := by decide +kernel
theorem dX5_way_57 : decode cX5_way 57 = .ok (.invokevirtual 140, 3) := by decide +kernel
theorem dX5_way_60 : decode cX5_way 60 = .ok (.ireturn, 1) := by decide +kernel
theorem dX5_weighs_0 : decode cX5_weighs 0 = .ok (.aload_n 0, 1) := by decide +kernel
theorem dX5_weighs_1 : decode cX5_weighs 1 = .ok (.getfield 37, 3) := by decide +kernel
theorem dX5_weighs_4 : decode cX5_weighs 4 = .ok (.aload_n 0, 1) := by decide +kernel
theorem dX5_weighs_5 : decode cX5_weighs 5 = .ok (.getfield 12, 3) := by decide +kernel
theorem dX5_weighs_8 : decode cX5_weighs 8 = .ok (.invokevirtual 87, 3) := by decide +kernel
theorem dX5_weighs_11 : decode cX5_weighs 11 = .ok (.iload_n 1, 1) := by decide +kernel
theorem dX5_weighs_12 : decode cX5_weighs 12 = .ok (.ifCond .lt 14, 3) := by decide +kernel
theorem dX5_weighs_15 : decode cX5_weighs 15 = .ok (.iload_n 1, 1) := by decide +kernel
theorem dX5_weighs_16 : decode cX5_weighs 16 = .ok (.aload_n 0, 1) := by decide +kernel
theorem dX5_weighs_17 : decode cX5_weighs 17 = .ok (.getfield 37, 3) := by decide +kernel
theorem dX5_weighs_20 : decode cX5_weighs 20 = .ok (.invokevirtual 133, 3) := by decide +kernel
theorem dX5_weighs_23 : decode cX5_weighs 23 = .ok (.if_icmp .lt 7, 3) := by decide +kernel
theorem dX5_weighs_26 : decode cX5_weighs 26 = .ok (.ldc2_w 124, 3) := by decide +kernel
theorem dX5_weighs_29 : decode cX5_weighs 29 = .ok (.lreturn, 1) := by decide +kernel
theorem dX5_weighs_30 : decode cX5_weighs 30 = .ok (.aload_n 0, 1) := by decide +kernel
theorem dX5_weighs_31 : decode cX5_weighs 31 = .ok (.getfield 44, 3) := by decide +kernel
theorem dX5_weighs_34 : decode cX5_weighs 34 = .ok (.aload_n 0, 1) := by decide +kernel
theorem dX5_weighs_35 : decode cX5_weighs 35 = .ok (.getfield 12, 3) := by decide +kernel
theorem dX5_weighs_38 : decode cX5_weighs 38 = .ok (.aload_n 0, 1) := by decide +kernel
theorem dX5_weighs_39 : decode cX5_weighs 39 = .ok (.getfield 37, 3) := by decide +kernel
theorem dX5_weighs_42 : decode cX5_weighs 42 = .ok (.iload_n 1, 1) := by decide +kernel
theorem dX5_weighs_43 : decode cX5_weighs 43 = .ok (.invokevirtual 136, 3) := by decide +kernel
theorem dX5_weighs_46 : decode cX5_weighs 46 = .ok (.aload_n 0, 1) := by decide +kernel
theorem dX5_weighs_47 : decode cX5_weighs 47 = .ok (.getfield 44, 3) := by decide +kernel
theorem dX5_weighs_50 : decode cX5_weighs 50 = .ok (.getfield 144, 3) := by decide +kernel
theorem dX5_weighs_53 : decode cX5_weighs 53 = .ok (.lreturn, 1) := by decide +kernel
theorem dX5_likeliest_0 : decode cX5_likeliest 0 = .ok (.iload_n 1, 1) := by decide +kernel
theorem dX5_likeliest_1 : decode cX5_likeliest 1 = .ok (.bipush (-2), 2) := by decide +kernel
theorem dX5_likeliest_3 : decode cX5_likeliest 3 = .ok (.if_icmp .ge 6, 3) := by decide +kernel
theorem dX5_likeliest_6 : decode cX5_likeliest 6 = .ok (.bipush (-2), 2) := by decide +kernel
theorem dX5_likeliest_8 : decode cX5_likeliest 8 = .ok (.ireturn, 1) := by decide +kernel
theorem dX5_likeliest_9 : decode cX5_likeliest 9 = .ok (.aload_n 0, 1) := by decide +kernel
theorem dX5_likeliest_10 : decode cX5_likeliest 10 = .ok (.getfield 37, 3) := by decide +kernel
theorem dX5_likeliest_13 : decode cX5_likeliest 13 = .ok (.aload_n 0, 1) := by decide +kernel
theorem dX5_likeliest_14 : decode cX5_likeliest 14 = .ok (.getfield 12, 3) := by decide +kernel
theorem dX5_likeliest_17 : decode cX5_likeliest 17 = .ok (.invokevirtual 87, 3) := by decide +kernel
theorem dX5_likeliest_20 : decode cX5_likeliest 20 = .ok (.aload_n 0, 1) := by decide +kernel
theorem dX5_likeliest_21 : decode cX5_likeliest 21 = .ok (.getfield 37, 3) := by decide +kernel
theorem dX5_likeliest_24 : decode cX5_likeliest 24 = .ok (.invokevirtual 91, 3) := by decide +kernel
theorem dX5_likeliest_27 : decode cX5_likeliest 27 = .ok (.lconst 0, 1) := by decide +kernel
theorem dX5_likeliest_28 : decode cX5_likeliest 28 = .ok (.lcmp, 1) := by decide +kernel
theorem dX5_likeliest_29 : decode cX5_likeliest 29 = .ok (.ifCond .ne 6, 3) := by decide +kernel
theorem dX5_likeliest_32 : decode cX5_likeliest 32 = .ok (.bipush (-5), 2) := by decide +kernel
theorem dX5_likeliest_34 : decode cX5_likeliest 34 = .ok (.ireturn, 1) := by decide +kernel
theorem dX5_likeliest_35 : decode cX5_likeliest 35 = .ok (.aload_n 0, 1) := by decide +kernel
theorem dX5_likeliest_36 : decode cX5_likeliest 36 = .ok (.getfield 44, 3) := by decide +kernel
theorem dX5_likeliest_39 : decode cX5_likeliest 39 = .ok (.aload_n 0, 1) := by decide +kernel
theorem dX5_likeliest_40 : decode cX5_likeliest 40 = .ok (.getfield 12, 3) := by decide +kernel
theorem dX5_likeliest_43 : decode cX5_likeliest 43 = .ok (.aload_n 0, 1) := by decide +kernel
theorem dX5_likeliest_44 : decode cX5_likeliest 44 = .ok (.getfield 37, 3) := by decide +kernel
theorem dX5_likeliest_47 : decode cX5_likeliest 47 = .ok (.invokevirtual 148, 3) := by decide +kernel
theorem dX5_likeliest_50 : decode cX5_likeliest 50 = .ok (.istore_n 2, 1) := by decide +kernel
theorem dX5_likeliest_51 : decode cX5_likeliest 51 = .ok (.iload_n 1, 1) := by decide +kernel
theorem dX5_likeliest_52 : decode cX5_likeliest 52 = .ok (.bipush (-2), 2) := by decide +kernel
theorem dX5_likeliest_54 : decode cX5_likeliest 54 = .ok (.if_icmp .ne 5, 3) := by decide +kernel
theorem dX5_likeliest_57 : decode cX5_likeliest 57 = .ok (.iload_n 2, 1) := by decide +kernel
theorem dX5_likeliest_58 : decode cX5_likeliest 58 = .ok (.ireturn, 1) := by decide +kernel
theorem dX5_likeliest_59 : decode cX5_likeliest 59 = .ok (.aload_n 0, 1) := by decide +kernel
theorem dX5_likeliest_60 : decode cX5_likeliest 60 = .ok (.getfield 44, 3) := by decide +kernel
theorem dX5_likeliest_63 : decode cX5_likeliest 63 = .ok (.aload_n 0, 1) := by decide +kernel
theorem dX5_likeliest_64 : decode cX5_likeliest 64 = .ok (.getfield 12, 3) := by decide +kernel
theorem dX5_likeliest_67 : decode cX5_likeliest 67 = .ok (.aload_n 0, 1) := by decide +kernel
theorem dX5_likeliest_68 : decode cX5_likeliest 68 = .ok (.getfield 37, 3) := by decide +kernel
theorem dX5_likeliest_71 : decode cX5_likeliest 71 = .ok (.iload_n 2, 1) := by decide +kernel
theorem dX5_likeliest_72 : decode cX5_likeliest 72 = .ok (.invokevirtual 136, 3) := by decide +kernel
theorem dX5_likeliest_75 : decode cX5_likeliest 75 = .ok (.aload_n 0, 1) := by decide +kernel
theorem dX5_likeliest_76 : decode cX5_likeliest 76 = .ok (.getfield 44, 3) := by decide +kernel
theorem dX5_likeliest_79 : decode cX5_likeliest 79 = .ok (.iload_n 1, 1) := by decide +kernel
theorem dX5_likeliest_80 : decode cX5_likeliest 80 = .ok (.invokevirtual 140, 3) := by decide +kernel
theorem dX5_likeliest_83 : decode cX5_likeliest 83 = .ok (.ireturn, 1) := by decide +kernel
theorem dX5_odds_0 : decode cX5_odds 0 = .ok (.aload_n 0, 1) := by decide +kernel
theorem dX5_odds_1 : decode cX5_odds 1 = .ok (.getfield 12, 3) := by decide +kernel
theorem dX5_odds_4 : decode cX5_odds 4 = .ok (.iload_n 1, 1) := by decide +kernel
theorem dX5_odds_5 : decode cX5_odds 5 = .ok (.invokevirtual 84, 3) := by decide +kernel
theorem dX5_odds_8 : decode cX5_odds 8 = .ok (.ifCond .eq 10, 3) := by decide +kernel
theorem dX5_odds_11 : decode cX5_odds 11 = .ok (.iload_n 2, 1) := by decide +kernel
theorem dX5_odds_12 : decode cX5_odds 12 = .ok (.invokestatic 121, 3) := by decide +kernel
theorem dX5_odds_15 : decode cX5_odds 15 = .ok (.ifCond .ne 7, 3) := by decide +kernel
theorem dX5_odds_18 : decode cX5_odds 18 = .ok (.ldc2_w 124, 3) := by decide +kernel
theorem dX5_odds_21 : decode cX5_odds 21 = .ok (.lreturn, 1) := by decide +kernel
theorem dX5_odds_22 : decode cX5_odds 22 = .ok (.iload_n 3, 1) := by decide +kernel
theorem dX5_odds_23 : decode cX5_odds 23 = .ok (.invokestatic 151, 3) := by decide +kernel
theorem dX5_odds_26 : decode cX5_odds 26 = .ok (.ifCond .ne 7, 3) := by decide +kernel
theorem dX5_odds_29 : decode cX5_odds 29 = .ok (.ldc2_w 154, 3) := by decide +kernel
theorem dX5_odds_32 : decode cX5_odds 32 = .ok (.lreturn, 1) := by decide +kernel
theorem dX5_odds_33 : decode cX5_odds 33 = .ok (.aload_n 0, 1) := by decide +kernel
theorem dX5_odds_34 : decode cX5_odds 34 = .ok (.getfield 37, 3) := by decide +kernel
theorem dX5_odds_37 : decode cX5_odds 37 = .ok (.aload_n 0, 1) := by decide +kernel
theorem dX5_odds_38 : decode cX5_odds 38 = .ok (.getfield 12, 3) := by decide +kernel
theorem dX5_odds_41 : decode cX5_odds 41 = .ok (.invokevirtual 87, 3) := by decide +kernel
theorem dX5_odds_44 : decode cX5_odds 44 = .ok (.aload_n 0, 1) := by decide +kernel
theorem dX5_odds_45 : decode cX5_odds 45 = .ok (.getfield 37, 3) := by decide +kernel
theorem dX5_odds_48 : decode cX5_odds 48 = .ok (.invokevirtual 91, 3) := by decide +kernel
theorem dX5_odds_51 : decode cX5_odds 51 = .ok (.lconst 0, 1) := by decide +kernel
theorem dX5_odds_52 : decode cX5_odds 52 = .ok (.lcmp, 1) := by decide +kernel
theorem dX5_odds_53 : decode cX5_odds 53 = .ok (.ifCond .ne 7, 3) := by decide +kernel
theorem dX5_odds_56 : decode cX5_odds 56 = .ok (.ldc2_w 156, 3) := by decide +kernel
theorem dX5_odds_59 : decode cX5_odds 59 = .ok (.lreturn, 1) := by decide +kernel
theorem dX5_odds_60 : decode cX5_odds 60 = .ok (.aload_n 0, 1) := by decide +kernel
theorem dX5_odds_61 : decode cX5_odds 61 = .ok (.getfield 37, 3) := by decide +kernel
theorem dX5_odds_64 : decode cX5_odds 64 = .ok (.iload_n 1, 1) := by decide +kernel
theorem dX5_odds_65 : decode cX5_odds 65 = .ok (.iload_n 2, 1) := by decide +kernel
theorem dX5_odds_66 : decode cX5_odds 66 = .ok (.invokevirtual 158, 3) := by decide +kernel
theorem dX5_odds_69 : decode cX5_odds 69 = .ok (.aload_n 0, 1) := by decide +kernel
theorem dX5_odds_70 : decode cX5_odds 70 = .ok (.getfield 37, 3) := by decide +kernel
theorem dX5_odds_73 : decode cX5_odds 73 = .ok (.invokevirtual 91, 3) := by decide +kernel
theorem dX5_odds_76 : decode cX5_odds 76 = .ok (.iload_n 3, 1) := by decide +kernel
theorem dX5_odds_77 : decode cX5_odds 77 = .ok (.invokestatic 162, 3) := by decide +kernel
theorem dX5_odds_80 : decode cX5_odds 80 = .ok (.lreturn, 1) := by decide +kernel
theorem dX5_likelyAt_0 : decode cX5_likelyAt 0 = .ok (.aload_n 0, 1) := by decide +kernel
theorem dX5_likelyAt_1 : decode cX5_likelyAt 1 = .ok (.getfield 12, 3) := by decide +kernel
theorem dX5_likelyAt_4 : decode cX5_likelyAt 4 = .ok (.iload_n 1, 1) := by decide +kernel
theorem dX5_likelyAt_5 : decode cX5_likelyAt 5 = .ok (.invokevirtual 84, 3) := by decide +kernel
theorem dX5_likelyAt_8 : decode cX5_likelyAt 8 = .ok (.ifCond .ne 5, 3) := by decide +kernel
theorem dX5_likelyAt_11 : decode cX5_likelyAt 11 = .ok (.iconst (-1), 1) := by decide +kernel
theorem dX5_likelyAt_12 : decode cX5_likelyAt 12 = .ok (.ireturn, 1) := by decide +kernel
theorem dX5_likelyAt_13 : decode cX5_likelyAt 13 = .ok (.aload_n 0, 1) := by decide +kernel
theorem dX5_likelyAt_14 : decode cX5_likelyAt 14 = .ok (.getfield 37, 3) := by decide +kernel
theorem dX5_likelyAt_17 : decode cX5_likelyAt 17 = .ok (.aload_n 0, 1) := by decide +kernel
theorem dX5_likelyAt_18 : decode cX5_likelyAt 18 = .ok (.getfield 12, 3) := by decide +kernel
theorem dX5_likelyAt_21 : decode cX5_likelyAt 21 = .ok (.invokevirtual 87, 3) := by decide +kernel
theorem dX5_likelyAt_24 : decode cX5_likelyAt 24 = .ok (.aload_n 0, 1) := by decide +kernel
theorem dX5_likelyAt_25 : decode cX5_likelyAt 25 = .ok (.getfield 37, 3) := by decide +kernel
theorem dX5_likelyAt_28 : decode cX5_likelyAt 28 = .ok (.invokevirtual 91, 3) := by decide +kernel
theorem dX5_likelyAt_31 : decode cX5_likelyAt 31 = .ok (.lconst 0, 1) := by decide +kernel
theorem dX5_likelyAt_32 : decode cX5_likelyAt 32 = .ok (.lcmp, 1) := by decide +kernel
theorem dX5_likelyAt_33 : decode cX5_likelyAt 33 = .ok (.ifCond .ne 6, 3) := by decide +kernel
theorem dX5_likelyAt_36 : decode cX5_likelyAt 36 = .ok (.bipush (-5), 2) := by decide +kernel
theorem dX5_likelyAt_38 : decode cX5_likelyAt 38 = .ok (.ireturn, 1) := by decide +kernel
theorem dX5_likelyAt_39 : decode cX5_likelyAt 39 = .ok (.iconst 0, 1) := by decide +kernel
theorem dX5_likelyAt_40 : decode cX5_likelyAt 40 = .ok (.istore_n 2, 1) := by decide +kernel
theorem dX5_likelyAt_41 : decode cX5_likelyAt 41 = .ok (.iconst 1, 1) := by decide +kernel
theorem dX5_likelyAt_42 : decode cX5_likelyAt 42 = .ok (.istore_n 3, 1) := by decide +kernel
theorem dX5_likelyAt_43 : decode cX5_likelyAt 43 = .ok (.iload_n 3, 1) := by decide +kernel
theorem dX5_likelyAt_44 : decode cX5_likelyAt 44 = .ok (.iconst 4, 1) := by decide +kernel
theorem dX5_likelyAt_45 : decode cX5_likelyAt 45 = .ok (.if_icmp .ge 33, 3) := by decide +kernel
theorem dX5_likelyAt_48 : decode cX5_likelyAt 48 = .ok (.aload_n 0, 1) := by decide +kernel
theorem dX5_likelyAt_49 : decode cX5_likelyAt 49 = .ok (.getfield 37, 3) := by decide +kernel
theorem dX5_likelyAt_52 : decode cX5_likelyAt 52 = .ok (.iload_n 1, 1) := by decide +kernel
theorem dX5_likelyAt_53 : decode cX5_likelyAt 53 = .ok (.iload_n 3, 1) := by decide +kernel
theorem dX5_likelyAt_54 : decode cX5_likelyAt 54 = .ok (.invokevirtual 158, 3) := by decide +kernel
theorem dX5_likelyAt_57 : decode cX5_likelyAt 57 = .ok (.aload_n 0, 1) := by decide +kernel
theorem dX5_likelyAt_58 : decode cX5_likelyAt 58 = .ok (.getfield 37, 3) := by decide +kernel
theorem dX5_likelyAt_61 : decode cX5_likelyAt 61 = .ok (.iload_n 1, 1) := by decide +kernel
theorem dX5_likelyAt_62 : decode cX5_likelyAt 62 = .ok (.iload_n 2, 1) := by decide +kernel
theorem dX5_likelyAt_63 : decode cX5_likelyAt 63 = .ok (.invokevirtual 158, 3) := by decide +kernel
theorem dX5_likelyAt_66 : decode cX5_likelyAt 66 = .ok (.lcmp, 1) := by decide +kernel
theorem dX5_likelyAt_67 : decode cX5_likelyAt 67 = .ok (.ifCond .le 5, 3) := by decide +kernel
theorem dX5_likelyAt_70 : decode cX5_likelyAt 70 = .ok (.iload_n 3, 1) := by decide +kernel
theorem dX5_likelyAt_71 : decode cX5_likelyAt 71 = .ok (.istore_n 2, 1) := by decide +kernel
theorem dX5_likelyAt_72 : decode cX5_likelyAt 72 = .ok (.iinc 3 1, 3) := by decide +kernel
theorem dX5_likelyAt_75 : decode cX5_likelyAt 75 = .ok (.goto (-32), 3) := by decide +kernel
theorem dX5_likelyAt_78 : decode cX5_likelyAt 78 = .ok (.iload_n 2, 1) := by decide +kernel
theorem dX5_likelyAt_79 : decode cX5_likelyAt 79 = .ok (.ireturn, 1) := by decide +kernel
theorem dX5_expected_0 : decode cX5_expected 0 = .ok (.iload_n 1, 1) := by decide +kernel
theorem dX5_expected_1 : decode cX5_expected 1 = .ok (.invokestatic 59, 3) := by decide +kernel
theorem dX5_expected_4 : decode cX5_expected 4 = .ok (.ifCond .eq 11, 3) := by decide +kernel
theorem dX5_expected_7 : decode cX5_expected 7 = .ok (.iload 4, 2) := by decide +kernel
theorem dX5_expected_9 : decode cX5_expected 9 = .ok (.invokestatic 151, 3) := by decide +kernel
theorem dX5_expected_12 : decode cX5_expected 12 = .ok (.ifCond .ne 7, 3) := by decide +kernel
theorem dX5_expected_15 : decode cX5_expected 15 = .ok (.ldc2_w 154, 3) := by decide +kernel
theorem dX5_expected_18 : decode cX5_expected 18 = .ok (.lreturn, 1) := by decide +kernel
theorem dX5_expected_19 : decode cX5_expected 19 = .ok (.iload_n 1, 1) := by decide +kernel
theorem dX5_expected_20 : decode cX5_expected 20 = .ok (.iload_n 2, 1) := by decide +kernel
theorem dX5_expected_21 : decode cX5_expected 21 = .ok (.iload_n 3, 1) := by decide +kernel
theorem dX5_expected_22 : decode cX5_expected 22 = .ok (.invokestatic 63, 3) := by decide +kernel
theorem dX5_expected_25 : decode cX5_expected 25 = .ok (.ifCond .ge 7, 3) := by decide +kernel
theorem dX5_expected_28 : decode cX5_expected 28 = .ok (.ldc2_w 124, 3) := by decide +kernel
theorem dX5_expected_31 : decode cX5_expected 31 = .ok (.lreturn, 1) := by decide +kernel
theorem dX5_expected_32 : decode cX5_expected 32 = .ok (.aload_n 0, 1) := by decide +kernel
theorem dX5_expected_33 : decode cX5_expected 33 = .ok (.getfield 37, 3) := by decide +kernel
theorem dX5_expected_36 : decode cX5_expected 36 = .ok (.aload_n 0, 1) := by decide +kernel
theorem dX5_expected_37 : decode cX5_expected 37 = .ok (.getfield 12, 3) := by decide +kernel
theorem dX5_expected_40 : decode cX5_expected 40 = .ok (.invokevirtual 87, 3) := by decide +kernel
theorem dX5_expected_43 : decode cX5_expected 43 = .ok (.aload_n 0, 1) := by decide +kernel
theorem dX5_expected_44 : decode cX5_expected 44 = .ok (.getfield 37, 3) := by decide +kernel
theorem dX5_expected_47 : decode cX5_expected 47 = .ok (.invokevirtual 91, 3) := by decide +kernel
theorem dX5_expected_50 : decode cX5_expected 50 = .ok (.lconst 0, 1) := by decide +kernel
theorem dX5_expected_51 : decode cX5_expected 51 = .ok (.lcmp, 1) := by decide +kernel
theorem dX5_expected_52 : decode cX5_expected 52 = .ok (.ifCond .ne 7, 3) := by decide +kernel
theorem dX5_expected_55 : decode cX5_expected 55 = .ok (.ldc2_w 156, 3) := by decide +kernel
theorem dX5_expected_58 : decode cX5_expected 58 = .ok (.lreturn, 1) := by decide +kernel
theorem dX5_expected_59 : decode cX5_expected 59 = .ok (.iload_n 1, 1) := by decide +kernel
theorem dX5_expected_60 : decode cX5_expected 60 = .ok (.iconst 2, 1) := by decide +kernel
theorem dX5_expected_61 : decode cX5_expected 61 = .ok (.if_icmp .ne 21, 3) := by decide +kernel
theorem dX5_expected_64 : decode cX5_expected 64 = .ok (.aload_n 0, 1) := by decide +kernel
theorem dX5_expected_65 : decode cX5_expected 65 = .ok (.getfield 37, 3) := by decide +kernel
theorem dX5_expected_68 : decode cX5_expected 68 = .ok (.aload_n 0, 1) := by decide +kernel
theorem dX5_expected_69 : decode cX5_expected 69 = .ok (.getfield 12, 3) := by decide +kernel
theorem dX5_expected_72 : decode cX5_expected 72 = .ok (.iload_n 2, 1) := by decide +kernel
theorem dX5_expected_73 : decode cX5_expected 73 = .ok (.iload_n 3, 1) := by decide +kernel
theorem dX5_expected_74 : decode cX5_expected 74 = .ok (.invokevirtual 166, 3) := by decide +kernel
theorem dX5_expected_77 : decode cX5_expected 77 = .ok (.lstore 5, 2) := by decide +kernel
theorem dX5_expected_79 : decode cX5_expected 79 = .ok (.goto 42, 3) := by decide +kernel
theorem dX5_expected_82 : decode cX5_expected 82 = .ok (.iload_n 1, 1) := by decide +kernel
theorem dX5_expected_83 : decode cX5_expected 83 = .ok (.iconst 1, 1) := by decide +kernel
theorem dX5_expected_84 : decode cX5_expected 84 = .ok (.if_icmp .ne 21, 3) := by decide +kernel
theorem dX5_expected_87 : decode cX5_expected 87 = .ok (.aload_n 0, 1) := by decide +kernel
theorem dX5_expected_88 : decode cX5_expected 88 = .ok (.getfield 37, 3) := by decide +kernel
theorem dX5_expected_91 : decode cX5_expected 91 = .ok (.aload_n 0, 1) := by decide +kernel
theorem dX5_expected_92 : decode cX5_expected 92 = .ok (.getfield 12, 3) := by decide +kernel
theorem dX5_expected_95 : decode cX5_expected 95 = .ok (.iload_n 2, 1) := by decide +kernel
theorem dX5_expected_96 : decode cX5_expected 96 = .ok (.iload_n 3, 1) := by decide +kernel
theorem dX5_expected_97 : decode cX5_expected 97 = .ok (.invokevirtual 170, 3) := by decide +kernel
theorem dX5_expected_100 : decode cX5_expected 100 = .ok (.lstore 5, 2) := by decide +kernel
theorem dX5_expected_102 : decode cX5_expected 102 = .ok (.goto 19, 3) := by decide +kernel
theorem dX5_expected_105 : decode cX5_expected 105 = .ok (.aload_n 0, 1) := by decide +kernel
theorem dX5_expected_106 : decode cX5_expected 106 = .ok (.getfield 37, 3) := by decide +kernel
theorem dX5_expected_109 : decode cX5_expected 109 = .ok (.aload_n 0, 1) := by decide +kernel
theorem dX5_expected_110 : decode cX5_expected 110 = .ok (.getfield 12, 3) := by decide +kernel
theorem dX5_expected_113 : decode cX5_expected 113 = .ok (.bipush 6, 2) := by decide +kernel
theorem dX5_expected_115 : decode cX5_expected 115 = .ok (.iload_n 2, 1) := by decide +kernel
theorem dX5_expected_116 : decode cX5_expected 116 = .ok (.invokevirtual 170, 3) := by decide +kernel
theorem dX5_expected_119 : decode cX5_expected 119 = .ok (.lstore 5, 2) := by decide +kernel
theorem dX5_expected_121 : decode cX5_expected 121 = .ok (.lload 5, 2) := by decide +kernel
theorem dX5_expected_123 : decode cX5_expected 123 = .ok (.aload_n 0, 1) := by decide +kernel
theorem dX5_expected_124 : decode cX5_expected 124 = .ok (.getfield 37, 3) := by decide +kernel
theorem dX5_expected_127 : decode cX5_expected 127 = .ok (.invokevirtual 91, 3) := by decide +kernel
theorem dX5_expected_130 : decode cX5_expected 130 = .ok (.iload 4, 2) := by decide +kernel
theorem dX5_expected_132 : decode cX5_expected 132 = .ok (.invokestatic 162, 3) := by decide +kernel
theorem dX5_expected_135 : decode cX5_expected 135 = .ok (.lreturn, 1) := by decide +kernel
theorem dX5_shareBits_0 : decode cX5_shareBits 0 = .ok (.aload_n 0, 1) := by decide +kernel
theorem dX5_shareBits_1 : decode cX5_shareBits 1 = .ok (.getfield 37, 3) := by decide +kernel
theorem dX5_shareBits_4 : decode cX5_shareBits 4 = .ok (.aload_n 0, 1) := by decide +kernel
theorem dX5_shareBits_5 : decode cX5_shareBits 5 = .ok (.getfield 12, 3) := by decide +kernel
theorem dX5_shareBits_8 : decode cX5_shareBits 8 = .ok (.invokevirtual 87, 3) := by decide +kernel
theorem dX5_shareBits_11 : decode cX5_shareBits 11 = .ok (.aload_n 0, 1) := by decide +kernel
theorem dX5_shareBits_12 : decode cX5_shareBits 12 = .ok (.getfield 37, 3) := by decide +kernel
theorem dX5_shareBits_15 : decode cX5_shareBits 15 = .ok (.invokevirtual 91, 3) := by decide +kernel
theorem dX5_shareBits_18 : decode cX5_shareBits 18 = .ok (.lconst 0, 1) := by decide +kernel
theorem dX5_shareBits_19 : decode cX5_shareBits 19 = .ok (.lcmp, 1) := by decide +kernel
theorem dX5_shareBits_20 : decode cX5_shareBits 20 = .ok (.ifCond .ne 6, 3) := by decide +kernel
theorem dX5_shareBits_23 : decode cX5_shareBits 23 = .ok (.bipush (-5), 2) := by decide +kernel
theorem dX5_shareBits_25 : decode cX5_shareBits 25 = .ok (.ireturn, 1) := by decide +kernel
theorem dX5_shareBits_26 : decode cX5_shareBits 26 = .ok (.aload_n 0, 1) := by decide +kernel
theorem dX5_shareBits_27 : decode cX5_shareBits 27 = .ok (.getfield 37, 3) := by decide +kernel
theorem dX5_shareBits_30 : decode cX5_shareBits 30 = .ok (.invokevirtual 173, 3) := by decide +kernel
theorem dX5_shareBits_33 : decode cX5_shareBits 33 = .ok (.l2d, 1) := by decide +kernel
theorem dX5_shareBits_34 : decode cX5_shareBits 34 = .ok (.aload_n 0, 1) := by decide +kernel
theorem dX5_shareBits_35 : decode cX5_shareBits 35 = .ok (.getfield 37, 3) := by decide +kernel
theorem dX5_shareBits_38 : decode cX5_shareBits 38 = .ok (.invokevirtual 91, 3) := by decide +kernel
theorem dX5_shareBits_41 : decode cX5_shareBits 41 = .ok (.l2d, 1) := by decide +kernel
theorem dX5_shareBits_42 : decode cX5_shareBits 42 = .ok (.ddiv, 1) := by decide +kernel
theorem dX5_shareBits_43 : decode cX5_shareBits 43 = .ok (.dstore_n 1, 1) := by decide +kernel
theorem dX5_shareBits_44 : decode cX5_shareBits 44 = .ok (.dload_n 1, 1) := by decide +kernel
theorem dX5_shareBits_45 : decode cX5_shareBits 45 = .ok (.d2f, 1) := by decide +kernel
theorem dX5_shareBits_46 : decode cX5_shareBits 46 = .ok (.invokestatic 176, 3) := by decide +kernel
theorem dX5_shareBits_49 : decode cX5_shareBits 49 = .ok (.ireturn, 1) := by decide +kernel
theorem dX5_next_0 : decode cX5_next 0 = .ok (.iload_n 1, 1) := by decide +kernel
theorem dX5_next_1 : decode cX5_next 1 = .ok (.ifCond .lt 8, 3) := by decide +kernel
theorem dX5_next_4 : decode cX5_next 4 = .ok (.iload_n 1, 1) := by decide +kernel
theorem dX5_next_5 : decode cX5_next 5 = .ok (.iconst 1, 1) := by decide +kernel
theorem dX5_next_6 : decode cX5_next 6 = .ok (.if_icmp .le 7, 3) := by decide +kernel
theorem dX5_next_9 : decode cX5_next 9 = .ok (.ldc2_w 154, 3) := by decide +kernel
theorem dX5_next_12 : decode cX5_next 12 = .ok (.lreturn, 1) := by decide +kernel
theorem dX5_next_13 : decode cX5_next 13 = .ok (.aload_n 0, 1) := by decide +kernel
theorem dX5_next_14 : decode cX5_next 14 = .ok (.getfield 12, 3) := by decide +kernel
theorem dX5_next_17 : decode cX5_next 17 = .ok (.getfield 74, 3) := by decide +kernel
theorem dX5_next_20 : decode cX5_next 20 = .ok (.bipush 6, 2) := by decide +kernel
theorem dX5_next_22 : decode cX5_next 22 = .ok (.if_icmp .lt 7, 3) := by decide +kernel
theorem dX5_next_25 : decode cX5_next 25 = .ok (.ldc2_w 156, 3) := by decide +kernel
theorem dX5_next_28 : decode cX5_next 28 = .ok (.lreturn, 1) := by decide +kernel
theorem dX5_next_29 : decode cX5_next 29 = .ok (.aload_n 0, 1) := by decide +kernel
theorem dX5_next_30 : decode cX5_next 30 = .ok (.getfield 37, 3) := by decide +kernel
theorem dX5_next_33 : decode cX5_next 33 = .ok (.aload_n 0, 1) := by decide +kernel
theorem dX5_next_34 : decode cX5_next 34 = .ok (.getfield 12, 3) := by decide +kernel
theorem dX5_next_37 : decode cX5_next 37 = .ok (.invokevirtual 87, 3) := by decide +kernel
theorem dX5_next_40 : decode cX5_next 40 = .ok (.iconst 0, 1) := by decide +kernel
theorem dX5_next_41 : decode cX5_next 41 = .ok (.istore_n 2, 1) := by decide +kernel
theorem dX5_next_42 : decode cX5_next 42 = .ok (.lconst 0, 1) := by decide +kernel
theorem dX5_next_43 : decode cX5_next 43 = .ok (.lstore_n 3, 1) := by decide +kernel
theorem dX5_next_44 : decode cX5_next 44 = .ok (.iconst 0, 1) := by decide +kernel
theorem dX5_next_45 : decode cX5_next 45 = .ok (.istore 5, 2) := by decide +kernel
theorem dX5_next_47 : decode cX5_next 47 = .ok (.iload 5, 2) := by decide +kernel
theorem dX5_next_49 : decode cX5_next 49 = .ok (.iconst 4, 1) := by decide +kernel
theorem dX5_next_50 : decode cX5_next 50 = .ok (.if_icmp .ge 37, 3) := by decide +kernel
theorem dX5_next_53 : decode cX5_next 53 = .ok (.aload_n 0, 1) := by decide +kernel
theorem dX5_next_54 : decode cX5_next 54 = .ok (.getfield 37, 3) := by decide +kernel
theorem dX5_next_57 : decode cX5_next 57 = .ok (.aload_n 0, 1) := by decide +kernel
theorem dX5_next_58 : decode cX5_next 58 = .ok (.getfield 12, 3) := by decide +kernel
theorem dX5_next_61 : decode cX5_next 61 = .ok (.iload 5, 2) := by decide +kernel
theorem dX5_next_63 : decode cX5_next 63 = .ok (.invokevirtual 180, 3) := by decide +kernel
theorem dX5_next_66 : decode cX5_next 66 = .ok (.lstore 6, 2) := by decide +kernel
theorem dX5_next_68 : decode cX5_next 68 = .ok (.lload 6, 2) := by decide +kernel
theorem dX5_next_70 : decode cX5_next 70 = .ok (.lload_n 3, 1) := by decide +kernel
theorem dX5_next_71 : decode cX5_next 71 = .ok (.lcmp, 1) := by decide +kernel
theorem dX5_next_72 : decode cX5_next 72 = .ok (.ifCond .le 9, 3) := by decide +kernel
theorem dX5_next_75 : decode cX5_next 75 = .ok (.lload 6, 2) := by decide +kernel
theorem dX5_next_77 : decode cX5_next 77 = .ok (.lstore_n 3, 1) := by decide +kernel
theorem dX5_next_78 : decode cX5_next 78 = .ok (.iload 5, 2) := by decide +kernel
theorem dX5_next_80 : decode cX5_next 80 = .ok (.istore_n 2, 1) := by decide +kernel
theorem dX5_next_81 : decode cX5_next 81 = .ok (.iinc 5 1, 3) := by decide +kernel
theorem dX5_next_84 : decode cX5_next 84 = .ok (.goto (-37), 3) := by decide +kernel
theorem dX5_next_87 : decode cX5_next 87 = .ok (.lload_n 3, 1) := by decide +kernel
theorem dX5_next_88 : decode cX5_next 88 = .ok (.lconst 0, 1) := by decide +kernel
theorem dX5_next_89 : decode cX5_next 89 = .ok (.lcmp, 1) := by decide +kernel
theorem dX5_next_90 : decode cX5_next 90 = .ok (.ifCond .ne 7, 3) := by decide +kernel
theorem dX5_next_93 : decode cX5_next 93 = .ok (.ldc2_w 184, 3) := by decide +kernel
theorem dX5_next_96 : decode cX5_next 96 = .ok (.lreturn, 1) := by decide +kernel
theorem dX5_next_97 : decode cX5_next 97 = .ok (.iload_n 1, 1) := by decide +kernel
theorem dX5_next_98 : decode cX5_next 98 = .ok (.ifCond .ne 8, 3) := by decide +kernel
theorem dX5_next_101 : decode cX5_next 101 = .ok (.iload_n 2, 1) := by decide +kernel
theorem dX5_next_102 : decode cX5_next 102 = .ok (.i2l, 1) := by decide +kernel
theorem dX5_next_103 : decode cX5_next 103 = .ok (.goto 4, 3) := by decide +kernel
theorem dX5_next_106 : decode cX5_next 106 = .ok (.lload_n 3, 1) := by decide +kernel
theorem dX5_next_107 : decode cX5_next 107 = .ok (.lreturn, 1) := by decide +kernel
theorem dX5_slip_0 : decode cX5_slip 0 = .ok (.iload_n 1, 1) := by decide +kernel
theorem dX5_slip_1 : decode cX5_slip 1 = .ok (.ifCond .lt 8, 3) := by decide +kernel
theorem dX5_slip_4 : decode cX5_slip 4 = .ok (.iload_n 1, 1) := by decide +kernel
theorem dX5_slip_5 : decode cX5_slip 5 = .ok (.iconst 2, 1) := by decide +kernel
theorem dX5_slip_6 : decode cX5_slip 6 = .ok (.if_icmp .le 7, 3) := by decide +kernel
theorem dX5_slip_9 : decode cX5_slip 9 = .ok (.ldc2_w 154, 3) := by decide +kernel
theorem dX5_slip_12 : decode cX5_slip 12 = .ok (.lreturn, 1) := by decide +kernel
theorem dX5_slip_13 : decode cX5_slip 13 = .ok (.aload_n 0, 1) := by decide +kernel
theorem dX5_slip_14 : decode cX5_slip 14 = .ok (.getfield 37, 3) := by decide +kernel
theorem dX5_slip_17 : decode cX5_slip 17 = .ok (.aload_n 0, 1) := by decide +kernel
theorem dX5_slip_18 : decode cX5_slip 18 = .ok (.getfield 12, 3) := by decide +kernel
theorem dX5_slip_21 : decode cX5_slip 21 = .ok (.invokevirtual 87, 3) := by decide +kernel
theorem dX5_slip_24 : decode cX5_slip 24 = .ok (.iconst (-1), 1) := by decide +kernel
theorem dX5_slip_25 : decode cX5_slip 25 = .ok (.istore_n 2, 1) := by decide +kernel
theorem dX5_slip_26 : decode cX5_slip 26 = .ok (.iconst (-1), 1) := by decide +kernel
theorem dX5_slip_27 : decode cX5_slip 27 = .ok (.istore_n 3, 1) := by decide +kernel
theorem dX5_slip_28 : decode cX5_slip 28 = .ok (.aload_n 0, 1) := by decide +kernel
theorem dX5_slip_29 : decode cX5_slip 29 = .ok (.getfield 37, 3) := by decide +kernel
theorem dX5_slip_32 : decode cX5_slip 32 = .ok (.invokevirtual 91, 3) := by decide +kernel
theorem dX5_slip_35 : decode cX5_slip 35 = .ok (.lstore 4, 2) := by decide +kernel
theorem dX5_slip_37 : decode cX5_slip 37 = .ok (.iconst 0, 1) := by decide +kernel
theorem dX5_slip_38 : decode cX5_slip 38 = .ok (.istore 6, 2) := by decide +kernel
theorem dX5_slip_40 : decode cX5_slip 40 = .ok (.iload 6, 2) := by decide +kernel
theorem dX5_slip_42 : decode cX5_slip 42 = .ok (.aload_n 0, 1) := by decide +kernel
theorem dX5_slip_43 : decode cX5_slip 43 = .ok (.getfield 12, 3) := by decide +kernel
theorem dX5_slip_46 : decode cX5_slip 46 = .ok (.getfield 74, 3) := by decide +kernel
theorem dX5_slip_49 : decode cX5_slip 49 = .ok (.if_icmp .ge 59, 3) := by decide +kernel
theorem dX5_slip_52 : decode cX5_slip 52 = .ok (.iconst 0, 1) := by decide +kernel
theorem dX5_slip_53 : decode cX5_slip 53 = .ok (.istore 7, 2) := by decide +kernel
theorem dX5_slip_55 : decode cX5_slip 55 = .ok (.iload 7, 2) := by decide +kernel
theorem dX5_slip_57 : decode cX5_slip 57 = .ok (.iconst 4, 1) := by decide +kernel
theorem dX5_slip_58 : decode cX5_slip 58 = .ok (.if_icmp .ge 44, 3) := by decide +kernel
theorem dX5_slip_61 : decode cX5_slip 61 = .ok (.aload_n 0, 1) := by decide +kernel
theorem dX5_slip_62 : decode cX5_slip 62 = .ok (.getfield 37, 3) := by decide +kernel
theorem dX5_slip_65 : decode cX5_slip 65 = .ok (.aload_n 0, 1) := by decide +kernel
theorem dX5_slip_66 : decode cX5_slip 66 = .ok (.getfield 12, 3) := by decide +kernel
theorem dX5_slip_69 : decode cX5_slip 69 = .ok (.iload 6, 2) := by decide +kernel
theorem dX5_slip_71 : decode cX5_slip 71 = .ok (.iload 7, 2) := by decide +kernel
theorem dX5_slip_73 : decode cX5_slip 73 = .ok (.invokevirtual 186, 3) := by decide +kernel
theorem dX5_slip_76 : decode cX5_slip 76 = .ok (.lstore 8, 2) := by decide +kernel
theorem dX5_slip_78 : decode cX5_slip 78 = .ok (.lload 8, 2) := by decide +kernel
theorem dX5_slip_80 : decode cX5_slip 80 = .ok (.lload 4, 2) := by decide +kernel
theorem dX5_slip_82 : decode cX5_slip 82 = .ok (.lcmp, 1) := by decide +kernel
theorem dX5_slip_83 : decode cX5_slip 83 = .ok (.ifCond .le 13, 3) := by decide +kernel
theorem dX5_slip_86 : decode cX5_slip 86 = .ok (.lload 8, 2) := by decide +kernel
theorem dX5_slip_88 : decode cX5_slip 88 = .ok (.lstore 4, 2) := by decide +kernel
theorem dX5_slip_90 : decode cX5_slip 90 = .ok (.iload 6, 2) := by decide +kernel
theorem dX5_slip_92 : decode cX5_slip 92 = .ok (.istore_n 2, 1) := by decide +kernel
theorem dX5_slip_93 : decode cX5_slip 93 = .ok (.iload 7, 2) := by decide +kernel
theorem dX5_slip_95 : decode cX5_slip 95 = .ok (.istore_n 3, 1) := by decide +kernel
theorem dX5_slip_96 : decode cX5_slip 96 = .ok (.iinc 7 1, 3) := by decide +kernel
theorem dX5_slip_99 : decode cX5_slip 99 = .ok (.goto (-44), 3) := by decide +kernel
theorem dX5_slip_102 : decode cX5_slip 102 = .ok (.iinc 6 1, 3) := by decide +kernel
theorem dX5_slip_105 : decode cX5_slip 105 = .ok (.goto (-65), 3) := by decide +kernel
theorem dX5_slip_108 : decode cX5_slip 108 = .ok (.iload_n 2, 1) := by decide +kernel
theorem dX5_slip_109 : decode cX5_slip 109 = .ok (.ifCond .ge 7, 3) := by decide +kernel
theorem dX5_slip_112 : decode cX5_slip 112 = .ok (.ldc2_w 184, 3) := by decide +kernel
theorem dX5_slip_115 : decode cX5_slip 115 = .ok (.lreturn, 1) := by decide +kernel
theorem dX5_slip_116 : decode cX5_slip 116 = .ok (.iload_n 1, 1) := by decide +kernel
theorem dX5_slip_117 : decode cX5_slip 117 = .ok (.ifCond .ne 6, 3) := by decide +kernel
theorem dX5_slip_120 : decode cX5_slip 120 = .ok (.iload_n 2, 1) := by decide +kernel
theorem dX5_slip_121 : decode cX5_slip 121 = .ok (.i2l, 1) := by decide +kernel
theorem dX5_slip_122 : decode cX5_slip 122 = .ok (.lreturn, 1) := by decide +kernel
theorem dX5_slip_123 : decode cX5_slip 123 = .ok (.iload_n 1, 1) := by decide +kernel
theorem dX5_slip_124 : decode cX5_slip 124 = .ok (.iconst 1, 1) := by decide +kernel
theorem dX5_slip_125 : decode cX5_slip 125 = .ok (.if_icmp .ne 8, 3) := by decide +kernel
theorem dX5_slip_128 : decode cX5_slip 128 = .ok (.iload_n 3, 1) := by decide +kernel
theorem dX5_slip_129 : decode cX5_slip 129 = .ok (.i2l, 1) := by decide +kernel
theorem dX5_slip_130 : decode cX5_slip 130 = .ok (.goto 5, 3) := by decide +kernel
theorem dX5_slip_133 : decode cX5_slip 133 = .ok (.lload 4, 2) := by decide +kernel
theorem dX5_slip_135 : decode cX5_slip 135 = .ok (.lreturn, 1) := by decide +kernel
theorem dX5_count_0 : decode cX5_count 0 = .ok (.iload_n 1, 1) := by decide +kernel
theorem dX5_count_1 : decode cX5_count 1 = .ok (.tableswitch 60 0 3 #[31, 39, 47, 55], 31) := by decide +kernel
theorem dX5_count_32 : decode cX5_count 32 = .ok (.aload_n 0, 1) := by decide +kernel
theorem dX5_count_33 : decode cX5_count 33 = .ok (.getfield 12, 3) := by decide +kernel
theorem dX5_count_36 : decode cX5_count 36 = .ok (.getfield 74, 3) := by decide +kernel
theorem dX5_count_39 : decode cX5_count 39 = .ok (.ireturn, 1) := by decide +kernel
theorem dX5_count_40 : decode cX5_count 40 = .ok (.aload_n 0, 1) := by decide +kernel
theorem dX5_count_41 : decode cX5_count 41 = .ok (.getfield 12, 3) := by decide +kernel
theorem dX5_count_44 : decode cX5_count 44 = .ok (.invokevirtual 189, 3) := by decide +kernel
theorem dX5_count_47 : decode cX5_count 47 = .ok (.ireturn, 1) := by decide +kernel
theorem dX5_count_48 : decode cX5_count 48 = .ok (.aload_n 0, 1) := by decide +kernel
theorem dX5_count_49 : decode cX5_count 49 = .ok (.getfield 30, 3) := by decide +kernel
theorem dX5_count_52 : decode cX5_count 52 = .ok (.getfield 103, 3) := by decide +kernel
theorem dX5_count_55 : decode cX5_count 55 = .ok (.ireturn, 1) := by decide +kernel
theorem dX5_count_56 : decode cX5_count 56 = .ok (.aload_n 0, 1) := by decide +kernel
theorem dX5_count_57 : decode cX5_count 57 = .ok (.getfield 20, 3) := by decide +kernel
theorem dX5_count_60 : decode cX5_count 60 = .ok (.ireturn, 1) := by decide +kernel
theorem dX5_count_61 : decode cX5_count 61 = .ok (.bipush (-2), 2) := by decide +kernel
theorem dX5_count_63 : decode cX5_count 63 = .ok (.ireturn, 1) := by decide +kernel
theorem dX5_undo_0 : decode cX5_undo 0 = .ok (.aload_n 0, 1) := by decide +kernel
theorem dX5_undo_1 : decode cX5_undo 1 = .ok (.getfield 20, 3) := by decide +kernel
theorem dX5_undo_4 : decode cX5_undo 4 = .ok (.ifCond .gt 6, 3) := by decide +kernel
theorem dX5_undo_7 : decode cX5_undo 7 = .ok (.bipush (-5), 2) := by decide +kernel
theorem dX5_undo_9 : decode cX5_undo 9 = .ok (.ireturn, 1) := by decide +kernel
theorem dX5_undo_10 : decode cX5_undo 10 = .ok (.aload_n 0, 1) := by decide +kernel
theorem dX5_undo_11 : decode cX5_undo 11 = .ok (.dup, 1) := by decide +kernel
theorem dX5_undo_12 : decode cX5_undo 12 = .ok (.getfield 20, 3) := by decide +kernel
theorem dX5_undo_15 : decode cX5_undo 15 = .ok (.iconst 1, 1) := by decide +kernel
theorem dX5_undo_16 : decode cX5_undo 16 = .ok (.isub, 1) := by decide +kernel
theorem dX5_undo_17 : decode cX5_undo 17 = .ok (.putfield 20, 3) := by decide +kernel
theorem dX5_undo_20 : decode cX5_undo 20 = .ok (.aload_n 0, 1) := by decide +kernel
theorem dX5_undo_21 : decode cX5_undo 21 = .ok (.getfield 12, 3) := by decide +kernel
theorem dX5_undo_24 : decode cX5_undo 24 = .ok (.aload_n 0, 1) := by decide +kernel
theorem dX5_undo_25 : decode cX5_undo 25 = .ok (.getfield 16, 3) := by decide +kernel
theorem dX5_undo_28 : decode cX5_undo 28 = .ok (.aload_n 0, 1) := by decide +kernel
theorem dX5_undo_29 : decode cX5_undo 29 = .ok (.getfield 20, 3) := by decide +kernel
theorem dX5_undo_32 : decode cX5_undo 32 = .ok (.aaload, 1) := by decide +kernel
theorem dX5_undo_33 : decode cX5_undo 33 = .ok (.invokevirtual 192, 3) := by decide +kernel
theorem dX5_undo_36 : decode cX5_undo 36 = .ok (.aload_n 0, 1) := by decide +kernel
theorem dX5_undo_37 : decode cX5_undo 37 = .ok (.getfield 20, 3) := by decide +kernel
theorem dX5_undo_40 : decode cX5_undo 40 = .ok (.ireturn, 1) := by decide +kernel
theorem dX5_save_0 : decode cX5_save 0 = .ok (.iload_n 1, 1) := by decide +kernel
theorem dX5_save_1 : decode cX5_save 1 = .ok (.ifCond .lt 8, 3) := by decide +kernel
theorem dX5_save_4 : decode cX5_save 4 = .ok (.iload_n 1, 1) := by decide +kernel
theorem dX5_save_5 : decode cX5_save 5 = .ok (.iconst 2, 1) := by decide +kernel
theorem dX5_save_6 : decode cX5_save 6 = .ok (.if_icmp .lt 6, 3) := by decide +kernel
theorem dX5_save_9 : decode cX5_save 9 = .ok (.bipush (-2), 2) := by decide +kernel
theorem dX5_save_11 : decode cX5_save 11 = .ok (.ireturn, 1) := by decide +kernel
theorem dX5_save_12 : decode cX5_save 12 = .ok (.aload_n 0, 1) := by decide +kernel
theorem dX5_save_13 : decode cX5_save 13 = .ok (.getfield 24, 3) := by decide +kernel
theorem dX5_save_16 : decode cX5_save 16 = .ok (.iload_n 1, 1) := by decide +kernel
theorem dX5_save_17 : decode cX5_save 17 = .ok (.aaload, 1) := by decide +kernel
theorem dX5_save_18 : decode cX5_save 18 = .ok (.ifnonnull 16, 3) := by decide +kernel
theorem dX5_save_21 : decode cX5_save 21 = .ok (.aload_n 0, 1) := by decide +kernel
theorem dX5_save_22 : decode cX5_save 22 = .ok (.getfield 24, 3) := by decide +kernel
theorem dX5_save_25 : decode cX5_save 25 = .ok (.iload_n 1, 1) := by decide +kernel
theorem dX5_save_26 : decode cX5_save 26 = .ok (.new 9, 3) := by decide +kernel
theorem dX5_save_29 : decode cX5_save 29 = .ok (.dup, 1) := by decide +kernel
theorem dX5_save_30 : decode cX5_save 30 = .ok (.invokespecial 11, 3) := by decide +kernel
theorem dX5_save_33 : decode cX5_save 33 = .ok (.aastore, 1) := by decide +kernel
theorem dX5_save_34 : decode cX5_save 34 = .ok (.aload_n 0, 1) := by decide +kernel
theorem dX5_save_35 : decode cX5_save 35 = .ok (.getfield 24, 3) := by decide +kernel
theorem dX5_save_38 : decode cX5_save 38 = .ok (.iload_n 1, 1) := by decide +kernel
theorem dX5_save_39 : decode cX5_save 39 = .ok (.aaload, 1) := by decide +kernel
theorem dX5_save_40 : decode cX5_save 40 = .ok (.aload_n 0, 1) := by decide +kernel
theorem dX5_save_41 : decode cX5_save 41 = .ok (.getfield 12, 3) := by decide +kernel
theorem dX5_save_44 : decode cX5_save 44 = .ok (.invokevirtual 192, 3) := by decide +kernel
theorem dX5_save_47 : decode cX5_save 47 = .ok (.aload_n 0, 1) := by decide +kernel
theorem dX5_save_48 : decode cX5_save 48 = .ok (.getfield 12, 3) := by decide +kernel
theorem dX5_save_51 : decode cX5_save 51 = .ok (.getfield 74, 3) := by decide +kernel
theorem dX5_save_54 : decode cX5_save 54 = .ok (.ireturn, 1) := by decide +kernel
theorem dX5_restore_0 : decode cX5_restore 0 = .ok (.iload_n 1, 1) := by decide +kernel
theorem dX5_restore_1 : decode cX5_restore 1 = .ok (.ifCond .lt 8, 3) := by decide +kernel
theorem dX5_restore_4 : decode cX5_restore 4 = .ok (.iload_n 1, 1) := by decide +kernel
theorem dX5_restore_5 : decode cX5_restore 5 = .ok (.iconst 2, 1) := by decide +kernel
theorem dX5_restore_6 : decode cX5_restore 6 = .ok (.if_icmp .lt 6, 3) := by decide +kernel
theorem dX5_restore_9 : decode cX5_restore 9 = .ok (.bipush (-2), 2) := by decide +kernel
theorem dX5_restore_11 : decode cX5_restore 11 = .ok (.ireturn, 1) := by decide +kernel
theorem dX5_restore_12 : decode cX5_restore 12 = .ok (.aload_n 0, 1) := by decide +kernel
theorem dX5_restore_13 : decode cX5_restore 13 = .ok (.getfield 24, 3) := by decide +kernel
theorem dX5_restore_16 : decode cX5_restore 16 = .ok (.iload_n 1, 1) := by decide +kernel
theorem dX5_restore_17 : decode cX5_restore 17 = .ok (.aaload, 1) := by decide +kernel
theorem dX5_restore_18 : decode cX5_restore 18 = .ok (.ifnonnull 6, 3) := by decide +kernel
theorem dX5_restore_21 : decode cX5_restore 21 = .ok (.bipush (-5), 2) := by decide +kernel
theorem dX5_restore_23 : decode cX5_restore 23 = .ok (.ireturn, 1) := by decide +kernel
theorem dX5_restore_24 : decode cX5_restore 24 = .ok (.aload_n 0, 1) := by decide +kernel
theorem dX5_restore_25 : decode cX5_restore 25 = .ok (.invokevirtual 71, 3) := by decide +kernel
theorem dX5_restore_28 : decode cX5_restore 28 = .ok (.aload_n 0, 1) := by decide +kernel
theorem dX5_restore_29 : decode cX5_restore 29 = .ok (.getfield 12, 3) := by decide +kernel
theorem dX5_restore_32 : decode cX5_restore 32 = .ok (.aload_n 0, 1) := by decide +kernel
theorem dX5_restore_33 : decode cX5_restore 33 = .ok (.getfield 24, 3) := by decide +kernel
theorem dX5_restore_36 : decode cX5_restore 36 = .ok (.iload_n 1, 1) := by decide +kernel
theorem dX5_restore_37 : decode cX5_restore 37 = .ok (.aaload, 1) := by decide +kernel
theorem dX5_restore_38 : decode cX5_restore 38 = .ok (.invokevirtual 192, 3) := by decide +kernel
theorem dX5_restore_41 : decode cX5_restore 41 = .ok (.aload_n 0, 1) := by decide +kernel
theorem dX5_restore_42 : decode cX5_restore 42 = .ok (.getfield 12, 3) := by decide +kernel
theorem dX5_restore_45 : decode cX5_restore 45 = .ok (.getfield 74, 3) := by decide +kernel
theorem dX5_restore_48 : decode cX5_restore 48 = .ok (.ireturn, 1) := by decide +kernel
theorem dX5_remember_0 : decode cX5_remember 0 = .ok (.aload_n 0, 1) := by decide +kernel
theorem dX5_remember_1 : decode cX5_remember 1 = .ok (.getfield 20, 3) := by decide +kernel
theorem dX5_remember_4 : decode cX5_remember 4 = .ok (.bipush 6, 2) := by decide +kernel
theorem dX5_remember_6 : decode cX5_remember 6 = .ok (.if_icmp .lt 50, 3) := by decide +kernel
theorem dX5_remember_9 : decode cX5_remember 9 = .ok (.aload_n 0, 1) := by decide +kernel
theorem dX5_remember_10 : decode cX5_remember 10 = .ok (.getfield 16, 3) := by decide +kernel
theorem dX5_remember_13 : decode cX5_remember 13 = .ok (.iconst 0, 1) := by decide +kernel
theorem dX5_remember_14 : decode cX5_remember 14 = .ok (.aaload, 1) := by decide +kernel
theorem dX5_remember_15 : decode cX5_remember 15 = .ok (.astore_n 1, 1) := by decide +kernel
theorem dX5_remember_16 : decode cX5_remember 16 = .ok (.iconst 1, 1) := by decide +kernel
theorem dX5_remember_17 : decode cX5_remember 17 = .ok (.istore_n 2, 1) := by decide +kernel
theorem dX5_remember_18 : decode cX5_remember 18 = .ok (.iload_n 2, 1) := by decide +kernel
theorem dX5_remember_19 : decode cX5_remember 19 = .ok (.bipush 6, 2) := by decide +kernel
theorem dX5_remember_21 : decode cX5_remember 21 = .ok (.if_icmp .ge 23, 3) := by decide +kernel
theorem dX5_remember_24 : decode cX5_remember 24 = .ok (.aload_n 0, 1) := by decide +kernel
theorem dX5_remember_25 : decode cX5_remember 25 = .ok (.getfield 16, 3) := by decide +kernel
theorem dX5_remember_28 : decode cX5_remember 28 = .ok (.iload_n 2, 1) := by decide +kernel
theorem dX5_remember_29 : decode cX5_remember 29 = .ok (.iconst 1, 1) := by decide +kernel
theorem dX5_remember_30 : decode cX5_remember 30 = .ok (.isub, 1) := by decide +kernel
theorem dX5_remember_31 : decode cX5_remember 31 = .ok (.aload_n 0, 1) := by decide +kernel
theorem dX5_remember_32 : decode cX5_remember 32 = .ok (.getfield 16, 3) := by decide +kernel
theorem dX5_remember_35 : decode cX5_remember 35 = .ok (.iload_n 2, 1) := by decide +kernel
theorem dX5_remember_36 : decode cX5_remember 36 = .ok (.aaload, 1) := by decide +kernel
theorem dX5_remember_37 : decode cX5_remember 37 = .ok (.aastore, 1) := by decide +kernel
theorem dX5_remember_38 : decode cX5_remember 38 = .ok (.iinc 2 1, 3) := by decide +kernel
theorem dX5_remember_41 : decode cX5_remember 41 = .ok (.goto (-23), 3) := by decide +kernel
theorem dX5_remember_44 : decode cX5_remember 44 = .ok (.aload_n 0, 1) := by decide +kernel
theorem dX5_remember_45 : decode cX5_remember 45 = .ok (.getfield 16, 3) := by decide +kernel
theorem dX5_remember_48 : decode cX5_remember 48 = .ok (.iconst 5, 1) := by decide +kernel
theorem dX5_remember_49 : decode cX5_remember 49 = .ok (.aload_n 1, 1) := by decide +kernel
theorem dX5_remember_50 : decode cX5_remember 50 = .ok (.aastore, 1) := by decide +kernel
theorem dX5_remember_51 : decode cX5_remember 51 = .ok (.aload_n 0, 1) := by decide +kernel
theorem dX5_remember_52 : decode cX5_remember 52 = .ok (.iconst 5, 1) := by decide +kernel
theorem dX5_remember_53 : decode cX5_remember 53 = .ok (.putfield 20, 3) := by decide +kernel
theorem dX5_remember_56 : decode cX5_remember 56 = .ok (.aload_n 0, 1) := by decide +kernel
theorem dX5_remember_57 : decode cX5_remember 57 = .ok (.getfield 16, 3) := by decide +kernel
theorem dX5_remember_60 : decode cX5_remember 60 = .ok (.aload_n 0, 1) := by decide +kernel
theorem dX5_remember_61 : decode cX5_remember 61 = .ok (.getfield 20, 3) := by decide +kernel
theorem dX5_remember_64 : decode cX5_remember 64 = .ok (.aaload, 1) := by decide +kernel
theorem dX5_remember_65 : decode cX5_remember 65 = .ok (.aload_n 0, 1) := by decide +kernel
theorem dX5_remember_66 : decode cX5_remember 66 = .ok (.getfield 12, 3) := by decide +kernel
theorem dX5_remember_69 : decode cX5_remember 69 = .ok (.invokevirtual 192, 3) := by decide +kernel
theorem dX5_remember_72 : decode cX5_remember 72 = .ok (.aload_n 0, 1) := by decide +kernel
theorem dX5_remember_73 : decode cX5_remember 73 = .ok (.dup, 1) := by decide +kernel
theorem dX5_remember_74 : decode cX5_remember 74 = .ok (.getfield 20, 3) := by decide +kernel
theorem dX5_remember_77 : decode cX5_remember 77 = .ok (.iconst 1, 1) := by decide +kernel
theorem dX5_remember_78 : decode cX5_remember 78 = .ok (.iadd, 1) := by decide +kernel
theorem dX5_remember_79 : decode cX5_remember 79 = .ok (.putfield 20, 3) := by decide +kernel
theorem dX5_remember_82 : decode cX5_remember 82 = .ok (.return_, 1) := by decide +kernel
theorem dX5_isKind_0 : decode cX5_isKind 0 = .ok (.iload_n 0, 1) := by decide +kernel
theorem dX5_isKind_1 : decode cX5_isKind 1 = .ok (.ifCond .eq 13, 3) := by decide +kernel
theorem dX5_isKind_4 : decode cX5_isKind 4 = .ok (.iload_n 0, 1) := by decide +kernel
theorem dX5_isKind_5 : decode cX5_isKind 5 = .ok (.iconst 1, 1) := by decide +kernel
theorem dX5_isKind_6 : decode cX5_isKind 6 = .ok (.if_icmp .eq 8, 3) := by decide +kernel
theorem dX5_isKind_9 : decode cX5_isKind 9 = .ok (.iload_n 0, 1) := by decide +kernel
theorem dX5_isKind_10 : decode cX5_isKind 10 = .ok (.iconst 2, 1) := by decide +kernel
theorem dX5_isKind_11 : decode cX5_isKind 11 = .ok (.if_icmp .ne 7, 3) := by decide +kernel
theorem dX5_isKind_14 : decode cX5_isKind 14 = .ok (.iconst 1, 1) := by decide +kernel
theorem dX5_isKind_15 : decode cX5_isKind 15 = .ok (.goto 4, 3) := by decide +kernel
theorem dX5_isKind_18 : decode cX5_isKind 18 = .ok (.iconst 0, 1) := by decide +kernel
theorem dX5_isKind_19 : decode cX5_isKind 19 = .ok (.ireturn, 1) := by decide +kernel
theorem dX5_isPart_0 : decode cX5_isPart 0 = .ok (.iload_n 0, 1) := by decide +kernel
theorem dX5_isPart_1 : decode cX5_isPart 1 = .ok (.ifCond .eq 8, 3) := by decide +kernel
theorem dX5_isPart_4 : decode cX5_isPart 4 = .ok (.iload_n 0, 1) := by decide +kernel
theorem dX5_isPart_5 : decode cX5_isPart 5 = .ok (.iconst 1, 1) := by decide +kernel
theorem dX5_isPart_6 : decode cX5_isPart 6 = .ok (.if_icmp .ne 7, 3) := by decide +kernel
theorem dX5_isPart_9 : decode cX5_isPart 9 = .ok (.iconst 1, 1) := by decide +kernel
theorem dX5_isPart_10 : decode cX5_isPart 10 = .ok (.goto 4, 3) := by decide +kernel
theorem dX5_isPart_13 : decode cX5_isPart 13 = .ok (.iconst 0, 1) := by decide +kernel
theorem dX5_isPart_14 : decode cX5_isPart 14 = .ok (.ireturn, 1) := by decide +kernel
theorem dX5_isLoud_0 : decode cX5_isLoud 0 = .ok (.iload_n 0, 1) := by decide +kernel
theorem dX5_isLoud_1 : decode cX5_isLoud 1 = .ok (.ifCond .lt 12, 3) := by decide +kernel
theorem dX5_isLoud_4 : decode cX5_isLoud 4 = .ok (.iload_n 0, 1) := by decide +kernel
theorem dX5_isLoud_5 : decode cX5_isLoud 5 = .ok (.iconst 4, 1) := by decide +kernel
theorem dX5_isLoud_6 : decode cX5_isLoud 6 = .ok (.if_icmp .ge 7, 3) := by decide +kernel
theorem dX5_isLoud_9 : decode cX5_isLoud 9 = .ok (.iconst 1, 1) := by decide +kernel
theorem dX5_isLoud_10 : decode cX5_isLoud 10 = .ok (.goto 4, 3) := by decide +kernel
theorem dX5_isLoud_13 : decode cX5_isLoud 13 = .ok (.iconst 0, 1) := by decide +kernel
theorem dX5_isLoud_14 : decode cX5_isLoud 14 = .ok (.ireturn, 1) := by decide +kernel
theorem dX5_isCoin_0 : decode cX5_isCoin 0 = .ok (.iload_n 0, 1) := by decide +kernel
theorem dX5_isCoin_1 : decode cX5_isCoin 1 = .ok (.ifCond .lt 13, 3) := by decide +kernel
theorem dX5_isCoin_4 : decode cX5_isCoin 4 = .ok (.iload_n 0, 1) := by decide +kernel
theorem dX5_isCoin_5 : decode cX5_isCoin 5 = .ok (.bipush 6, 2) := by decide +kernel
theorem dX5_isCoin_7 : decode cX5_isCoin 7 = .ok (.if_icmp .ge 7, 3) := by decide +kernel
theorem dX5_isCoin_10 : decode cX5_isCoin 10 = .ok (.iconst 1, 1) := by decide +kernel
theorem dX5_isCoin_11 : decode cX5_isCoin 11 = .ok (.goto 4, 3) := by decide +kernel
theorem dX5_isCoin_14 : decode cX5_isCoin 14 = .ok (.iconst 0, 1) := by decide +kernel
theorem dX5_isCoin_15 : decode cX5_isCoin 15 = .ok (.ireturn, 1) := by decide +kernel
theorem dX5_isBarred_0 : decode cX5_isBarred 0 = .ok (.iload_n 0, 1) := by decide +kernel
theorem dX5_isBarred_1 : decode cX5_isBarred 1 = .ok (.iconst 4, 1) := by decide +kernel
theorem dX5_isBarred_2 : decode cX5_isBarred 2 = .ok (.if_icmp .lt 17, 3) := by decide +kernel
theorem dX5_isBarred_5 : decode cX5_isBarred 5 = .ok (.iload_n 1, 1) := by decide +kernel
theorem dX5_isBarred_6 : decode cX5_isBarred 6 = .ok (.iconst 4, 1) := by decide +kernel
theorem dX5_isBarred_7 : decode cX5_isBarred 7 = .ok (.if_icmp .lt 12, 3) := by decide +kernel
theorem dX5_isBarred_10 : decode cX5_isBarred 10 = .ok (.iload_n 0, 1) := by decide +kernel
theorem dX5_isBarred_11 : decode cX5_isBarred 11 = .ok (.iload_n 1, 1) := by decide +kernel
theorem dX5_isBarred_12 : decode cX5_isBarred 12 = .ok (.if_icmp .lt 7, 3) := by decide +kernel
theorem dX5_isBarred_15 : decode cX5_isBarred 15 = .ok (.iconst 1, 1) := by decide +kernel
theorem dX5_isBarred_16 : decode cX5_isBarred 16 = .ok (.goto 4, 3) := by decide +kernel
theorem dX5_isBarred_19 : decode cX5_isBarred 19 = .ok (.iconst 0, 1) := by decide +kernel
theorem dX5_isBarred_20 : decode cX5_isBarred 20 = .ok (.ireturn, 1) := by decide +kernel
theorem dX5_indexOf_0 : decode cX5_indexOf 0 = .ok (.iload_n 0, 1) := by decide +kernel
theorem dX5_indexOf_1 : decode cX5_indexOf 1 = .ok (.ifCond .ne 23, 3) := by decide +kernel
theorem dX5_indexOf_4 : decode cX5_indexOf 4 = .ok (.iload_n 1, 1) := by decide +kernel
theorem dX5_indexOf_5 : decode cX5_indexOf 5 = .ok (.invokestatic 195, 3) := by decide +kernel
theorem dX5_indexOf_8 : decode cX5_indexOf 8 = .ok (.ifCond .eq 14, 3) := by decide +kernel
theorem dX5_indexOf_11 : decode cX5_indexOf 11 = .ok (.iload_n 2, 1) := by decide +kernel
theorem dX5_indexOf_12 : decode cX5_indexOf 12 = .ok (.ifCond .ne 10, 3) := by decide +kernel
theorem dX5_indexOf_15 : decode cX5_indexOf 15 = .ok (.bipush 36, 2) := by decide +kernel
theorem dX5_indexOf_17 : decode cX5_indexOf 17 = .ok (.iload_n 1, 1) := by decide +kernel
theorem dX5_indexOf_18 : decode cX5_indexOf 18 = .ok (.iadd, 1) := by decide +kernel
theorem dX5_indexOf_19 : decode cX5_indexOf 19 = .ok (.goto 4, 3) := by decide +kernel
theorem dX5_indexOf_22 : decode cX5_indexOf 22 = .ok (.iconst (-1), 1) := by decide +kernel
theorem dX5_indexOf_23 : decode cX5_indexOf 23 = .ok (.ireturn, 1) := by decide +kernel
theorem dX5_indexOf_24 : decode cX5_indexOf 24 = .ok (.iload_n 0, 1) := by decide +kernel
theorem dX5_indexOf_25 : decode cX5_indexOf 25 = .ok (.iconst 1, 1) := by decide +kernel
theorem dX5_indexOf_26 : decode cX5_indexOf 26 = .ok (.if_icmp .ne 28, 3) := by decide +kernel
theorem dX5_indexOf_29 : decode cX5_indexOf 29 = .ok (.iload_n 1, 1) := by decide +kernel
theorem dX5_indexOf_30 : decode cX5_indexOf 30 = .ok (.invokestatic 195, 3) := by decide +kernel
theorem dX5_indexOf_33 : decode cX5_indexOf 33 = .ok (.ifCond .eq 19, 3) := by decide +kernel
theorem dX5_indexOf_36 : decode cX5_indexOf 36 = .ok (.iload_n 2, 1) := by decide +kernel
theorem dX5_indexOf_37 : decode cX5_indexOf 37 = .ok (.invokestatic 195, 3) := by decide +kernel
theorem dX5_indexOf_40 : decode cX5_indexOf 40 = .ok (.ifCond .eq 12, 3) := by decide +kernel
theorem dX5_indexOf_43 : decode cX5_indexOf 43 = .ok (.iload_n 1, 1) := by decide +kernel
theorem dX5_indexOf_44 : decode cX5_indexOf 44 = .ok (.bipush 6, 2) := by decide +kernel
theorem dX5_indexOf_46 : decode cX5_indexOf 46 = .ok (.imul, 1) := by decide +kernel
theorem dX5_indexOf_47 : decode cX5_indexOf 47 = .ok (.iload_n 2, 1) := by decide +kernel
theorem dX5_indexOf_48 : decode cX5_indexOf 48 = .ok (.iadd, 1) := by decide +kernel
theorem dX5_indexOf_49 : decode cX5_indexOf 49 = .ok (.goto 4, 3) := by decide +kernel
theorem dX5_indexOf_52 : decode cX5_indexOf 52 = .ok (.iconst (-1), 1) := by decide +kernel
theorem dX5_indexOf_53 : decode cX5_indexOf 53 = .ok (.ireturn, 1) := by decide +kernel
theorem dX5_indexOf_54 : decode cX5_indexOf 54 = .ok (.iload_n 1, 1) := by decide +kernel
theorem dX5_indexOf_55 : decode cX5_indexOf 55 = .ok (.invokestatic 121, 3) := by decide +kernel
theorem dX5_indexOf_58 : decode cX5_indexOf 58 = .ok (.ifCond .eq 23, 3) := by decide +kernel
theorem dX5_indexOf_61 : decode cX5_indexOf 61 = .ok (.iload_n 2, 1) := by decide +kernel
theorem dX5_indexOf_62 : decode cX5_indexOf 62 = .ok (.ifCond .lt 19, 3) := by decide +kernel
theorem dX5_indexOf_65 : decode cX5_indexOf 65 = .ok (.iload_n 2, 1) := by decide +kernel
theorem dX5_indexOf_66 : decode cX5_indexOf 66 = .ok (.iconst 4, 1) := by decide +kernel
theorem dX5_indexOf_67 : decode cX5_indexOf 67 = .ok (.if_icmp .ge 14, 3) := by decide +kernel
theorem dX5_indexOf_70 : decode cX5_indexOf 70 = .ok (.bipush 42, 2) := by decide +kernel
theorem dX5_indexOf_72 : decode cX5_indexOf 72 = .ok (.iload_n 1, 1) := by decide +kernel
theorem dX5_indexOf_73 : decode cX5_indexOf 73 = .ok (.iconst 4, 1) := by decide +kernel
theorem dX5_indexOf_74 : decode cX5_indexOf 74 = .ok (.imul, 1) := by decide +kernel
theorem dX5_indexOf_75 : decode cX5_indexOf 75 = .ok (.iadd, 1) := by decide +kernel
theorem dX5_indexOf_76 : decode cX5_indexOf 76 = .ok (.iload_n 2, 1) := by decide +kernel
theorem dX5_indexOf_77 : decode cX5_indexOf 77 = .ok (.iadd, 1) := by decide +kernel
theorem dX5_indexOf_78 : decode cX5_indexOf 78 = .ok (.goto 4, 3) := by decide +kernel
theorem dX5_indexOf_81 : decode cX5_indexOf 81 = .ok (.iconst (-1), 1) := by decide +kernel
theorem dX5_indexOf_82 : decode cX5_indexOf 82 = .ok (.ireturn, 1) := by decide +kernel
theorem dX5_inLowestTerms_0 : decode cX5_inLowestTerms 0 = .ok (.lload_n 0, 1) := by decide +kernel
theorem dX5_inLowestTerms_1 : decode cX5_inLowestTerms 1 = .ok (.lload_n 2, 1) := by decide +kernel
theorem dX5_inLowestTerms_2 : decode cX5_inLowestTerms 2 = .ok (.invokestatic 198, 3) := by decide +kernel
theorem dX5_inLowestTerms_5 : decode cX5_inLowestTerms 5 = .ok (.lstore 5, 2) := by decide +kernel
theorem dX5_inLowestTerms_7 : decode cX5_inLowestTerms 7 = .ok (.lload 5, 2) := by decide +kernel
theorem dX5_inLowestTerms_9 : decode cX5_inLowestTerms 9 = .ok (.lconst 0, 1) := by decide +kernel
theorem dX5_inLowestTerms_10 : decode cX5_inLowestTerms 10 = .ok (.lcmp, 1) := by decide +kernel
theorem dX5_inLowestTerms_11 : decode cX5_inLowestTerms 11 = .ok (.ifCond .ne 14, 3) := by decide +kernel
theorem dX5_inLowestTerms_14 : decode cX5_inLowestTerms 14 = .ok (.iload 4, 2) := by decide +kernel
theorem dX5_inLowestTerms_16 : decode cX5_inLowestTerms 16 = .ok (.ifCond .ne 7, 3) := by decide +kernel
theorem dX5_inLowestTerms_19 : decode cX5_inLowestTerms 19 = .ok (.lconst 0, 1) := by decide +kernel
theorem dX5_inLowestTerms_20 : decode cX5_inLowestTerms 20 = .ok (.goto 4, 3) := by decide +kernel
theorem dX5_inLowestTerms_23 : decode cX5_inLowestTerms 23 = .ok (.lconst 1, 1) := by decide +kernel
theorem dX5_inLowestTerms_24 : decode cX5_inLowestTerms 24 = .ok (.lreturn, 1) := by decide +kernel
theorem dX5_inLowestTerms_25 : decode cX5_inLowestTerms 25 = .ok (.iload 4, 2) := by decide +kernel
theorem dX5_inLowestTerms_27 : decode cX5_inLowestTerms 27 = .ok (.ifCond .ne 7, 3) := by decide +kernel
theorem dX5_inLowestTerms_30 : decode cX5_inLowestTerms 30 = .ok (.lload_n 0, 1) := by decide +kernel
theorem dX5_inLowestTerms_31 : decode cX5_inLowestTerms 31 = .ok (.goto 4, 3) := by decide +kernel
theorem dX5_inLowestTerms_34 : decode cX5_inLowestTerms 34 = .ok (.lload_n 2, 1) := by decide +kernel
theorem dX5_inLowestTerms_35 : decode cX5_inLowestTerms 35 = .ok (.lload 5, 2) := by decide +kernel
theorem dX5_inLowestTerms_37 : decode cX5_inLowestTerms 37 = .ok (.ldiv, 1) := by decide +kernel
theorem dX5_inLowestTerms_38 : decode cX5_inLowestTerms 38 = .ok (.lreturn, 1) := by decide +kernel
theorem dX5_commonDivisor_0 : decode cX5_commonDivisor 0 = .ok (.lload_n 0, 1) := by decide +kernel
theorem dX5_commonDivisor_1 : decode cX5_commonDivisor 1 = .ok (.lstore 4, 2) := by decide +kernel
theorem dX5_commonDivisor_3 : decode cX5_commonDivisor 3 = .ok (.lload_n 2, 1) := by decide +kernel
theorem dX5_commonDivisor_4 : decode cX5_commonDivisor 4 = .ok (.lstore 6, 2) := by decide +kernel
theorem dX5_commonDivisor_6 : decode cX5_commonDivisor 6 = .ok (.iconst 0, 1) := by decide +kernel
theorem dX5_commonDivisor_7 : decode cX5_commonDivisor 7 = .ok (.istore 8, 2) := by decide +kernel
theorem dX5_commonDivisor_9 : decode cX5_commonDivisor 9 = .ok (.iload 8, 2) := by decide +kernel
theorem dX5_commonDivisor_11 : decode cX5_commonDivisor 11 = .ok (.bipush 100, 2) := by decide +kernel
theorem dX5_commonDivisor_13 : decode cX5_commonDivisor 13 = .ok (.if_icmp .ge 31, 3) := by decide +kernel
theorem dX5_commonDivisor_16 : decode cX5_commonDivisor 16 = .ok (.lload 6, 2) := by decide +kernel
theorem dX5_commonDivisor_18 : decode cX5_commonDivisor 18 = .ok (.lconst 0, 1) := by decide +kernel
theorem dX5_commonDivisor_19 : decode cX5_commonDivisor 19 = .ok (.lcmp, 1) := by decide +kernel
theorem dX5_commonDivisor_20 : decode cX5_commonDivisor 20 = .ok (.ifCond .eq 24, 3) := by decide +kernel
theorem dX5_commonDivisor_23 : decode cX5_commonDivisor 23 = .ok (.lload 4, 2) := by decide +kernel
theorem dX5_commonDivisor_25 : decode cX5_commonDivisor 25 = .ok (.lload 6, 2) := by decide +kernel
theorem dX5_commonDivisor_27 : decode cX5_commonDivisor 27 = .ok (.lrem, 1) := by decide +kernel
theorem dX5_commonDivisor_28 : decode cX5_commonDivisor 28 = .ok (.lstore 9, 2) := by decide +kernel
theorem dX5_commonDivisor_30 : decode cX5_commonDivisor 30 = .ok (.lload 6, 2) := by decide +kernel
theorem dX5_commonDivisor_32 : decode cX5_commonDivisor 32 = .ok (.lstore 4, 2) := by decide +kernel
theorem dX5_commonDivisor_34 : decode cX5_commonDivisor 34 = .ok (.lload 9, 2) := by decide +kernel
theorem dX5_commonDivisor_36 : decode cX5_commonDivisor 36 = .ok (.lstore 6, 2) := by decide +kernel
theorem dX5_commonDivisor_38 : decode cX5_commonDivisor 38 = .ok (.iinc 8 1, 3) := by decide +kernel
theorem dX5_commonDivisor_41 : decode cX5_commonDivisor 41 = .ok (.goto (-32), 3) := by decide +kernel
theorem dX5_commonDivisor_44 : decode cX5_commonDivisor 44 = .ok (.lload 4, 2) := by decide +kernel
theorem dX5_commonDivisor_46 : decode cX5_commonDivisor 46 = .ok (.lreturn, 1) := by decide +kernel
theorem dX5_bitsOf_0 : decode cX5_bitsOf 0 = .ok (.bipush 127, 2) := by decide +kernel
theorem dX5_bitsOf_2 : decode cX5_bitsOf 2 = .ok (.istore_n 1, 1) := by decide +kernel
theorem dX5_bitsOf_3 : decode cX5_bitsOf 3 = .ok (.fload_n 0, 1) := by decide +kernel
theorem dX5_bitsOf_4 : decode cX5_bitsOf 4 = .ok (.fstore_n 2, 1) := by decide +kernel
theorem dX5_bitsOf_5 : decode cX5_bitsOf 5 = .ok (.fload_n 2, 1) := by decide +kernel
theorem dX5_bitsOf_6 : decode cX5_bitsOf 6 = .ok (.fconst 1, 1) := by decide +kernel
theorem dX5_bitsOf_7 : decode cX5_bitsOf 7 = .ok (.fcmp .g, 1) := by decide +kernel
theorem dX5_bitsOf_8 : decode cX5_bitsOf 8 = .ok (.ifCond .ge 18, 3) := by decide +kernel
theorem dX5_bitsOf_11 : decode cX5_bitsOf 11 = .ok (.iload_n 1, 1) := by decide +kernel
theorem dX5_bitsOf_12 : decode cX5_bitsOf 12 = .ok (.iconst 1, 1) := by decide +kernel
theorem dX5_bitsOf_13 : decode cX5_bitsOf 13 = .ok (.if_icmp .le 13, 3) := by decide +kernel
theorem dX5_bitsOf_16 : decode cX5_bitsOf 16 = .ok (.fload_n 2, 1) := by decide +kernel
theorem dX5_bitsOf_17 : decode cX5_bitsOf 17 = .ok (.fconst 2, 1) := by decide +kernel
theorem dX5_bitsOf_18 : decode cX5_bitsOf 18 = .ok (.fmul, 1) := by decide +kernel
theorem dX5_bitsOf_19 : decode cX5_bitsOf 19 = .ok (.fstore_n 2, 1) := by decide +kernel
theorem dX5_bitsOf_20 : decode cX5_bitsOf 20 = .ok (.iinc 1 (-1), 3) := by decide +kernel
theorem dX5_bitsOf_23 : decode cX5_bitsOf 23 = .ok (.goto (-18), 3) := by decide +kernel
theorem dX5_bitsOf_26 : decode cX5_bitsOf 26 = .ok (.fload_n 2, 1) := by decide +kernel
theorem dX5_bitsOf_27 : decode cX5_bitsOf 27 = .ok (.fconst 1, 1) := by decide +kernel
theorem dX5_bitsOf_28 : decode cX5_bitsOf 28 = .ok (.fsub, 1) := by decide +kernel
theorem dX5_bitsOf_29 : decode cX5_bitsOf 29 = .ok (.ldc 202, 2) := by decide +kernel
theorem dX5_bitsOf_31 : decode cX5_bitsOf 31 = .ok (.fmul, 1) := by decide +kernel
theorem dX5_bitsOf_32 : decode cX5_bitsOf 32 = .ok (.f2i, 1) := by decide +kernel
theorem dX5_bitsOf_33 : decode cX5_bitsOf 33 = .ok (.istore_n 3, 1) := by decide +kernel
theorem dX5_bitsOf_34 : decode cX5_bitsOf 34 = .ok (.iload_n 1, 1) := by decide +kernel
theorem dX5_bitsOf_35 : decode cX5_bitsOf 35 = .ok (.bipush 23, 2) := by decide +kernel
theorem dX5_bitsOf_37 : decode cX5_bitsOf 37 = .ok (.ishl, 1) := by decide +kernel
theorem dX5_bitsOf_38 : decode cX5_bitsOf 38 = .ok (.iload_n 3, 1) := by decide +kernel
theorem dX5_bitsOf_39 : decode cX5_bitsOf 39 = .ok (.ior, 1) := by decide +kernel
theorem dX5_bitsOf_40 : decode cX5_bitsOf 40 = .ok (.ireturn, 1) := by decide +kernel
end
section
theorem kd_0 : kd 0 = (15, 8) := by decide +kernel
theorem kd_1 : kd 1 = (10, 3) := by decide +kernel
theorem kd_2 : kd 2 = (0, 58) := by decide +kernel
theorem kd_3 : kd 3 = (0, 6) := by decide +kernel
theorem kd_4 : kd 4 = (4, 6) := by decide +kernel
theorem kd_5 : kd 5 = (4, 2) := by decide +kernel
theorem kd_6 : kd 6 = (11, 4) := by decide +kernel
theorem kd_7 : kd 7 = (2, 80) := by decide +kernel
theorem kd_8 : kd 8 = (12, 5) := by decide +kernel
theorem kd_9 : kd 9 = (5, 7) := by decide +kernel
theorem kd_10 : kd 10 = (1, 7) := by decide +kernel
theorem kd_11 : kd 11 = (1, 7) := by decide +kernel
theorem kd_12 : kd 12 = (1, 7) := by decide +kernel
theorem kd_13 : kd 13 = (1, 7) := by decide +kernel
theorem kd_14 : kd 14 = (1, 7) := by decide +kernel
theorem kd_15 : kd 15 = (1, 7) := by decide +kernel
theorem kd_16 : kd 16 = (1, 7) := by decide +kernel
theorem kd_17 : kd 17 = (5, 7) := by decide +kernel
theorem kd_18 : kd 18 = (1, 4) := by decide +kernel
theorem kd_19 : kd 19 = (1, 4) := by decide +kernel
theorem kd_20 : kd 20 = (1, 4) := by decide +kernel
theorem kd_21 : kd 21 = (1, 4) := by decide +kernel
theorem kd_22 : kd 22 = (1, 4) := by decide +kernel
theorem kd_23 : kd 23 = (1, 4) := by decide +kernel
theorem kd_24 : kd 24 = (1, 4) := by decide +kernel
theorem kd_25 : kd 25 = (5, 7) := by decide +kernel
theorem kd_26 : kd 26 = (1, 7) := by decide +kernel
theorem kd_27 : kd 27 = (1, 7) := by decide +kernel
theorem kd_28 : kd 28 = (1, 7) := by decide +kernel
theorem kd_29 : kd 29 = (1, 7) := by decide +kernel
theorem kd_30 : kd 30 = (1, 7) := by decide +kernel
theorem kd_31 : kd 31 = (1, 7) := by decide +kernel
theorem kd_32 : kd 32 = (1, 7) := by decide +kernel
theorem kd_33 : kd 33 = (5, 7) := by decide +kernel
theorem kd_34 : kd 34 = (1, 7) := by decide +kernel
theorem kd_35 : kd 35 = (1, 7) := by decide +kernel
theorem kd_36 : kd 36 = (1, 7) := by decide +kernel
theorem kd_37 : kd 37 = (1, 7) := by decide +kernel
theorem kd_38 : kd 38 = (1, 7) := by decide +kernel
theorem kd_39 : kd 39 = (1, 7) := by decide +kernel
theorem kd_40 : kd 40 = (1, 7) := by decide +kernel
theorem kd_41 : kd 41 = (6, 7) := by decide +kernel
theorem kd_42 : kd 42 = (0, 7) := by decide +kernel
theorem kd_43 : kd 43 = (0, 7) := by decide +kernel
theorem kd_44 : kd 44 = (0, 7) := by decide +kernel
theorem kd_45 : kd 45 = (0, 7) := by decide +kernel
theorem kd_46 : kd 46 = (0, 7) := by decide +kernel
theorem kd_47 : kd 47 = (0, 7) := by decide +kernel
theorem kd_48 : kd 48 = (0, 7) := by decide +kernel
theorem kd_49 : kd 49 = (14, 4) := by decide +kernel
theorem kd_50 : kd 50 = (0, 18) := by decide +kernel
theorem kd_51 : kd 51 = (13, 1) := by decide +kernel
theorem kd_52 : kd 52 = (1, 58) := by decide +kernel
theorem kd_53 : kd 53 = (10, 3) := by decide +kernel
theorem kd_54 : kd 54 = (0, 58) := by decide +kernel
theorem kd_55 : kd 55 = (0, 6) := by decide +kernel
theorem kd_56 : kd 56 = (10, 3) := by decide +kernel
theorem kd_57 : kd 57 = (0, 58) := by decide +kernel
theorem kd_58 : kd 58 = (0, 6) := by decide +kernel
theorem kd_59 : kd 59 = (10, 3) := by decide +kernel
theorem kd_60 : kd 60 = (0, 58) := by decide +kernel
theorem kd_61 : kd 61 = (0, 6) := by decide +kernel
theorem kd_62 : kd 62 = (10, 3) := by decide +kernel
theorem kd_63 : kd 63 = (0, 58) := by decide +kernel
theorem kd_64 : kd 64 = (0, 6) := by decide +kernel
theorem kd_65 : kd 65 = (10, 3) := by decide +kernel
theorem kd_66 : kd 66 = (0, 58) := by decide +kernel
theorem kd_67 : kd 67 = (0, 6) := by decide +kernel
theorem kd_68 : kd 68 = (10, 3) := by decide +kernel
theorem kd_69 : kd 69 = (0, 58) := by decide +kernel
theorem kd_70 : kd 70 = (0, 6) := by decide +kernel
theorem kd_71 : kd 71 = (16, 16) := by decide +kernel
theorem kd_72 : kd 72 = (0, 70) := by decide +kernel
theorem kd_73 : kd 73 = (0, 420) := by decide +kernel
theorem kd_74 : kd 74 = (0, 140) := by decide +kernel
theorem kd_75 : kd 75 = (3, 2) := by decide +kernel
theorem kd_76 : kd 76 = (0, 80) := by decide +kernel
theorem kd_77 : kd 77 = (1, 42) := by decide +kernel
theorem kd_78 : kd 78 = (1, 42) := by decide +kernel
theorem kd_79 : kd 79 = (0, 42) := by decide +kernel
theorem kd_80 : kd 80 = (1, 42) := by decide +kernel
theorem kd_81 : kd 81 = (0, 20) := by decide +kernel
theorem kd_82 : kd 82 = (1, 58) := by decide +kernel
theorem kd_r10 {t : Nat} (h : t < 7) : kd (10 + t) = (1, 7) := (show ∀ i, i < 7 → kd (10 + i) = (1, 7) by decide +kernel) t h
theorem kd_r18 {t : Nat} (h : t < 7) : kd (18 + t) = (1, 4) := (show ∀ i, i < 7 → kd (18 + i) = (1, 4) by decide +kernel) t h
theorem kd_r26 {t : Nat} (h : t < 7) : kd (26 + t) = (1, 7) := (show ∀ i, i < 7 → kd (26 + i) = (1, 7) by decide +kernel) t h
theorem kd_r34 {t : Nat} (h : t < 7) : kd (34 + t) = (1, 7) := (show ∀ i, i < 7 → kd (34 + i) = (1, 7) by decide +kernel) t h
theorem kd_r42 {t : Nat} (h : t < 7) : kd (42 + t) = (0, 7) := (show ∀ i, i < 7 → kd (42 + i) = (0, 7) by decide +kernel) t h
def mdl (x : Nat) : Prop := kd x = (10, 3) ∧ kd (x + 1) = (0, 58) ∧ kd (x + 2) = (0, 6)
theorem mdl_1 : mdl 1 := ⟨by decide +kernel, by decide +kernel, by decide +kernel⟩
theorem mdl_h {i : Nat} (h : i < 6) : mdl (53 + 3 * i) := ⟨(show ∀ i, i < 6 → kd (53 + 3 * i) = (10, 3) by decide +kernel) i h, (show ∀ i, i < 6 → kd (53 + 3 * i + 1) = (0, 58) by decide +kernel) i h, (show ∀ i, i < 6 → kd (53 + 3 * i + 2) = (0, 6) by decide +kernel) i h⟩
theorem mdl_s (i : Nat) : mdl (83 + 3 * i) := by
  refine ⟨?_, ?_, ?_⟩
  · unfold kd; rw [if_neg (by omega), if_pos (by omega)]
  · unfold kd; rw [if_neg (by omega), if_neg (by omega), if_pos (by omega)]
  · unfold kd; rw [if_neg (by omega), if_neg (by omega), if_neg (by omega)]
def lkf (a j : Nat) : Option Nat := match (kd a).1 with
  | 10 => if j < 2 then some (a + 1 + j) else none
  | 11 => if j = 0 then some (a + 1) else none
  | 12 => if j < 5 then some (a + 1 + 8 * j) else none
  | 13 => if j = 0 then some (a + 1) else none
  | 14 => if j = 0 then some (a + 1) else none
  | 15 => [some 1, some 4, none, some 5, some 6, some 8, some 49, some 51].getD j none
  | 16 => [some 72, some 73, none, some 74, some 75, some 76, none, some 77, some 78, some 79, some 80, some 81, none, none, some 82].getD j none
  | 5 => if j < 7 then some (a + 1 + j) else none
  | 6 => if j < 7 then some (a + 1 + j) else none
  | _ => none
def LkOK (n : Nat) (R : Rc) : Prop := ∀ a j y, a < n → lkf a j = some y → R a j = some y
theorem lk_m {n : Nat} {R : Rc} {x j : Nat} (h : LkOK n R) (hx : x < n) (hk : mdl x) (hj : j < 2) : R x j = some (x + 1 + j) := h x j _ hx (by unfold lkf; rw [hk.1]; simp [hj])
theorem lk_row9 {n : Nat} {R : Rc} {t : Nat} (h : LkOK n R) (hn : 9 < n) (ht : t < 7) : R 9 t = some (10 + t) := h 9 t _ hn (by unfold lkf; rw [kd_9]; simp [ht])
theorem lk_row17 {n : Nat} {R : Rc} {t : Nat} (h : LkOK n R) (hn : 17 < n) (ht : t < 7) : R 17 t = some (18 + t) := h 17 t _ hn (by unfold lkf; rw [kd_17]; simp [ht])
theorem lk_row25 {n : Nat} {R : Rc} {t : Nat} (h : LkOK n R) (hn : 25 < n) (ht : t < 7) : R 25 t = some (26 + t) := h 25 t _ hn (by unfold lkf; rw [kd_25]; simp [ht])
theorem lk_row33 {n : Nat} {R : Rc} {t : Nat} (h : LkOK n R) (hn : 33 < n) (ht : t < 7) : R 33 t = some (34 + t) := h 33 t _ hn (by unfold lkf; rw [kd_33]; simp [ht])
theorem lk_row41 {n : Nat} {R : Rc} {t : Nat} (h : LkOK n R) (hn : 41 < n) (ht : t < 7) : R 41 t = some (42 + t) := h 41 t _ hn (by unfold lkf; rw [kd_41]; simp [ht])
theorem mw_X5_init : mI yX5_init cX5_init 2 0 := ⟨⟨gw_14, gw_1, gw_15⟩, rfl, by decide +kernel⟩
theorem mw_X0_init : mI yX0_init cX0_init 1 0 := ⟨⟨gw_22, gw_2, gw_23⟩, rfl, by decide +kernel⟩
theorem mw_X1_init : mI yX1_init cX1_init 1 0 := ⟨⟨gw_49, gw_3, gw_50⟩, rfl, by decide +kernel⟩
theorem mw_X2_init : mI yX2_init cX2_init 1 0 := ⟨⟨gw_72, gw_4, gw_73⟩, rfl, by decide +kernel⟩
theorem mw_X4_init : mI yX4_init cX4_init 1 0 := ⟨⟨gw_103, gw_5, gw_104⟩, rfl, by decide +kernel⟩
theorem mw_X3_init : mI yX3_init cX3_init 1 0 := ⟨⟨gw_123, gw_6, gw_124⟩, rfl, by decide +kernel⟩
theorem mw_X5_give : mV yX5_give cX5_give 7 (some .int) "CoinRows" 4 := ⟨⟨gw_156, gw_157, gw_1, gw_158⟩, by decide +kernel⟩
theorem mw_X5_isKind : mS yX5_isKind cX5_isKind 1 (some .boolean) "CoinRows" 1 := ⟨⟨gw_160, gw_1, gw_161⟩, by decide +kernel⟩
theorem mw_X5_indexOf : mS yX5_indexOf cX5_indexOf 3 (some .int) "CoinRows" 3 := ⟨⟨gw_163, gw_1, gw_164⟩, by decide +kernel⟩
theorem mw_X5_isCoin : mS yX5_isCoin cX5_isCoin 1 (some .boolean) "CoinRows" 1 := ⟨⟨gw_166, gw_1, gw_167⟩, by decide +kernel⟩
theorem mw_X5_isLoud : mS yX5_isLoud cX5_isLoud 1 (some .boolean) "CoinRows" 1 := ⟨⟨gw_169, gw_1, gw_170⟩, by decide +kernel⟩
theorem mw_X5_isBarred : mS yX5_isBarred cX5_isBarred 2 (some .boolean) "CoinRows" 2 := ⟨⟨gw_172, gw_1, gw_173⟩, by decide +kernel⟩
theorem mw_X5_remember : mV yX5_remember cX5_remember 3 none "CoinRows" 0 := ⟨⟨gw_176, gs_0, gw_1, gw_177⟩, by decide +kernel⟩
theorem mw_X0_copyFrom : mV yX0_copyFrom cX0_copyFrom 2 none "CoinRows$Model" 1 := ⟨⟨gw_179, gw_180, gw_2, gw_181⟩, by decide +kernel⟩
theorem mw_X5_weight : mV yX5_weight cX5_weight 5 (some .int) "CoinRows" 3 := ⟨⟨gw_186, gw_187, gw_1, gw_188⟩, by decide +kernel⟩
theorem mw_X5_add : mV yX5_add cX5_add 2 (some .int) "CoinRows" 1 := ⟨⟨gw_190, gw_191, gw_1, gw_192⟩, by decide +kernel⟩
theorem mw_X0_append : mV yX0_append cX0_append 2 none "CoinRows$Model" 1 := ⟨⟨gw_194, gw_195, gw_2, gw_196⟩, by decide +kernel⟩
theorem mw_X5_cut : mV yX5_cut cX5_cut 1 (some .int) "CoinRows" 0 := ⟨⟨gw_198, gw_199, gw_1, gw_200⟩, by decide +kernel⟩
theorem mw_X5_letter : mV yX5_letter cX5_letter 2 (some .int) "CoinRows" 1 := ⟨⟨gw_202, gw_203, gw_1, gw_204⟩, by decide +kernel⟩
theorem mw_X0_hasPlace : mV yX0_hasPlace cX0_hasPlace 2 (some .boolean) "CoinRows$Model" 1 := ⟨⟨gw_206, gw_207, gw_2, gw_208⟩, by decide +kernel⟩
theorem mw_X5_train : mV yX5_train cX5_train 1 (some .int) "CoinRows" 0 := ⟨⟨gw_210, gw_211, gw_1, gw_212⟩, by decide +kernel⟩
theorem mw_X2_measure : mV yX2_measure cX2_measure 2 none "CoinRows$Sums" 1 := ⟨⟨gw_214, gw_215, gw_4, gw_216⟩, by decide +kernel⟩
theorem mw_X2_sumBeginnings : mV yX2_sumBeginnings cX2_sumBeginnings 4 none "CoinRows$Sums" 1 := ⟨⟨gw_219, gs_1, gw_4, gw_220⟩, by decide +kernel⟩
theorem mw_X2_arrive : mV yX2_arrive cX2_arrive 7 (some .long) "CoinRows$Sums" 3 := ⟨⟨gw_223, gs_2, gw_4, gw_224⟩, by decide +kernel⟩
theorem mw_X0_stepWeight : mV yX0_stepWeight cX0_stepWeight 3 (some .int) "CoinRows$Model" 2 := ⟨⟨gw_226, gw_227, gw_2, gw_228⟩, by decide +kernel⟩
theorem mw_X0_letterWeight : mV yX0_letterWeight cX0_letterWeight 3 (some .int) "CoinRows$Model" 2 := ⟨⟨gw_230, gw_231, gw_2, gw_232⟩, by decide +kernel⟩
theorem mw_X2_sumRests : mV yX2_sumRests cX2_sumRests 4 none "CoinRows$Sums" 1 := ⟨⟨gw_235, gs_3, gw_4, gw_236⟩, by decide +kernel⟩
theorem mw_X2_sumRestsBehind : mV yX2_sumRestsBehind cX2_sumRestsBehind 12 none "CoinRows$Sums" 3 := ⟨⟨gw_239, gs_4, gw_4, gw_240⟩, by decide +kernel⟩
theorem mw_X0_moveWeight : mV yX0_moveWeight cX0_moveWeight 4 (some .int) "CoinRows$Model" 3 := ⟨⟨gw_242, gw_243, gw_2, gw_244⟩, by decide +kernel⟩
theorem mw_X2_whole : mV yX2_whole cX2_whole 1 (some .long) "CoinRows$Sums" 0 := ⟨⟨gw_251, gw_252, gw_4, gw_253⟩, by decide +kernel⟩
theorem mw_X3_improve : mV yX3_improve cX3_improve 5 (some .int) "CoinRows$Trainer" 2 := ⟨⟨gw_255, gw_256, gw_6, gw_257⟩, by decide +kernel⟩
theorem mw_X2_ofStep : mV yX2_ofStep cX2_ofStep 8 (some .long) "CoinRows$Sums" 3 := ⟨⟨gw_259, gw_260, gw_4, gw_261⟩, by decide +kernel⟩
theorem mw_X2_ofLetter : mV yX2_ofLetter cX2_ofLetter 7 (some .long) "CoinRows$Sums" 3 := ⟨⟨gw_263, gw_264, gw_4, gw_265⟩, by decide +kernel⟩
theorem mw_X2_through : mV yX2_through cX2_through 3 (some .long) "CoinRows$Sums" 2 := ⟨⟨gw_267, gw_268, gw_4, gw_269⟩, by decide +kernel⟩
theorem mw_X3_improveGroup : mV yX3_improveGroup cX3_improveGroup 9 (some .int) "CoinRows$Trainer" 3 := ⟨⟨gw_272, gs_5, gw_6, gw_273⟩, by decide +kernel⟩
theorem mw_X5_put : mV yX5_put cX5_put 4 (some .int) "CoinRows" 1 := ⟨⟨gw_278, gw_279, gw_1, gw_280⟩, by decide +kernel⟩
theorem mw_X1_countSigns : mS yX1_countSigns cX1_countSigns 5 (some .int) "CoinRows$Pad" 1 := ⟨⟨gw_282, gw_3, gw_283⟩, by decide +kernel⟩
theorem mw_X1_append : mV yX1_append cX1_append 5 none "CoinRows$Pad" 2 := ⟨⟨gw_288, gw_289, gw_3, gw_290⟩, by decide +kernel⟩
theorem mw_X5_wipe : mV yX5_wipe cX5_wipe 1 (some .int) "CoinRows" 0 := ⟨⟨gw_292, gw_293, gw_1, gw_294⟩, by decide +kernel⟩
theorem mw_X1_clear : mV yX1_clear cX1_clear 2 (some .int) "CoinRows$Pad" 0 := ⟨⟨gw_296, gw_297, gw_3, gw_298⟩, by decide +kernel⟩
theorem mw_X5_fault : mV yX5_fault cX5_fault 1 (some .int) "CoinRows" 0 := ⟨⟨gw_300, gw_301, gw_1, gw_302⟩, by decide +kernel⟩
theorem mw_X1_read : mV yX1_read cX1_read 2 (some .boolean) "CoinRows$Pad" 1 := ⟨⟨gw_304, gw_305, gw_3, gw_306⟩, by decide +kernel⟩
theorem mw_X1_readPart : mV yX1_readPart cX1_readPart 3 (some .boolean) "CoinRows$Pad" 1 := ⟨⟨gw_309, gs_6, gw_3, gw_310⟩, by decide +kernel⟩
theorem mw_X1_accept : mV yX1_accept cX1_accept 3 (some .boolean) "CoinRows$Pad" 2 := ⟨⟨gw_313, gs_7, gw_3, gw_314⟩, by decide +kernel⟩
theorem mw_X1_readBegin : mV yX1_readBegin cX1_readBegin 2 (some .boolean) "CoinRows$Pad" 1 := ⟨⟨gw_317, gs_8, gw_3, gw_318⟩, by decide +kernel⟩
theorem mw_X1_latest : mV yX1_latest cX1_latest 1 (some .int) "CoinRows$Pad" 0 := ⟨⟨gw_321, gs_9, gw_3, gw_322⟩, by decide +kernel⟩
theorem mw_X1_readWeight : mV yX1_readWeight cX1_readWeight 4 (some .boolean) "CoinRows$Pad" 3 := ⟨⟨gw_325, gs_10, gw_3, gw_326⟩, by decide +kernel⟩
theorem mw_X1_readRow : mV yX1_readRow cX1_readRow 3 (some .boolean) "CoinRows$Pad" 1 := ⟨⟨gw_329, gs_11, gw_3, gw_330⟩, by decide +kernel⟩
theorem mw_X1_readStep : mV yX1_readStep cX1_readStep 4 (some .boolean) "CoinRows$Pad" 2 := ⟨⟨gw_334, gs_12, gw_3, gw_335⟩, by decide +kernel⟩
theorem mw_X1_readLetter : mV yX1_readLetter cX1_readLetter 3 (some .boolean) "CoinRows$Pad" 2 := ⟨⟨gw_339, gs_13, gw_3, gw_340⟩, by decide +kernel⟩
theorem mw_X5_load : mV yX5_load cX5_load 1 (some .int) "CoinRows" 0 := ⟨⟨gw_342, gw_343, gw_1, gw_344⟩, by decide +kernel⟩
theorem mw_X5_total : mV yX5_total cX5_total 1 (some .long) "CoinRows" 0 := ⟨⟨gw_346, gw_347, gw_1, gw_348⟩, by decide +kernel⟩
theorem mw_X5_forward : mV yX5_forward cX5_forward 3 (some .long) "CoinRows" 2 := ⟨⟨gw_350, gw_351, gw_1, gw_352⟩, by decide +kernel⟩
theorem mw_X5_backward : mV yX5_backward cX5_backward 3 (some .long) "CoinRows" 2 := ⟨⟨gw_355, gw_356, gw_1, gw_357⟩, by decide +kernel⟩
theorem mw_X5_ways : mV yX5_ways cX5_ways 1 (some .int) "CoinRows" 0 := ⟨⟨gw_359, gw_360, gw_1, gw_361⟩, by decide +kernel⟩
theorem mw_X2_number : mV yX2_number cX2_number 1 (some .int) "CoinRows$Sums" 0 := ⟨⟨gw_363, gw_364, gw_4, gw_365⟩, by decide +kernel⟩
theorem mw_X5_way : mV yX5_way cX5_way 3 (some .int) "CoinRows" 2 := ⟨⟨gw_367, gw_368, gw_1, gw_369⟩, by decide +kernel⟩
theorem mw_X4_follow : mV yX4_follow cX4_follow 8 none "CoinRows$Walk" 3 := ⟨⟨gw_371, gw_372, gw_5, gw_373⟩, by decide +kernel⟩
theorem mw_X4_chooseByNumber : mV yX4_chooseByNumber cX4_chooseByNumber 8 (some .int) "CoinRows$Walk" 5 := ⟨⟨gw_376, gs_14, gw_5, gw_377⟩, by decide +kernel⟩
theorem mw_X4_restsThrough : mS yX4_restsThrough cX4_restsThrough 6 (some .int) "CoinRows$Walk" 5 := ⟨⟨gw_379, gw_5, gw_380⟩, by decide +kernel⟩
theorem mw_X4_tell : mV yX4_tell cX4_tell 2 (some .int) "CoinRows$Walk" 1 := ⟨⟨gw_383, gw_384, gw_5, gw_385⟩, by decide +kernel⟩
theorem mw_X5_weighs : mV yX5_weighs cX5_weighs 2 (some .long) "CoinRows" 1 := ⟨⟨gw_387, gw_388, gw_1, gw_389⟩, by decide +kernel⟩
theorem mw_X5_likeliest : mV yX5_likeliest cX5_likeliest 3 (some .int) "CoinRows" 1 := ⟨⟨gw_391, gw_392, gw_1, gw_393⟩, by decide +kernel⟩
theorem mw_X4_findBest : mV yX4_findBest cX4_findBest 7 (some .int) "CoinRows$Walk" 2 := ⟨⟨gw_395, gw_396, gw_5, gw_397⟩, by decide +kernel⟩
theorem mw_X4_chooseBest : mV yX4_chooseBest cX4_chooseBest 10 (some .int) "CoinRows$Walk" 4 := ⟨⟨gw_400, gs_15, gw_5, gw_401⟩, by decide +kernel⟩
theorem mw_X5_odds : mV yX5_odds cX5_odds 4 (some .long) "CoinRows" 3 := ⟨⟨gw_403, gw_404, gw_1, gw_405⟩, by decide +kernel⟩
theorem mw_X5_isPart : mS yX5_isPart cX5_isPart 1 (some .boolean) "CoinRows" 1 := ⟨⟨gw_407, gw_1, gw_408⟩, by decide +kernel⟩
theorem mw_X5_inLowestTerms : mS yX5_inLowestTerms cX5_inLowestTerms 7 (some .long) "CoinRows" 3 := ⟨⟨gw_413, gw_1, gw_414⟩, by decide +kernel⟩
theorem mw_X5_commonDivisor : mS yX5_commonDivisor cX5_commonDivisor 11 (some .long) "CoinRows" 2 := ⟨⟨gw_416, gw_1, gw_417⟩, by decide +kernel⟩
theorem mw_X5_likelyAt : mV yX5_likelyAt cX5_likelyAt 4 (some .int) "CoinRows" 1 := ⟨⟨gw_419, gw_420, gw_1, gw_421⟩, by decide +kernel⟩
theorem mw_X5_expected : mV yX5_expected cX5_expected 7 (some .long) "CoinRows" 4 := ⟨⟨gw_423, gw_424, gw_1, gw_425⟩, by decide +kernel⟩
theorem mw_X5_shareBits : mV yX5_shareBits cX5_shareBits 3 (some .int) "CoinRows" 0 := ⟨⟨gw_429, gw_430, gw_1, gw_431⟩, by decide +kernel⟩
theorem mw_X2_greatest : mV yX2_greatest cX2_greatest 1 (some .long) "CoinRows$Sums" 0 := ⟨⟨gw_433, gw_434, gw_4, gw_435⟩, by decide +kernel⟩
theorem mw_X5_bitsOf : mS yX5_bitsOf cX5_bitsOf 4 (some .int) "CoinRows" 1 := ⟨⟨gw_437, gw_1, gw_438⟩, by decide +kernel⟩
theorem mw_X5_next : mV yX5_next cX5_next 8 (some .long) "CoinRows" 1 := ⟨⟨gw_441, gw_442, gw_1, gw_443⟩, by decide +kernel⟩
theorem mw_X2_wholeIfNext : mV yX2_wholeIfNext cX2_wholeIfNext 6 (some .long) "CoinRows$Sums" 2 := ⟨⟨gw_445, gw_446, gw_4, gw_447⟩, by decide +kernel⟩
theorem mw_X5_slip : mV yX5_slip cX5_slip 10 (some .long) "CoinRows" 1 := ⟨⟨gw_450, gw_451, gw_1, gw_452⟩, by decide +kernel⟩
theorem mw_X2_wholeIfChanged : mV yX2_wholeIfChanged cX2_wholeIfChanged 7 (some .long) "CoinRows$Sums" 3 := ⟨⟨gw_454, gw_455, gw_4, gw_456⟩, by decide +kernel⟩
theorem mw_X5_count : mV yX5_count cX5_count 2 (some .int) "CoinRows" 1 := ⟨⟨gw_458, gw_459, gw_1, gw_460⟩, by decide +kernel⟩
theorem mw_X0_countWeights : mV yX0_countWeights cX0_countWeights 3 (some .int) "CoinRows$Model" 0 := ⟨⟨gw_462, gw_463, gw_2, gw_464⟩, by decide +kernel⟩
theorem mw_X5_undo : mV yX5_undo cX5_undo 1 (some .int) "CoinRows" 0 := ⟨⟨gw_466, gw_467, gw_1, gw_468⟩, by decide +kernel⟩
theorem mw_X5_save : mV yX5_save cX5_save 2 (some .int) "CoinRows" 1 := ⟨⟨gw_470, gw_471, gw_1, gw_472⟩, by decide +kernel⟩
theorem mw_X5_restore : mV yX5_restore cX5_restore 2 (some .int) "CoinRows" 1 := ⟨⟨gw_474, gw_475, gw_1, gw_476⟩, by decide +kernel⟩
theorem mw_X6_init : mI yX6_init cX6_init 2 0 := ⟨⟨gw_480, gw_7, gw_481⟩, rfl, by decide +kernel⟩
theorem mw_X6_give : mV yX6_give cX6_give 7 (some .int) "CoinRowsModel" 4 := ⟨⟨gw_534, gw_535, gw_7, gw_536⟩, by decide +kernel⟩
theorem mw_X6_in : mS yX6_in cX6_in 3 (some .boolean) "CoinRowsModel" 3 := ⟨⟨gw_538, gw_7, gw_539⟩, by decide +kernel⟩
theorem mw_X6_placeOf : mS yX6_placeOf cX6_placeOf 3 (some .int) "CoinRowsModel" 3 := ⟨⟨gw_541, gw_7, gw_542⟩, by decide +kernel⟩
theorem mw_X6_isNought : mS yX6_isNought cX6_isNought 2 (some .boolean) "CoinRowsModel" 2 := ⟨⟨gw_544, gw_7, gw_545⟩, by decide +kernel⟩
theorem mw_X6_record : mV yX6_record cX6_record 2 none "CoinRowsModel" 0 := ⟨⟨gw_548, gs_16, gw_7, gw_549⟩, by decide +kernel⟩
theorem mw_X6_weight : mV yX6_weight cX6_weight 5 (some .int) "CoinRowsModel" 3 := ⟨⟨gw_551, gw_552, gw_7, gw_553⟩, by decide +kernel⟩
theorem mw_X6_add : mV yX6_add cX6_add 2 (some .int) "CoinRowsModel" 1 := ⟨⟨gw_555, gw_556, gw_7, gw_557⟩, by decide +kernel⟩
theorem mw_X6_cut : mV yX6_cut cX6_cut 1 (some .int) "CoinRowsModel" 0 := ⟨⟨gw_559, gw_560, gw_7, gw_561⟩, by decide +kernel⟩
theorem mw_X6_letter : mV yX6_letter cX6_letter 2 (some .int) "CoinRowsModel" 1 := ⟨⟨gw_563, gw_564, gw_7, gw_565⟩, by decide +kernel⟩
theorem mw_X6_isPlace : mV yX6_isPlace cX6_isPlace 2 (some .boolean) "CoinRowsModel" 1 := ⟨⟨gw_568, gs_17, gw_7, gw_569⟩, by decide +kernel⟩
theorem mw_X6_total : mV yX6_total cX6_total 1 (some .long) "CoinRowsModel" 0 := ⟨⟨gw_571, gw_572, gw_7, gw_573⟩, by decide +kernel⟩
theorem mw_X6_totalNow : mV yX6_totalNow cX6_totalNow 5 (some .long) "CoinRowsModel" 0 := ⟨⟨gw_576, gs_18, gw_7, gw_577⟩, by decide +kernel⟩
theorem mw_X6_layBehind : mV yX6_layBehind cX6_layBehind 3 none "CoinRowsModel" 0 := ⟨⟨gw_580, gs_19, gw_7, gw_581⟩, by decide +kernel⟩
theorem mw_X6_layBehindOf : mV yX6_layBehindOf cX6_layBehindOf 8 none "CoinRowsModel" 2 := ⟨⟨gw_584, gs_20, gw_7, gw_585⟩, by decide +kernel⟩
theorem mw_X6_step : mV yX6_step cX6_step 3 (some .int) "CoinRowsModel" 2 := ⟨⟨gw_588, gs_21, gw_7, gw_589⟩, by decide +kernel⟩
theorem mw_X6_going : mV yX6_going cX6_going 4 (some .int) "CoinRowsModel" 3 := ⟨⟨gw_592, gs_22, gw_7, gw_593⟩, by decide +kernel⟩
theorem mw_X6_tells : mV yX6_tells cX6_tells 3 (some .int) "CoinRowsModel" 2 := ⟨⟨gw_596, gs_23, gw_7, gw_597⟩, by decide +kernel⟩
theorem mw_X6_toldThen : mS yX6_toldThen cX6_toldThen 2 (some .int) "CoinRowsModel" 2 := ⟨⟨gw_599, gw_7, gw_600⟩, by decide +kernel⟩
theorem mw_X6_forward : mV yX6_forward cX6_forward 3 (some .long) "CoinRowsModel" 2 := ⟨⟨gw_602, gw_603, gw_7, gw_604⟩, by decide +kernel⟩
theorem mw_X6_layAhead : mV yX6_layAhead cX6_layAhead 3 none "CoinRowsModel" 0 := ⟨⟨gw_608, gs_24, gw_7, gw_609⟩, by decide +kernel⟩
theorem mw_X6_addAhead : mV yX6_addAhead cX6_addAhead 5 none "CoinRowsModel" 3 := ⟨⟨gw_612, gs_25, gw_7, gw_613⟩, by decide +kernel⟩
theorem mw_X6_spread : mV yX6_spread cX6_spread 4 none "CoinRowsModel" 2 := ⟨⟨gw_616, gs_26, gw_7, gw_617⟩, by decide +kernel⟩
theorem mw_X6_backward : mV yX6_backward cX6_backward 3 (some .long) "CoinRowsModel" 2 := ⟨⟨gw_619, gw_620, gw_7, gw_621⟩, by decide +kernel⟩
theorem mw_X6_ways : mV yX6_ways cX6_ways 1 (some .int) "CoinRowsModel" 0 := ⟨⟨gw_623, gw_624, gw_7, gw_625⟩, by decide +kernel⟩
theorem mw_X6_waysNow : mV yX6_waysNow cX6_waysNow 3 (some .int) "CoinRowsModel" 0 := ⟨⟨gw_628, gs_27, gw_7, gw_629⟩, by decide +kernel⟩
theorem mw_X6_way : mV yX6_way cX6_way 3 (some .int) "CoinRowsModel" 2 := ⟨⟨gw_631, gw_632, gw_7, gw_633⟩, by decide +kernel⟩
theorem mw_X6_isWay : mV yX6_isWay cX6_isWay 2 (some .boolean) "CoinRowsModel" 1 := ⟨⟨gw_636, gs_28, gw_7, gw_637⟩, by decide +kernel⟩
theorem mw_X6_layWay : mV yX6_layWay cX6_layWay 14 (some .int) "CoinRowsModel" 1 := ⟨⟨gw_640, gs_29, gw_7, gw_641⟩, by decide +kernel⟩
theorem mw_X6_ofLaid : mV yX6_ofLaid cX6_ofLaid 2 (some .int) "CoinRowsModel" 1 := ⟨⟨gw_644, gs_30, gw_7, gw_645⟩, by decide +kernel⟩
theorem mw_X6_weighs : mV yX6_weighs cX6_weighs 2 (some .long) "CoinRowsModel" 1 := ⟨⟨gw_647, gw_648, gw_7, gw_649⟩, by decide +kernel⟩
theorem mw_X6_likeliest : mV yX6_likeliest cX6_likeliest 3 (some .int) "CoinRowsModel" 1 := ⟨⟨gw_651, gw_652, gw_7, gw_653⟩, by decide +kernel⟩
theorem mw_X6_odds : mV yX6_odds cX6_odds 6 (some .long) "CoinRowsModel" 3 := ⟨⟨gw_655, gw_656, gw_7, gw_657⟩, by decide +kernel⟩
theorem mw_X6_through : mV yX6_through cX6_through 3 (some .long) "CoinRowsModel" 2 := ⟨⟨gw_662, gs_31, gw_7, gw_663⟩, by decide +kernel⟩
theorem mw_X6_lowest : mS yX6_lowest cX6_lowest 7 (some .long) "CoinRowsModel" 3 := ⟨⟨gw_665, gw_7, gw_666⟩, by decide +kernel⟩
theorem mw_X6_divisor : mS yX6_divisor cX6_divisor 10 (some .long) "CoinRowsModel" 2 := ⟨⟨gw_668, gw_7, gw_669⟩, by decide +kernel⟩
theorem mw_X6_likelyAt : mV yX6_likelyAt cX6_likelyAt 4 (some .int) "CoinRowsModel" 1 := ⟨⟨gw_671, gw_672, gw_7, gw_673⟩, by decide +kernel⟩
theorem mw_X6_expected : mV yX6_expected cX6_expected 7 (some .long) "CoinRowsModel" 4 := ⟨⟨gw_675, gw_676, gw_7, gw_677⟩, by decide +kernel⟩
theorem mw_X6_numberOf : mV yX6_numberOf cX6_numberOf 9 (some .long) "CoinRowsModel" 3 := ⟨⟨gw_680, gs_32, gw_7, gw_681⟩, by decide +kernel⟩
theorem mw_X6_shareBits : mV yX6_shareBits cX6_shareBits 3 (some .int) "CoinRowsModel" 0 := ⟨⟨gw_683, gw_684, gw_7, gw_685⟩, by decide +kernel⟩
theorem mw_X6_train : mV yX6_train cX6_train 3 (some .int) "CoinRowsModel" 0 := ⟨⟨gw_697, gw_698, gw_7, gw_699⟩, by decide +kernel⟩
theorem mw_X6_trainGroup : mV yX6_trainGroup cX6_trainGroup 8 (some .int) "CoinRowsModel" 2 := ⟨⟨gw_702, gs_33, gw_7, gw_703⟩, by decide +kernel⟩
theorem mw_X6_next : mV yX6_next cX6_next 10 (some .long) "CoinRowsModel" 1 := ⟨⟨gw_707, gw_708, gw_7, gw_709⟩, by decide +kernel⟩
theorem mw_X6_slip : mV yX6_slip cX6_slip 11 (some .long) "CoinRowsModel" 1 := ⟨⟨gw_712, gw_713, gw_7, gw_714⟩, by decide +kernel⟩
theorem mw_X6_count : mV yX6_count cX6_count 4 (some .int) "CoinRowsModel" 1 := ⟨⟨gw_716, gw_717, gw_7, gw_718⟩, by decide +kernel⟩
theorem mw_X6_put : mV yX6_put cX6_put 7 (some .int) "CoinRowsModel" 1 := ⟨⟨gw_720, gw_721, gw_7, gw_722⟩, by decide +kernel⟩
theorem mw_X6_wipe : mV yX6_wipe cX6_wipe 2 (some .int) "CoinRowsModel" 0 := ⟨⟨gw_725, gw_726, gw_7, gw_727⟩, by decide +kernel⟩
theorem mw_X6_fault : mV yX6_fault cX6_fault 1 (some .int) "CoinRowsModel" 0 := ⟨⟨gw_729, gw_730, gw_7, gw_731⟩, by decide +kernel⟩
theorem mw_X6_read : mV yX6_read cX6_read 13 (some .int) "CoinRowsModel" 1 := ⟨⟨gw_734, gs_34, gw_7, gw_735⟩, by decide +kernel⟩
theorem mw_X6_lay : mV yX6_lay cX6_lay 4 none "CoinRowsModel" 3 := ⟨⟨gw_738, gs_35, gw_7, gw_739⟩, by decide +kernel⟩
theorem mw_X6_load : mV yX6_load cX6_load 1 (some .int) "CoinRowsModel" 0 := ⟨⟨gw_741, gw_742, gw_7, gw_743⟩, by decide +kernel⟩
theorem mw_X6_undo : mV yX6_undo cX6_undo 2 (some .int) "CoinRowsModel" 0 := ⟨⟨gw_745, gw_746, gw_7, gw_747⟩, by decide +kernel⟩
theorem mw_X6_save : mV yX6_save cX6_save 3 (some .int) "CoinRowsModel" 1 := ⟨⟨gw_749, gw_750, gw_7, gw_751⟩, by decide +kernel⟩
theorem mw_X6_restore : mV yX6_restore cX6_restore 3 (some .int) "CoinRowsModel" 1 := ⟨⟨gw_753, gw_754, gw_7, gw_755⟩, by decide +kernel⟩
section QL
variable {p : Program} {l : Launch} {e : Env} {Rm : Room} {s : State} {m : MethodId} {args : Array Value} {below : List Frame} {meth : Method} {c : Code} {H : Heap} {locs : List Loc} {cells slots : Nat} {Q : State → Prop} {cc : ByteArray} {pc : Nat} {ls : Array Slot} {rest : List Value}
theorem cmp_3 (x y : Int64) : (lg_cmp x y = 1 ∧ y.toInt < x.toInt) ∨ (lg_cmp x y = 0 ∧ x.toInt = y.toInt) ∨ (lg_cmp x y = -1 ∧ x.toInt < y.toInt) := by
  unfold lg_cmp
  by_cases h1 : x > y
  · rw [if_pos h1]; exact Or.inl ⟨rfl, Int64.lt_iff_toInt_lt.mp h1⟩
  · rw [if_neg h1]
    have h2 : ¬ y.toInt < x.toInt := fun q => h1 (Int64.lt_iff_toInt_lt.mpr q)
    by_cases h3 : x = y
    · rw [if_pos h3]; exact Or.inr (Or.inl ⟨rfl, by rw [h3]⟩)
    · rw [if_neg h3]
      have h4 : ¬ x.toInt = y.toInt := fun q => h3 (Int64.toInt_inj.mp q)
      exact Or.inr (Or.inr ⟨rfl, by omega⟩)
theorem q_Llt {x y : Int64} {tgt : Nat} {off : Int} (hx : p.tables.exec = Jvm.exec) (hb : c.code = cc) (hdg : decode cc pc = .ok (.ifCond .lt off, 3)) (ht : (pc : Int) + off = (tgt : Int)) (kt : x < y → W p l e Rm s m args below meth c H locs cells slots Q (F0 m tgt ls rest)) (kf : ¬ x < y → W p l e Rm s m args below meth c H locs cells slots Q (F0 m (pc + 3) ls rest)) : W p l e Rm s m args below meth c H locs cells slots Q (F0 m pc ls (.int (lg_cmp x y) :: rest)) := by
  refine lv_if_lt hx hb hdg ht (fun h => kt ?_) (fun h => kf ?_)
  all_goals (rcases cmp_3 x y with ⟨e, h'⟩ | ⟨e, h'⟩ | ⟨e, h'⟩ <;> rw [e] at h <;> first | exact absurd h (by decide) | (simp only [Int64.lt_iff_toInt_lt, Int64.le_iff_toInt_le, ← Int64.toInt_inj]; omega))
theorem q_Lge {x y : Int64} {tgt : Nat} {off : Int} (hx : p.tables.exec = Jvm.exec) (hb : c.code = cc) (hdg : decode cc pc = .ok (.ifCond .ge off, 3)) (ht : (pc : Int) + off = (tgt : Int)) (kt : y ≤ x → W p l e Rm s m args below meth c H locs cells slots Q (F0 m tgt ls rest)) (kf : ¬ y ≤ x → W p l e Rm s m args below meth c H locs cells slots Q (F0 m (pc + 3) ls rest)) : W p l e Rm s m args below meth c H locs cells slots Q (F0 m pc ls (.int (lg_cmp x y) :: rest)) := by
  refine lv_if_ge hx hb hdg ht (fun h => kt ?_) (fun h => kf ?_)
  all_goals (rcases cmp_3 x y with ⟨e, h'⟩ | ⟨e, h'⟩ | ⟨e, h'⟩ <;> rw [e] at h <;> first | exact absurd h (by decide) | (simp only [Int64.lt_iff_toInt_lt, Int64.le_iff_toInt_le, ← Int64.toInt_inj]; omega))
theorem q_Lgt {x y : Int64} {tgt : Nat} {off : Int} (hx : p.tables.exec = Jvm.exec) (hb : c.code = cc) (hdg : decode cc pc = .ok (.ifCond .gt off, 3)) (ht : (pc : Int) + off = (tgt : Int)) (kt : y < x → W p l e Rm s m args below meth c H locs cells slots Q (F0 m tgt ls rest)) (kf : ¬ y < x → W p l e Rm s m args below meth c H locs cells slots Q (F0 m (pc + 3) ls rest)) : W p l e Rm s m args below meth c H locs cells slots Q (F0 m pc ls (.int (lg_cmp x y) :: rest)) := by
  refine lv_if_gt hx hb hdg ht (fun h => kt ?_) (fun h => kf ?_)
  all_goals (rcases cmp_3 x y with ⟨e, h'⟩ | ⟨e, h'⟩ | ⟨e, h'⟩ <;> rw [e] at h <;> first | exact absurd h (by decide) | (simp only [Int64.lt_iff_toInt_lt, Int64.le_iff_toInt_le, ← Int64.toInt_inj]; omega))
theorem q_Lle {x y : Int64} {tgt : Nat} {off : Int} (hx : p.tables.exec = Jvm.exec) (hb : c.code = cc) (hdg : decode cc pc = .ok (.ifCond .le off, 3)) (ht : (pc : Int) + off = (tgt : Int)) (kt : x ≤ y → W p l e Rm s m args below meth c H locs cells slots Q (F0 m tgt ls rest)) (kf : ¬ x ≤ y → W p l e Rm s m args below meth c H locs cells slots Q (F0 m (pc + 3) ls rest)) : W p l e Rm s m args below meth c H locs cells slots Q (F0 m pc ls (.int (lg_cmp x y) :: rest)) := by
  refine lv_if_le hx hb hdg ht (fun h => kt ?_) (fun h => kf ?_)
  all_goals (rcases cmp_3 x y with ⟨e, h'⟩ | ⟨e, h'⟩ | ⟨e, h'⟩ <;> rw [e] at h <;> first | exact absurd h (by decide) | (simp only [Int64.lt_iff_toInt_lt, Int64.le_iff_toInt_le, ← Int64.toInt_inj]; omega))
theorem q_Leq {x y : Int64} {tgt : Nat} {off : Int} (hx : p.tables.exec = Jvm.exec) (hb : c.code = cc) (hdg : decode cc pc = .ok (.ifCond .eq off, 3)) (ht : (pc : Int) + off = (tgt : Int)) (kt : x = y → W p l e Rm s m args below meth c H locs cells slots Q (F0 m tgt ls rest)) (kf : ¬ x = y → W p l e Rm s m args below meth c H locs cells slots Q (F0 m (pc + 3) ls rest)) : W p l e Rm s m args below meth c H locs cells slots Q (F0 m pc ls (.int (lg_cmp x y) :: rest)) := by
  refine lv_if_eq hx hb hdg ht (fun h => kt ?_) (fun h => kf ?_)
  all_goals (rcases cmp_3 x y with ⟨e, h'⟩ | ⟨e, h'⟩ | ⟨e, h'⟩ <;> rw [e] at h <;> first | exact absurd h (by decide) | (simp only [Int64.lt_iff_toInt_lt, Int64.le_iff_toInt_le, ← Int64.toInt_inj]; omega))
theorem q_Lne {x y : Int64} {tgt : Nat} {off : Int} (hx : p.tables.exec = Jvm.exec) (hb : c.code = cc) (hdg : decode cc pc = .ok (.ifCond .ne off, 3)) (ht : (pc : Int) + off = (tgt : Int)) (kt : ¬ x = y → W p l e Rm s m args below meth c H locs cells slots Q (F0 m tgt ls rest)) (kf : x = y → W p l e Rm s m args below meth c H locs cells slots Q (F0 m (pc + 3) ls rest)) : W p l e Rm s m args below meth c H locs cells slots Q (F0 m pc ls (.int (lg_cmp x y) :: rest)) := by
  refine lv_if_ne hx hb hdg ht (fun h => kt ?_) (fun h => kf ?_)
  all_goals (rcases cmp_3 x y with ⟨e, h'⟩ | ⟨e, h'⟩ | ⟨e, h'⟩ <;> rw [e] at h <;> first | exact absurd h (by decide) | (simp only [Int64.lt_iff_toInt_lt, Int64.le_iff_toInt_le, ← Int64.toInt_inj]; omega))
theorem q_llt {a b tgt : Nat} {off : Int} (hx : p.tables.exec = Jvm.exec) (hb : c.code = cc) (hdg : decode cc pc = .ok (.ifCond .lt off, 3)) (ht : (pc : Int) + off = (tgt : Int)) (ha : a < 2 ^ 63) (hb2 : b < 2 ^ 63) (kt : a < b → W p l e Rm s m args below meth c H locs cells slots Q (F0 m tgt ls rest)) (kf : b ≤ a → W p l e Rm s m args below meth c H locs cells slots Q (F0 m (pc + 3) ls rest)) : W p l e Rm s m args below meth c H locs cells slots Q (F0 m pc ls (.int (lg_cmp (lN a) (lN b)) :: rest)) := by
  refine q_Llt hx hb hdg ht (fun h => kt ?_) (fun h => kf ?_)
  all_goals (simp only [pk_lLT ha hb2, pk_lLE ha hb2, pk_lLT hb2 ha, pk_lLE hb2 ha, pk_lEQ ha hb2] at h)
  all_goals omega
theorem q_lge {a b tgt : Nat} {off : Int} (hx : p.tables.exec = Jvm.exec) (hb : c.code = cc) (hdg : decode cc pc = .ok (.ifCond .ge off, 3)) (ht : (pc : Int) + off = (tgt : Int)) (ha : a < 2 ^ 63) (hb2 : b < 2 ^ 63) (kt : b ≤ a → W p l e Rm s m args below meth c H locs cells slots Q (F0 m tgt ls rest)) (kf : a < b → W p l e Rm s m args below meth c H locs cells slots Q (F0 m (pc + 3) ls rest)) : W p l e Rm s m args below meth c H locs cells slots Q (F0 m pc ls (.int (lg_cmp (lN a) (lN b)) :: rest)) := by
  refine q_Lge hx hb hdg ht (fun h => kt ?_) (fun h => kf ?_)
  all_goals (simp only [pk_lLT ha hb2, pk_lLE ha hb2, pk_lLT hb2 ha, pk_lLE hb2 ha, pk_lEQ ha hb2] at h)
  all_goals omega
theorem q_lgt {a b tgt : Nat} {off : Int} (hx : p.tables.exec = Jvm.exec) (hb : c.code = cc) (hdg : decode cc pc = .ok (.ifCond .gt off, 3)) (ht : (pc : Int) + off = (tgt : Int)) (ha : a < 2 ^ 63) (hb2 : b < 2 ^ 63) (kt : b < a → W p l e Rm s m args below meth c H locs cells slots Q (F0 m tgt ls rest)) (kf : a ≤ b → W p l e Rm s m args below meth c H locs cells slots Q (F0 m (pc + 3) ls rest)) : W p l e Rm s m args below meth c H locs cells slots Q (F0 m pc ls (.int (lg_cmp (lN a) (lN b)) :: rest)) := by
  refine q_Lgt hx hb hdg ht (fun h => kt ?_) (fun h => kf ?_)
  all_goals (simp only [pk_lLT ha hb2, pk_lLE ha hb2, pk_lLT hb2 ha, pk_lLE hb2 ha, pk_lEQ ha hb2] at h)
  all_goals omega
theorem q_lle {a b tgt : Nat} {off : Int} (hx : p.tables.exec = Jvm.exec) (hb : c.code = cc) (hdg : decode cc pc = .ok (.ifCond .le off, 3)) (ht : (pc : Int) + off = (tgt : Int)) (ha : a < 2 ^ 63) (hb2 : b < 2 ^ 63) (kt : a ≤ b → W p l e Rm s m args below meth c H locs cells slots Q (F0 m tgt ls rest)) (kf : b < a → W p l e Rm s m args below meth c H locs cells slots Q (F0 m (pc + 3) ls rest)) : W p l e Rm s m args below meth c H locs cells slots Q (F0 m pc ls (.int (lg_cmp (lN a) (lN b)) :: rest)) := by
  refine q_Lle hx hb hdg ht (fun h => kt ?_) (fun h => kf ?_)
  all_goals (simp only [pk_lLT ha hb2, pk_lLE ha hb2, pk_lLT hb2 ha, pk_lLE hb2 ha, pk_lEQ ha hb2] at h)
  all_goals omega
theorem q_leq {a b tgt : Nat} {off : Int} (hx : p.tables.exec = Jvm.exec) (hb : c.code = cc) (hdg : decode cc pc = .ok (.ifCond .eq off, 3)) (ht : (pc : Int) + off = (tgt : Int)) (ha : a < 2 ^ 63) (hb2 : b < 2 ^ 63) (kt : a = b → W p l e Rm s m args below meth c H locs cells slots Q (F0 m tgt ls rest)) (kf : a ≠ b → W p l e Rm s m args below meth c H locs cells slots Q (F0 m (pc + 3) ls rest)) : W p l e Rm s m args below meth c H locs cells slots Q (F0 m pc ls (.int (lg_cmp (lN a) (lN b)) :: rest)) := by
  refine q_Leq hx hb hdg ht (fun h => kt ?_) (fun h => kf ?_)
  all_goals (simp only [pk_lLT ha hb2, pk_lLE ha hb2, pk_lLT hb2 ha, pk_lLE hb2 ha, pk_lEQ ha hb2] at h)
  all_goals omega
theorem q_lne {a b tgt : Nat} {off : Int} (hx : p.tables.exec = Jvm.exec) (hb : c.code = cc) (hdg : decode cc pc = .ok (.ifCond .ne off, 3)) (ht : (pc : Int) + off = (tgt : Int)) (ha : a < 2 ^ 63) (hb2 : b < 2 ^ 63) (kt : a ≠ b → W p l e Rm s m args below meth c H locs cells slots Q (F0 m tgt ls rest)) (kf : a = b → W p l e Rm s m args below meth c H locs cells slots Q (F0 m (pc + 3) ls rest)) : W p l e Rm s m args below meth c H locs cells slots Q (F0 m pc ls (.int (lg_cmp (lN a) (lN b)) :: rest)) := by
  refine q_Lne hx hb hdg ht (fun h => kt ?_) (fun h => kf ?_)
  all_goals (simp only [pk_lLT ha hb2, pk_lLE ha hb2, pk_lLT hb2 ha, pk_lLE hb2 ha, pk_lEQ ha hb2] at h)
  all_goals omega
end QL
end
section
theorem nT0 : (nI 0).toInt = 0 := by decide
theorem nT1 : (nI 1).toInt = 1 := by decide
theorem nT2 : (nI 2).toInt = 2 := by decide
theorem nT3 : (nI 3).toInt = 3 := by decide
theorem nT4 : (nI 4).toInt = 4 := by decide
theorem nT5 : (nI 5).toInt = 5 := by decide
theorem nT6 : (nI 6).toInt = 6 := by decide
theorem nT7 : (nI 7).toInt = 7 := by decide
theorem nT8 : (nI 8).toInt = 8 := by decide
theorem nT9 : (nI 9).toInt = 9 := by decide
theorem nT10 : (nI 10).toInt = 10 := by decide
theorem nT33 : (nI 33).toInt = 33 := by decide
theorem nT36 : (nI 36).toInt = 36 := by decide
theorem nT42 : (nI 42).toInt = 42 := by decide
theorem nT58 : (nI 58).toInt = 58 := by decide
theorem nT80 : (nI 80).toInt = 80 := by decide
theorem nT126 : (nI 126).toInt = 126 := by decide
theorem nT255 : (nI 255).toInt = 255 := by decide
theorem i_m1 : (-1 : Int32).toInt = -1 := by decide
theorem i_m2 : (-2 : Int32).toInt = -2 := by decide
def rng (x : Int32) (N : Nat) : Option Nat := if 0 ≤ x.toInt ∧ x.toInt < (N : Int) then some x.toInt.toNat else none
theorem rng_nI {k N : Nat} (h : k < N) (hN : N ≤ 1000) : rng (nI k) N = some k := by
  unfold rng
  rw [nI_toInt (show k < 2 ^ 31 by omega), if_pos (by omega)]
  simp
theorem rng_ge {k N : Nat} (h : N ≤ k) (hk : k < 2 ^ 31) : rng (nI k) N = none := by
  unfold rng
  rw [nI_toInt hk, if_neg (by omega)]
theorem rng_some {x : Int32} {k N : Nat} (h : rng x N = some k) (hN : N ≤ 1000) : k < N ∧ x = nI k := by
  unfold rng at h
  split at h
  · rename_i h1
    cases h
    refine ⟨by omega, ?_⟩
    apply Int32.toInt_inj.mp
    rw [nI_toInt (by omega)]
    omega
  · cases h
theorem rng_none {x : Int32} {N : Nat} : rng x N = none ↔ (x.toInt < 0 ∨ (N : Int) ≤ x.toInt) := by
  unfold rng
  split
  · rename_i h; simp; omega
  · rename_i h; simp; omega
theorem rng_ex {x : Int32} {N : Nat} (hN : N ≤ 1000) (h0 : 0 ≤ x.toInt) (h1 : x.toInt < (N : Int)) : ∃ k, k < N ∧ x = nI k := by
  have h : rng x N = some x.toInt.toNat := by unfold rng; rw [if_pos ⟨h0, h1⟩]
  exact ⟨_, rng_some h hN⟩
def idx (q : Nat) (coin to : Int32) : Option Nat :=
  if q = 0 then (match rng coin 6, rng to 1 with | some c, some _ => some (36 + c) | _, _ => none)
  else if q = 1 then (match rng coin 6, rng to 6 with | some c, some t => some (c * 6 + t) | _, _ => none)
  else (match rng coin 4, rng to 4 with | some c, some t => some (42 + c * 4 + t) | _, _ => none)
def barred (f t : Nat) : Prop := 4 ≤ f ∧ 4 ≤ t ∧ t ≤ f
set_option maxRecDepth 100000 in
set_option maxHeartbeats 4000000 in
theorem k_isKind (l : Launch) (G : Gx) (n : Nat) (ad : Nat → Nat) (sz : Nat) (I : Ic) (L : Lc) (R : Rc) (x : Int32) : Met l yX5_isKind (Cond.code yX5_isKind cX5_isKind 1 (some .boolean) :: GW) ({ frames := 0, cells := 0, slots := 0, locals := 0 } : Room) (qPre G n ad sz I L R [.int (x)]) (qI0 G (qA n ad sz) (n, ad, I, L, R) (fun r => (∃ k, k < 3 ∧ x = nI k ∧ r = nI 1) ∨ (rng x 3 = none ∧ r = nI 0))) 0 0 (qA n ad sz) := by
  refine q_met (by decide) (Nat.le_of_ble_eq_true rfl) ?_
  intro p e s m below meth c hC hr hlk0 hin hsz hW ls hl
  subst hsz
  have hC : CallFix p m c cX5_isKind 1 s ([.int (x)] : List Value).toArray GW "CoinRows" := hC
  have hx := hC.1
  have hb := hC.2.1
  have hl : lv_has ls 1 [(0, .int (x))] := hl
  refine lv_iload_n hx hb dX5_isKind_0 rfl (lv_at hl 0 rfl) ?_
  refine lv_if_eq (tgt := 14) hx hb dX5_isKind_1 (by decide) (fun c_1 => ?_) (fun c_1 => ?_)
  ·
    refine q_ic 1 hx hb dX5_isKind_14 (by decide) ?_
    refine lv_goto (tgt := 19) hx hb dX5_isKind_15 (by decide) ?_
    have hfin : ∃ k, k < 3 ∧ x = nI k := rng_ex (by decide) (by simp only [Int32.lt_iff_toInt_lt, Int32.le_iff_toInt_le, ← Int32.toInt_inj, nT0, nT1, nT2, nT3, nT4, nT5, nT6, nT7, nT8, nT9, nT10, nT33, nT36, nT42, nT58, nT80, nT126, nT255, i_m1, i_m2, Int32.toInt_zero, Int32.toInt_one] at c_1; omega) (by simp only [Int32.lt_iff_toInt_lt, Int32.le_iff_toInt_le, ← Int32.toInt_inj, nT0, nT1, nT2, nT3, nT4, nT5, nT6, nT7, nT8, nT9, nT10, nT33, nT36, nT42, nT58, nT80, nT126, nT255, i_m1, i_m2, Int32.toInt_zero, Int32.toInt_one] at c_1; omega)
    obtain ⟨kf, hf1, hf2⟩ := hfin
    exact q_zret0 hC hW hr hlk0 rfl (Or.inl ⟨kf, hf1, hf2, rfl⟩) dX5_isKind_19
  ·
    refine lv_iload_n hx hb dX5_isKind_4 rfl (lv_at hl 0 rfl) ?_
    refine q_ic 1 hx hb dX5_isKind_5 (by decide) ?_
    refine lv_icmp_eq (tgt := 14) hx hb dX5_isKind_6 (by decide) (fun c_6 => ?_) (fun c_6 => ?_)
    ·
      refine q_ic 1 hx hb dX5_isKind_14 (by decide) ?_
      refine lv_goto (tgt := 19) hx hb dX5_isKind_15 (by decide) ?_
      have hfin : ∃ k, k < 3 ∧ x = nI k := rng_ex (by decide) (by simp only [Int32.lt_iff_toInt_lt, Int32.le_iff_toInt_le, ← Int32.toInt_inj, nT0, nT1, nT2, nT3, nT4, nT5, nT6, nT7, nT8, nT9, nT10, nT33, nT36, nT42, nT58, nT80, nT126, nT255, i_m1, i_m2, Int32.toInt_zero, Int32.toInt_one] at c_1 c_6; omega) (by simp only [Int32.lt_iff_toInt_lt, Int32.le_iff_toInt_le, ← Int32.toInt_inj, nT0, nT1, nT2, nT3, nT4, nT5, nT6, nT7, nT8, nT9, nT10, nT33, nT36, nT42, nT58, nT80, nT126, nT255, i_m1, i_m2, Int32.toInt_zero, Int32.toInt_one] at c_1 c_6; omega)
      obtain ⟨kf, hf1, hf2⟩ := hfin
      exact q_zret0 hC hW hr hlk0 rfl (Or.inl ⟨kf, hf1, hf2, rfl⟩) dX5_isKind_19
    ·
      refine lv_iload_n hx hb dX5_isKind_9 rfl (lv_at hl 0 rfl) ?_
      refine q_ic 2 hx hb dX5_isKind_10 (by decide) ?_
      refine lv_icmp_ne (tgt := 18) hx hb dX5_isKind_11 (by decide) (fun c_11 => ?_) (fun c_11 => ?_)
      ·
        refine q_ic 0 hx hb dX5_isKind_18 (by decide) ?_
        have hfin : rng x 3 = none := rng_none.mpr (by simp only [Int32.lt_iff_toInt_lt, Int32.le_iff_toInt_le, ← Int32.toInt_inj, nT0, nT1, nT2, nT3, nT4, nT5, nT6, nT7, nT8, nT9, nT10, nT33, nT36, nT42, nT58, nT80, nT126, nT255, i_m1, i_m2, Int32.toInt_zero, Int32.toInt_one] at c_1 c_6 c_11; omega)
        exact q_zret0 hC hW hr hlk0 rfl (Or.inr ⟨hfin, rfl⟩) dX5_isKind_19
      ·
        refine q_ic 1 hx hb dX5_isKind_14 (by decide) ?_
        refine lv_goto (tgt := 19) hx hb dX5_isKind_15 (by decide) ?_
        have hfin : ∃ k, k < 3 ∧ x = nI k := rng_ex (by decide) (by simp only [Int32.lt_iff_toInt_lt, Int32.le_iff_toInt_le, ← Int32.toInt_inj, nT0, nT1, nT2, nT3, nT4, nT5, nT6, nT7, nT8, nT9, nT10, nT33, nT36, nT42, nT58, nT80, nT126, nT255, i_m1, i_m2, Int32.toInt_zero, Int32.toInt_one] at c_1 c_6 c_11; omega) (by simp only [Int32.lt_iff_toInt_lt, Int32.le_iff_toInt_le, ← Int32.toInt_inj, nT0, nT1, nT2, nT3, nT4, nT5, nT6, nT7, nT8, nT9, nT10, nT33, nT36, nT42, nT58, nT80, nT126, nT255, i_m1, i_m2, Int32.toInt_zero, Int32.toInt_one] at c_1 c_6 c_11; omega)
        obtain ⟨kf, hf1, hf2⟩ := hfin
        exact q_zret0 hC hW hr hlk0 rfl (Or.inl ⟨kf, hf1, hf2, rfl⟩) dX5_isKind_19
set_option maxRecDepth 100000 in
set_option maxHeartbeats 4000000 in
theorem k_isPart (l : Launch) (G : Gx) (n : Nat) (ad : Nat → Nat) (sz : Nat) (I : Ic) (L : Lc) (R : Rc) (x : Int32) : Met l yX5_isPart (Cond.code yX5_isPart cX5_isPart 1 (some .boolean) :: GW) ({ frames := 0, cells := 0, slots := 0, locals := 0 } : Room) (qPre G n ad sz I L R [.int (x)]) (qI0 G (qA n ad sz) (n, ad, I, L, R) (fun r => (∃ k, k < 2 ∧ x = nI k ∧ r = nI 1) ∨ (rng x 2 = none ∧ r = nI 0))) 0 0 (qA n ad sz) := by
  refine q_met (by decide) (Nat.le_of_ble_eq_true rfl) ?_
  intro p e s m below meth c hC hr hlk0 hin hsz hW ls hl
  subst hsz
  have hC : CallFix p m c cX5_isPart 1 s ([.int (x)] : List Value).toArray GW "CoinRows" := hC
  have hx := hC.1
  have hb := hC.2.1
  have hl : lv_has ls 1 [(0, .int (x))] := hl
  refine lv_iload_n hx hb dX5_isPart_0 rfl (lv_at hl 0 rfl) ?_
  refine lv_if_eq (tgt := 9) hx hb dX5_isPart_1 (by decide) (fun c_1 => ?_) (fun c_1 => ?_)
  ·
    refine q_ic 1 hx hb dX5_isPart_9 (by decide) ?_
    refine lv_goto (tgt := 14) hx hb dX5_isPart_10 (by decide) ?_
    have hfin : ∃ k, k < 2 ∧ x = nI k := rng_ex (by decide) (by simp only [Int32.lt_iff_toInt_lt, Int32.le_iff_toInt_le, ← Int32.toInt_inj, nT0, nT1, nT2, nT3, nT4, nT5, nT6, nT7, nT8, nT9, nT10, nT33, nT36, nT42, nT58, nT80, nT126, nT255, i_m1, i_m2, Int32.toInt_zero, Int32.toInt_one] at c_1; omega) (by simp only [Int32.lt_iff_toInt_lt, Int32.le_iff_toInt_le, ← Int32.toInt_inj, nT0, nT1, nT2, nT3, nT4, nT5, nT6, nT7, nT8, nT9, nT10, nT33, nT36, nT42, nT58, nT80, nT126, nT255, i_m1, i_m2, Int32.toInt_zero, Int32.toInt_one] at c_1; omega)
    obtain ⟨kf, hf1, hf2⟩ := hfin
    exact q_zret0 hC hW hr hlk0 rfl (Or.inl ⟨kf, hf1, hf2, rfl⟩) dX5_isPart_14
  ·
    refine lv_iload_n hx hb dX5_isPart_4 rfl (lv_at hl 0 rfl) ?_
    refine q_ic 1 hx hb dX5_isPart_5 (by decide) ?_
    refine lv_icmp_ne (tgt := 13) hx hb dX5_isPart_6 (by decide) (fun c_6 => ?_) (fun c_6 => ?_)
    ·
      refine q_ic 0 hx hb dX5_isPart_13 (by decide) ?_
      have hfin : rng x 2 = none := rng_none.mpr (by simp only [Int32.lt_iff_toInt_lt, Int32.le_iff_toInt_le, ← Int32.toInt_inj, nT0, nT1, nT2, nT3, nT4, nT5, nT6, nT7, nT8, nT9, nT10, nT33, nT36, nT42, nT58, nT80, nT126, nT255, i_m1, i_m2, Int32.toInt_zero, Int32.toInt_one] at c_1 c_6; omega)
      exact q_zret0 hC hW hr hlk0 rfl (Or.inr ⟨hfin, rfl⟩) dX5_isPart_14
    ·
      refine q_ic 1 hx hb dX5_isPart_9 (by decide) ?_
      refine lv_goto (tgt := 14) hx hb dX5_isPart_10 (by decide) ?_
      have hfin : ∃ k, k < 2 ∧ x = nI k := rng_ex (by decide) (by simp only [Int32.lt_iff_toInt_lt, Int32.le_iff_toInt_le, ← Int32.toInt_inj, nT0, nT1, nT2, nT3, nT4, nT5, nT6, nT7, nT8, nT9, nT10, nT33, nT36, nT42, nT58, nT80, nT126, nT255, i_m1, i_m2, Int32.toInt_zero, Int32.toInt_one] at c_1 c_6; omega) (by simp only [Int32.lt_iff_toInt_lt, Int32.le_iff_toInt_le, ← Int32.toInt_inj, nT0, nT1, nT2, nT3, nT4, nT5, nT6, nT7, nT8, nT9, nT10, nT33, nT36, nT42, nT58, nT80, nT126, nT255, i_m1, i_m2, Int32.toInt_zero, Int32.toInt_one] at c_1 c_6; omega)
      obtain ⟨kf, hf1, hf2⟩ := hfin
      exact q_zret0 hC hW hr hlk0 rfl (Or.inl ⟨kf, hf1, hf2, rfl⟩) dX5_isPart_14
set_option maxRecDepth 100000 in
set_option maxHeartbeats 4000000 in
theorem k_isLoud (l : Launch) (G : Gx) (n : Nat) (ad : Nat → Nat) (sz : Nat) (I : Ic) (L : Lc) (R : Rc) (x : Int32) : Met l yX5_isLoud (Cond.code yX5_isLoud cX5_isLoud 1 (some .boolean) :: GW) ({ frames := 0, cells := 0, slots := 0, locals := 0 } : Room) (qPre G n ad sz I L R [.int (x)]) (qI0 G (qA n ad sz) (n, ad, I, L, R) (fun r => (∃ k, k < 4 ∧ x = nI k ∧ r = nI 1) ∨ (rng x 4 = none ∧ r = nI 0))) 0 0 (qA n ad sz) := by
  refine q_met (by decide) (Nat.le_of_ble_eq_true rfl) ?_
  intro p e s m below meth c hC hr hlk0 hin hsz hW ls hl
  subst hsz
  have hC : CallFix p m c cX5_isLoud 1 s ([.int (x)] : List Value).toArray GW "CoinRows" := hC
  have hx := hC.1
  have hb := hC.2.1
  have hl : lv_has ls 1 [(0, .int (x))] := hl
  refine lv_iload_n hx hb dX5_isLoud_0 rfl (lv_at hl 0 rfl) ?_
  refine lv_if_lt (tgt := 13) hx hb dX5_isLoud_1 (by decide) (fun c_1 => ?_) (fun c_1 => ?_)
  ·
    refine q_ic 0 hx hb dX5_isLoud_13 (by decide) ?_
    have hfin : rng x 4 = none := rng_none.mpr (by simp only [Int32.lt_iff_toInt_lt, Int32.le_iff_toInt_le, ← Int32.toInt_inj, nT0, nT1, nT2, nT3, nT4, nT5, nT6, nT7, nT8, nT9, nT10, nT33, nT36, nT42, nT58, nT80, nT126, nT255, i_m1, i_m2, Int32.toInt_zero, Int32.toInt_one] at c_1; omega)
    exact q_zret0 hC hW hr hlk0 rfl (Or.inr ⟨hfin, rfl⟩) dX5_isLoud_14
  ·
    refine lv_iload_n hx hb dX5_isLoud_4 rfl (lv_at hl 0 rfl) ?_
    refine q_ic 4 hx hb dX5_isLoud_5 (by decide) ?_
    refine lv_icmp_ge (tgt := 13) hx hb dX5_isLoud_6 (by decide) (fun c_6 => ?_) (fun c_6 => ?_)
    ·
      refine q_ic 0 hx hb dX5_isLoud_13 (by decide) ?_
      have hfin : rng x 4 = none := rng_none.mpr (by simp only [Int32.lt_iff_toInt_lt, Int32.le_iff_toInt_le, ← Int32.toInt_inj, nT0, nT1, nT2, nT3, nT4, nT5, nT6, nT7, nT8, nT9, nT10, nT33, nT36, nT42, nT58, nT80, nT126, nT255, i_m1, i_m2, Int32.toInt_zero, Int32.toInt_one] at c_1 c_6; omega)
      exact q_zret0 hC hW hr hlk0 rfl (Or.inr ⟨hfin, rfl⟩) dX5_isLoud_14
    ·
      refine q_ic 1 hx hb dX5_isLoud_9 (by decide) ?_
      refine lv_goto (tgt := 14) hx hb dX5_isLoud_10 (by decide) ?_
      have hfin : ∃ k, k < 4 ∧ x = nI k := rng_ex (by decide) (by simp only [Int32.lt_iff_toInt_lt, Int32.le_iff_toInt_le, ← Int32.toInt_inj, nT0, nT1, nT2, nT3, nT4, nT5, nT6, nT7, nT8, nT9, nT10, nT33, nT36, nT42, nT58, nT80, nT126, nT255, i_m1, i_m2, Int32.toInt_zero, Int32.toInt_one] at c_1 c_6; omega) (by simp only [Int32.lt_iff_toInt_lt, Int32.le_iff_toInt_le, ← Int32.toInt_inj, nT0, nT1, nT2, nT3, nT4, nT5, nT6, nT7, nT8, nT9, nT10, nT33, nT36, nT42, nT58, nT80, nT126, nT255, i_m1, i_m2, Int32.toInt_zero, Int32.toInt_one] at c_1 c_6; omega)
      obtain ⟨kf, hf1, hf2⟩ := hfin
      exact q_zret0 hC hW hr hlk0 rfl (Or.inl ⟨kf, hf1, hf2, rfl⟩) dX5_isLoud_14
set_option maxRecDepth 100000 in
set_option maxHeartbeats 4000000 in
theorem k_isCoin (l : Launch) (G : Gx) (n : Nat) (ad : Nat → Nat) (sz : Nat) (I : Ic) (L : Lc) (R : Rc) (x : Int32) : Met l yX5_isCoin (Cond.code yX5_isCoin cX5_isCoin 1 (some .boolean) :: GW) ({ frames := 0, cells := 0, slots := 0, locals := 0 } : Room) (qPre G n ad sz I L R [.int (x)]) (qI0 G (qA n ad sz) (n, ad, I, L, R) (fun r => (∃ k, k < 6 ∧ x = nI k ∧ r = nI 1) ∨ (rng x 6 = none ∧ r = nI 0))) 0 0 (qA n ad sz) := by
  refine q_met (by decide) (Nat.le_of_ble_eq_true rfl) ?_
  intro p e s m below meth c hC hr hlk0 hin hsz hW ls hl
  subst hsz
  have hC : CallFix p m c cX5_isCoin 1 s ([.int (x)] : List Value).toArray GW "CoinRows" := hC
  have hx := hC.1
  have hb := hC.2.1
  have hl : lv_has ls 1 [(0, .int (x))] := hl
  refine lv_iload_n hx hb dX5_isCoin_0 rfl (lv_at hl 0 rfl) ?_
  refine lv_if_lt (tgt := 14) hx hb dX5_isCoin_1 (by decide) (fun c_1 => ?_) (fun c_1 => ?_)
  ·
    refine q_ic 0 hx hb dX5_isCoin_14 (by decide) ?_
    have hfin : rng x 6 = none := rng_none.mpr (by simp only [Int32.lt_iff_toInt_lt, Int32.le_iff_toInt_le, ← Int32.toInt_inj, nT0, nT1, nT2, nT3, nT4, nT5, nT6, nT7, nT8, nT9, nT10, nT33, nT36, nT42, nT58, nT80, nT126, nT255, i_m1, i_m2, Int32.toInt_zero, Int32.toInt_one] at c_1; omega)
    exact q_zret0 hC hW hr hlk0 rfl (Or.inr ⟨hfin, rfl⟩) dX5_isCoin_15
  ·
    refine lv_iload_n hx hb dX5_isCoin_4 rfl (lv_at hl 0 rfl) ?_
    refine q_bp 6 hx hb dX5_isCoin_5 (by decide) ?_
    refine lv_icmp_ge (tgt := 14) hx hb dX5_isCoin_7 (by decide) (fun c_7 => ?_) (fun c_7 => ?_)
    ·
      refine q_ic 0 hx hb dX5_isCoin_14 (by decide) ?_
      have hfin : rng x 6 = none := rng_none.mpr (by simp only [Int32.lt_iff_toInt_lt, Int32.le_iff_toInt_le, ← Int32.toInt_inj, nT0, nT1, nT2, nT3, nT4, nT5, nT6, nT7, nT8, nT9, nT10, nT33, nT36, nT42, nT58, nT80, nT126, nT255, i_m1, i_m2, Int32.toInt_zero, Int32.toInt_one] at c_1 c_7; omega)
      exact q_zret0 hC hW hr hlk0 rfl (Or.inr ⟨hfin, rfl⟩) dX5_isCoin_15
    ·
      refine q_ic 1 hx hb dX5_isCoin_10 (by decide) ?_
      refine lv_goto (tgt := 15) hx hb dX5_isCoin_11 (by decide) ?_
      have hfin : ∃ k, k < 6 ∧ x = nI k := rng_ex (by decide) (by simp only [Int32.lt_iff_toInt_lt, Int32.le_iff_toInt_le, ← Int32.toInt_inj, nT0, nT1, nT2, nT3, nT4, nT5, nT6, nT7, nT8, nT9, nT10, nT33, nT36, nT42, nT58, nT80, nT126, nT255, i_m1, i_m2, Int32.toInt_zero, Int32.toInt_one] at c_1 c_7; omega) (by simp only [Int32.lt_iff_toInt_lt, Int32.le_iff_toInt_le, ← Int32.toInt_inj, nT0, nT1, nT2, nT3, nT4, nT5, nT6, nT7, nT8, nT9, nT10, nT33, nT36, nT42, nT58, nT80, nT126, nT255, i_m1, i_m2, Int32.toInt_zero, Int32.toInt_one] at c_1 c_7; omega)
      obtain ⟨kf, hf1, hf2⟩ := hfin
      exact q_zret0 hC hW hr hlk0 rfl (Or.inl ⟨kf, hf1, hf2, rfl⟩) dX5_isCoin_15
set_option maxRecDepth 100000 in
set_option maxHeartbeats 4000000 in
theorem k_isBarred (l : Launch) (G : Gx) (n : Nat) (ad : Nat → Nat) (sz : Nat) (I : Ic) (L : Lc) (R : Rc) (f t : Nat) (hf : f < 1000) (ht : t < 1000) : Met l yX5_isBarred (Cond.code yX5_isBarred cX5_isBarred 2 (some .boolean) :: GW) ({ frames := 0, cells := 0, slots := 0, locals := 0 } : Room) (qPre G n ad sz I L R [.int (nI (f)), .int (nI (t))]) (qI0 G (qA n ad sz) (n, ad, I, L, R) (fun r => (barred f t ∧ r = nI 1) ∨ (¬ barred f t ∧ r = nI 0))) 0 0 (qA n ad sz) := by
  refine q_met (by decide) (Nat.le_of_ble_eq_true rfl) ?_
  intro p e s m below meth c hC hr hlk0 hin hsz hW ls hl
  subst hsz
  have hC : CallFix p m c cX5_isBarred 2 s ([.int (nI (f)), .int (nI (t))] : List Value).toArray GW "CoinRows" := hC
  have hx := hC.1
  have hb := hC.2.1
  have hl : lv_has ls 2 [(0, .int (nI (f))), (1, .int (nI (t)))] := hl
  refine lv_iload_n hx hb dX5_isBarred_0 rfl (lv_at hl 0 rfl) ?_
  refine q_ic 4 hx hb dX5_isBarred_1 (by decide) ?_
  refine q_clt (tgt := 19) hx hb dX5_isBarred_2 (by decide) (by omega) (by omega) (fun c_2 => ?_) (fun c_2 => ?_)
  ·
    refine q_ic 0 hx hb dX5_isBarred_19 (by decide) ?_
    exact q_zret0 hC hW hr hlk0 rfl (Or.inr ⟨fun h => by have := h.1; have := h.2.1; have := h.2.2; omega, rfl⟩) dX5_isBarred_20
  ·
    refine lv_iload_n hx hb dX5_isBarred_5 rfl (lv_at hl 1 rfl) ?_
    refine q_ic 4 hx hb dX5_isBarred_6 (by decide) ?_
    refine q_clt (tgt := 19) hx hb dX5_isBarred_7 (by decide) (by omega) (by omega) (fun c_7 => ?_) (fun c_7 => ?_)
    ·
      refine q_ic 0 hx hb dX5_isBarred_19 (by decide) ?_
      exact q_zret0 hC hW hr hlk0 rfl (Or.inr ⟨fun h => by have := h.1; have := h.2.1; have := h.2.2; omega, rfl⟩) dX5_isBarred_20
    ·
      refine lv_iload_n hx hb dX5_isBarred_10 rfl (lv_at hl 0 rfl) ?_
      refine lv_iload_n hx hb dX5_isBarred_11 rfl (lv_at hl 1 rfl) ?_
      refine q_clt (tgt := 19) hx hb dX5_isBarred_12 (by decide) (by omega) (by omega) (fun c_12 => ?_) (fun c_12 => ?_)
      ·
        refine q_ic 0 hx hb dX5_isBarred_19 (by decide) ?_
        exact q_zret0 hC hW hr hlk0 rfl (Or.inr ⟨fun h => by have := h.1; have := h.2.1; have := h.2.2; omega, rfl⟩) dX5_isBarred_20
      ·
        refine q_ic 1 hx hb dX5_isBarred_15 (by decide) ?_
        refine lv_goto (tgt := 20) hx hb dX5_isBarred_16 (by decide) ?_
        exact q_zret0 hC hW hr hlk0 rfl (Or.inl ⟨⟨by omega, by omega, by omega⟩, rfl⟩) dX5_isBarred_20
set_option maxRecDepth 100000 in
set_option maxHeartbeats 4000000 in
theorem k_indexOf (l : Launch) (G : Gx) (n : Nat) (ad : Nat → Nat) (sz : Nat) (I : Ic) (L : Lc) (R : Rc) (q : Nat) (hq : q < 3) (coin to : Int32) : Met l yX5_indexOf (Cond.code yX5_indexOf cX5_indexOf 3 (some .int) :: GW) ({ frames := 1, cells := 0, slots := 0, locals := 36 } : Room) (qPre G n ad sz I L R [.int (nI (q)), .int (coin), .int (to)]) (qI0 G (qA n ad sz) (n, ad, I, L, R) (fun r => (∃ i, idx q coin to = some i ∧ i < 58 ∧ r = nI i) ∨ (idx q coin to = none ∧ r = -1))) 0 0 (qA n ad sz) := by
  refine q_met (by decide) (Nat.le_of_ble_eq_true rfl) ?_
  intro p e s m below meth c hC hr hlk0 hin hsz hW ls hl
  subst hsz
  have hC : CallFix p m c cX5_indexOf 3 s ([.int (nI (q)), .int (coin), .int (to)] : List Value).toArray GW "CoinRows" := hC
  have hx := hC.1
  have hb := hC.2.1
  have hl : lv_has ls 3 [(0, .int (nI (q))), (1, .int (coin)), (2, .int (to))] := hl
  refine lv_iload_n hx hb dX5_indexOf_0 rfl (lv_at hl 0 rfl) ?_
  refine q_ine (tgt := 24) hx hb dX5_indexOf_1 (by decide) (by omega) (fun c_1 => ?_) (fun c_1 => ?_)
  ·
    refine lv_iload_n hx hb dX5_indexOf_24 rfl (lv_at hl 0 rfl) ?_
    refine q_ic 1 hx hb dX5_indexOf_25 (by decide) ?_
    refine q_cne (tgt := 54) hx hb dX5_indexOf_26 (by decide) (by omega) (by omega) (fun c_26 => ?_) (fun c_26 => ?_)
    ·
      refine lv_iload_n hx hb dX5_indexOf_54 rfl (lv_at hl 1 rfl) ?_
      refine q_kI0 (q_rS (As := [.int (coin)]) (rest := []) hC hW mw_X5_isLoud gw_168 (k_isLoud l G n ad s.heap.size I L R _) ⟨rfl, rfl⟩ ⟨Nat.le_of_ble_eq_true rfl, Nat.le_of_ble_eq_true rfl⟩ ⟨by decide, by decide⟩ hl.1 rfl rfl (by decide) dX5_indexOf_55) hW (fun r_55 H locs hp hW => ?_)
      rcases hp with ⟨k_55, hk_55, rfl, rfl⟩ | ⟨hk_55, rfl⟩
      ·
        refine q_ieq (tgt := 81) hx hb dX5_indexOf_58 (by decide) (by omega) (fun c_58 => absurd c_58 (by decide)) (fun c_58 => ?_)
        refine lv_iload_n hx hb dX5_indexOf_61 rfl (lv_at hl 2 rfl) ?_
        refine lv_if_lt (tgt := 81) hx hb dX5_indexOf_62 (by decide) (fun c_62 => ?_) (fun c_62 => ?_)
        ·
          have ht_9 : rng to 4 = none := rng_none.mpr (by simp only [Int32.lt_iff_toInt_lt, Int32.le_iff_toInt_le, ← Int32.toInt_inj, nT0, nT1, nT2, nT3, nT4, nT5, nT6, nT7, nT8, nT9, nT10, nT33, nT36, nT42, nT58, nT80, nT126, nT255, i_m1, i_m2, Int32.toInt_zero, Int32.toInt_one] at c_62; omega)
          refine lv_iconst (v := -1) hx hb dX5_indexOf_81 (by decide) ?_
          exact q_iret0 hC hW hr hlk0 (Or.inr ⟨(by simp [idx, rng_nI, hk_55, ht_9, c_1, c_26, c_58]), rfl⟩) dX5_indexOf_82
        ·
          refine lv_iload_n hx hb dX5_indexOf_65 rfl (lv_at hl 2 rfl) ?_
          refine q_ic 4 hx hb dX5_indexOf_66 (by decide) ?_
          refine lv_icmp_ge (tgt := 81) hx hb dX5_indexOf_67 (by decide) (fun c_67 => ?_) (fun c_67 => ?_)
          ·
            have ht_9 : rng to 4 = none := rng_none.mpr (by simp only [Int32.lt_iff_toInt_lt, Int32.le_iff_toInt_le, ← Int32.toInt_inj, nT0, nT1, nT2, nT3, nT4, nT5, nT6, nT7, nT8, nT9, nT10, nT33, nT36, nT42, nT58, nT80, nT126, nT255, i_m1, i_m2, Int32.toInt_zero, Int32.toInt_one] at c_62 c_67; omega)
            refine lv_iconst (v := -1) hx hb dX5_indexOf_81 (by decide) ?_
            exact q_iret0 hC hW hr hlk0 (Or.inr ⟨(by simp [idx, rng_nI, hk_55, ht_9, c_1, c_26, c_58]), rfl⟩) dX5_indexOf_82
          ·
            obtain ⟨t_9, ht_9, rfl⟩ := rng_ex (N := 4) (x := to) (by decide) (by simp only [Int32.lt_iff_toInt_lt, Int32.le_iff_toInt_le, ← Int32.toInt_inj, nT0, nT1, nT2, nT3, nT4, nT5, nT6, nT7, nT8, nT9, nT10, nT33, nT36, nT42, nT58, nT80, nT126, nT255, i_m1, i_m2, Int32.toInt_zero, Int32.toInt_one] at c_62 c_67; omega) (by simp only [Int32.lt_iff_toInt_lt, Int32.le_iff_toInt_le, ← Int32.toInt_inj, nT0, nT1, nT2, nT3, nT4, nT5, nT6, nT7, nT8, nT9, nT10, nT33, nT36, nT42, nT58, nT80, nT126, nT255, i_m1, i_m2, Int32.toInt_zero, Int32.toInt_one] at c_62 c_67; omega)
            refine q_bp 42 hx hb dX5_indexOf_70 (by decide) ?_
            refine lv_iload_n hx hb dX5_indexOf_72 rfl (lv_at hl 1 rfl) ?_
            refine q_ic 4 hx hb dX5_indexOf_73 (by decide) ?_
            refine q_imul hx hb dX5_indexOf_74 ?_
            refine q_iadd hx hb dX5_indexOf_75 ?_
            refine lv_iload_n hx hb dX5_indexOf_76 rfl (lv_at hl 2 rfl) ?_
            refine q_iadd hx hb dX5_indexOf_77 ?_
            refine lv_goto (tgt := 82) hx hb dX5_indexOf_78 (by decide) ?_
            exact q_iret0 hC hW hr hlk0 (Or.inl ⟨(42 + (k_55 * 4)) + t_9, (by simp [idx, rng_nI, hk_55, ht_9, c_1, c_26, c_58]), by omega, rfl⟩) dX5_indexOf_82
      ·
        refine q_ieq (tgt := 81) hx hb dX5_indexOf_58 (by decide) (by omega) (fun c_58 => ?_) (fun c_58 => absurd c_58 (by decide))
        refine lv_iconst (v := -1) hx hb dX5_indexOf_81 (by decide) ?_
        exact q_iret0 hC hW hr hlk0 (Or.inr ⟨(by simp [idx, rng_nI, hk_55, c_1, c_26, c_58]), rfl⟩) dX5_indexOf_82
    ·
      refine lv_iload_n hx hb dX5_indexOf_29 rfl (lv_at hl 1 rfl) ?_
      refine q_kI0 (q_rS (As := [.int (coin)]) (rest := []) hC hW mw_X5_isCoin gw_165 (k_isCoin l G n ad s.heap.size I L R _) ⟨rfl, rfl⟩ ⟨Nat.le_of_ble_eq_true rfl, Nat.le_of_ble_eq_true rfl⟩ ⟨by decide, by decide⟩ hl.1 rfl rfl (by decide) dX5_indexOf_30) hW (fun r_30 H locs hp hW => ?_)
      rcases hp with ⟨k_30, hk_30, rfl, rfl⟩ | ⟨hk_30, rfl⟩
      ·
        refine q_ieq (tgt := 52) hx hb dX5_indexOf_33 (by decide) (by omega) (fun c_33 => absurd c_33 (by decide)) (fun c_33 => ?_)
        refine lv_iload_n hx hb dX5_indexOf_36 rfl (lv_at hl 2 rfl) ?_
        refine q_kI0 (q_rS (As := [.int (to)]) (rest := []) hC hW mw_X5_isCoin gw_165 (k_isCoin l G n ad H.size I L R _) ⟨rfl, rfl⟩ ⟨Nat.le_of_ble_eq_true rfl, Nat.le_of_ble_eq_true rfl⟩ ⟨by decide, by decide⟩ hl.1 rfl rfl (by decide) dX5_indexOf_37) hW (fun r_37 H locs hp hW => ?_)
        rcases hp with ⟨k_37, hk_37, rfl, rfl⟩ | ⟨hk_37, rfl⟩
        ·
          refine q_ieq (tgt := 52) hx hb dX5_indexOf_40 (by decide) (by omega) (fun c_40 => absurd c_40 (by decide)) (fun c_40 => ?_)
          refine lv_iload_n hx hb dX5_indexOf_43 rfl (lv_at hl 1 rfl) ?_
          refine q_bp 6 hx hb dX5_indexOf_44 (by decide) ?_
          refine q_imul hx hb dX5_indexOf_46 ?_
          refine lv_iload_n hx hb dX5_indexOf_47 rfl (lv_at hl 2 rfl) ?_
          refine q_iadd hx hb dX5_indexOf_48 ?_
          refine lv_goto (tgt := 53) hx hb dX5_indexOf_49 (by decide) ?_
          exact q_iret0 hC hW hr hlk0 (Or.inl ⟨(k_30 * 6) + k_37, (by simp [idx, rng_nI, hk_30, hk_37, c_1, c_26, c_33, c_40]), by omega, rfl⟩) dX5_indexOf_53
        ·
          refine q_ieq (tgt := 52) hx hb dX5_indexOf_40 (by decide) (by omega) (fun c_40 => ?_) (fun c_40 => absurd c_40 (by decide))
          refine lv_iconst (v := -1) hx hb dX5_indexOf_52 (by decide) ?_
          exact q_iret0 hC hW hr hlk0 (Or.inr ⟨(by simp [idx, rng_nI, hk_30, hk_37, c_1, c_26, c_33, c_40]), rfl⟩) dX5_indexOf_53
      ·
        refine q_ieq (tgt := 52) hx hb dX5_indexOf_33 (by decide) (by omega) (fun c_33 => ?_) (fun c_33 => absurd c_33 (by decide))
        refine lv_iconst (v := -1) hx hb dX5_indexOf_52 (by decide) ?_
        exact q_iret0 hC hW hr hlk0 (Or.inr ⟨(by simp [idx, rng_nI, hk_30, c_1, c_26, c_33]), rfl⟩) dX5_indexOf_53
  ·
    refine lv_iload_n hx hb dX5_indexOf_4 rfl (lv_at hl 1 rfl) ?_
    refine q_kI0 (q_rS (As := [.int (coin)]) (rest := []) hC hW mw_X5_isCoin gw_165 (k_isCoin l G n ad s.heap.size I L R _) ⟨rfl, rfl⟩ ⟨Nat.le_of_ble_eq_true rfl, Nat.le_of_ble_eq_true rfl⟩ ⟨by decide, by decide⟩ hl.1 rfl rfl (by decide) dX5_indexOf_5) hW (fun r_5 H locs hp hW => ?_)
    rcases hp with ⟨k_5, hk_5, rfl, rfl⟩ | ⟨hk_5, rfl⟩
    ·
      refine q_ieq (tgt := 22) hx hb dX5_indexOf_8 (by decide) (by omega) (fun c_8 => absurd c_8 (by decide)) (fun c_8 => ?_)
      refine lv_iload_n hx hb dX5_indexOf_11 rfl (lv_at hl 2 rfl) ?_
      refine lv_if_ne (tgt := 22) hx hb dX5_indexOf_12 (by decide) (fun c_12 => ?_) (fun c_12 => ?_)
      ·
        have ht_9 : rng to 1 = none := rng_none.mpr (by simp only [Int32.lt_iff_toInt_lt, Int32.le_iff_toInt_le, ← Int32.toInt_inj, nT0, nT1, nT2, nT3, nT4, nT5, nT6, nT7, nT8, nT9, nT10, nT33, nT36, nT42, nT58, nT80, nT126, nT255, i_m1, i_m2, Int32.toInt_zero, Int32.toInt_one] at c_12; omega)
        refine lv_iconst (v := -1) hx hb dX5_indexOf_22 (by decide) ?_
        exact q_iret0 hC hW hr hlk0 (Or.inr ⟨(by simp [idx, rng_nI, hk_5, ht_9, c_1, c_8]), rfl⟩) dX5_indexOf_23
      ·
        obtain ⟨t_9, ht_9, rfl⟩ := rng_ex (N := 1) (x := to) (by decide) (by simp only [Int32.lt_iff_toInt_lt, Int32.le_iff_toInt_le, ← Int32.toInt_inj, nT0, nT1, nT2, nT3, nT4, nT5, nT6, nT7, nT8, nT9, nT10, nT33, nT36, nT42, nT58, nT80, nT126, nT255, i_m1, i_m2, Int32.toInt_zero, Int32.toInt_one] at c_12; omega) (by simp only [Int32.lt_iff_toInt_lt, Int32.le_iff_toInt_le, ← Int32.toInt_inj, nT0, nT1, nT2, nT3, nT4, nT5, nT6, nT7, nT8, nT9, nT10, nT33, nT36, nT42, nT58, nT80, nT126, nT255, i_m1, i_m2, Int32.toInt_zero, Int32.toInt_one] at c_12; omega)
        refine q_bp 36 hx hb dX5_indexOf_15 (by decide) ?_
        refine lv_iload_n hx hb dX5_indexOf_17 rfl (lv_at hl 1 rfl) ?_
        refine q_iadd hx hb dX5_indexOf_18 ?_
        refine lv_goto (tgt := 23) hx hb dX5_indexOf_19 (by decide) ?_
        exact q_iret0 hC hW hr hlk0 (Or.inl ⟨36 + k_5, (by simp [idx, rng_nI, hk_5, ht_9, c_1, c_8]), by omega, rfl⟩) dX5_indexOf_23
    ·
      refine q_ieq (tgt := 22) hx hb dX5_indexOf_8 (by decide) (by omega) (fun c_8 => ?_) (fun c_8 => absurd c_8 (by decide))
      refine lv_iconst (v := -1) hx hb dX5_indexOf_22 (by decide) ?_
      exact q_iret0 hC hW hr hlk0 (Or.inr ⟨(by simp [idx, rng_nI, hk_5, c_1, c_8]), rfl⟩) dX5_indexOf_23
end
section
def fb_sm (f : Nat → Nat) : Nat → Nat
  | 0 => 0
  | n + 1 => fb_sm f n + f n
/-- going on over six places, where the weight is above nought -/
def foldT {β : Type} (op : β → Nat → β → β) (z : β) (m : Nat → Nat) (v : Nat → β) : Nat → β
  | 0 => z
  | i + 1 => if 0 < m i then op (foldT op z m v i) (m i) (v i) else foldT op z m v i
theorem foldT_cong {β : Type} {op : β → Nat → β → β} {z : β} {m m' : Nat → Nat} {v v' : Nat → β} : ∀ {N : Nat}, (∀ i, i < N → m i = m' i) → (∀ i, i < N → 0 < m i → v i = v' i) → foldT op z m v N = foldT op z m' v' N
  | 0, _, _ => rfl
  | N + 1, h1, h2 => by
    unfold foldT
    rw [foldT_cong (fun i hi => h1 i (by omega)) (fun i hi => h2 i (by omega)), ← h1 N (by omega)]
    by_cases h : 0 < m N
    · rw [if_pos h, if_pos h, h2 N (by omega) h]
    · rw [if_neg h, if_neg h]
def opS (a m x : Nat) : Nat := a + m * x
def opC (a _m x : Nat) : Nat := a + x
def opM (a m x : Nat) : Nat := max a (m * x)
/-- the weight of going on from f to t, d letters being told -/
def mv (w : Nat → Nat) (k : Nat) (r : Nat → Nat) (f t d : Nat) : Nat := if 4 ≤ t then w (f * 6 + t) else if d < k then w (f * 6 + t) * w (42 + t * 4 + r d) else 0
def nx (t d : Nat) : Nat := if t < 4 then d + 1 else d
/-- a row of rests out of the row behind it -/
def r5 {β : Type} (op : β → Nat → β → β) (z : β) (g : Nat → Nat → Nat) (nxt : Nat → β) : β := foldT op z (g 5) nxt 4
def r4 {β : Type} (op : β → Nat → β → β) (z : β) (g : Nat → Nat → Nat) (nxt : Nat → β) : β := foldT op z (g 4) (fun t => if t < 4 then nxt t else r5 op z g nxt) 6
def rowA {β : Type} (op : β → Nat → β → β) (z : β) (g : Nat → Nat → Nat) (nxt : Nat → β) : Nat → β := fun f => if f = 5 then r5 op z g nxt else if f = 4 then r4 op z g nxt else foldT op z (g f) (fun t => if t < 4 then nxt t else if t = 4 then r4 op z g nxt else r5 op z g nxt) 6
/-- rests when j letters are to be told yet -/
def Ax {β : Type} (op : β → Nat → β → β) (z e : β) (w : Nat → Nat) (k : Nat) (r : Nat → Nat) : Nat → Nat → β
  | 0 => fun f => if f < 4 ∨ (f = 6 ∧ k = 0) then e else z
  | j + 1 => rowA op z (fun f t => mv w k r f t (k - (j + 1))) (Ax op z e w k r j)
abbrev Sx' (w : Nat → Nat) (k : Nat) (r : Nat → Nat) : Nat → Nat → Nat := Ax opS 0 1 w k r
abbrev Cx' (w : Nat → Nat) (k : Nat) (r : Nat → Nat) : Nat → Nat → Nat := Ax opC 0 1 w k r
abbrev Mx' (w : Nat → Nat) (k : Nat) (r : Nat → Nat) : Nat → Nat → Nat := Ax opM 0 1 w k r
/-- weights as they may be -/
def Wok (w : Nat → Nat) : Prop := (∀ i, w i ≤ 3) ∧ w 28 = 0 ∧ w 34 = 0 ∧ w 35 = 0
theorem mv_le {w : Nat → Nat} (hw : Wok w) (k : Nat) (r : Nat → Nat) (f t d : Nat) : mv w k r f t d ≤ 9 := by
  have h1 := hw.1 (f * 6 + t)
  have h2 := hw.1 (42 + t * 4 + r d)
  unfold mv
  split
  · omega
  · split
    · have := Nat.mul_le_mul h1 h2
      omega
    · omega
theorem mv_le3 {w : Nat → Nat} (hw : Wok w) (k : Nat) (r : Nat → Nat) (f t d : Nat) (ht : 4 ≤ t) : mv w k r f t d ≤ 3 := by
  unfold mv; rw [if_pos ht]; exact hw.1 _
theorem mv_44 {w : Nat → Nat} (hw : Wok w) (k : Nat) (r : Nat → Nat) (d : Nat) : mv w k r 4 4 d = 0 := by unfold mv; rw [if_pos (by decide)]; exact hw.2.1
theorem mv_54 {w : Nat → Nat} (hw : Wok w) (k : Nat) (r : Nat → Nat) (d : Nat) : mv w k r 5 4 d = 0 := by unfold mv; rw [if_pos (by decide)]; exact hw.2.2.1
theorem mv_55 {w : Nat → Nat} (hw : Wok w) (k : Nat) (r : Nat → Nat) (d : Nat) : mv w k r 5 5 d = 0 := by unfold mv; rw [if_pos (by decide)]; exact hw.2.2.2
/-- the row at told d: how its own silent places stand in it -/
theorem rowA_fold {β : Type} {op : β → Nat → β → β} {z : β} {g : Nat → Nat → Nat} {nxt : Nat → β} (h44 : g 4 4 = 0) (h54 : g 5 4 = 0) (h55 : g 5 5 = 0) (f : Nat) :
    rowA op z g nxt f = foldT op z (g f) (fun t => if t < 4 then nxt t else rowA op z g nxt t) 6 := by
  have e5 : rowA op z g nxt 5 = r5 op z g nxt := by unfold rowA; rw [if_pos rfl]
  have e4 : rowA op z g nxt 4 = r4 op z g nxt := by unfold rowA; rw [if_neg (by decide), if_pos rfl]
  by_cases h5 : f = 5
  · subst h5
    rw [e5]
    unfold r5
    show _ = foldT op z (g 5) _ 6
    simp only [foldT, h54, h55, Nat.lt_irrefl, if_false]
    simp
  · by_cases h4 : f = 4
    · subst h4
      rw [e4]
      unfold r4
      refine foldT_cong (fun _ _ => rfl) (fun i hi hp => ?_)
      by_cases hi4 : i < 4
      · simp [hi4]
      · have : i = 4 ∨ i = 5 := by omega
        rcases this with rfl | rfl
        · rw [h44] at hp; omega
        · simp [e5]
    · unfold rowA
      rw [if_neg h5, if_neg h4]
      refine foldT_cong (fun _ _ => rfl) (fun i hi hp => ?_)
      by_cases hi4 : i < 4
      · simp [hi4]
      · have : i = 4 ∨ i = 5 := by omega
        rcases this with rfl | rfl
        · simp
        · simp
theorem Ax_succ {β : Type} {op : β → Nat → β → β} {z e : β} {w : Nat → Nat} {k : Nat} {r : Nat → Nat} (hw : Wok w) (d : Nat) (hd : d < k) (f : Nat) :
    Ax op z e w k r (k - d) f = foldT op z (fun t => mv w k r f t d) (fun t => Ax op z e w k r (k - nx t d) t) 6 := by
  obtain ⟨j, hj⟩ : ∃ j, k - d = j + 1 := ⟨k - d - 1, by omega⟩
  have hd2 : k - (j + 1) = d := by omega
  rw [hj]
  show rowA op z (fun f t => mv w k r f t (k - (j + 1))) (Ax op z e w k r j) f = _
  rw [hd2, rowA_fold (mv_44 hw k r d) (mv_54 hw k r d) (mv_55 hw k r d)]
  refine foldT_cong (fun _ _ => rfl) (fun i hi _ => ?_)
  by_cases hi4 : i < 4
  · have e1 : k - nx i d = j := by unfold nx; rw [if_pos hi4]; omega
    rw [e1, if_pos hi4]
  · have e1 : k - nx i d = j + 1 := by unfold nx; rw [if_neg hi4]; omega
    rw [e1, if_neg hi4]
    show _ = rowA op z (fun f t => mv w k r f t (k - (j + 1))) (Ax op z e w k r j) i
    rw [hd2]
theorem foldS_succ (m v : Nat → Nat) (N : Nat) : foldT opS 0 m v (N + 1) = foldT opS 0 m v N + m N * v N := by
  show (if 0 < m N then opS (foldT opS 0 m v N) (m N) (v N) else foldT opS 0 m v N) = _
  by_cases h : 0 < m N
  · rw [if_pos h]; rfl
  · rw [if_neg h, show m N = 0 by omega, Nat.zero_mul, Nat.add_zero]
theorem foldS_zero (m v : Nat → Nat) : foldT opS 0 m v 0 = 0 := rfl
theorem foldS_4 (m v : Nat → Nat) : foldT opS 0 m v 4 = m 0 * v 0 + m 1 * v 1 + m 2 * v 2 + m 3 * v 3 := by
  rw [foldS_succ, foldS_succ, foldS_succ, foldS_succ, foldS_zero]; omega
theorem foldS_6 (m v : Nat → Nat) : foldT opS 0 m v 6 = m 0 * v 0 + m 1 * v 1 + m 2 * v 2 + m 3 * v 3 + m 4 * v 4 + m 5 * v 5 := by
  rw [foldS_succ, foldS_succ, foldS_4]
theorem mul9 {a b c d : Nat} (h1 : a ≤ c) (h2 : b ≤ d) : a * b ≤ c * d := Nat.mul_le_mul h1 h2
theorem rowS_le {g : Nat → Nat → Nat} {nxt : Nat → Nat} {B : Nat} (h9 : ∀ f t, g f t ≤ 9) (h3 : ∀ f t, 4 ≤ t → g f t ≤ 3) (hB : ∀ t, t < 4 → nxt t ≤ B) :
    r5 opS 0 g nxt ≤ 36 * B ∧ r4 opS 0 g nxt ≤ 36 * B + 3 * (36 * B) + 3 * (36 * B) ∧ ∀ f, f ≠ 4 → f ≠ 5 → rowA opS 0 g nxt f ≤ 36 * B + 3 * r4 opS 0 g nxt + 3 * r5 opS 0 g nxt := by
  have e5 : r5 opS 0 g nxt ≤ 36 * B := by
    unfold r5
    rw [foldS_4]
    have a0 := mul9 (h9 5 0) (hB 0 (by decide))
    have a1 := mul9 (h9 5 1) (hB 1 (by decide))
    have a2 := mul9 (h9 5 2) (hB 2 (by decide))
    have a3 := mul9 (h9 5 3) (hB 3 (by decide))
    omega
  refine ⟨e5, ?_, fun f h4 h5 => ?_⟩
  · unfold r4
    rw [foldS_6]
    have a0 := mul9 (h9 4 0) (hB 0 (by decide))
    have a1 := mul9 (h9 4 1) (hB 1 (by decide))
    have a2 := mul9 (h9 4 2) (hB 2 (by decide))
    have a3 := mul9 (h9 4 3) (hB 3 (by decide))
    have a4 := mul9 (h3 4 4 (by decide)) e5
    have a5 := mul9 (h3 4 5 (by decide)) e5
    simp only [show (0:Nat) < 4 by decide, show (1:Nat) < 4 by decide, show (2:Nat) < 4 by decide, show (3:Nat) < 4 by decide, show ¬ (4:Nat) < 4 by decide, show ¬ (5:Nat) < 4 by decide, if_true, if_false]
    omega
  · unfold rowA
    rw [if_neg h5, if_neg h4, foldS_6]
    have a0 := mul9 (h9 f 0) (hB 0 (by decide))
    have a1 := mul9 (h9 f 1) (hB 1 (by decide))
    have a2 := mul9 (h9 f 2) (hB 2 (by decide))
    have a3 := mul9 (h9 f 3) (hB 3 (by decide))
    have a4 := mul9 (h3 f 4 (by decide)) (Nat.le_refl (r4 opS 0 g nxt))
    have a5 := mul9 (h3 f 5 (by decide)) (Nat.le_refl (r5 opS 0 g nxt))
    simp only [show (0:Nat) < 4 by decide, show (1:Nat) < 4 by decide, show (2:Nat) < 4 by decide, show (3:Nat) < 4 by decide, show ¬ (4:Nat) < 4 by decide, show ¬ (5:Nat) < 4 by decide, show ¬ (5:Nat) = 4 by decide, if_true, if_false]
    omega
theorem r4S_le {g : Nat → Nat → Nat} {nxt : Nat → Nat} {B : Nat} (h9 : ∀ f t, g f t ≤ 9) (h3 : ∀ f t, 4 ≤ t → g f t ≤ 3) (h44 : g 4 4 = 0) (hB : ∀ t, t < 4 → nxt t ≤ B) : r4 opS 0 g nxt ≤ 144 * B := by
  have e5 := (rowS_le h9 h3 hB).1
  unfold r4
  rw [foldS_6]
  have a0 := mul9 (h9 4 0) (hB 0 (by decide))
  have a1 := mul9 (h9 4 1) (hB 1 (by decide))
  have a2 := mul9 (h9 4 2) (hB 2 (by decide))
  have a3 := mul9 (h9 4 3) (hB 3 (by decide))
  have a5 := mul9 (h3 4 5 (by decide)) e5
  simp only [show (0:Nat) < 4 by decide, show (1:Nat) < 4 by decide, show (2:Nat) < 4 by decide, show (3:Nat) < 4 by decide, show ¬ (4:Nat) < 4 by decide, show ¬ (5:Nat) < 4 by decide, if_true, if_false, h44, Nat.zero_mul]
  omega
theorem AxS_le {w : Nat → Nat} (hw : Wok w) (k : Nat) (r : Nat → Nat) : ∀ j f, Sx' w k r j f ≤ 576 ^ j
  | 0, f => by
    show (if f < 4 ∨ (f = 6 ∧ k = 0) then 1 else 0) ≤ 1
    split <;> omega
  | j + 1, f => by
    have ih := AxS_le hw k r j
    have h9 : ∀ f t, mv w k r f t (k - (j + 1)) ≤ 9 := fun f t => mv_le hw k r f t _
    have h3 : ∀ f t, 4 ≤ t → mv w k r f t (k - (j + 1)) ≤ 3 := fun f t h => mv_le3 hw k r f t _ h
    have hB : ∀ t, t < 4 → Ax opS 0 1 w k r j t ≤ 576 ^ j := fun t _ => ih t
    have e5 := (rowS_le h9 h3 hB).1
    have e4 := r4S_le h9 h3 (mv_44 hw k r _) hB
    have ef := (rowS_le h9 h3 hB).2.2
    show rowA opS 0 (fun f t => mv w k r f t (k - (j + 1))) (Ax opS 0 1 w k r j) f ≤ _
    rw [Nat.pow_succ]
    by_cases h5 : f = 5
    · subst h5
      have : rowA opS 0 (fun f t => mv w k r f t (k - (j + 1))) (Ax opS 0 1 w k r j) 5 = r5 opS 0 (fun f t => mv w k r f t (k - (j + 1))) (Ax opS 0 1 w k r j) := by unfold rowA; rw [if_pos rfl]
      rw [this]; omega
    · by_cases h4 : f = 4
      · subst h4
        have : rowA opS 0 (fun f t => mv w k r f t (k - (j + 1))) (Ax opS 0 1 w k r j) 4 = r4 opS 0 (fun f t => mv w k r f t (k - (j + 1))) (Ax opS 0 1 w k r j) := by unfold rowA; rw [if_neg (by decide), if_pos rfl]
        rw [this]; omega
      · have := ef f h4 h5
        omega
/-- a relation that the folds keep -/
theorem foldT_rel {α β : Type} {op : α → Nat → α → α} {op' : β → Nat → β → β} {z : α} {z' : β} {P : α → β → Prop} {m : Nat → Nat} {v : Nat → α} {v' : Nat → β} (h0 : P z z') (hs : ∀ a b x y i, 0 < i → P a b → P x y → P (op a i x) (op' b i y)) :
    ∀ {N : Nat}, (∀ i, i < N → 0 < m i → P (v i) (v' i)) → P (foldT op z m v N) (foldT op' z' m v' N)
  | 0, _ => h0
  | N + 1, h => by
    have ih := foldT_rel h0 hs (m := m) (v := v) (v' := v') (N := N) (fun i hi hp => h i (by omega) hp)
    unfold foldT
    by_cases hm : 0 < m N
    · rw [if_pos hm, if_pos hm]; exact hs _ _ _ _ _ hm ih (h N (by omega) hm)
    · rw [if_neg hm, if_neg hm]; exact ih
theorem Ax_rel {α β : Type} {op : α → Nat → α → α} {op' : β → Nat → β → β} {z e : α} {z' e' : β} {P : α → β → Prop} {w : Nat → Nat} {k : Nat} {r : Nat → Nat} (h0 : P z z') (h1 : P e e') (hs : ∀ a b x y i, 0 < i → P a b → P x y → P (op a i x) (op' b i y)) :
    ∀ j f, P (Ax op z e w k r j f) (Ax op' z' e' w k r j f)
  | 0, f => by
    show P (if f < 4 ∨ (f = 6 ∧ k = 0) then e else z) (if f < 4 ∨ (f = 6 ∧ k = 0) then e' else z')
    split
    · exact h1
    · exact h0
  | j + 1, f => by
    have ih := Ax_rel h0 h1 hs (w := w) (k := k) (r := r) j
    have e5 : P (r5 op z (fun f t => mv w k r f t (k - (j + 1))) (Ax op z e w k r j)) (r5 op' z' (fun f t => mv w k r f t (k - (j + 1))) (Ax op' z' e' w k r j)) := foldT_rel h0 hs (fun i _ _ => ih i)
    have e4 : P (r4 op z (fun f t => mv w k r f t (k - (j + 1))) (Ax op z e w k r j)) (r4 op' z' (fun f t => mv w k r f t (k - (j + 1))) (Ax op' z' e' w k r j)) := foldT_rel h0 hs (fun i _ _ => by
      by_cases h : i < 4
      · rw [if_pos h, if_pos h]; exact ih i
      · rw [if_neg h, if_neg h]; exact e5)
    show P (rowA op z _ _ f) (rowA op' z' _ _ f)
    unfold rowA
    by_cases h5 : f = 5
    · rw [if_pos h5, if_pos h5]; exact e5
    · rw [if_neg h5, if_neg h5]
      by_cases h4 : f = 4
      · rw [if_pos h4, if_pos h4]; exact e4
      · rw [if_neg h4, if_neg h4]
        refine foldT_rel h0 hs (fun i _ _ => ?_)
        by_cases h : i < 4
        · rw [if_pos h, if_pos h]; exact ih i
        · rw [if_neg h, if_neg h]
          by_cases h' : i = 4
          · rw [if_pos h', if_pos h']; exact e4
          · rw [if_neg h', if_neg h']; exact e5
theorem AxM_le {w : Nat → Nat} (k : Nat) (r : Nat → Nat) (j f : Nat) : Mx' w k r j f ≤ Sx' w k r j f :=
  Ax_rel (P := fun a b => a ≤ b) (Nat.le_refl 0) (Nat.le_refl 1) (fun a b x y i hi h1 h2 => by
    show max a (i * x) ≤ b + i * y
    have := Nat.mul_le_mul_left i h2
    omega) j f
theorem AxC_le {w : Nat → Nat} (k : Nat) (r : Nat → Nat) (j f : Nat) : Cx' w k r j f ≤ Sx' w k r j f :=
  Ax_rel (P := fun a b => a ≤ b) (Nat.le_refl 0) (Nat.le_refl 1) (fun a b x y i hi h1 h2 => by
    show a + x ≤ b + i * y
    have h3 : 1 * y ≤ i * y := Nat.mul_le_mul_right y hi
    omega) j f
theorem AxC_pos {w : Nat → Nat} (k : Nat) (r : Nat → Nat) (j f : Nat) : 0 < Cx' w k r j f ↔ 0 < Sx' w k r j f :=
  Ax_rel (P := fun a b => 0 < a ↔ 0 < b) Iff.rfl Iff.rfl (fun a b x y i hi h1 h2 => by
    show 0 < a + x ↔ 0 < b + i * y
    have h3 : 0 < i * y ↔ 0 < y := ⟨fun h => Nat.pos_of_mul_pos_left h, fun h => Nat.mul_pos hi h⟩
    omega) j f
theorem AxM_pos {w : Nat → Nat} (k : Nat) (r : Nat → Nat) (j f : Nat) : 0 < Mx' w k r j f ↔ 0 < Sx' w k r j f :=
  Ax_rel (P := fun a b => 0 < a ↔ 0 < b) Iff.rfl Iff.rfl (fun a b x y i hi h1 h2 => by
    show 0 < max a (i * x) ↔ 0 < b + i * y
    have h3 : 0 < i * y ↔ 0 < y := ⟨fun h => Nat.pos_of_mul_pos_left h, fun h => Nat.mul_pos hi h⟩
    have h4 : 0 < i * x ↔ 0 < x := ⟨fun h => Nat.pos_of_mul_pos_left h, fun h => Nat.mul_pos hi h⟩
    omega) j f
theorem foldC_le {m v : Nat → Nat} {B : Nat → Nat} : ∀ {N : Nat}, (∀ i, i < N → v i ≤ B i) → foldT opC 0 m v N ≤ fb_sm B N
  | 0, _ => Nat.le_refl 0
  | N + 1, h => by
    have h1 := foldC_le (m := m) (N := N) (fun i hi => h i (by omega))
    have h2 := h N (by omega)
    show (if 0 < m N then foldT opC 0 m v N + v N else foldT opC 0 m v N) ≤ fb_sm B N + B N
    split <;> omega
theorem AxC_16 {w : Nat → Nat} (hw : Wok w) (k : Nat) (r : Nat → Nat) : ∀ j f, Cx' w k r j f ≤ 16 ^ j
  | 0, f => by
    show (if f < 4 ∨ (f = 6 ∧ k = 0) then 1 else 0) ≤ 1
    split <;> omega
  | j + 1, f => by
    have ih := AxC_16 hw k r j
    have e5 : r5 opC 0 (fun f t => mv w k r f t (k - (j + 1))) (Ax opC 0 1 w k r j) ≤ 4 * 16 ^ j := by
      have := foldC_le (m := fun t => mv w k r 5 t (k - (j + 1))) (v := Ax opC 0 1 w k r j) (B := fun _ => 16 ^ j) (N := 4) (fun i _ => ih i)
      simp only [fb_sm] at this
      show foldT opC 0 (fun t => mv w k r 5 t (k - (j + 1))) (Ax opC 0 1 w k r j) 4 ≤ _
      omega
    have e4 : r4 opC 0 (fun f t => mv w k r f t (k - (j + 1))) (Ax opC 0 1 w k r j) ≤ 8 * 16 ^ j := by
      have h : foldT opC 0 (fun t => mv w k r 4 t (k - (j + 1))) (fun t => if t < 4 then Ax opC 0 1 w k r j t else r5 opC 0 (fun f t => mv w k r f t (k - (j + 1))) (Ax opC 0 1 w k r j)) 6 ≤ _ := foldC_le (B := fun t => if t < 4 then 16 ^ j else 4 * 16 ^ j) (fun i _ => by
        by_cases h : i < 4
        · simp only [if_pos h]; exact ih i
        · simp only [if_neg h]; exact e5)
      have h44 := mv_44 hw k r (k - (j + 1))
      have e : foldT opC 0 (fun t => mv w k r 4 t (k - (j + 1))) (fun t => if t < 4 then Ax opC 0 1 w k r j t else r5 opC 0 (fun f t => mv w k r f t (k - (j + 1))) (Ax opC 0 1 w k r j)) 5 = foldT opC 0 (fun t => mv w k r 4 t (k - (j + 1))) (fun t => if t < 4 then Ax opC 0 1 w k r j t else r5 opC 0 (fun f t => mv w k r f t (k - (j + 1))) (Ax opC 0 1 w k r j)) 4 := by
        show (if 0 < mv w k r 4 4 (k - (j + 1)) then _ else _) = _
        rw [h44]; rfl
      have h4 : foldT opC 0 (fun t => mv w k r 4 t (k - (j + 1))) (fun t => if t < 4 then Ax opC 0 1 w k r j t else r5 opC 0 (fun f t => mv w k r f t (k - (j + 1))) (Ax opC 0 1 w k r j)) 4 ≤ _ := foldC_le (B := fun _ => 16 ^ j) (fun i hi => by
        simp only [if_pos hi]; exact ih i)
      simp only [fb_sm] at h4
      show (if 0 < mv w k r 4 5 (k - (j + 1)) then foldT opC 0 (fun t => mv w k r 4 t (k - (j + 1))) (fun t => if t < 4 then Ax opC 0 1 w k r j t else r5 opC 0 (fun f t => mv w k r f t (k - (j + 1))) (Ax opC 0 1 w k r j)) 5 + _ else foldT opC 0 (fun t => mv w k r 4 t (k - (j + 1))) (fun t => if t < 4 then Ax opC 0 1 w k r j t else r5 opC 0 (fun f t => mv w k r f t (k - (j + 1))) (Ax opC 0 1 w k r j)) 5) ≤ _
      rw [e]
      simp only [if_neg (show ¬ (5:Nat) < 4 by decide)]
      split <;> omega
    show rowA opC 0 (fun f t => mv w k r f t (k - (j + 1))) (Ax opC 0 1 w k r j) f ≤ _
    rw [Nat.pow_succ]
    unfold rowA
    by_cases h5 : f = 5
    · rw [if_pos h5]; omega
    · rw [if_neg h5]
      by_cases h4 : f = 4
      · rw [if_pos h4]; omega
      · rw [if_neg h4]
        have h := foldC_le (m := (fun t => mv w k r f t (k - (j + 1)))) (v := fun t => if t < 4 then Ax opC 0 1 w k r j t else if t = 4 then r4 opC 0 (fun f t => mv w k r f t (k - (j + 1))) (Ax opC 0 1 w k r j) else r5 opC 0 (fun f t => mv w k r f t (k - (j + 1))) (Ax opC 0 1 w k r j)) (B := fun t => if t < 4 then 16 ^ j else if t = 4 then 8 * 16 ^ j else 4 * 16 ^ j) (N := 6) (fun i _ => by
          by_cases h : i < 4
          · simp only [if_pos h]; exact ih i
          · simp only [if_neg h]
            by_cases h' : i = 4
            · simp only [if_pos h']; exact e4
            · simp only [if_neg h']; exact e5)
        simp [fb_sm] at h
        refine Nat.le_trans h ?_
        omega
end
section
def MdI (I : Ic) (w : Nat → Nat) (k : Nat) (r : Nat → Nat) : Prop := (∀ i, i < 58 → I 2 i = nI (w i)) ∧ I 1 2 = nI k ∧ (∀ j, j < k → I 3 j = nI (r j)) ∧ k ≤ 6 ∧ Wok w ∧ ∀ j, r j < 4
def cntW (w : Nat → Nat) : Nat → Nat
  | 0 => 0
  | i + 1 => if w i = 0 then cntW w i else cntW w i + 1
theorem cntW_le (w : Nat → Nat) : ∀ i, cntW w i ≤ i
  | 0 => Nat.le_refl 0
  | i + 1 => by
    have := cntW_le w i
    unfold cntW
    split <;> omega
theorem rngv_nI {k N : Nat} (h : k < N) (hN : N ≤ 1000) : rng (nI k) N = some k := rng_nI h hN
set_option maxRecDepth 100000 in
set_option maxHeartbeats 4000000 in
theorem k_stepWeight (l : Launch) (G : Gx) (n : Nat) (ad : Nat → Nat) (sz : Nat) (I : Ic) (L : Lc) (R : Rc) (f t : Nat) (w : Nat → Nat) (K : Nat) (ro : Nat → Nat) (hn : 83 ≤ n) (hlk : LkOK n R) (hM : MdI I w K ro) (hft : f * 6 + t < 58) : Met l yX0_stepWeight (Cond.code yX0_stepWeight cX0_stepWeight 3 (some .int) :: GW) ({ frames := 0, cells := 0, slots := 0, locals := 0 } : Room) (qPre G n ad sz I L R [.ref (ad 1), .int (nI (f)), .int (nI (t))]) (qI0 G (qA n ad sz) (n, ad, I, L, R) (fun z => z = nI (w (f * 6 + t)))) 0 0 (qA n ad sz) := by
  refine q_met (by decide) (Nat.le_of_ble_eq_true rfl) ?_
  intro p e s m below meth c hC hr hlk0 hin hsz hW ls hl
  subst hsz
  have hC : CallFix p m c cX0_stepWeight 3 s ([.ref (ad 1), .int (nI (f)), .int (nI (t))] : List Value).toArray GW "CoinRows$Model" := hC
  have hx := hC.1
  have hb := hC.2.1
  have hk6 : K ≤ 6 := hM.2.2.2.1
  have hw3 : ∀ i, w i ≤ 3 := hM.2.2.2.2.1.1
  have hr4 : ∀ j, ro j < 4 := hM.2.2.2.2.2
  have hl : lv_has ls 3 [(0, .ref (ad 1)), (1, .int (nI (f))), (2, .int (nI (t)))] := hl
  refine lv_aload_n hx hb dX0_stepWeight_0 rfl (lv_at hl 0 rfl) ?_
  refine g_0_0 (x := 1) (y := 2) hC hW (by omega) kd_1 gw_25 (hlk 1 0 2 (by omega) rfl) dX0_stepWeight_1 ?_
  refine lv_iload_n hx hb dX0_stepWeight_4 rfl (lv_at hl 1 rfl) ?_
  refine q_bp 6 hx hb dX0_stepWeight_5 (by decide) ?_
  refine q_imul hx hb dX0_stepWeight_7 ?_
  refine lv_iload_n hx hb dX0_stepWeight_8 rfl (lv_at hl 2 rfl) ?_
  refine q_iadd hx hb dX0_stepWeight_9 ?_
  refine q_iald (x := 2) (i := (f * 6) + t) hC hW (by omega) kd_2 (by omega) dX0_stepWeight_10 ?_
  refine q_top (v2 := .int (nI (w ((f * 6) + t)))) (congrArg _ (hM.1 _ (by omega))) ?_
  exact q_iret0 hC hW hr hlk0 rfl dX0_stepWeight_11
set_option maxRecDepth 100000 in
set_option maxHeartbeats 4000000 in
theorem k_letterWeight (l : Launch) (G : Gx) (n : Nat) (ad : Nat → Nat) (sz : Nat) (I : Ic) (L : Lc) (R : Rc) (f t : Nat) (w : Nat → Nat) (K : Nat) (ro : Nat → Nat) (hn : 83 ≤ n) (hlk : LkOK n R) (hM : MdI I w K ro) (hc : f < 4) (hs : t < 4) : Met l yX0_letterWeight (Cond.code yX0_letterWeight cX0_letterWeight 3 (some .int) :: GW) ({ frames := 0, cells := 0, slots := 0, locals := 0 } : Room) (qPre G n ad sz I L R [.ref (ad 1), .int (nI (f)), .int (nI (t))]) (qI0 G (qA n ad sz) (n, ad, I, L, R) (fun z => z = nI (w (42 + f * 4 + t)))) 0 0 (qA n ad sz) := by
  refine q_met (by decide) (Nat.le_of_ble_eq_true rfl) ?_
  intro p e s m below meth c hC hr hlk0 hin hsz hW ls hl
  subst hsz
  have hC : CallFix p m c cX0_letterWeight 3 s ([.ref (ad 1), .int (nI (f)), .int (nI (t))] : List Value).toArray GW "CoinRows$Model" := hC
  have hx := hC.1
  have hb := hC.2.1
  have hk6 : K ≤ 6 := hM.2.2.2.1
  have hw3 : ∀ i, w i ≤ 3 := hM.2.2.2.2.1.1
  have hr4 : ∀ j, ro j < 4 := hM.2.2.2.2.2
  have hl : lv_has ls 3 [(0, .ref (ad 1)), (1, .int (nI (f))), (2, .int (nI (t)))] := hl
  refine lv_aload_n hx hb dX0_letterWeight_0 rfl (lv_at hl 0 rfl) ?_
  refine g_0_0 (x := 1) (y := 2) hC hW (by omega) kd_1 gw_25 (hlk 1 0 2 (by omega) rfl) dX0_letterWeight_1 ?_
  refine q_bp 42 hx hb dX0_letterWeight_4 (by decide) ?_
  refine lv_iload_n hx hb dX0_letterWeight_6 rfl (lv_at hl 1 rfl) ?_
  refine q_ic 4 hx hb dX0_letterWeight_7 (by decide) ?_
  refine q_imul hx hb dX0_letterWeight_8 ?_
  refine q_iadd hx hb dX0_letterWeight_9 ?_
  refine lv_iload_n hx hb dX0_letterWeight_10 rfl (lv_at hl 2 rfl) ?_
  refine q_iadd hx hb dX0_letterWeight_11 ?_
  refine q_iald (x := 2) (i := (42 + (f * 4)) + t) hC hW (by omega) kd_2 (by omega) dX0_letterWeight_12 ?_
  refine q_top (v2 := .int (nI (w ((42 + (f * 4)) + t)))) (congrArg _ (hM.1 _ (by omega))) ?_
  exact q_iret0 hC hW hr hlk0 rfl dX0_letterWeight_13
set_option maxRecDepth 100000 in
set_option maxHeartbeats 4000000 in
theorem k_moveWeight (l : Launch) (G : Gx) (n : Nat) (ad : Nat → Nat) (sz : Nat) (I : Ic) (L : Lc) (R : Rc) (f t d : Nat) (w : Nat → Nat) (K : Nat) (ro : Nat → Nat) (hn : 83 ≤ n) (hlk : LkOK n R) (hM : MdI I w K ro) (hf : f ≤ 6) (ht : t < 6) (hd : d < 1000) : Met l yX0_moveWeight (Cond.code yX0_moveWeight cX0_moveWeight 4 (some .int) :: GW) ({ frames := 1, cells := 0, slots := 0, locals := 36 } : Room) (qPre G n ad sz I L R [.ref (ad 1), .int (nI (f)), .int (nI (t)), .int (nI (d))]) (qI0 G (qA n ad sz) (n, ad, I, L, R) (fun z => z = nI (mv w K ro f t d))) 0 0 (qA n ad sz) := by
  refine q_met (by decide) (Nat.le_of_ble_eq_true rfl) ?_
  intro p e s m below meth c hC hr hlk0 hin hsz hW ls hl
  subst hsz
  have hC : CallFix p m c cX0_moveWeight 4 s ([.ref (ad 1), .int (nI (f)), .int (nI (t)), .int (nI (d))] : List Value).toArray GW "CoinRows$Model" := hC
  have hx := hC.1
  have hb := hC.2.1
  have hk6 : K ≤ 6 := hM.2.2.2.1
  have hw3 : ∀ i, w i ≤ 3 := hM.2.2.2.2.1.1
  have hr4 : ∀ j, ro j < 4 := hM.2.2.2.2.2
  have hl : lv_has ls 4 [(0, .ref (ad 1)), (1, .int (nI (f))), (2, .int (nI (t))), (3, .int (nI (d)))] := hl
  refine lv_iload_n hx hb dX0_moveWeight_0 rfl (lv_at hl 2 rfl) ?_
  refine q_ic 4 hx hb dX0_moveWeight_1 (by decide) ?_
  refine q_clt (tgt := 12) hx hb dX0_moveWeight_2 (by decide) (by first | omega | exact Nat.lt_of_le_of_lt (hw3 _) (by decide)) (by first | omega | exact Nat.lt_of_le_of_lt (hw3 _) (by decide)) (fun c_2 => ?_) (fun c_2 => ?_)
  ·
    refine lv_iload_n hx hb dX0_moveWeight_12 rfl (lv_at hl 3 rfl) ?_
    refine lv_aload_n hx hb dX0_moveWeight_13 rfl (lv_at hl 0 rfl) ?_
    refine g_0_2 (x := 1) hC hW (by omega) kd_1 gw_32 dX0_moveWeight_14 ?_
    refine q_top (v2 := .int (nI (K))) (congrArg _ hM.2.1) ?_
    refine q_cge (tgt := 41) hx hb dX0_moveWeight_17 (by decide) (by first | omega | exact Nat.lt_of_le_of_lt (hw3 _) (by decide)) (by first | omega | exact Nat.lt_of_le_of_lt (hw3 _) (by decide)) (fun c_17 => ?_) (fun c_17 => ?_)
    ·
      refine q_ic 0 hx hb dX0_moveWeight_41 (by decide) ?_
      exact q_iret0 hC hW hr hlk0 (by unfold mv; rw [if_neg (by omega), if_neg (by omega)]) dX0_moveWeight_42
    ·
      refine lv_aload_n hx hb dX0_moveWeight_20 rfl (lv_at hl 0 rfl) ?_
      refine lv_iload_n hx hb dX0_moveWeight_21 rfl (lv_at hl 1 rfl) ?_
      refine lv_iload_n hx hb dX0_moveWeight_22 rfl (lv_at hl 2 rfl) ?_
      refine q_kI0 (q_rV (As := [.int (nI (f)), .int (nI (t))]) (rest := []) (x := 1) hC hW mw_X0_stepWeight gw_245 (k_stepWeight l G n ad s.heap.size I L R _ _ w K ro hn hlk hM (by omega)) (by omega) (ct_o0 kd_1) rfl ⟨rfl, rfl⟩ ⟨Nat.le_of_ble_eq_true rfl, Nat.le_of_ble_eq_true rfl⟩ ⟨Nat.le_of_ble_eq_true rfl, Nat.le_of_ble_eq_true rfl⟩ hl.1 rfl rfl (Nat.le_of_ble_eq_true rfl) dX0_moveWeight_23) hW (fun r_23 H locs hp hW => ?_)
      subst hp
      refine lv_aload_n hx hb dX0_moveWeight_26 rfl (lv_at hl 0 rfl) ?_
      refine lv_iload_n hx hb dX0_moveWeight_27 rfl (lv_at hl 2 rfl) ?_
      refine lv_aload_n hx hb dX0_moveWeight_28 rfl (lv_at hl 0 rfl) ?_
      refine g_0_1 (x := 1) (y := 3) hC hW (by omega) kd_1 gw_29 (hlk 1 1 3 (by omega) rfl) dX0_moveWeight_29 ?_
      refine lv_iload_n hx hb dX0_moveWeight_32 rfl (lv_at hl 3 rfl) ?_
      refine q_iald (x := 3) (i := d) hC hW (by omega) kd_3 (by omega) dX0_moveWeight_33 ?_
      refine q_top (v2 := .int (nI (ro d))) (congrArg _ (hM.2.2.1 _ (by omega))) ?_
      refine q_kI0 (q_rV (As := [.int (nI (t)), .int (nI (ro d))]) (rest := [.int (nI (w (f * 6 + t)))]) (x := 1) hC hW mw_X0_letterWeight gw_246 (k_letterWeight l G n ad H.size I L R _ _ w K ro hn hlk hM (by omega) (by first | omega | exact hr4 _)) (by omega) (ct_o0 kd_1) rfl ⟨rfl, rfl⟩ ⟨Nat.le_of_ble_eq_true rfl, Nat.le_of_ble_eq_true rfl⟩ ⟨Nat.le_of_ble_eq_true rfl, Nat.le_of_ble_eq_true rfl⟩ hl.1 rfl rfl (Nat.le_of_ble_eq_true rfl) dX0_moveWeight_34) hW (fun r_34 H locs hp hW => ?_)
      subst hp
      refine q_imul hx hb dX0_moveWeight_37 ?_
      refine lv_goto (tgt := 42) hx hb dX0_moveWeight_38 (by decide) ?_
      exact q_iret0 hC hW hr hlk0 (by unfold mv; rw [if_neg (by omega), if_pos (by omega)]) dX0_moveWeight_42
  ·
    refine lv_aload_n hx hb dX0_moveWeight_5 rfl (lv_at hl 0 rfl) ?_
    refine lv_iload_n hx hb dX0_moveWeight_6 rfl (lv_at hl 1 rfl) ?_
    refine lv_iload_n hx hb dX0_moveWeight_7 rfl (lv_at hl 2 rfl) ?_
    refine q_kI0 (q_rV (As := [.int (nI (f)), .int (nI (t))]) (rest := []) (x := 1) hC hW mw_X0_stepWeight gw_245 (k_stepWeight l G n ad s.heap.size I L R _ _ w K ro hn hlk hM (by omega)) (by omega) (ct_o0 kd_1) rfl ⟨rfl, rfl⟩ ⟨Nat.le_of_ble_eq_true rfl, Nat.le_of_ble_eq_true rfl⟩ ⟨Nat.le_of_ble_eq_true rfl, Nat.le_of_ble_eq_true rfl⟩ hl.1 rfl rfl (Nat.le_of_ble_eq_true rfl) dX0_moveWeight_8) hW (fun r_8 H locs hp hW => ?_)
    subst hp
    exact q_iret0 hC hW hr hlk0 (by unfold mv; rw [if_pos (by omega)]) dX0_moveWeight_11
set_option maxRecDepth 100000 in
set_option maxHeartbeats 4000000 in
theorem k_hasPlace (l : Launch) (G : Gx) (n : Nat) (ad : Nat → Nat) (sz : Nat) (I : Ic) (L : Lc) (R : Rc) (x : Int32) (w : Nat → Nat) (K : Nat) (ro : Nat → Nat) (hn : 83 ≤ n) (hlk : LkOK n R) (hM : MdI I w K ro) : Met l yX0_hasPlace (Cond.code yX0_hasPlace cX0_hasPlace 2 (some .boolean) :: GW) ({ frames := 0, cells := 0, slots := 0, locals := 0 } : Room) (qPre G n ad sz I L R [.ref (ad 1), .int (x)]) (qI0 G (qA n ad sz) (n, ad, I, L, R) (fun z => (∃ j, j < K ∧ x = nI j ∧ z = nI 1) ∨ (rng x K = none ∧ z = nI 0))) 0 0 (qA n ad sz) := by
  refine q_met (by decide) (Nat.le_of_ble_eq_true rfl) ?_
  intro p e s m below meth c hC hr hlk0 hin hsz hW ls hl
  subst hsz
  have hC : CallFix p m c cX0_hasPlace 2 s ([.ref (ad 1), .int (x)] : List Value).toArray GW "CoinRows$Model" := hC
  have hx := hC.1
  have hb := hC.2.1
  have hk6 : K ≤ 6 := hM.2.2.2.1
  have hw3 : ∀ i, w i ≤ 3 := hM.2.2.2.2.1.1
  have hr4 : ∀ j, ro j < 4 := hM.2.2.2.2.2
  have hkT : (nI K).toInt = (K : Int) := nI_toInt (by omega)
  have hl : lv_has ls 2 [(0, .ref (ad 1)), (1, .int (x))] := hl
  refine lv_iload_n hx hb dX0_hasPlace_0 rfl (lv_at hl 1 rfl) ?_
  refine lv_if_lt (tgt := 16) hx hb dX0_hasPlace_1 (by decide) (fun c_1 => ?_) (fun c_1 => ?_)
  ·
    refine q_ic 0 hx hb dX0_hasPlace_16 (by decide) ?_
    have hfin : rng x K = none := rng_none.mpr (by simp only [hkT, Int32.lt_iff_toInt_lt, Int32.le_iff_toInt_le, ← Int32.toInt_inj, nT0, nT1, nT2, nT3, nT4, nT5, nT6, nT7, nT8, nT9, nT10, nT33, nT36, nT42, nT58, nT80, nT126, nT255, i_m1, i_m2, Int32.toInt_zero, Int32.toInt_one] at c_1; omega)
    exact q_zret0 hC hW hr hlk0 rfl (Or.inr ⟨hfin, rfl⟩) dX0_hasPlace_17
  ·
    refine lv_iload_n hx hb dX0_hasPlace_4 rfl (lv_at hl 1 rfl) ?_
    refine lv_aload_n hx hb dX0_hasPlace_5 rfl (lv_at hl 0 rfl) ?_
    refine g_0_2 (x := 1) hC hW (by omega) kd_1 gw_32 dX0_hasPlace_6 ?_
    refine q_top (v2 := .int (nI (K))) (congrArg _ hM.2.1) ?_
    refine lv_icmp_ge (tgt := 16) hx hb dX0_hasPlace_9 (by decide) (fun c_9 => ?_) (fun c_9 => ?_)
    ·
      refine q_ic 0 hx hb dX0_hasPlace_16 (by decide) ?_
      have hfin : rng x K = none := rng_none.mpr (by simp only [hkT, Int32.lt_iff_toInt_lt, Int32.le_iff_toInt_le, ← Int32.toInt_inj, nT0, nT1, nT2, nT3, nT4, nT5, nT6, nT7, nT8, nT9, nT10, nT33, nT36, nT42, nT58, nT80, nT126, nT255, i_m1, i_m2, Int32.toInt_zero, Int32.toInt_one] at c_1 c_9; omega)
      exact q_zret0 hC hW hr hlk0 rfl (Or.inr ⟨hfin, rfl⟩) dX0_hasPlace_17
    ·
      refine q_ic 1 hx hb dX0_hasPlace_12 (by decide) ?_
      refine lv_goto (tgt := 17) hx hb dX0_hasPlace_13 (by decide) ?_
      obtain ⟨kf, hf1, hf2⟩ := rng_ex (N := K) (x := x) (by omega) (by simp only [hkT, Int32.lt_iff_toInt_lt, Int32.le_iff_toInt_le, ← Int32.toInt_inj, nT0, nT1, nT2, nT3, nT4, nT5, nT6, nT7, nT8, nT9, nT10, nT33, nT36, nT42, nT58, nT80, nT126, nT255, i_m1, i_m2, Int32.toInt_zero, Int32.toInt_one] at c_1 c_9; omega) (by simp only [hkT, Int32.lt_iff_toInt_lt, Int32.le_iff_toInt_le, ← Int32.toInt_inj, nT0, nT1, nT2, nT3, nT4, nT5, nT6, nT7, nT8, nT9, nT10, nT33, nT36, nT42, nT58, nT80, nT126, nT255, i_m1, i_m2, Int32.toInt_zero, Int32.toInt_one] at c_1 c_9; omega)
      exact q_zret0 hC hW hr hlk0 rfl (Or.inl ⟨kf, hf1, hf2, rfl⟩) dX0_hasPlace_17
set_option maxRecDepth 100000 in
set_option maxHeartbeats 4000000 in
theorem k_append (l : Launch) (G : Gx) (n : Nat) (ad : Nat → Nat) (sz : Nat) (I : Ic) (L : Lc) (R : Rc) (t : Nat) (w : Nat → Nat) (K : Nat) (ro : Nat → Nat) (hn : 83 ≤ n) (hlk : LkOK n R) (hM : MdI I w K ro) (hk : K < 6) : Met l yX0_append (Cond.code yX0_append cX0_append 2 none :: GW) ({ frames := 0, cells := 0, slots := 0, locals := 0 } : Room) (qPre G n ad sz I L R [.ref (ad 1), .int (nI (t))]) (qV1 G (qA n ad sz) n ad R (fun I1 L1 => I1 = up2 (up2 I 3 K (nI t)) 1 2 (nI (K + 1)) ∧ L = L1)) 0 0 (qA n ad sz) := by
  refine q_met (by decide) (Nat.le_of_ble_eq_true rfl) ?_
  intro p e s m below meth c hC hr hlk0 hin hsz hW ls hl
  subst hsz
  have hC : CallFix p m c cX0_append 2 s ([.ref (ad 1), .int (nI (t))] : List Value).toArray GW "CoinRows$Model" := hC
  have hx := hC.1
  have hb := hC.2.1
  have hk6 : K ≤ 6 := hM.2.2.2.1
  have hw3 : ∀ i, w i ≤ 3 := hM.2.2.2.2.1.1
  have hr4 : ∀ j, ro j < 4 := hM.2.2.2.2.2
  have hl : lv_has ls 2 [(0, .ref (ad 1)), (1, .int (nI (t)))] := hl
  refine lv_aload_n hx hb dX0_append_0 rfl (lv_at hl 0 rfl) ?_
  refine g_0_2 (x := 1) hC hW (by omega) kd_1 gw_32 dX0_append_1 ?_
  refine q_top (v2 := .int (nI (K))) (congrArg _ hM.2.1) ?_
  refine q_bp 6 hx hb dX0_append_4 (by decide) ?_
  refine q_cge (tgt := 29) hx hb dX0_append_6 (by decide) (by first | omega | exact Nat.lt_of_le_of_lt (hw3 _) (by decide)) (by first | omega | exact Nat.lt_of_le_of_lt (hw3 _) (by decide)) (fun c_6 => absurd c_6 (by omega)) (fun c_6 => ?_)
  refine lv_aload_n hx hb dX0_append_9 rfl (lv_at hl 0 rfl) ?_
  refine g_0_1 (x := 1) (y := 3) hC hW (by omega) kd_1 gw_29 (hlk 1 1 3 (by omega) rfl) dX0_append_10 ?_
  refine lv_aload_n hx hb dX0_append_13 rfl (lv_at hl 0 rfl) ?_
  refine g_0_2 (x := 1) hC hW (by omega) kd_1 gw_32 dX0_append_14 ?_
  refine q_top (v2 := .int (nI (K))) (congrArg _ hM.2.1) ?_
  refine lv_iload_n hx hb dX0_append_17 rfl (lv_at hl 1 rfl) ?_
  refine q_iast (x := 3) (i := K) (v := nI t) hC hW (by omega) kd_3 (by omega) dX0_append_18 (fun H locs hW => ?_)
  refine lv_aload_n hx hb dX0_append_19 rfl (lv_at hl 0 rfl) ?_
  refine lv_dup hx hb dX0_append_20 rfl ?_
  refine g_0_2 (x := 1) hC hW (by omega) kd_1 gw_32 dX0_append_21 ?_
  refine q_top (v2 := .int (nI (K))) (congrArg _ (by rw [up2_at, if_neg (by omega)]; exact hM.2.1)) ?_
  refine q_ic 1 hx hb dX0_append_24 (by decide) ?_
  refine q_iadd hx hb dX0_append_25 ?_
  refine p_0_2 (x := 1) (v := nI (K + 1)) hC hW (by omega) kd_1 gw_32 dX0_append_26 (fun H locs hW => ?_)
  exact q_vret1 hC hW hr hlk0 ⟨rfl, rfl⟩ dX0_append_29
def cpr (I : Ic) (x y len : Nat) : Ic := fun b => if b = x then (fun j => if j < len then I y j else I x j) else I b
theorem cpr_at {I : Ic} {x y len b j : Nat} : cpr I x y len b j = if b = x ∧ j < len then I y j else I b j := by
  unfold cpr
  by_cases h : b = x
  · subst h; by_cases h2 : j < len <;> simp [h2]
  · simp [h]
section QCP
variable {p : Program} {l : Launch} {e : Env} {Rm : Room} {s : State} {m : MethodId} {args : Array Value} {below : List Frame} {meth : Method} {c : Code} {H : Heap} {locs : List Loc} {cells slots : Nat} {Q : State → Prop} {cc : ByteArray} {pc : Nat} {ls : Array Slot} {rest : List Value} {A : Nat → Prop} {H0 : Heap} {nL : Nat} {own : String} {G : Gx} {n : Nat} {ad : Nat → Nat} {I : Ic} {L : Lc} {R : Rc}
theorem q_copy {x y len index : Nat} (hC : CallFix p m c cc nL s args GW own) (hW : Wd G n ad I L R A H0 H locs s) (hls : ls.size = nL) (hx : x < n) (hy : y < n) (hkx : kd x = (0, len)) (hky : kd y = (0, len)) (hl : Cond.methodLink own index arraycopyName ∈ GW) (hframes : 1 ≤ Rm.frames) (hlocals : (rest.map fun v => v.category).sum + (nativeFrameWords "java/lang/System" "arraycopy" 5 + 11) ≤ Rm.locals) (hdg : decode cc pc = .ok (.invokestatic index, 3))
    (kk : ∀ (H1 : Heap) (locs1 : List Loc), Wd G n ad (cpr I x y len) L R A H0 H1 locs1 s → W p l e Rm s m args below meth c H1 locs1 cells slots Q (F0 m (pc + 3) ls rest)) : W p l e Rm s m args below meth c H locs cells slots Q (F0 m pc ls (.int (nI len) :: .int (nI 0) :: .ref (ad x) :: .int (nI 0) :: .ref (ad y) :: rest)) := by
  have h1 : len < 1000 := kd_len hkx
  have c0 : (nI 0).toNatClampNeg = 0 := nI_clamp (by decide)
  have cl : (nI len).toNatClampNeg = len := nI_clamp (by omega)
  refine va_copyi hC.1 hC.2.1 (by rw [hC.2.2.1, hls]) hC.2.2.2.1 (hC.2.2.2.2 _ hl) (hC.2.2.2.2 _ gw_184) (hC.2.2.2.2 _ gw_183) (hC.2.2.2.2 _ gw_8) hW.2.1 hW.1 hW.2.2.1 hW.2.2.2.1 y x 0 0 (ty := .int) (by rw [wl_at hy, ct_arr hky]; rfl) (by rw [wl_at hx, ct_arr hkx]; rfl) rfl rfl rfl (nI_pos (by decide)) (nI_pos (by decide)) (nI_pos (by omega)) (by rw [c0, cl]; omega) (by rw [c0, cl]; omega) (fun _ _ => rfl) hframes hlocals hdg (fun H1 locs1 hP hD hS => kk H1 locs1 ?_)
  rw [c0, cl] at hP hD
  rw [wl_set (I' := cpr I x y len) (L' := L) (R' := R) (fun k h => by unfold ct; rw [show cpr I x y len k = I k from if_neg h]) (by
    rw [ct_arr hkx]
    have e9 : cpr I x y len x = va_cpy (I y) (I x) 0 0 len := by
      funext j
      rw [cpr_at]
      unfold va_cpy
      by_cases h : j < len
      · simp [h]
      · simp [h]
    rw [e9]; rfl)] at hP hD
  exact ⟨hP, hW.2.1, hD, hS, hW.2.2.2.2⟩
end QCP
set_option maxRecDepth 100000 in
set_option maxHeartbeats 4000000 in
theorem k_copyFrom (l : Launch) (G : Gx) (n : Nat) (ad : Nat → Nat) (sz : Nat) (I : Ic) (L : Lc) (R : Rc) (x y : Nat) (hlk : LkOK n R) (hxn : x + 2 < n) (hyn : y + 2 < n) (hmx : mdl x) (hmy : mdl y) : Met l yX0_copyFrom (Cond.code yX0_copyFrom cX0_copyFrom 2 none :: GW) ({ frames := 1, cells := 0, slots := 0, locals := 36 } : Room) (qPre G n ad sz I L R [.ref (ad (x)), .ref (ad (y))]) (qV1 G (qA n ad sz) n ad R (fun I1 L1 => I1 = (let M := cpr (cpr I (x + 1) (y + 1) 58) (x + 2) (y + 2) 6; up2 M x 2 (M y 2)) ∧ L = L1)) 0 0 (qA n ad sz) := by
  refine q_met (by decide) (Nat.le_of_ble_eq_true rfl) ?_
  intro p e s m below meth c hC hr hlk0 hin hsz hW ls hl
  subst hsz
  have hC : CallFix p m c cX0_copyFrom 2 s ([.ref (ad (x)), .ref (ad (y))] : List Value).toArray GW "CoinRows$Model" := hC
  have hx := hC.1
  have hb := hC.2.1
  have hl : lv_has ls 2 [(0, .ref (ad (x))), (1, .ref (ad (y)))] := hl
  refine lv_aload_n hx hb dX0_copyFrom_0 rfl (lv_at hl 1 rfl) ?_
  refine g_0_0 (x := y) (y := (y + 1)) hC hW (by omega) hmy.1 gw_25 (lk_m hlk (by omega) hmy (by decide)) dX0_copyFrom_1 ?_
  refine q_ic 0 hx hb dX0_copyFrom_4 (by decide) ?_
  refine lv_aload_n hx hb dX0_copyFrom_5 rfl (lv_at hl 0 rfl) ?_
  refine g_0_0 (x := x) (y := (x + 1)) hC hW (by omega) hmx.1 gw_25 (lk_m hlk (by omega) hmx (by decide)) dX0_copyFrom_6 ?_
  refine q_ic 0 hx hb dX0_copyFrom_9 (by decide) ?_
  refine q_bp 58 hx hb dX0_copyFrom_10 (by decide) ?_
  refine q_copy (x := x + 1) (y := y + 1) (len := 58) hC hW hl.1 (by omega) (by omega) hmx.2.1 hmy.2.1 gw_182 (Nat.le_of_ble_eq_true rfl) (Nat.le_of_ble_eq_true rfl) dX0_copyFrom_12 (fun H locs hW => ?_)
  refine lv_aload_n hx hb dX0_copyFrom_15 rfl (lv_at hl 1 rfl) ?_
  refine g_0_1 (x := y) (y := (y + 2)) hC hW (by omega) hmy.1 gw_29 (lk_m hlk (by omega) hmy (by decide)) dX0_copyFrom_16 ?_
  refine q_ic 0 hx hb dX0_copyFrom_19 (by decide) ?_
  refine lv_aload_n hx hb dX0_copyFrom_20 rfl (lv_at hl 0 rfl) ?_
  refine g_0_1 (x := x) (y := (x + 2)) hC hW (by omega) hmx.1 gw_29 (lk_m hlk (by omega) hmx (by decide)) dX0_copyFrom_21 ?_
  refine q_ic 0 hx hb dX0_copyFrom_24 (by decide) ?_
  refine q_bp 6 hx hb dX0_copyFrom_25 (by decide) ?_
  refine q_copy (x := x + 2) (y := y + 2) (len := 6) hC hW hl.1 (by omega) (by omega) hmx.2.2 hmy.2.2 gw_182 (Nat.le_of_ble_eq_true rfl) (Nat.le_of_ble_eq_true rfl) dX0_copyFrom_27 (fun H locs hW => ?_)
  refine lv_aload_n hx hb dX0_copyFrom_30 rfl (lv_at hl 0 rfl) ?_
  refine lv_aload_n hx hb dX0_copyFrom_31 rfl (lv_at hl 1 rfl) ?_
  refine g_0_2 (x := y) hC hW (by omega) hmy.1 gw_32 dX0_copyFrom_32 ?_
  refine p_0_2 (x := x) (v := (cpr (cpr I (x + 1) (y + 1) 58) (x + 2) (y + 2) 6) y 2) hC hW (by omega) hmx.1 gw_32 dX0_copyFrom_35 (fun H locs hW => ?_)
  exact q_vret1 hC hW hr hlk0 ⟨rfl, rfl⟩ dX0_copyFrom_38
set_option maxRecDepth 100000 in
set_option maxHeartbeats 4000000 in
theorem k_countWeights (l : Launch) (G : Gx) (n : Nat) (ad : Nat → Nat) (sz : Nat) (I : Ic) (L : Lc) (R : Rc) (w : Nat → Nat) (K : Nat) (ro : Nat → Nat) (hn : 83 ≤ n) (hlk : LkOK n R) (hM : MdI I w K ro) : Met l yX0_countWeights (Cond.code yX0_countWeights cX0_countWeights 3 (some .int) :: GW) ({ frames := 0, cells := 0, slots := 0, locals := 0 } : Room) (qPre G n ad sz I L R [.ref (ad 1)]) (qI0 G (qA n ad sz) (n, ad, I, L, R) (fun z => z = nI (cntW w 58))) 0 0 (qA n ad sz) := by
  refine q_met (by decide) (Nat.le_of_ble_eq_true rfl) ?_
  intro p e s m below meth c hC hr hlk0 hin hsz hW ls hl
  subst hsz
  have hC : CallFix p m c cX0_countWeights 3 s ([.ref (ad 1)] : List Value).toArray GW "CoinRows$Model" := hC
  have hx := hC.1
  have hb := hC.2.1
  have hk6 : K ≤ 6 := hM.2.2.2.1
  have hw3 : ∀ i, w i ≤ 3 := hM.2.2.2.2.1.1
  have hr4 : ∀ j, ro j < 4 := hM.2.2.2.2.2
  have hl : lv_has ls 3 [(0, .ref (ad 1))] := hl
  refine q_ic 0 hx hb dX0_countWeights_0 (by decide) ?_
  refine lv_istore_n (lv' := [(1, .int (nI 0)), (0, .ref (ad 1))]) hx hb dX0_countWeights_1 rfl hl (by decide) rfl (fun ls hl => ?_)
  refine q_ic 0 hx hb dX0_countWeights_2 (by decide) ?_
  refine lv_istore_n (lv' := [(2, .int (nI 0)), (1, .int (nI 0)), (0, .ref (ad 1))]) hx hb dX0_countWeights_3 rfl hl (by decide) rfl (fun ls hl => ?_)
  have lp_4 : ∀ (fu_4 : Nat) (c1 : Nat) (i : Nat), 58 - i < fu_4 → i ≤ 58 → c1 = cntW w i → ∀ (H : Heap) (locs : List Loc), Wd G n ad I L R (qA n ad s.heap.size) s.heap H locs s → ∀ ls : Array Slot, lv_has ls 3 [(0, .ref (ad 1)), (1, .int (nI (c1))), (2, .int (nI (i)))] → W p l e ({ frames := 0, cells := 0, slots := 0, locals := 0 } : Room) s m ([.ref (ad 1)] : List Value).toArray below meth c H locs 0 0 (MQ below (qI0 G (qA n ad s.heap.size) (n, ad, I, L, R) (fun z => z = nI (cntW w 58))) ([.ref (ad 1)] : List Value).toArray s 0 0 (qA n ad s.heap.size)) (F0 m 4 ls []) := by
    intro fu_4
    induction fu_4 with
    | zero =>
      intro c1 i hm; exact absurd hm (Nat.not_lt_zero _)
    | succ fu_4 ih_4 =>
      intro c1 i hm_4 hi hc H locs hW ls hl
      have hwi := hw3 i
      have hcl : c1 ≤ 58 := by rw [hc]; exact Nat.le_trans (cntW_le w i) hi
      refine lv_iload_n hx hb dX0_countWeights_4 rfl (lv_at hl 2 rfl) ?_
      refine q_bp 58 hx hb dX0_countWeights_5 (by decide) ?_
      refine q_cge (tgt := 28) hx hb dX0_countWeights_7 (by decide) (by first | omega | exact Nat.lt_of_le_of_lt (hw3 _) (by decide)) (by first | omega | exact Nat.lt_of_le_of_lt (hw3 _) (by decide)) (fun c_7 => ?_) (fun c_7 => ?_)
      ·
        refine lv_iload_n hx hb dX0_countWeights_28 rfl (lv_at hl 1 rfl) ?_
        exact q_iret0 hC hW hr hlk0 (by rw [hc, show i = 58 by omega]) dX0_countWeights_29
      ·
        refine lv_aload_n hx hb dX0_countWeights_10 rfl (lv_at hl 0 rfl) ?_
        refine g_0_0 (x := 1) (y := 2) hC hW (by omega) kd_1 gw_25 (hlk 1 0 2 (by omega) rfl) dX0_countWeights_11 ?_
        refine lv_iload_n hx hb dX0_countWeights_14 rfl (lv_at hl 2 rfl) ?_
        refine q_iald (x := 2) (i := i) hC hW (by omega) kd_2 (by omega) dX0_countWeights_15 ?_
        refine q_top (v2 := .int (nI (w (i)))) (congrArg _ (hM.1 _ (by omega))) ?_
        refine q_ieq (tgt := 22) hx hb dX0_countWeights_16 (by decide) (by first | omega | exact Nat.lt_of_le_of_lt (hw3 _) (by decide)) (fun c_16 => ?_) (fun c_16 => ?_)
        ·
          have hz_18 : w i = 0 := c_16
          refine q_iinc (z2 := i + 1) (lv' := [(2, .int (nI (i + 1))), (0, .ref (ad 1)), (1, .int (nI (c1)))]) hx hb dX0_countWeights_22 hl (k := 2) rfl (inc_up _ 1 (by decide)) (by decide) rfl (fun ls hl => ?_)
          refine lv_goto (tgt := 4) hx hb dX0_countWeights_25 (by decide) ?_
          exact ih_4 c1 (i + 1) (by omega) (by omega) (by simp [cntW, hz_18, hc]) _ _ hW _ (lv_sub hl [1, 2, 0] rfl)
        ·
          have hz_18 : w i ≠ 0 := c_16
          refine q_iinc (z2 := c1 + 1) (lv' := [(1, .int (nI (c1 + 1))), (0, .ref (ad 1)), (2, .int (nI (i)))]) hx hb dX0_countWeights_19 hl (k := 1) rfl (inc_up _ 1 (by decide)) (by decide) rfl (fun ls hl => ?_)
          refine q_iinc (z2 := i + 1) (lv' := [(2, .int (nI (i + 1))), (1, .int (nI (c1 + 1))), (0, .ref (ad 1))]) hx hb dX0_countWeights_22 hl (k := 2) rfl (inc_up _ 1 (by decide)) (by decide) rfl (fun ls hl => ?_)
          refine lv_goto (tgt := 4) hx hb dX0_countWeights_25 (by decide) ?_
          exact ih_4 (c1 + 1) (i + 1) (by omega) (by omega) (by simp [cntW, hz_18, hc]) _ _ hW _ (lv_sub hl [2, 1, 0] rfl)
  exact lp_4 (58 + 1) 0 0 (by omega) (by omega) rfl _ _ hW _ (lv_sub hl [2, 1, 0] rfl)
end
section
def arrN (u : Nat → Nat) (w : Nat → Nat) (t : Nat) : Nat → Nat
  | 0 => 0
  | i + 1 => arrN u w t i + u i * w (i * 6 + t)
def arrL (g : Nat → Int64) (w : Nat → Nat) (t : Nat) : Nat → Int64
  | 0 => lN 0
  | i + 1 => arrL g w t i + g i * lN (w (i * 6 + t))
theorem arr_ok {g : Nat → Int64} {u w : Nat → Nat} {t : Nat} : ∀ {N : Nat}, (∀ i, i < N → w (i * 6 + t) = 0 ∨ g i = lN (u i)) → arrL g w t N = lN (arrN u w t N)
  | 0, _ => rfl
  | N + 1, h => by
    unfold arrL arrN
    rw [arr_ok (fun i hi => h i (by omega)), ← lN_add]
    rcases h N (by omega) with h1 | h1
    · rw [h1]
      rw [show lN 0 = 0 from rfl, Int64.mul_zero, Nat.mul_zero]
      rfl
    · rw [h1, lN_mul]
theorem arrN_cong {u u' w : Nat → Nat} {t : Nat} : ∀ {N : Nat}, (∀ i, i < N → w (i * 6 + t) = 0 ∨ u i = u' i) → arrN u w t N = arrN u' w t N
  | 0, _ => rfl
  | N + 1, h => by
    unfold arrN
    rw [arrN_cong (fun i hi => h i (by omega))]
    rcases h N (by omega) with h1 | h1
    · rw [h1]; rfl
    · rw [h1]
def b4 (w u : Nat → Nat) : Nat := arrN u w 4 7
def b5 (w u : Nat → Nat) : Nat := arrN (fun f => if f = 4 then b4 w u else u f) w 5 7
def bF (w u : Nat → Nat) : Nat → Nat := fun f => if f = 5 then b5 w u else if f = 4 then b4 w u else u f
def rchu (w u : Nat → Nat) (t : Nat) : Nat := arrN (bF w u) w t 7
/-- what beginnings weigh that end with a loud place, or are none, d letters being told -/
def uB (w r : Nat → Nat) : Nat → Nat → Nat
  | 0 => fun f => if f = 6 then 1 else 0
  | d + 1 => fun f => if f < 4 then rchu w (uB w r d) f * w (42 + f * 4 + r d) else 0
theorem uB_si (w r : Nat → Nat) (d f : Nat) (h : f = 4 ∨ f = 5) : uB w r d f = 0 := by
  cases d with
  | zero => show (if f = 6 then 1 else 0) = 0; rw [if_neg (by omega)]
  | succ d => show (if f < 4 then _ else 0) = 0; rw [if_neg (by omega)]
def SI (L : Lc) : Prop := (∀ f, f < 4 → L 10 f = lN 0) ∧ L 10 6 = lN 1 ∧ ∀ d, 1 ≤ d → d ≤ 6 → L (10 + d) 6 = lN 0
theorem SI_6 {L : Lc} (h : SI L) (w r : Nat → Nat) {d : Nat} (hd : d ≤ 6) : L (10 + d) 6 = lN (uB w r d 6) := by
  cases d with
  | zero => exact h.2.1
  | succ d => rw [h.2.2 (d + 1) (by omega) hd]; rfl
theorem SI_u0 {L : Lc} (h : SI L) (w r : Nat → Nat) : ∀ f, f < 4 → L (10 + 0) f = lN (uB w r 0 f) := fun f hf => by
  rw [show 10 + 0 = 10 from rfl, h.1 f hf]
  show lN 0 = lN (if f = 6 then 1 else 0)
  rw [if_neg (by omega)]
/-- the outer loop of the beginnings: d rows stand -/
def BO (w r : Nat → Nat) (K : Nat) (L0 : Lc) (d : Nat) (L : Lc) : Prop :=
  (∀ d' f, d' < d → f ≤ 6 → L (10 + d') f = lN (bF w (uB w r d') f)) ∧ (∀ d' f, d' < d → f < 4 → L (18 + d') f = lN (rchu w (uB w r d') f)) ∧ (d ≤ K → ∀ f, f < 4 → L (10 + d) f = lN (uB w r d f)) ∧ SI L ∧ ∀ a, a < 10 ∨ 24 < a → L a = L0 a
/-- the inner loop: row d stands, and t of its steps to loud places -/
def BN (w r : Nat → Nat) (K : Nat) (L0 : Lc) (d t : Nat) (L : Lc) : Prop :=
  (∀ d' f, d' ≤ d → f ≤ 6 → L (10 + d') f = lN (bF w (uB w r d') f)) ∧ (∀ d' f, d' < d ∨ (d' = d ∧ f < t) → f < 4 → L (18 + d') f = lN (rchu w (uB w r d') f)) ∧ (d < K → ∀ f, f < t → f < 4 → L (10 + (d + 1)) f = lN (uB w r (d + 1) f)) ∧ SI L ∧ ∀ a, a < 10 ∨ 24 < a → L a = L0 a
theorem SI_up {L : Lc} (h : SI L) {a j : Nat} {x : Int64} (h1 : a = 10 → 4 ≤ j) (h2 : 10 ≤ a → a ≤ 16 → j ≠ 6) : SI (up2 L a j x) := by
  refine ⟨fun f hf => ?_, ?_, fun d hd hd6 => ?_⟩
  · rw [up2_at, if_neg (by omega)]; exact h.1 f hf
  · rw [up2_at, if_neg (by omega)]; exact h.2.1
  · rw [up2_at, if_neg (by omega)]; exact h.2.2 d hd hd6
theorem BO_4 {w r : Nat → Nat} {K d : Nat} {L0 L : Lc} (hw : Wok w) (hd : d ≤ K) (hK : K ≤ 6) (h : BO w r K L0 d L) : arrL (L (10 + d)) w 4 7 = lN (b4 w (uB w r d)) := arr_ok fun i hi => by
  by_cases h4 : i = 4
  · subst h4; exact Or.inl hw.2.1
  · by_cases h5 : i = 5
    · subst h5; exact Or.inl hw.2.2.1
    · refine Or.inr ?_
      by_cases h6 : i = 6
      · subst h6; exact SI_6 h.2.2.2.1 w r (by omega)
      · exact h.2.2.1 hd i (by omega)
theorem BO_5 {w r : Nat → Nat} {K d : Nat} {L0 L : Lc} (hw : Wok w) (hd : d ≤ K) (hK : K ≤ 6) (h : BO w r K L0 d L) : arrL (up2 L (10 + d) 4 (lN (b4 w (uB w r d))) (10 + d)) w 5 7 = lN (b5 w (uB w r d)) := arr_ok fun i hi => by
  by_cases h5 : i = 5
  · subst h5; exact Or.inl hw.2.2.2
  · refine Or.inr ?_
    by_cases h4 : i = 4
    · subst h4; rw [up2_at, if_pos ⟨rfl, rfl⟩, if_pos rfl]
    · rw [up2_at, if_neg (by omega), if_neg h4]
      by_cases h6 : i = 6
      · subst h6; exact SI_6 h.2.2.2.1 w r (by omega)
      · exact h.2.2.1 hd i (by omega)
theorem BN_0 {w r : Nat → Nat} {K d : Nat} {L0 L : Lc} (hd : d ≤ K) (hK : K ≤ 6) (h : BO w r K L0 d L) : BN w r K L0 d 0 (up2 (up2 L (10 + d) 4 (lN (b4 w (uB w r d)))) (10 + d) 5 (lN (b5 w (uB w r d)))) := by
  refine ⟨fun d' f hd' hf => ?_, fun d' f hd' hf => ?_, fun _ f hf _ => absurd hf (by omega), SI_up (SI_up h.2.2.2.1 (by omega) (by omega)) (by omega) (by omega), fun a ha => ?_⟩
  · by_cases e : d' = d
    · subst e
      unfold bF
      by_cases h5 : f = 5
      · subst h5; rw [up2_at, if_pos ⟨rfl, rfl⟩, if_pos rfl]
      · rw [up2_at, if_neg (by omega), if_neg h5]
        by_cases h4 : f = 4
        · subst h4; rw [up2_at, if_pos ⟨rfl, rfl⟩, if_pos rfl]
        · rw [up2_at, if_neg (by omega), if_neg h4]
          by_cases h6 : f = 6
          · subst h6; exact SI_6 h.2.2.2.1 w r (by omega)
          · exact h.2.2.1 hd f (by omega)
    · rw [up2_at, if_neg (by omega), up2_at, if_neg (by omega)]
      exact h.1 d' f (by omega) hf
  · rw [up2_at, if_neg (by omega), up2_at, if_neg (by omega)]
    exact h.2.1 d' f (by omega) hf
  · rw [up2_ne (by omega), up2_ne (by omega)]
    exact h.2.2.2.2 a ha
theorem BN_arr {w r : Nat → Nat} {K d t : Nat} {L0 L : Lc} (h : BN w r K L0 d t L) : arrL (L (10 + d)) w t 7 = lN (rchu w (uB w r d) t) := arr_ok fun i hi => Or.inr (h.1 d i (Nat.le_refl d) (by omega))
theorem BN_s {w r : Nat → Nat} {K d t : Nat} {L0 L : Lc} (hK : K ≤ 6) (hd : d < K) (ht : t < 4) (h : BN w r K L0 d t L) : BN w r K L0 d (t + 1) (up2 (up2 L (18 + d) t (lN (rchu w (uB w r d) t))) (10 + (d + 1)) t (lN (rchu w (uB w r d) t * w (42 + t * 4 + r d)))) := by
  refine ⟨fun d' f hd' hf => ?_, fun d' f hd' hf => ?_, fun hd1 f hf hf4 => ?_, SI_up (SI_up h.2.2.2.1 (by omega) (by omega)) (by omega) (by omega), fun a ha => ?_⟩
  · rw [up2_at, if_neg (by omega), up2_at, if_neg (by omega)]
    exact h.1 d' f hd' hf
  · rw [up2_at, if_neg (by omega), up2_at]
    by_cases e : 18 + d' = 18 + d ∧ f = t
    · rw [if_pos e, e.2, show d' = d by omega]
    · rw [if_neg e]; exact h.2.1 d' f (by omega) hf
  · rw [up2_at]
    by_cases e : f = t
    · subst e
      rw [if_pos ⟨rfl, rfl⟩]
      show _ = lN (if f < 4 then _ else 0)
      rw [if_pos hf4]
    · rw [if_neg (by omega), up2_at, if_neg (by omega)]
      exact h.2.2.1 hd1 f (by omega) hf4
  · rw [up2_ne (by omega), up2_ne (by omega)]
    exact h.2.2.2.2 a ha
theorem BN_t {w r : Nat → Nat} {K d t : Nat} {L0 L : Lc} (hK : K ≤ 6) (hd : d = K) (ht : t < 4) (h : BN w r K L0 d t L) : BN w r K L0 d (t + 1) (up2 L (18 + d) t (lN (rchu w (uB w r d) t))) := by
  refine ⟨fun d' f hd' hf => ?_, fun d' f hd' hf => ?_, fun hd1 => absurd hd1 (by omega), SI_up h.2.2.2.1 (by omega) (by omega), fun a ha => ?_⟩
  · rw [up2_at, if_neg (by omega)]
    exact h.1 d' f hd' hf
  · rw [up2_at]
    by_cases e : 18 + d' = 18 + d ∧ f = t
    · rw [if_pos e, e.2, show d' = d by omega]
    · rw [if_neg e]; exact h.2.1 d' f (by omega) hf
  · rw [up2_ne (by omega)]
    exact h.2.2.2.2 a ha
theorem BN_e {w r : Nat → Nat} {K d : Nat} {L0 L : Lc} (h : BN w r K L0 d 4 L) : BO w r K L0 (d + 1) L := ⟨fun d' f hd' hf => h.1 d' f (by omega) hf, fun d' f hd' hf => h.2.1 d' f (by omega) hf, fun hd f hf => h.2.2.1 (by omega) f hf hf, h.2.2.2.1, h.2.2.2.2⟩
/-- the rests -/
def Row (w r : Nat → Nat) (K : Nat) (I : Ic) (L : Lc) (d f : Nat) : Prop := L (26 + d) f = lN (Sx' w K r (K - d) f) ∧ L (34 + d) f = lN (Mx' w K r (K - d) f) ∧ I (42 + d) f = nI (Cx' w K r (K - d) f)
def Fr (I0 I : Ic) (L0 L : Lc) : Prop := (∀ a, a < 26 ∨ 40 < a → L a = L0 a) ∧ ∀ a, a < 42 ∨ 48 < a → I a = I0 a
def RO (w r : Nat → Nat) (K : Nat) (I0 I : Ic) (L0 L : Lc) (d : Nat) : Prop := (∀ d' f, d ≤ d' → d' ≤ K → f ≤ 6 → Row w r K I L d' f) ∧ Fr I0 I L0 L
/-- the row at K: f of it -/
def RB (w r : Nat → Nat) (K : Nat) (I0 I : Ic) (L0 L : Lc) (t : Nat) : Prop := (∀ f, f < t → Row w r K I L K f) ∧ Fr I0 I L0 L
/-- within row d: from t to 5 -/
def RN (w r : Nat → Nat) (K : Nat) (I0 I : Ic) (L0 L : Lc) (d t : Nat) : Prop := (∀ d' f, d < d' → d' ≤ K → f ≤ 6 → Row w r K I L d' f) ∧ (∀ f, t ≤ f → f ≤ 5 → Row w r K I L d f) ∧ Fr I0 I L0 L
theorem Fr_up {I0 I : Ic} {L0 L : Lc} (h : Fr I0 I L0 L) {d f : Nat} (hd : d ≤ 6) (x y : Int64) (z : Int32) : Fr I0 (up2 I (42 + d) f z) L0 (up2 (up2 L (26 + d) f x) (34 + d) f y) :=
  ⟨fun a ha => by rw [up2_ne (by omega), up2_ne (by omega)]; exact h.1 a ha, fun a ha => by rw [up2_ne (by omega)]; exact h.2 a ha⟩
theorem Row_up {w r : Nat → Nat} {K d f : Nat} {I : Ic} {L : Lc} (hd : d ≤ 6) : Row w r K (up2 I (42 + d) f (nI (Cx' w K r (K - d) f))) (up2 (up2 L (26 + d) f (lN (Sx' w K r (K - d) f))) (34 + d) f (lN (Mx' w K r (K - d) f))) d f := by
  refine ⟨?_, ?_, ?_⟩
  · rw [up2_at, if_neg (by omega), up2_at, if_pos ⟨rfl, rfl⟩]
  · rw [up2_at, if_pos ⟨rfl, rfl⟩]
  · rw [up2_at, if_pos ⟨rfl, rfl⟩]
theorem Row_ne {w r : Nat → Nat} {K d f d' f' : Nat} {I : Ic} {L : Lc} {x y : Int64} {z : Int32} (hd : d ≤ 6) (hd' : d' ≤ 6) (hne : d' ≠ d ∨ f' ≠ f) (h : Row w r K I L d' f') : Row w r K (up2 I (42 + d) f z) (up2 (up2 L (26 + d) f x) (34 + d) f y) d' f' := by
  refine ⟨?_, ?_, ?_⟩
  · rw [up2_at, if_neg (by omega), up2_at, if_neg (by omega)]; exact h.1
  · rw [up2_at, if_neg (by omega), up2_at, if_neg (by omega)]; exact h.2.1
  · rw [up2_at, if_neg (by omega)]; exact h.2.2
theorem RB_0 (w r : Nat → Nat) (K : Nat) (I : Ic) (L : Lc) : RB w r K I I L L 0 := ⟨fun f h => absurd h (by omega), fun _ _ => rfl, fun _ _ => rfl⟩
theorem Ax0 {β : Type} (op : β → Nat → β → β) (z e : β) (w : Nat → Nat) (K : Nat) (r : Nat → Nat) (f : Nat) : Ax op z e w K r (K - K) f = if f < 4 ∨ (f = 6 ∧ K = 0) then e else z := by rw [Nat.sub_self]; rfl
theorem RB_s {w r : Nat → Nat} {K t : Nat} {I0 I : Ic} {L0 L : Lc} (hK : K ≤ 6) (h : RB w r K I0 I L0 L t) {b : Nat} (hb : b = if t < 4 ∨ (t = 6 ∧ K = 0) then 1 else 0) : RB w r K I0 (up2 I (42 + K) t (nI b)) L0 (up2 (up2 L (26 + K) t (lN b)) (34 + K) t (lN b)) (t + 1) := by
  have eS : Sx' w K r (K - K) t = b := by rw [hb]; exact Ax0 _ _ _ _ _ _ _
  have eM : Mx' w K r (K - K) t = b := by rw [hb]; exact Ax0 _ _ _ _ _ _ _
  have eC : Cx' w K r (K - K) t = b := by rw [hb]; exact Ax0 _ _ _ _ _ _ _
  refine ⟨fun f hf => ?_, Fr_up h.2 hK _ _ _⟩
  by_cases e : f = t
  · subst e
    have := Row_up (w := w) (r := r) (K := K) (d := K) (f := f) (I := I) (L := L) hK
    rw [eS, eM, eC] at this
    exact this
  · exact Row_ne hK hK (Or.inr e) (h.1 f (by omega))
theorem RB_e {w r : Nat → Nat} {K : Nat} {I0 I : Ic} {L0 L : Lc} (h : RB w r K I0 I L0 L 7) : RO w r K I0 I L0 L K := ⟨fun d' f h1 h2 h3 => by rw [show d' = K by omega]; exact h.1 f (by omega), h.2⟩
theorem RN_0 {w r : Nat → Nat} {K d : Nat} {I0 I : Ic} {L0 L : Lc} (h : RO w r K I0 I L0 L (d + 1)) : RN w r K I0 I L0 L d 6 := ⟨fun d' f h1 h2 h3 => h.1 d' f (by omega) h2 h3, fun f h1 h2 => absurd h1 (by omega), h.2⟩
theorem RN_s {w r : Nat → Nat} {K d t : Nat} {I0 I : Ic} {L0 L : Lc} (hK : K ≤ 6) (hd : d < K) (h : RN w r K I0 I L0 L d (t + 1)) : RN w r K I0 (up2 I (42 + d) t (nI (Cx' w K r (K - d) t))) L0 (up2 (up2 L (26 + d) t (lN (Sx' w K r (K - d) t))) (34 + d) t (lN (Mx' w K r (K - d) t))) d t := by
  refine ⟨fun d' f h1 h2 h3 => Row_ne (by omega) (by omega) (Or.inl (by omega)) (h.1 d' f h1 h2 h3), fun f h1 h2 => ?_, Fr_up h.2.2 (by omega) _ _ _⟩
  by_cases e : f = t
  · subst e; exact Row_up (by omega)
  · exact Row_ne (by omega) (by omega) (Or.inr e) (h.2.1 f (by omega) h2)
theorem RN_e {w r : Nat → Nat} {K d : Nat} {I0 I : Ic} {L0 L : Lc} (hK : K ≤ 6) (hd : d < K) (h : RN w r K I0 I L0 L d 0) : RO w r K I0 (up2 I (42 + d) 6 (nI (Cx' w K r (K - d) 6))) L0 (up2 (up2 L (26 + d) 6 (lN (Sx' w K r (K - d) 6))) (34 + d) 6 (lN (Mx' w K r (K - d) 6))) d := by
  refine ⟨fun d' f h1 h2 h3 => ?_, Fr_up h.2.2 (by omega) _ _ _⟩
  by_cases e : d' = d
  · subst e
    by_cases e6 : f = 6
    · subst e6; exact Row_up (by omega)
    · exact Row_ne (by omega) (by omega) (Or.inr e6) (h.2.1 f (by omega) (by omega))
  · exact Row_ne (by omega) (by omega) (Or.inl e) (h.1 d' f (by omega) h2 h3)
/-- what a step from f needs of the rows -/
def Rnd (w r : Nat → Nat) (K : Nat) (I : Ic) (L : Lc) (d f : Nat) : Prop := ∀ t, t < 6 → 0 < mv w K r f t d → Row w r K I L (nx t d) t
theorem RN_n {w r : Nat → Nat} {K d t : Nat} {I0 I : Ic} {L0 L : Lc} (hw : Wok w) (hd : d < K) (ht : t ≤ 5) (h : RN w r K I0 I L0 L d (t + 1)) : Rnd w r K I L d t := fun i hi hp => by
  unfold nx
  by_cases h4 : i < 4
  · rw [if_pos h4]; exact h.1 (d + 1) i (by omega) (by omega) (by omega)
  · rw [if_neg h4]
    refine h.2.1 i ?_ (by omega)
    have h45 : i = 4 ∨ i = 5 := by omega
    rcases h45 with rfl | rfl
    · by_cases t4 : t = 4
      · subst t4; rw [mv_44 hw] at hp; omega
      · by_cases t5 : t = 5
        · subst t5; rw [mv_54 hw] at hp; omega
        · omega
    · by_cases t5 : t = 5
      · subst t5; rw [mv_55 hw] at hp; omega
      · omega
theorem RN_n6 {w r : Nat → Nat} {K d : Nat} {I0 I : Ic} {L0 L : Lc} (hd : d < K) (h : RN w r K I0 I L0 L d 0) : Rnd w r K I L d 6 := fun i hi hp => by
  unfold nx
  by_cases h4 : i < 4
  · rw [if_pos h4]; exact h.1 (d + 1) i (by omega) (by omega) (by omega)
  · rw [if_neg h4]; exact h.2.1 i (by omega) (by omega)
def fS (w r : Nat → Nat) (K d f : Nat) : Nat → Nat := foldT opS 0 (fun t => mv w K r f t d) (fun t => Sx' w K r (K - nx t d) t)
def fM (w r : Nat → Nat) (K d f : Nat) : Nat → Nat := foldT opM 0 (fun t => mv w K r f t d) (fun t => Mx' w K r (K - nx t d) t)
def fC (w r : Nat → Nat) (K d f : Nat) : Nat → Nat := foldT opC 0 (fun t => mv w K r f t d) (fun t => Cx' w K r (K - nx t d) t)
theorem fS_p {w r : Nat → Nat} {K d f i : Nat} (h : 0 < mv w K r f i d) : fS w r K d f (i + 1) = fS w r K d f i + mv w K r f i d * Sx' w K r (K - nx i d) i := by
  show (if 0 < mv w K r f i d then _ else _) = _; rw [if_pos h]; rfl
theorem fM_p {w r : Nat → Nat} {K d f i : Nat} (h : 0 < mv w K r f i d) : fM w r K d f (i + 1) = max (fM w r K d f i) (mv w K r f i d * Mx' w K r (K - nx i d) i) := by
  show (if 0 < mv w K r f i d then _ else _) = _; rw [if_pos h]; rfl
theorem fC_p {w r : Nat → Nat} {K d f i : Nat} (h : 0 < mv w K r f i d) : fC w r K d f (i + 1) = fC w r K d f i + Cx' w K r (K - nx i d) i := by
  show (if 0 < mv w K r f i d then _ else _) = _; rw [if_pos h]; rfl
theorem fS_n {w r : Nat → Nat} {K d f i : Nat} (h : mv w K r f i d = 0) : fS w r K d f (i + 1) = fS w r K d f i := by
  show (if 0 < mv w K r f i d then _ else _) = _; rw [if_neg (by omega)]; rfl
theorem fM_n {w r : Nat → Nat} {K d f i : Nat} (h : mv w K r f i d = 0) : fM w r K d f (i + 1) = fM w r K d f i := by
  show (if 0 < mv w K r f i d then _ else _) = _; rw [if_neg (by omega)]; rfl
theorem fC_n {w r : Nat → Nat} {K d f i : Nat} (h : mv w K r f i d = 0) : fC w r K d f (i + 1) = fC w r K d f i := by
  show (if 0 < mv w K r f i d then _ else _) = _; rw [if_neg (by omega)]; rfl
theorem foldM_le {m v : Nat → Nat} {B : Nat} : ∀ {N : Nat}, (∀ i, i < N → m i * v i ≤ B) → foldT opM 0 m v N ≤ B
  | 0, _ => Nat.zero_le B
  | N + 1, h => by
    have h1 := foldM_le (N := N) (fun i hi => h i (by omega))
    have h2 := h N (by omega)
    show (if 0 < m N then max (foldT opM 0 m v N) (m N * v N) else foldT opM 0 m v N) ≤ B
    split <;> omega
theorem pow576 {j : Nat} (h : j ≤ 6) : 576 ^ j ≤ 36520347436056576 := Nat.le_trans (Nat.pow_le_pow_right (by decide) h) (by decide)
theorem Mx_b {w r : Nat → Nat} (hw : Wok w) (K j f : Nat) (hj : j ≤ 6) : Mx' w K r j f ≤ 36520347436056576 := Nat.le_trans (AxM_le K r j f) (Nat.le_trans (AxS_le hw K r j f) (pow576 hj))
theorem Sx_b {w r : Nat → Nat} (hw : Wok w) (K j f : Nat) (hj : j ≤ 6) : Sx' w K r j f ≤ 36520347436056576 := Nat.le_trans (AxS_le hw K r j f) (pow576 hj)
theorem Cx_b {w r : Nat → Nat} (hw : Wok w) (K j f : Nat) (hj : j ≤ 6) : Cx' w K r j f ≤ 16777216 := Nat.le_trans (AxC_16 hw K r j f) (Nat.le_trans (Nat.pow_le_pow_right (by decide) hj) (by decide))
theorem mM_b {w r : Nat → Nat} (hw : Wok w) (K d f i : Nat) (hK : K ≤ 6) : mv w K r f i d * Mx' w K r (K - nx i d) i ≤ 9 * 36520347436056576 := Nat.mul_le_mul (mv_le hw K r f i d) (Mx_b hw K _ i (by omega))
theorem fM_b {w r : Nat → Nat} (hw : Wok w) (K d f i : Nat) (hK : K ≤ 6) : fM w r K d f i ≤ 9 * 36520347436056576 := foldM_le (fun t _ => mM_b hw K d f t hK)
theorem lN_max {a b : Nat} (ha : a < 2 ^ 63) (hb : b < 2 ^ 63) : (if lN b < lN a then lN a else lN b) = lN (max a b) := by
  by_cases h : b < a
  · rw [if_pos ((pk_lLT hb ha).mpr h), Nat.max_eq_left (by omega)]
  · rw [if_neg (fun q => h ((pk_lLT hb ha).mp q)), Nat.max_eq_right (by omega)]
theorem fM_lt {w r : Nat → Nat} (hw : Wok w) (K d f i : Nat) (hK : K ≤ 6) : fM w r K d f i < 2 ^ 63 := Nat.lt_of_le_of_lt (fM_b hw K d f i hK) (by decide)
theorem mM_lt {w r : Nat → Nat} (hw : Wok w) (K d f i : Nat) (hK : K ≤ 6) : mv w K r f i d * Mx' w K r (K - nx i d) i < 2 ^ 63 := Nat.lt_of_le_of_lt (mM_b hw K d f i hK) (by decide)
theorem Sx_f {w r : Nat → Nat} (hw : Wok w) (K d f : Nat) (hd : d < K) : Sx' w K r (K - d) f = fS w r K d f 6 := Ax_succ hw d hd f
theorem Mx_f {w r : Nat → Nat} (hw : Wok w) (K d f : Nat) (hd : d < K) : Mx' w K r (K - d) f = fM w r K d f 6 := Ax_succ hw d hd f
theorem Cx_f {w r : Nat → Nat} (hw : Wok w) (K d f : Nat) (hd : d < K) : Cx' w K r (K - d) f = fC w r K d f 6 := Ax_succ hw d hd f
end
section
theorem MdI_fr {I I1 : Ic} {w : Nat → Nat} {K : Nat} {ro : Nat → Nat} (h : MdI I w K ro) (hf : ∀ a, a < 42 ∨ 48 < a → I1 a = I a) : MdI I1 w K ro :=
  ⟨fun i hi => by rw [hf 2 (by omega)]; exact h.1 i hi, by rw [hf 1 (by omega)]; exact h.2.1, fun j hj => by rw [hf 3 (by omega)]; exact h.2.2.1 j hj, h.2.2.2⟩
section QMX
variable {p : Program} {l : Launch} {e : Env} {Rm : Room} {s : State} {m : MethodId} {args : Array Value} {below : List Frame} {meth : Method} {c : Code} {H : Heap} {locs : List Loc} {cells slots : Nat} {Q : State → Prop} {cc : ByteArray} {pc : Nat} {ls : Array Slot} {rest : List Value} {nL : Nat} {own : String}
theorem q_max {x y : Int64} {index : Nat} (hC : CallFix p m c cc nL s args GW own) (hls : ls.size = nL) (hl : Cond.methodLink own index Lib.MathLoose.max_long.x ∈ GW) (hframes : 1 ≤ Rm.frames) (hlocals : (rest.map fun v => v.category).sum + 15 ≤ Rm.locals) (hc : cells ≤ Rm.cells) (hs : slots ≤ Rm.slots) (hdg : decode cc pc = .ok (.invokestatic index, 3))
    (kk : W p l e Rm s m args below meth c H locs cells slots Q (F0 m (pc + 3) ls (.long (if y < x then x else y) :: rest))) : W p l e Rm s m args below meth c H locs cells slots Q (F0 m pc ls (.long y :: .long x :: rest)) :=
  va_mmax_long hC.1 hC.2.1 (by rw [hC.2.2.1, hls]) hC.2.2.2.1 (hC.2.2.2.2 _ hl) (hC.2.2.2.2 _ gw_248) (hC.2.2.2.2 _ gw_9) (hC.2.2.2.2 _ gw_249) hframes hlocals hc hs hdg kk
end QMX
set_option maxRecDepth 100000 in
set_option maxHeartbeats 4000000 in
theorem k_arrive (l : Launch) (G : Gx) (n : Nat) (ad : Nat → Nat) (sz : Nat) (I : Ic) (L : Lc) (R : Rc) (d t : Nat) (w : Nat → Nat) (K : Nat) (ro : Nat → Nat) (hn : 83 ≤ n) (hlk : LkOK n R) (hM : MdI I w K ro) (hd : d ≤ 6) (ht : t ≤ 5) : Met l yX2_arrive (Cond.code yX2_arrive cX2_arrive 7 (some .long) :: GW) ({ frames := 1, cells := 0, slots := 0, locals := 36 } : Room) (qPre G n ad sz I L R [.ref (ad 8), .ref (ad 1), .int (nI (d)), .int (nI (t))]) (qL0 G (qA n ad sz) (n, ad, I, L, R) (fun z => z = arrL (L (10 + d)) w t 7)) 0 0 (qA n ad sz) := by
  refine q_met (by decide) (Nat.le_of_ble_eq_true rfl) ?_
  intro p e s m below meth c hC hr hlk0 hin hsz hW ls hl
  subst hsz
  have hC : CallFix p m c cX2_arrive 7 s ([.ref (ad 8), .ref (ad 1), .int (nI (d)), .int (nI (t))] : List Value).toArray GW "CoinRows$Sums" := hC
  have hx := hC.1
  have hb := hC.2.1
  have hk6 : K ≤ 6 := hM.2.2.2.1
  have hw3 : ∀ i, w i ≤ 3 := hM.2.2.2.2.1.1
  have hr4 : ∀ j, ro j < 4 := hM.2.2.2.2.2
  have hl : lv_has ls 7 [(0, .ref (ad 8)), (1, .ref (ad 1)), (2, .int (nI (d))), (3, .int (nI (t)))] := hl
  refine q_lc 0 hx hb dX2_arrive_0 (by decide) ?_
  refine lv_lstore (lv' := [(4, .long (lN 0)), (0, .ref (ad 8)), (1, .ref (ad 1)), (2, .int (nI (d))), (3, .int (nI (t)))]) hx hb dX2_arrive_1 hl (by decide) rfl (fun ls hl => ?_)
  refine q_ic 0 hx hb dX2_arrive_3 (by decide) ?_
  refine lv_istore (lv' := [(6, .int (nI 0)), (4, .long (lN 0)), (0, .ref (ad 8)), (1, .ref (ad 1)), (2, .int (nI (d))), (3, .int (nI (t)))]) hx hb dX2_arrive_4 hl (by decide) rfl (fun ls hl => ?_)
  have lp_6 : ∀ (fu_6 : Nat) (i : Nat), 7 - i < fu_6 → i ≤ 7 → ∀ (H : Heap) (locs : List Loc), Wd G n ad I L R (qA n ad s.heap.size) s.heap H locs s → ∀ ls : Array Slot, lv_has ls 7 [(0, .ref (ad 8)), (1, .ref (ad 1)), (2, .int (nI (d))), (3, .int (nI (t))), (4, .long (arrL (L (10 + d)) w t i)), (6, .int (nI (i)))] → W p l e ({ frames := 1, cells := 0, slots := 0, locals := 36 } : Room) s m ([.ref (ad 8), .ref (ad 1), .int (nI (d)), .int (nI (t))] : List Value).toArray below meth c H locs 0 0 (MQ below (qL0 G (qA n ad s.heap.size) (n, ad, I, L, R) (fun z => z = arrL (L (10 + d)) w t 7)) ([.ref (ad 8), .ref (ad 1), .int (nI (d)), .int (nI (t))] : List Value).toArray s 0 0 (qA n ad s.heap.size)) (F0 m 6 ls []) := by
    intro fu_6
    induction fu_6 with
    | zero =>
      intro i hm; exact absurd hm (Nat.not_lt_zero _)
    | succ fu_6 ih_6 =>
      intro i hm_6 hi H locs hW ls hl
      have hwi := hw3 (i * 6 + t)
      refine lv_iload hx hb dX2_arrive_6 (lv_at hl 5 rfl) ?_
      refine q_bp 6 hx hb dX2_arrive_8 (by decide) ?_
      refine q_cgt (tgt := 42) hx hb dX2_arrive_10 (by decide) (by first | omega | exact Nat.lt_of_le_of_lt (hw3 _) (by decide)) (by first | omega | exact Nat.lt_of_le_of_lt (hw3 _) (by decide)) (fun c_10 => ?_) (fun c_10 => ?_)
      ·
        refine lv_lload hx hb dX2_arrive_42 (lv_at hl 4 rfl) ?_
        exact q_lret0 hC hW hr hlk0 (by rw [show i = 7 by omega]) dX2_arrive_44
      ·
        refine lv_lload hx hb dX2_arrive_13 (lv_at hl 4 rfl) ?_
        refine lv_aload_n hx hb dX2_arrive_15 rfl (lv_at hl 0 rfl) ?_
        refine g_2_0 (x := 8) (y := 9) hC hW (by omega) kd_8 gw_79 (hlk 8 0 9 (by omega) rfl) dX2_arrive_16 ?_
        refine lv_iload_n hx hb dX2_arrive_19 rfl (lv_at hl 2 rfl) ?_
        refine q_aald5 (x := 9) (i := d) (y := 10 + d) hC hW (by omega) kd_9 (by omega) (lk_row9 hlk (by omega) (by omega)) dX2_arrive_20 ?_
        refine lv_iload hx hb dX2_arrive_21 (lv_at hl 5 rfl) ?_
        refine q_lald (x := (10 + d)) (i := i) hC hW (by omega) (kd_r10 (by omega)) (by omega) dX2_arrive_23 ?_
        refine lv_aload_n hx hb dX2_arrive_24 rfl (lv_at hl 1 rfl) ?_
        refine lv_iload hx hb dX2_arrive_25 (lv_at hl 5 rfl) ?_
        refine lv_iload_n hx hb dX2_arrive_27 rfl (lv_at hl 3 rfl) ?_
        refine q_kI0 (q_rV (As := [.int (nI (i)), .int (nI (t))]) (rest := [.long (L (10 + d) i), .long (arrL (L (10 + d)) w t i)]) (x := 1) hC hW mw_X0_stepWeight gw_225 (k_stepWeight l G n ad H.size I L R _ _ w K ro hn hlk hM (by omega)) (by omega) (ct_o0 kd_1) rfl ⟨rfl, rfl⟩ ⟨Nat.le_of_ble_eq_true rfl, Nat.le_of_ble_eq_true rfl⟩ ⟨Nat.le_of_ble_eq_true rfl, Nat.le_of_ble_eq_true rfl⟩ hl.1 rfl rfl (Nat.le_of_ble_eq_true rfl) dX2_arrive_28) hW (fun r_28 H locs hp hW => ?_)
        subst hp
        refine q_i2l hx hb dX2_arrive_31 (by first | omega | exact Nat.lt_of_le_of_lt (hw3 _) (by decide)) ?_
        refine lv_lmul hx hb dX2_arrive_32 ?_
        refine lv_ladd hx hb dX2_arrive_33 ?_
        refine lv_lstore (lv' := [(4, .long ((arrL (L (10 + d)) w t i) + ((L (10 + d) i) * (lN (w (i * 6 + t)))))), (0, .ref (ad 8)), (1, .ref (ad 1)), (2, .int (nI (d))), (3, .int (nI (t))), (6, .int (nI (i)))]) hx hb dX2_arrive_34 hl (by decide) rfl (fun ls hl => ?_)
        refine q_iinc (z2 := i + 1) (lv' := [(6, .int (nI (i + 1))), (4, .long ((arrL (L (10 + d)) w t i) + ((L (10 + d) i) * (lN (w (i * 6 + t)))))), (0, .ref (ad 8)), (1, .ref (ad 1)), (2, .int (nI (d))), (3, .int (nI (t)))]) hx hb dX2_arrive_36 hl (k := 5) rfl (inc_up _ 1 (by decide)) (by decide) rfl (fun ls hl => ?_)
        refine lv_goto (tgt := 6) hx hb dX2_arrive_39 (by decide) ?_
        exact ih_6 (i + 1) (by omega) (by omega) _ _ hW _ (lv_sub hl [2, 3, 4, 5, 1, 0] rfl)
  exact lp_6 (7 + 1) 0 (by omega) (by omega) _ _ hW _ (lv_sub hl [2, 3, 4, 5, 1, 0] rfl)
set_option maxRecDepth 100000 in
set_option maxHeartbeats 4000000 in
theorem k_sumBeg (l : Launch) (G : Gx) (n : Nat) (ad : Nat → Nat) (sz : Nat) (I : Ic) (L : Lc) (R : Rc) (w : Nat → Nat) (K : Nat) (ro : Nat → Nat) (hn : 83 ≤ n) (hlk : LkOK n R) (hM : MdI I w K ro) (hSI : SI L) : Met l yX2_sumBeginnings (Cond.code yX2_sumBeginnings cX2_sumBeginnings 4 none :: GW) ({ frames := 2, cells := 0, slots := 0, locals := 72 } : Room) (qPre G n ad sz I L R [.ref (ad 8), .ref (ad 1)]) (qV1 G (qA n ad sz) n ad R (fun I1 L1 => I = I1 ∧ BO w ro K L (K + 1) L1)) 0 0 (qA n ad sz) := by
  refine q_met (by decide) (Nat.le_of_ble_eq_true rfl) ?_
  intro p e s m below meth c hC hr hlk0 hin hsz hW ls hl
  subst hsz
  have hC : CallFix p m c cX2_sumBeginnings 4 s ([.ref (ad 8), .ref (ad 1)] : List Value).toArray GW "CoinRows$Sums" := hC
  have hx := hC.1
  have hb := hC.2.1
  have hk6 : K ≤ 6 := hM.2.2.2.1
  have hw3 : ∀ i, w i ≤ 3 := hM.2.2.2.2.1.1
  have hr4 : ∀ j, ro j < 4 := hM.2.2.2.2.2
  have hl : lv_has ls 4 [(0, .ref (ad 8)), (1, .ref (ad 1))] := hl
  refine q_ic 0 hx hb dX2_sumBeginnings_0 (by decide) ?_
  refine lv_istore_n (lv' := [(2, .int (nI 0)), (0, .ref (ad 8)), (1, .ref (ad 1))]) hx hb dX2_sumBeginnings_1 rfl hl (by decide) rfl (fun ls hl => ?_)
  have lp_2 : ∀ (fu_2 : Nat) (d : Nat) (L1 : Lc), 7 - d < fu_2 → d ≤ K + 1 → BO w ro K L d L1 → ∀ (H : Heap) (locs : List Loc), Wd G n ad I L1 R (qA n ad s.heap.size) s.heap H locs s → ∀ ls : Array Slot, lv_has ls 4 [(0, .ref (ad 8)), (1, .ref (ad 1)), (2, .int (nI (d)))] → W p l e ({ frames := 2, cells := 0, slots := 0, locals := 72 } : Room) s m ([.ref (ad 8), .ref (ad 1)] : List Value).toArray below meth c H locs 0 0 (MQ below (qV1 G (qA n ad s.heap.size) n ad R (fun I1 L1 => I = I1 ∧ BO w ro K L (K + 1) L1)) ([.ref (ad 8), .ref (ad 1)] : List Value).toArray s 0 0 (qA n ad s.heap.size)) (F0 m 2 ls []) := by
    intro fu_2
    induction fu_2 with
    | zero =>
      intro d L1 hm; exact absurd hm (Nat.not_lt_zero _)
    | succ fu_2 ih_2 =>
      intro d L1 hm_2 hd hB H locs hW ls hl
      refine lv_iload_n hx hb dX2_sumBeginnings_2 rfl (lv_at hl 2 rfl) ?_
      refine lv_aload_n hx hb dX2_sumBeginnings_3 rfl (lv_at hl 1 rfl) ?_
      refine g_0_2 (x := 1) hC hW (by omega) kd_1 gw_35 dX2_sumBeginnings_4 ?_
      refine q_top (v2 := .int (nI (K))) (congrArg _ hM.2.1) ?_
      refine q_cgt (tgt := 112) hx hb dX2_sumBeginnings_7 (by decide) (by first | omega | exact Nat.lt_of_le_of_lt (hw3 _) (by decide)) (by first | omega | exact Nat.lt_of_le_of_lt (hw3 _) (by decide)) (fun c_7 => ?_) (fun c_7 => ?_)
      ·
        exact q_vret1 hC hW hr hlk0 ⟨rfl, (by rw [show K + 1 = d by omega]; exact hB)⟩ dX2_sumBeginnings_112
      ·
        refine q_ic 4 hx hb dX2_sumBeginnings_10 (by decide) ?_
        refine lv_istore_n (lv' := [(3, .int (nI 4)), (0, .ref (ad 8)), (1, .ref (ad 1)), (2, .int (nI (d)))]) hx hb dX2_sumBeginnings_11 rfl hl (by decide) rfl (fun ls hl => ?_)
        refine lv_iload_n hx hb dX2_sumBeginnings_12 rfl (lv_at hl 0 rfl) ?_
        refine q_bp 6 hx hb dX2_sumBeginnings_13 (by decide) ?_
        refine q_cge (tgt := 39) hx hb dX2_sumBeginnings_15 (by decide) (by first | omega | exact Nat.lt_of_le_of_lt (hw3 _) (by decide)) (by first | omega | exact Nat.lt_of_le_of_lt (hw3 _) (by decide)) (fun c_15 => absurd c_15 (by decide)) (fun c_15 => ?_)
        refine lv_aload_n hx hb dX2_sumBeginnings_18 rfl (lv_at hl 1 rfl) ?_
        refine g_2_0 (x := 8) (y := 9) hC hW (by omega) kd_8 gw_79 (hlk 8 0 9 (by omega) rfl) dX2_sumBeginnings_19 ?_
        refine lv_iload_n hx hb dX2_sumBeginnings_22 rfl (lv_at hl 3 rfl) ?_
        refine q_aald5 (x := 9) (i := d) (y := 10 + d) hC hW (by omega) kd_9 (by omega) (lk_row9 hlk (by omega) (by omega)) dX2_sumBeginnings_23 ?_
        refine lv_iload_n hx hb dX2_sumBeginnings_24 rfl (lv_at hl 0 rfl) ?_
        refine lv_aload_n hx hb dX2_sumBeginnings_25 rfl (lv_at hl 1 rfl) ?_
        refine lv_aload_n hx hb dX2_sumBeginnings_26 rfl (lv_at hl 2 rfl) ?_
        refine lv_iload_n hx hb dX2_sumBeginnings_27 rfl (lv_at hl 3 rfl) ?_
        refine lv_iload_n hx hb dX2_sumBeginnings_28 rfl (lv_at hl 0 rfl) ?_
        refine q_kL0 (q_rV (As := [.ref (ad 1), .int (nI (d)), .int (nI 4)]) (rest := [.int (nI 4), .ref (ad (10 + d))]) (x := 8) hC hW mw_X2_arrive gw_221 (k_arrive l G n ad H.size I L1 R _ _ w K ro hn hlk hM (by omega) (by omega)) (by omega) (ct_o2 kd_8) rfl ⟨rfl, rfl⟩ ⟨Nat.le_of_ble_eq_true rfl, Nat.le_of_ble_eq_true rfl⟩ ⟨Nat.le_of_ble_eq_true rfl, Nat.le_of_ble_eq_true rfl⟩ hl.1 rfl rfl (Nat.le_of_ble_eq_true rfl) dX2_sumBeginnings_29) hW (fun r_29 H locs hp hW => ?_)
        subst hp
        refine q_top (v2 := .long (lN (b4 w (uB w ro d)))) (congrArg _ (BO_4 hM.2.2.2.2.1 (by omega) hk6 hB)) ?_
        refine q_last (x := (10 + d)) (i := 4) (v := lN (b4 w (uB w ro d))) hC hW (by omega) (kd_r10 (by omega)) (by omega) dX2_sumBeginnings_32 (fun H locs hW => ?_)
        refine q_iinc (z2 := 5) (lv' := [(3, .int (nI 5)), (0, .ref (ad 8)), (1, .ref (ad 1)), (2, .int (nI (d)))]) hx hb dX2_sumBeginnings_33 hl (k := 0) rfl (inc_up _ 1 (by decide)) (by decide) rfl (fun ls hl => ?_)
        refine lv_goto (tgt := 12) hx hb dX2_sumBeginnings_36 (by decide) ?_
        refine lv_iload_n hx hb dX2_sumBeginnings_12 rfl (lv_at hl 0 rfl) ?_
        refine q_bp 6 hx hb dX2_sumBeginnings_13 (by decide) ?_
        refine q_cge (tgt := 39) hx hb dX2_sumBeginnings_15 (by decide) (by first | omega | exact Nat.lt_of_le_of_lt (hw3 _) (by decide)) (by first | omega | exact Nat.lt_of_le_of_lt (hw3 _) (by decide)) (fun c_15 => absurd c_15 (by decide)) (fun c_15 => ?_)
        refine lv_aload_n hx hb dX2_sumBeginnings_18 rfl (lv_at hl 1 rfl) ?_
        refine g_2_0 (x := 8) (y := 9) hC hW (by omega) kd_8 gw_79 (hlk 8 0 9 (by omega) rfl) dX2_sumBeginnings_19 ?_
        refine lv_iload_n hx hb dX2_sumBeginnings_22 rfl (lv_at hl 3 rfl) ?_
        refine q_aald5 (x := 9) (i := d) (y := 10 + d) hC hW (by omega) kd_9 (by omega) (lk_row9 hlk (by omega) (by omega)) dX2_sumBeginnings_23 ?_
        refine lv_iload_n hx hb dX2_sumBeginnings_24 rfl (lv_at hl 0 rfl) ?_
        refine lv_aload_n hx hb dX2_sumBeginnings_25 rfl (lv_at hl 1 rfl) ?_
        refine lv_aload_n hx hb dX2_sumBeginnings_26 rfl (lv_at hl 2 rfl) ?_
        refine lv_iload_n hx hb dX2_sumBeginnings_27 rfl (lv_at hl 3 rfl) ?_
        refine lv_iload_n hx hb dX2_sumBeginnings_28 rfl (lv_at hl 0 rfl) ?_
        refine q_kL0 (q_rV (As := [.ref (ad 1), .int (nI (d)), .int (nI 5)]) (rest := [.int (nI 5), .ref (ad (10 + d))]) (x := 8) hC hW mw_X2_arrive gw_221 (k_arrive l G n ad H.size I (up2 L1 (10 + d) 4 (lN (b4 w (uB w ro d)))) R _ _ w K ro hn hlk hM (by omega) (by omega)) (by omega) (ct_o2 kd_8) rfl ⟨rfl, rfl⟩ ⟨Nat.le_of_ble_eq_true rfl, Nat.le_of_ble_eq_true rfl⟩ ⟨Nat.le_of_ble_eq_true rfl, Nat.le_of_ble_eq_true rfl⟩ hl.1 rfl rfl (Nat.le_of_ble_eq_true rfl) dX2_sumBeginnings_29) hW (fun r_29 H locs hp hW => ?_)
        subst hp
        refine q_top (v2 := .long (lN (b5 w (uB w ro d)))) (congrArg _ (BO_5 hM.2.2.2.2.1 (by omega) hk6 hB)) ?_
        refine q_last (x := (10 + d)) (i := 5) (v := lN (b5 w (uB w ro d))) hC hW (by omega) (kd_r10 (by omega)) (by omega) dX2_sumBeginnings_32 (fun H locs hW => ?_)
        refine q_iinc (z2 := 6) (lv' := [(3, .int (nI 6)), (0, .ref (ad 8)), (1, .ref (ad 1)), (2, .int (nI (d)))]) hx hb dX2_sumBeginnings_33 hl (k := 0) rfl (inc_up _ 1 (by decide)) (by decide) rfl (fun ls hl => ?_)
        refine lv_goto (tgt := 12) hx hb dX2_sumBeginnings_36 (by decide) ?_
        refine lv_iload_n hx hb dX2_sumBeginnings_12 rfl (lv_at hl 0 rfl) ?_
        refine q_bp 6 hx hb dX2_sumBeginnings_13 (by decide) ?_
        refine q_cge (tgt := 39) hx hb dX2_sumBeginnings_15 (by decide) (by first | omega | exact Nat.lt_of_le_of_lt (hw3 _) (by decide)) (by first | omega | exact Nat.lt_of_le_of_lt (hw3 _) (by decide)) (fun c_15 => ?_) (fun c_15 => absurd c_15 (by decide))
        refine q_ic 0 hx hb dX2_sumBeginnings_39 (by decide) ?_
        refine lv_istore_n (lv' := [(3, .int (nI 0)), (0, .ref (ad 8)), (1, .ref (ad 1)), (2, .int (nI (d)))]) hx hb dX2_sumBeginnings_40 rfl hl (by decide) rfl (fun ls hl => ?_)
        have lp_41 : ∀ (fu_41 : Nat) (t : Nat) (L2 : Lc), 4 - t < fu_41 → t ≤ 4 → BN w ro K L d t L2 → ∀ (H : Heap) (locs : List Loc), Wd G n ad I L2 R (qA n ad s.heap.size) s.heap H locs s → ∀ ls : Array Slot, lv_has ls 4 [(0, .ref (ad 8)), (1, .ref (ad 1)), (2, .int (nI (d))), (3, .int (nI (t)))] → W p l e ({ frames := 2, cells := 0, slots := 0, locals := 72 } : Room) s m ([.ref (ad 8), .ref (ad 1)] : List Value).toArray below meth c H locs 0 0 (MQ below (qV1 G (qA n ad s.heap.size) n ad R (fun I1 L1 => I = I1 ∧ BO w ro K L (K + 1) L1)) ([.ref (ad 8), .ref (ad 1)] : List Value).toArray s 0 0 (qA n ad s.heap.size)) (F0 m 41 ls []) := by
          intro fu_41
          induction fu_41 with
          | zero =>
            intro t L2 hm; exact absurd hm (Nat.not_lt_zero _)
          | succ fu_41 ih_41 =>
            intro t L2 hm_41 ht hN H locs hW ls hl
            refine lv_iload_n hx hb dX2_sumBeginnings_41 rfl (lv_at hl 3 rfl) ?_
            refine q_ic 4 hx hb dX2_sumBeginnings_42 (by decide) ?_
            refine q_cge (tgt := 106) hx hb dX2_sumBeginnings_43 (by decide) (by first | omega | exact Nat.lt_of_le_of_lt (hw3 _) (by decide)) (by first | omega | exact Nat.lt_of_le_of_lt (hw3 _) (by decide)) (fun c_43 => ?_) (fun c_43 => ?_)
            ·
              refine q_iinc (z2 := d + 1) (lv' := [(2, .int (nI (d + 1))), (0, .ref (ad 8)), (1, .ref (ad 1)), (3, .int (nI (t)))]) hx hb dX2_sumBeginnings_106 hl (k := 2) rfl (inc_up _ 1 (by decide)) (by decide) rfl (fun ls hl => ?_)
              refine lv_goto (tgt := 2) hx hb dX2_sumBeginnings_109 (by decide) ?_
              exact ih_2 (d + 1) L2 (by omega) (by omega) (BN_e (by rw [show (4 : Nat) = t by omega]; exact hN)) _ _ hW _ (lv_sub hl [1, 2, 0] rfl)
            ·
              refine lv_aload_n hx hb dX2_sumBeginnings_46 rfl (lv_at hl 0 rfl) ?_
              refine g_2_1 (x := 8) (y := 17) hC hW (by omega) kd_8 gw_81 (hlk 8 1 17 (by omega) rfl) dX2_sumBeginnings_47 ?_
              refine lv_iload_n hx hb dX2_sumBeginnings_50 rfl (lv_at hl 2 rfl) ?_
              refine q_aald5 (x := 17) (i := d) (y := 18 + d) hC hW (by omega) kd_17 (by omega) (lk_row17 hlk (by omega) (by omega)) dX2_sumBeginnings_51 ?_
              refine lv_iload_n hx hb dX2_sumBeginnings_52 rfl (lv_at hl 3 rfl) ?_
              refine lv_aload_n hx hb dX2_sumBeginnings_53 rfl (lv_at hl 0 rfl) ?_
              refine lv_aload_n hx hb dX2_sumBeginnings_54 rfl (lv_at hl 1 rfl) ?_
              refine lv_iload_n hx hb dX2_sumBeginnings_55 rfl (lv_at hl 2 rfl) ?_
              refine lv_iload_n hx hb dX2_sumBeginnings_56 rfl (lv_at hl 3 rfl) ?_
              refine q_kL0 (q_rV (As := [.ref (ad 1), .int (nI (d)), .int (nI (t))]) (rest := [.int (nI (t)), .ref (ad (18 + d))]) (x := 8) hC hW mw_X2_arrive gw_221 (k_arrive l G n ad H.size I L2 R _ _ w K ro hn hlk hM (by omega) (by omega)) (by omega) (ct_o2 kd_8) rfl ⟨rfl, rfl⟩ ⟨Nat.le_of_ble_eq_true rfl, Nat.le_of_ble_eq_true rfl⟩ ⟨Nat.le_of_ble_eq_true rfl, Nat.le_of_ble_eq_true rfl⟩ hl.1 rfl rfl (Nat.le_of_ble_eq_true rfl) dX2_sumBeginnings_57) hW (fun r_57 H locs hp hW => ?_)
              subst hp
              refine q_top (v2 := .long (lN (rchu w (uB w ro d) t))) (congrArg _ (BN_arr hN)) ?_
              refine q_last (x := (18 + d)) (i := t) (v := lN (rchu w (uB w ro d) t)) hC hW (by omega) (kd_r18 (by omega)) (by omega) dX2_sumBeginnings_60 (fun H locs hW => ?_)
              refine lv_iload_n hx hb dX2_sumBeginnings_61 rfl (lv_at hl 2 rfl) ?_
              refine lv_aload_n hx hb dX2_sumBeginnings_62 rfl (lv_at hl 1 rfl) ?_
              refine g_0_2 (x := 1) hC hW (by omega) kd_1 gw_35 dX2_sumBeginnings_63 ?_
              refine q_top (v2 := .int (nI (K))) (congrArg _ hM.2.1) ?_
              refine q_cge (tgt := 100) hx hb dX2_sumBeginnings_66 (by decide) (by first | omega | exact Nat.lt_of_le_of_lt (hw3 _) (by decide)) (by first | omega | exact Nat.lt_of_le_of_lt (hw3 _) (by decide)) (fun c_66 => ?_) (fun c_66 => ?_)
              ·
                refine q_iinc (z2 := t + 1) (lv' := [(3, .int (nI (t + 1))), (0, .ref (ad 8)), (1, .ref (ad 1)), (2, .int (nI (d)))]) hx hb dX2_sumBeginnings_100 hl (k := 3) rfl (inc_up _ 1 (by decide)) (by decide) rfl (fun ls hl => ?_)
                refine lv_goto (tgt := 41) hx hb dX2_sumBeginnings_103 (by decide) ?_
                exact ih_41 (t + 1) (up2 L2 (18 + d) t (lN (rchu w (uB w ro d) t))) (by omega) (by omega) (by first | exact BN_s hk6 (by omega) (by omega) hN | exact BN_t hk6 (by omega) (by omega) hN) _ _ hW _ (lv_sub hl [1, 2, 3, 0] rfl)
              ·
                refine lv_aload_n hx hb dX2_sumBeginnings_69 rfl (lv_at hl 0 rfl) ?_
                refine g_2_0 (x := 8) (y := 9) hC hW (by omega) kd_8 gw_79 (hlk 8 0 9 (by omega) rfl) dX2_sumBeginnings_70 ?_
                refine lv_iload_n hx hb dX2_sumBeginnings_73 rfl (lv_at hl 2 rfl) ?_
                refine q_ic 1 hx hb dX2_sumBeginnings_74 (by decide) ?_
                refine q_iadd hx hb dX2_sumBeginnings_75 ?_
                refine q_aald5 (x := 9) (i := d + 1) (y := 10 + (d + 1)) hC hW (by omega) kd_9 (by omega) (lk_row9 hlk (by omega) (by omega)) dX2_sumBeginnings_76 ?_
                refine lv_iload_n hx hb dX2_sumBeginnings_77 rfl (lv_at hl 3 rfl) ?_
                refine lv_aload_n hx hb dX2_sumBeginnings_78 rfl (lv_at hl 0 rfl) ?_
                refine g_2_1 (x := 8) (y := 17) hC hW (by omega) kd_8 gw_81 (hlk 8 1 17 (by omega) rfl) dX2_sumBeginnings_79 ?_
                refine lv_iload_n hx hb dX2_sumBeginnings_82 rfl (lv_at hl 2 rfl) ?_
                refine q_aald5 (x := 17) (i := d) (y := 18 + d) hC hW (by omega) kd_17 (by omega) (lk_row17 hlk (by omega) (by omega)) dX2_sumBeginnings_83 ?_
                refine lv_iload_n hx hb dX2_sumBeginnings_84 rfl (lv_at hl 3 rfl) ?_
                refine q_lald (x := (18 + d)) (i := t) hC hW (by omega) (kd_r18 (by omega)) (by omega) dX2_sumBeginnings_85 ?_
                refine q_top (v2 := .long (lN (rchu w (uB w ro d) t))) (congrArg _ (by rw [up2_at, if_pos ⟨rfl, rfl⟩])) ?_
                refine lv_aload_n hx hb dX2_sumBeginnings_86 rfl (lv_at hl 1 rfl) ?_
                refine lv_iload_n hx hb dX2_sumBeginnings_87 rfl (lv_at hl 3 rfl) ?_
                refine lv_aload_n hx hb dX2_sumBeginnings_88 rfl (lv_at hl 1 rfl) ?_
                refine g_0_1 (x := 1) (y := 3) hC hW (by omega) kd_1 gw_31 (hlk 1 1 3 (by omega) rfl) dX2_sumBeginnings_89 ?_
                refine lv_iload_n hx hb dX2_sumBeginnings_92 rfl (lv_at hl 2 rfl) ?_
                refine q_iald (x := 3) (i := d) hC hW (by omega) kd_3 (by omega) dX2_sumBeginnings_93 ?_
                refine q_top (v2 := .int (nI (ro d))) (congrArg _ (hM.2.2.1 _ (by omega))) ?_
                refine q_kI0 (q_rV (As := [.int (nI (t)), .int (nI (ro d))]) (rest := [.long (lN (rchu w (uB w ro d) t)), .int (nI (t)), .ref (ad (10 + (d + 1)))]) (x := 1) hC hW mw_X0_letterWeight gw_229 (k_letterWeight l G n ad H.size I (up2 L2 (18 + d) t (lN (rchu w (uB w ro d) t))) R _ _ w K ro hn hlk hM (by omega) (by first | omega | exact hr4 _)) (by omega) (ct_o0 kd_1) rfl ⟨rfl, rfl⟩ ⟨Nat.le_of_ble_eq_true rfl, Nat.le_of_ble_eq_true rfl⟩ ⟨Nat.le_of_ble_eq_true rfl, Nat.le_of_ble_eq_true rfl⟩ hl.1 rfl rfl (Nat.le_of_ble_eq_true rfl) dX2_sumBeginnings_94) hW (fun r_94 H locs hp hW => ?_)
                subst hp
                refine q_i2l hx hb dX2_sumBeginnings_97 (by first | omega | exact Nat.lt_of_le_of_lt (hw3 _) (by decide)) ?_
                refine q_lmul hx hb dX2_sumBeginnings_98 ?_
                refine q_last (x := (10 + (d + 1))) (i := t) (v := lN ((rchu w (uB w ro d) t) * (w (42 + t * 4 + (ro d))))) hC hW (by omega) (kd_r10 (by omega)) (by omega) dX2_sumBeginnings_99 (fun H locs hW => ?_)
                refine q_iinc (z2 := t + 1) (lv' := [(3, .int (nI (t + 1))), (0, .ref (ad 8)), (1, .ref (ad 1)), (2, .int (nI (d)))]) hx hb dX2_sumBeginnings_100 hl (k := 3) rfl (inc_up _ 1 (by decide)) (by decide) rfl (fun ls hl => ?_)
                refine lv_goto (tgt := 41) hx hb dX2_sumBeginnings_103 (by decide) ?_
                exact ih_41 (t + 1) (up2 (up2 L2 (18 + d) t (lN (rchu w (uB w ro d) t))) (10 + (d + 1)) t (lN ((rchu w (uB w ro d) t) * (w (42 + t * 4 + (ro d)))))) (by omega) (by omega) (by first | exact BN_s hk6 (by omega) (by omega) hN | exact BN_t hk6 (by omega) (by omega) hN) _ _ hW _ (lv_sub hl [1, 2, 3, 0] rfl)
        exact lp_41 (4 + 1) 0 (up2 (up2 L1 (10 + d) 4 (lN (b4 w (uB w ro d)))) (10 + d) 5 (lN (b5 w (uB w ro d)))) (by omega) (by omega) (BN_0 (by omega) hk6 hB) _ _ hW _ (lv_sub hl [1, 2, 3, 0] rfl)
  exact lp_2 (7 + 1) 0 L (by omega) (by omega) (⟨fun _ _ h => absurd h (by omega), fun _ _ h => absurd h (by omega), fun _ => SI_u0 hSI w ro, hSI, fun _ _ => rfl⟩) _ _ hW _ (lv_sub hl [1, 2, 0] rfl)
set_option maxRecDepth 100000 in
set_option maxHeartbeats 4000000 in
theorem k_rests (l : Launch) (G : Gx) (n : Nat) (ad : Nat → Nat) (sz : Nat) (I : Ic) (L : Lc) (R : Rc) (d f : Nat) (w : Nat → Nat) (K : Nat) (ro : Nat → Nat) (hn : 83 ≤ n) (hlk : LkOK n R) (hM : MdI I w K ro) (hd : d < K) (hf : f ≤ 6) (hR : Rnd w ro K I L d f) : Met l yX2_sumRestsBehind (Cond.code yX2_sumRestsBehind cX2_sumRestsBehind 12 none :: GW) ({ frames := 2, cells := 0, slots := 0, locals := 72 } : Room) (qPre G n ad sz I L R [.ref (ad 8), .ref (ad 1), .int (nI (d)), .int (nI (f))]) (qV1 G (qA n ad sz) n ad R (fun I1 L1 => L1 = up2 (up2 L (26 + d) f (lN (Sx' w K ro (K - d) f))) (34 + d) f (lN (Mx' w K ro (K - d) f)) ∧ I1 = up2 I (42 + d) f (nI (Cx' w K ro (K - d) f)))) 0 0 (qA n ad sz) := by
  refine q_met (by decide) (Nat.le_of_ble_eq_true rfl) ?_
  intro p e s m below meth c hC hr hlk0 hin hsz hW ls hl
  subst hsz
  have hC : CallFix p m c cX2_sumRestsBehind 12 s ([.ref (ad 8), .ref (ad 1), .int (nI (d)), .int (nI (f))] : List Value).toArray GW "CoinRows$Sums" := hC
  have hx := hC.1
  have hb := hC.2.1
  have hk6 : K ≤ 6 := hM.2.2.2.1
  have hw3 : ∀ i, w i ≤ 3 := hM.2.2.2.2.1.1
  have hr4 : ∀ j, ro j < 4 := hM.2.2.2.2.2
  have hl : lv_has ls 12 [(0, .ref (ad 8)), (1, .ref (ad 1)), (2, .int (nI (d))), (3, .int (nI (f)))] := hl
  refine q_lc 0 hx hb dX2_sumRestsBehind_0 (by decide) ?_
  refine lv_lstore (lv' := [(4, .long (lN 0)), (0, .ref (ad 8)), (1, .ref (ad 1)), (2, .int (nI (d))), (3, .int (nI (f)))]) hx hb dX2_sumRestsBehind_1 hl (by decide) rfl (fun ls hl => ?_)
  refine q_lc 0 hx hb dX2_sumRestsBehind_3 (by decide) ?_
  refine lv_lstore (lv' := [(6, .long (lN 0)), (4, .long (lN 0)), (0, .ref (ad 8)), (1, .ref (ad 1)), (2, .int (nI (d))), (3, .int (nI (f)))]) hx hb dX2_sumRestsBehind_4 hl (by decide) rfl (fun ls hl => ?_)
  refine q_ic 0 hx hb dX2_sumRestsBehind_6 (by decide) ?_
  refine lv_istore (lv' := [(8, .int (nI 0)), (6, .long (lN 0)), (4, .long (lN 0)), (0, .ref (ad 8)), (1, .ref (ad 1)), (2, .int (nI (d))), (3, .int (nI (f)))]) hx hb dX2_sumRestsBehind_7 hl (by decide) rfl (fun ls hl => ?_)
  refine q_ic 0 hx hb dX2_sumRestsBehind_9 (by decide) ?_
  refine lv_istore (lv' := [(9, .int (nI 0)), (8, .int (nI 0)), (6, .long (lN 0)), (4, .long (lN 0)), (0, .ref (ad 8)), (1, .ref (ad 1)), (2, .int (nI (d))), (3, .int (nI (f)))]) hx hb dX2_sumRestsBehind_10 hl (by decide) rfl (fun ls hl => ?_)
  have lp_12 : ∀ (fu_12 : Nat) (i : Nat), 6 - i < fu_12 → i ≤ 6 → ∀ (H : Heap) (locs : List Loc), Wd G n ad I L R (qA n ad s.heap.size) s.heap H locs s → ∀ ls : Array Slot, lv_has ls 12 [(0, .ref (ad 8)), (1, .ref (ad 1)), (2, .int (nI (d))), (3, .int (nI (f))), (4, .long (lN (fS w ro K d f i))), (6, .long (lN (fM w ro K d f i))), (8, .int (nI (fC w ro K d f i))), (9, .int (nI (i)))] → W p l e ({ frames := 2, cells := 0, slots := 0, locals := 72 } : Room) s m ([.ref (ad 8), .ref (ad 1), .int (nI (d)), .int (nI (f))] : List Value).toArray below meth c H locs 0 0 (MQ below (qV1 G (qA n ad s.heap.size) n ad R (fun I1 L1 => L1 = up2 (up2 L (26 + d) f (lN (Sx' w K ro (K - d) f))) (34 + d) f (lN (Mx' w K ro (K - d) f)) ∧ I1 = up2 I (42 + d) f (nI (Cx' w K ro (K - d) f)))) ([.ref (ad 8), .ref (ad 1), .int (nI (d)), .int (nI (f))] : List Value).toArray s 0 0 (qA n ad s.heap.size)) (F0 m 12 ls []) := by
    intro fu_12
    induction fu_12 with
    | zero =>
      intro i hm; exact absurd hm (Nat.not_lt_zero _)
    | succ fu_12 ih_12 =>
      intro i hm_12 hi H locs hW ls hl
      have hmv := mv_le hM.2.2.2.2.1 K ro f i d
      refine lv_iload hx hb dX2_sumRestsBehind_12 (lv_at hl 7 rfl) ?_
      refine q_bp 6 hx hb dX2_sumRestsBehind_14 (by decide) ?_
      refine q_cge (tgt := 110) hx hb dX2_sumRestsBehind_16 (by decide) (by first | omega | exact Nat.lt_of_le_of_lt (hw3 _) (by decide)) (by first | omega | exact Nat.lt_of_le_of_lt (hw3 _) (by decide)) (fun c_16 => ?_) (fun c_16 => ?_)
      ·
        refine lv_aload_n hx hb dX2_sumRestsBehind_110 rfl (lv_at hl 0 rfl) ?_
        refine g_2_2 (x := 8) (y := 25) hC hW (by omega) kd_8 gw_82 (hlk 8 2 25 (by omega) rfl) dX2_sumRestsBehind_111 ?_
        refine lv_iload_n hx hb dX2_sumRestsBehind_114 rfl (lv_at hl 2 rfl) ?_
        refine q_aald5 (x := 25) (i := d) (y := 26 + d) hC hW (by omega) kd_25 (by omega) (lk_row25 hlk (by omega) (by omega)) dX2_sumRestsBehind_115 ?_
        refine lv_iload_n hx hb dX2_sumRestsBehind_116 rfl (lv_at hl 3 rfl) ?_
        refine lv_lload hx hb dX2_sumRestsBehind_117 (lv_at hl 4 rfl) ?_
        refine q_last (x := (26 + d)) (i := f) (v := lN (fS w ro K d f i)) hC hW (by omega) (kd_r26 (by omega)) (by omega) dX2_sumRestsBehind_119 (fun H locs hW => ?_)
        refine lv_aload_n hx hb dX2_sumRestsBehind_120 rfl (lv_at hl 0 rfl) ?_
        refine g_2_3 (x := 8) (y := 33) hC hW (by omega) kd_8 gw_84 (hlk 8 3 33 (by omega) rfl) dX2_sumRestsBehind_121 ?_
        refine lv_iload_n hx hb dX2_sumRestsBehind_124 rfl (lv_at hl 2 rfl) ?_
        refine q_aald5 (x := 33) (i := d) (y := 34 + d) hC hW (by omega) kd_33 (by omega) (lk_row33 hlk (by omega) (by omega)) dX2_sumRestsBehind_125 ?_
        refine lv_iload_n hx hb dX2_sumRestsBehind_126 rfl (lv_at hl 3 rfl) ?_
        refine lv_lload hx hb dX2_sumRestsBehind_127 (lv_at hl 5 rfl) ?_
        refine q_last (x := (34 + d)) (i := f) (v := lN (fM w ro K d f i)) hC hW (by omega) (kd_r34 (by omega)) (by omega) dX2_sumRestsBehind_129 (fun H locs hW => ?_)
        refine lv_aload_n hx hb dX2_sumRestsBehind_130 rfl (lv_at hl 0 rfl) ?_
        refine g_2_4 (x := 8) (y := 41) hC hW (by omega) kd_8 gw_86 (hlk 8 4 41 (by omega) rfl) dX2_sumRestsBehind_131 ?_
        refine lv_iload_n hx hb dX2_sumRestsBehind_134 rfl (lv_at hl 2 rfl) ?_
        refine q_aald6 (x := 41) (i := d) (y := 42 + d) hC hW (by omega) kd_41 (by omega) (lk_row41 hlk (by omega) (by omega)) dX2_sumRestsBehind_135 ?_
        refine lv_iload_n hx hb dX2_sumRestsBehind_136 rfl (lv_at hl 3 rfl) ?_
        refine lv_iload hx hb dX2_sumRestsBehind_137 (lv_at hl 6 rfl) ?_
        refine q_iast (x := (42 + d)) (i := f) (v := nI (fC w ro K d f i)) hC hW (by omega) (kd_r42 (by omega)) (by omega) dX2_sumRestsBehind_139 (fun H locs hW => ?_)
        exact q_vret1 hC hW hr hlk0 ⟨by rw [Sx_f hM.2.2.2.2.1 K d f hd, Mx_f hM.2.2.2.2.1 K d f hd, show (6 : Nat) = i by omega], by rw [Cx_f hM.2.2.2.2.1 K d f hd, show (6 : Nat) = i by omega]⟩ dX2_sumRestsBehind_140
      ·
        refine lv_aload_n hx hb dX2_sumRestsBehind_19 rfl (lv_at hl 1 rfl) ?_
        refine lv_iload_n hx hb dX2_sumRestsBehind_20 rfl (lv_at hl 3 rfl) ?_
        refine lv_iload hx hb dX2_sumRestsBehind_21 (lv_at hl 7 rfl) ?_
        refine lv_iload_n hx hb dX2_sumRestsBehind_23 rfl (lv_at hl 2 rfl) ?_
        refine q_kI0 (q_rV (As := [.int (nI (f)), .int (nI (i)), .int (nI (d))]) (rest := []) (x := 1) hC hW mw_X0_moveWeight gw_241 (k_moveWeight l G n ad H.size I L R _ _ _ w K ro hn hlk hM (by omega) (by omega) (by omega)) (by omega) (ct_o0 kd_1) rfl ⟨rfl, rfl⟩ ⟨Nat.le_of_ble_eq_true rfl, Nat.le_of_ble_eq_true rfl⟩ ⟨Nat.le_of_ble_eq_true rfl, Nat.le_of_ble_eq_true rfl⟩ hl.1 rfl rfl (Nat.le_of_ble_eq_true rfl) dX2_sumRestsBehind_24) hW (fun r_24 H locs hp hW => ?_)
        subst hp
        refine lv_istore (lv' := [(10, .int (nI (mv w K ro f i d))), (0, .ref (ad 8)), (1, .ref (ad 1)), (2, .int (nI (d))), (3, .int (nI (f))), (4, .long (lN (fS w ro K d f i))), (6, .long (lN (fM w ro K d f i))), (8, .int (nI (fC w ro K d f i))), (9, .int (nI (i)))]) hx hb dX2_sumRestsBehind_27 hl (by decide) rfl (fun ls hl => ?_)
        refine lv_iload hx hb dX2_sumRestsBehind_29 (lv_at hl 0 rfl) ?_
        refine q_ile (tgt := 104) hx hb dX2_sumRestsBehind_31 (by decide) (by first | omega | exact Nat.lt_of_le_of_lt (hw3 _) (by decide)) (fun c_31 => ?_) (fun c_31 => ?_)
        ·
          have hz : mv w K ro f i d = 0 := c_31
          have hl : lv_has ls 12 [(10, .int (nI (mv w K ro f i d))), (0, .ref (ad 8)), (1, .ref (ad 1)), (2, .int (nI (d))), (3, .int (nI (f))), (4, .long (lN (fS w ro K d f (i + 1)))), (6, .long (lN (fM w ro K d f (i + 1)))), (8, .int (nI (fC w ro K d f (i + 1)))), (9, .int (nI (i)))] := by rw [fS_n hz, fM_n hz, fC_n hz]; exact hl
          refine q_iinc (z2 := i + 1) (lv' := [(9, .int (nI (i + 1))), (10, .int (nI (mv w K ro f i d))), (0, .ref (ad 8)), (1, .ref (ad 1)), (2, .int (nI (d))), (3, .int (nI (f))), (4, .long (lN (fS w ro K d f (i + 1)))), (6, .long (lN (fM w ro K d f (i + 1)))), (8, .int (nI (fC w ro K d f (i + 1))))]) hx hb dX2_sumRestsBehind_104 hl (k := 8) rfl (inc_up _ 1 (by decide)) (by decide) rfl (fun ls hl => ?_)
          refine lv_goto (tgt := 12) hx hb dX2_sumRestsBehind_107 (by decide) ?_
          exact ih_12 (i + 1) (by omega) (by omega) _ _ hW _ (lv_sub hl [2, 3, 4, 5, 6, 7, 8, 0] rfl)
        ·
          refine lv_iload hx hb dX2_sumRestsBehind_34 (lv_at hl 8 rfl) ?_
          refine q_ic 4 hx hb dX2_sumRestsBehind_36 (by decide) ?_
          refine q_cge (tgt := 46) hx hb dX2_sumRestsBehind_37 (by decide) (by first | omega | exact Nat.lt_of_le_of_lt (hw3 _) (by decide)) (by first | omega | exact Nat.lt_of_le_of_lt (hw3 _) (by decide)) (fun c_37 => ?_) (fun c_37 => ?_)
          ·
            refine lv_iload_n hx hb dX2_sumRestsBehind_46 rfl (lv_at hl 3 rfl) ?_
            refine lv_istore (lv' := [(11, .int (nI (d))), (10, .int (nI (mv w K ro f i d))), (0, .ref (ad 8)), (1, .ref (ad 1)), (2, .int (nI (d))), (3, .int (nI (f))), (4, .long (lN (fS w ro K d f i))), (6, .long (lN (fM w ro K d f i))), (8, .int (nI (fC w ro K d f i))), (9, .int (nI (i)))]) hx hb dX2_sumRestsBehind_47 hl (by decide) rfl (fun ls hl => ?_)
            refine lv_lload hx hb dX2_sumRestsBehind_49 (lv_at hl 6 rfl) ?_
            refine lv_iload hx hb dX2_sumRestsBehind_51 (lv_at hl 1 rfl) ?_
            refine q_i2l hx hb dX2_sumRestsBehind_53 (by first | omega | exact Nat.lt_of_le_of_lt (hw3 _) (by decide)) ?_
            refine lv_aload_n hx hb dX2_sumRestsBehind_54 rfl (lv_at hl 2 rfl) ?_
            refine g_2_2 (x := 8) (y := 25) hC hW (by omega) kd_8 gw_82 (hlk 8 2 25 (by omega) rfl) dX2_sumRestsBehind_55 ?_
            refine lv_iload hx hb dX2_sumRestsBehind_58 (lv_at hl 0 rfl) ?_
            refine q_aald5 (x := 25) (i := d) (y := 26 + d) hC hW (by omega) kd_25 (by omega) (lk_row25 hlk (by omega) (by omega)) dX2_sumRestsBehind_60 ?_
            refine lv_iload hx hb dX2_sumRestsBehind_61 (lv_at hl 9 rfl) ?_
            refine q_lald (x := (26 + d)) (i := i) hC hW (by omega) (kd_r26 (by omega)) (by omega) dX2_sumRestsBehind_63 ?_
            refine q_top (v2 := .long (lN (Sx' w K ro (K - nx i d) i))) (congrArg _ (by have h9 := (hR i (by omega) (by omega)).1; unfold nx at h9 ⊢; rw [if_neg (show ¬ i < 4 by omega)] at h9 ⊢; exact h9)) ?_
            refine q_lmul hx hb dX2_sumRestsBehind_64 ?_
            refine q_ladd hx hb dX2_sumRestsBehind_65 ?_
            refine q_top (v2 := .long (lN (fS w ro K d f (i + 1)))) (by rw [fS_p (by omega)]) ?_
            refine lv_lstore (lv' := [(4, .long (lN (fS w ro K d f (i + 1)))), (11, .int (nI (d))), (10, .int (nI (mv w K ro f i d))), (0, .ref (ad 8)), (1, .ref (ad 1)), (2, .int (nI (d))), (3, .int (nI (f))), (6, .long (lN (fM w ro K d f i))), (8, .int (nI (fC w ro K d f i))), (9, .int (nI (i)))]) hx hb dX2_sumRestsBehind_66 hl (by decide) rfl (fun ls hl => ?_)
            refine lv_lload hx hb dX2_sumRestsBehind_68 (lv_at hl 7 rfl) ?_
            refine lv_iload hx hb dX2_sumRestsBehind_70 (lv_at hl 2 rfl) ?_
            refine q_i2l hx hb dX2_sumRestsBehind_72 (by first | omega | exact Nat.lt_of_le_of_lt (hw3 _) (by decide)) ?_
            refine lv_aload_n hx hb dX2_sumRestsBehind_73 rfl (lv_at hl 3 rfl) ?_
            refine g_2_3 (x := 8) (y := 33) hC hW (by omega) kd_8 gw_84 (hlk 8 3 33 (by omega) rfl) dX2_sumRestsBehind_74 ?_
            refine lv_iload hx hb dX2_sumRestsBehind_77 (lv_at hl 1 rfl) ?_
            refine q_aald5 (x := 33) (i := d) (y := 34 + d) hC hW (by omega) kd_33 (by omega) (lk_row33 hlk (by omega) (by omega)) dX2_sumRestsBehind_79 ?_
            refine lv_iload hx hb dX2_sumRestsBehind_80 (lv_at hl 9 rfl) ?_
            refine q_lald (x := (34 + d)) (i := i) hC hW (by omega) (kd_r34 (by omega)) (by omega) dX2_sumRestsBehind_82 ?_
            refine q_top (v2 := .long (lN (Mx' w K ro (K - nx i d) i))) (congrArg _ (by have h9 := (hR i (by omega) (by omega)).2.1; unfold nx at h9 ⊢; rw [if_neg (show ¬ i < 4 by omega)] at h9 ⊢; exact h9)) ?_
            refine q_lmul hx hb dX2_sumRestsBehind_83 ?_
            refine q_max hC hl.1 gw_247 (Nat.le_of_ble_eq_true rfl) (Nat.le_of_ble_eq_true rfl) (Nat.le_refl _) (Nat.le_refl _) dX2_sumRestsBehind_84 ?_
            refine q_top (v2 := .long (lN (fM w ro K d f (i + 1)))) (by rw [lN_max (fM_lt hM.2.2.2.2.1 K d f i hk6) (mM_lt hM.2.2.2.2.1 K d f i hk6), ← fM_p (by omega)]) ?_
            refine lv_lstore (lv' := [(6, .long (lN (fM w ro K d f (i + 1)))), (4, .long (lN (fS w ro K d f (i + 1)))), (11, .int (nI (d))), (10, .int (nI (mv w K ro f i d))), (0, .ref (ad 8)), (1, .ref (ad 1)), (2, .int (nI (d))), (3, .int (nI (f))), (8, .int (nI (fC w ro K d f i))), (9, .int (nI (i)))]) hx hb dX2_sumRestsBehind_87 hl (by decide) rfl (fun ls hl => ?_)
            refine lv_iload hx hb dX2_sumRestsBehind_89 (lv_at hl 8 rfl) ?_
            refine lv_aload_n hx hb dX2_sumRestsBehind_91 rfl (lv_at hl 4 rfl) ?_
            refine g_2_4 (x := 8) (y := 41) hC hW (by omega) kd_8 gw_86 (hlk 8 4 41 (by omega) rfl) dX2_sumRestsBehind_92 ?_
            refine lv_iload hx hb dX2_sumRestsBehind_95 (lv_at hl 2 rfl) ?_
            refine q_aald6 (x := 41) (i := d) (y := 42 + d) hC hW (by omega) kd_41 (by omega) (lk_row41 hlk (by omega) (by omega)) dX2_sumRestsBehind_97 ?_
            refine lv_iload hx hb dX2_sumRestsBehind_98 (lv_at hl 9 rfl) ?_
            refine q_iald (x := (42 + d)) (i := i) hC hW (by omega) (kd_r42 (by omega)) (by omega) dX2_sumRestsBehind_100 ?_
            refine q_top (v2 := .int (nI (Cx' w K ro (K - nx i d) i))) (congrArg _ (by have h9 := (hR i (by omega) (by omega)).2.2; unfold nx at h9 ⊢; rw [if_neg (show ¬ i < 4 by omega)] at h9 ⊢; exact h9)) ?_
            refine q_iadd hx hb dX2_sumRestsBehind_101 ?_
            refine q_top (v2 := .int (nI (fC w ro K d f (i + 1)))) (by rw [fC_p (by omega)]) ?_
            refine lv_istore (lv' := [(8, .int (nI (fC w ro K d f (i + 1)))), (6, .long (lN (fM w ro K d f (i + 1)))), (4, .long (lN (fS w ro K d f (i + 1)))), (11, .int (nI (d))), (10, .int (nI (mv w K ro f i d))), (0, .ref (ad 8)), (1, .ref (ad 1)), (2, .int (nI (d))), (3, .int (nI (f))), (9, .int (nI (i)))]) hx hb dX2_sumRestsBehind_102 hl (by decide) rfl (fun ls hl => ?_)
            refine q_iinc (z2 := i + 1) (lv' := [(9, .int (nI (i + 1))), (8, .int (nI (fC w ro K d f (i + 1)))), (6, .long (lN (fM w ro K d f (i + 1)))), (4, .long (lN (fS w ro K d f (i + 1)))), (11, .int (nI (d))), (10, .int (nI (mv w K ro f i d))), (0, .ref (ad 8)), (1, .ref (ad 1)), (2, .int (nI (d))), (3, .int (nI (f)))]) hx hb dX2_sumRestsBehind_104 hl (k := 9) rfl (inc_up _ 1 (by decide)) (by decide) rfl (fun ls hl => ?_)
            refine lv_goto (tgt := 12) hx hb dX2_sumRestsBehind_107 (by decide) ?_
            exact ih_12 (i + 1) (by omega) (by omega) _ _ hW _ (lv_sub hl [6, 7, 8, 9, 3, 2, 1, 0] rfl)
          ·
            refine lv_iload_n hx hb dX2_sumRestsBehind_40 rfl (lv_at hl 3 rfl) ?_
            refine q_ic 1 hx hb dX2_sumRestsBehind_41 (by decide) ?_
            refine q_iadd hx hb dX2_sumRestsBehind_42 ?_
            refine lv_goto (tgt := 47) hx hb dX2_sumRestsBehind_43 (by decide) ?_
            refine lv_istore (lv' := [(11, .int (nI (d + 1))), (10, .int (nI (mv w K ro f i d))), (0, .ref (ad 8)), (1, .ref (ad 1)), (2, .int (nI (d))), (3, .int (nI (f))), (4, .long (lN (fS w ro K d f i))), (6, .long (lN (fM w ro K d f i))), (8, .int (nI (fC w ro K d f i))), (9, .int (nI (i)))]) hx hb dX2_sumRestsBehind_47 hl (by decide) rfl (fun ls hl => ?_)
            refine lv_lload hx hb dX2_sumRestsBehind_49 (lv_at hl 6 rfl) ?_
            refine lv_iload hx hb dX2_sumRestsBehind_51 (lv_at hl 1 rfl) ?_
            refine q_i2l hx hb dX2_sumRestsBehind_53 (by first | omega | exact Nat.lt_of_le_of_lt (hw3 _) (by decide)) ?_
            refine lv_aload_n hx hb dX2_sumRestsBehind_54 rfl (lv_at hl 2 rfl) ?_
            refine g_2_2 (x := 8) (y := 25) hC hW (by omega) kd_8 gw_82 (hlk 8 2 25 (by omega) rfl) dX2_sumRestsBehind_55 ?_
            refine lv_iload hx hb dX2_sumRestsBehind_58 (lv_at hl 0 rfl) ?_
            refine q_aald5 (x := 25) (i := d + 1) (y := 26 + (d + 1)) hC hW (by omega) kd_25 (by omega) (lk_row25 hlk (by omega) (by omega)) dX2_sumRestsBehind_60 ?_
            refine lv_iload hx hb dX2_sumRestsBehind_61 (lv_at hl 9 rfl) ?_
            refine q_lald (x := (26 + (d + 1))) (i := i) hC hW (by omega) (kd_r26 (by omega)) (by omega) dX2_sumRestsBehind_63 ?_
            refine q_top (v2 := .long (lN (Sx' w K ro (K - nx i d) i))) (congrArg _ (by have h9 := (hR i (by omega) (by omega)).1; unfold nx at h9 ⊢; rw [if_pos (show i < 4 by omega)] at h9 ⊢; exact h9)) ?_
            refine q_lmul hx hb dX2_sumRestsBehind_64 ?_
            refine q_ladd hx hb dX2_sumRestsBehind_65 ?_
            refine q_top (v2 := .long (lN (fS w ro K d f (i + 1)))) (by rw [fS_p (by omega)]) ?_
            refine lv_lstore (lv' := [(4, .long (lN (fS w ro K d f (i + 1)))), (11, .int (nI (d + 1))), (10, .int (nI (mv w K ro f i d))), (0, .ref (ad 8)), (1, .ref (ad 1)), (2, .int (nI (d))), (3, .int (nI (f))), (6, .long (lN (fM w ro K d f i))), (8, .int (nI (fC w ro K d f i))), (9, .int (nI (i)))]) hx hb dX2_sumRestsBehind_66 hl (by decide) rfl (fun ls hl => ?_)
            refine lv_lload hx hb dX2_sumRestsBehind_68 (lv_at hl 7 rfl) ?_
            refine lv_iload hx hb dX2_sumRestsBehind_70 (lv_at hl 2 rfl) ?_
            refine q_i2l hx hb dX2_sumRestsBehind_72 (by first | omega | exact Nat.lt_of_le_of_lt (hw3 _) (by decide)) ?_
            refine lv_aload_n hx hb dX2_sumRestsBehind_73 rfl (lv_at hl 3 rfl) ?_
            refine g_2_3 (x := 8) (y := 33) hC hW (by omega) kd_8 gw_84 (hlk 8 3 33 (by omega) rfl) dX2_sumRestsBehind_74 ?_
            refine lv_iload hx hb dX2_sumRestsBehind_77 (lv_at hl 1 rfl) ?_
            refine q_aald5 (x := 33) (i := d + 1) (y := 34 + (d + 1)) hC hW (by omega) kd_33 (by omega) (lk_row33 hlk (by omega) (by omega)) dX2_sumRestsBehind_79 ?_
            refine lv_iload hx hb dX2_sumRestsBehind_80 (lv_at hl 9 rfl) ?_
            refine q_lald (x := (34 + (d + 1))) (i := i) hC hW (by omega) (kd_r34 (by omega)) (by omega) dX2_sumRestsBehind_82 ?_
            refine q_top (v2 := .long (lN (Mx' w K ro (K - nx i d) i))) (congrArg _ (by have h9 := (hR i (by omega) (by omega)).2.1; unfold nx at h9 ⊢; rw [if_pos (show i < 4 by omega)] at h9 ⊢; exact h9)) ?_
            refine q_lmul hx hb dX2_sumRestsBehind_83 ?_
            refine q_max hC hl.1 gw_247 (Nat.le_of_ble_eq_true rfl) (Nat.le_of_ble_eq_true rfl) (Nat.le_refl _) (Nat.le_refl _) dX2_sumRestsBehind_84 ?_
            refine q_top (v2 := .long (lN (fM w ro K d f (i + 1)))) (by rw [lN_max (fM_lt hM.2.2.2.2.1 K d f i hk6) (mM_lt hM.2.2.2.2.1 K d f i hk6), ← fM_p (by omega)]) ?_
            refine lv_lstore (lv' := [(6, .long (lN (fM w ro K d f (i + 1)))), (4, .long (lN (fS w ro K d f (i + 1)))), (11, .int (nI (d + 1))), (10, .int (nI (mv w K ro f i d))), (0, .ref (ad 8)), (1, .ref (ad 1)), (2, .int (nI (d))), (3, .int (nI (f))), (8, .int (nI (fC w ro K d f i))), (9, .int (nI (i)))]) hx hb dX2_sumRestsBehind_87 hl (by decide) rfl (fun ls hl => ?_)
            refine lv_iload hx hb dX2_sumRestsBehind_89 (lv_at hl 8 rfl) ?_
            refine lv_aload_n hx hb dX2_sumRestsBehind_91 rfl (lv_at hl 4 rfl) ?_
            refine g_2_4 (x := 8) (y := 41) hC hW (by omega) kd_8 gw_86 (hlk 8 4 41 (by omega) rfl) dX2_sumRestsBehind_92 ?_
            refine lv_iload hx hb dX2_sumRestsBehind_95 (lv_at hl 2 rfl) ?_
            refine q_aald6 (x := 41) (i := d + 1) (y := 42 + (d + 1)) hC hW (by omega) kd_41 (by omega) (lk_row41 hlk (by omega) (by omega)) dX2_sumRestsBehind_97 ?_
            refine lv_iload hx hb dX2_sumRestsBehind_98 (lv_at hl 9 rfl) ?_
            refine q_iald (x := (42 + (d + 1))) (i := i) hC hW (by omega) (kd_r42 (by omega)) (by omega) dX2_sumRestsBehind_100 ?_
            refine q_top (v2 := .int (nI (Cx' w K ro (K - nx i d) i))) (congrArg _ (by have h9 := (hR i (by omega) (by omega)).2.2; unfold nx at h9 ⊢; rw [if_pos (show i < 4 by omega)] at h9 ⊢; exact h9)) ?_
            refine q_iadd hx hb dX2_sumRestsBehind_101 ?_
            refine q_top (v2 := .int (nI (fC w ro K d f (i + 1)))) (by rw [fC_p (by omega)]) ?_
            refine lv_istore (lv' := [(8, .int (nI (fC w ro K d f (i + 1)))), (6, .long (lN (fM w ro K d f (i + 1)))), (4, .long (lN (fS w ro K d f (i + 1)))), (11, .int (nI (d + 1))), (10, .int (nI (mv w K ro f i d))), (0, .ref (ad 8)), (1, .ref (ad 1)), (2, .int (nI (d))), (3, .int (nI (f))), (9, .int (nI (i)))]) hx hb dX2_sumRestsBehind_102 hl (by decide) rfl (fun ls hl => ?_)
            refine q_iinc (z2 := i + 1) (lv' := [(9, .int (nI (i + 1))), (8, .int (nI (fC w ro K d f (i + 1)))), (6, .long (lN (fM w ro K d f (i + 1)))), (4, .long (lN (fS w ro K d f (i + 1)))), (11, .int (nI (d + 1))), (10, .int (nI (mv w K ro f i d))), (0, .ref (ad 8)), (1, .ref (ad 1)), (2, .int (nI (d))), (3, .int (nI (f)))]) hx hb dX2_sumRestsBehind_104 hl (k := 9) rfl (inc_up _ 1 (by decide)) (by decide) rfl (fun ls hl => ?_)
            refine lv_goto (tgt := 12) hx hb dX2_sumRestsBehind_107 (by decide) ?_
            exact ih_12 (i + 1) (by omega) (by omega) _ _ hW _ (lv_sub hl [6, 7, 8, 9, 3, 2, 1, 0] rfl)
  exact lp_12 (6 + 1) 0 (by omega) (by omega) _ _ hW _ (lv_sub hl [4, 5, 6, 7, 3, 2, 1, 0] rfl)
theorem inc_m1 (x : Int32) : x + Int32.ofInt (-1) = x - nI 1 := by rw [Int32.sub_eq_add_neg]; rfl
set_option maxRecDepth 100000 in
set_option maxHeartbeats 4000000 in
theorem k_sumRests (l : Launch) (G : Gx) (n : Nat) (ad : Nat → Nat) (sz : Nat) (I : Ic) (L : Lc) (R : Rc) (w : Nat → Nat) (K : Nat) (ro : Nat → Nat) (hn : 83 ≤ n) (hlk : LkOK n R) (hM : MdI I w K ro) : Met l yX2_sumRests (Cond.code yX2_sumRests cX2_sumRests 4 none :: GW) ({ frames := 3, cells := 0, slots := 0, locals := 108 } : Room) (qPre G n ad sz I L R [.ref (ad 8), .ref (ad 1)]) (qV1 G (qA n ad sz) n ad R (fun I1 L1 => RO w ro K I I1 L L1 0)) 0 0 (qA n ad sz) := by
  refine q_met (by decide) (Nat.le_of_ble_eq_true rfl) ?_
  intro p e s m below meth c hC hr hlk0 hin hsz hW ls hl
  subst hsz
  have hC : CallFix p m c cX2_sumRests 4 s ([.ref (ad 8), .ref (ad 1)] : List Value).toArray GW "CoinRows$Sums" := hC
  have hx := hC.1
  have hb := hC.2.1
  have hk6 : K ≤ 6 := hM.2.2.2.1
  have hw3 : ∀ i, w i ≤ 3 := hM.2.2.2.2.1.1
  have hr4 : ∀ j, ro j < 4 := hM.2.2.2.2.2
  have hl : lv_has ls 4 [(0, .ref (ad 8)), (1, .ref (ad 1))] := hl
  refine q_ic 0 hx hb dX2_sumRests_0 (by decide) ?_
  refine lv_istore_n (lv' := [(2, .int (nI 0)), (0, .ref (ad 8)), (1, .ref (ad 1))]) hx hb dX2_sumRests_1 rfl hl (by decide) rfl (fun ls hl => ?_)
  have lp_2 : ∀ (fu_2 : Nat) (t : Nat) (I1 : Ic) (L1 : Lc), 7 - t < fu_2 → t ≤ 7 → RB w ro K I I1 L L1 t → ∀ (H : Heap) (locs : List Loc), Wd G n ad I1 L1 R (qA n ad s.heap.size) s.heap H locs s → ∀ ls : Array Slot, lv_has ls 4 [(0, .ref (ad 8)), (1, .ref (ad 1)), (2, .int (nI (t)))] → W p l e ({ frames := 3, cells := 0, slots := 0, locals := 108 } : Room) s m ([.ref (ad 8), .ref (ad 1)] : List Value).toArray below meth c H locs 0 0 (MQ below (qV1 G (qA n ad s.heap.size) n ad R (fun I1 L1 => RO w ro K I I1 L L1 0)) ([.ref (ad 8), .ref (ad 1)] : List Value).toArray s 0 0 (qA n ad s.heap.size)) (F0 m 2 ls []) := by
    intro fu_2
    induction fu_2 with
    | zero =>
      intro t I1 L1 hm; exact absurd hm (Nat.not_lt_zero _)
    | succ fu_2 ih_2 =>
      intro t I1 L1 hm_2 ht hB H locs hW ls hl
      have hM1 : MdI I1 w K ro := MdI_fr hM hB.2.2
      refine lv_iload_n hx hb dX2_sumRests_2 rfl (lv_at hl 2 rfl) ?_
      refine q_bp 6 hx hb dX2_sumRests_3 (by decide) ?_
      refine q_cgt (tgt := 98) hx hb dX2_sumRests_5 (by decide) (by first | omega | exact Nat.lt_of_le_of_lt (hw3 _) (by decide)) (by first | omega | exact Nat.lt_of_le_of_lt (hw3 _) (by decide)) (fun c_5 => ?_) (fun c_5 => ?_)
      ·
        refine lv_aload_n hx hb dX2_sumRests_98 rfl (lv_at hl 1 rfl) ?_
        refine g_0_2 (x := 1) hC hW (by omega) kd_1 gw_35 dX2_sumRests_99 ?_
        refine q_top (v2 := .int (nI (K))) (congrArg _ hM1.2.1) ?_
        refine q_ic 1 hx hb dX2_sumRests_102 (by decide) ?_
        refine lv_isub hx hb dX2_sumRests_103 ?_
        refine lv_istore_n (lv' := [(2, .int (nI K - nI 1)), (0, .ref (ad 8)), (1, .ref (ad 1))]) hx hb dX2_sumRests_104 rfl hl (by decide) rfl (fun ls hl => ?_)
        have lp_105 : ∀ (fu_105 : Nat) (d : Nat) (I1 : Ic) (L1 : Lc), d < fu_105 → d ≤ K → RO w ro K I I1 L L1 d → ∀ (H : Heap) (locs : List Loc), Wd G n ad I1 L1 R (qA n ad s.heap.size) s.heap H locs s → ∀ ls : Array Slot, lv_has ls 4 [(0, .ref (ad 8)), (1, .ref (ad 1)), (2, .int (nI d - nI 1))] → W p l e ({ frames := 3, cells := 0, slots := 0, locals := 108 } : Room) s m ([.ref (ad 8), .ref (ad 1)] : List Value).toArray below meth c H locs 0 0 (MQ below (qV1 G (qA n ad s.heap.size) n ad R (fun I1 L1 => RO w ro K I I1 L L1 0)) ([.ref (ad 8), .ref (ad 1)] : List Value).toArray s 0 0 (qA n ad s.heap.size)) (F0 m 105 ls []) := by
          intro fu_105
          induction fu_105 with
          | zero =>
            intro d I1 L1 hm; exact absurd hm (Nat.not_lt_zero _)
          | succ fu_105 ih_105 =>
            intro d I1 L1 hm_105 hd hO H locs hW ls hl
            have hM1 : MdI I1 w K ro := MdI_fr hM hO.2.2
            rcases Nat.eq_zero_or_pos d with hd0 | hd0
            ·
              subst hd0
              have hl : lv_has ls 4 [(0, .ref (ad 8)), (1, .ref (ad 1)), (2, .int (nI 0 - nI 1))] := hl
              have hl : lv_has ls 4 [(0, .ref (ad 8)), (1, .ref (ad 1)), (2, .int (-1))] := by rw [show (-1 : Int32) = nI 0 - nI 1 by decide]; exact hl
              refine lv_iload_n hx hb dX2_sumRests_105 rfl (lv_at hl 2 rfl) ?_
              refine lv_if_lt (tgt := 142) hx hb dX2_sumRests_106 (by decide) (fun c_106 => ?_) (fun c_106 => absurd c_106 (by decide))
              exact q_vret1 hC hW hr hlk0 hO dX2_sumRests_142
            ·
              obtain ⟨q, rfl⟩ : ∃ q, d = q + 1 := ⟨d - 1, by omega⟩
              have hl : lv_has ls 4 [(0, .ref (ad 8)), (1, .ref (ad 1)), (2, .int (nI (q + 1) - nI 1))] := hl
              have hl : lv_has ls 4 [(0, .ref (ad 8)), (1, .ref (ad 1)), (2, .int (nI (q)))] := by rw [show nI q = nI (q + 1) - nI 1 by rw [pk_sub (by omega)]; rfl]; exact hl
              refine lv_iload_n hx hb dX2_sumRests_105 rfl (lv_at hl 2 rfl) ?_
              refine lv_if_lt (tgt := 142) hx hb dX2_sumRests_106 (by decide) (fun c_106 => absurd c_106 (nI_pos (by omega))) (fun c_106 => ?_)
              refine q_ic 5 hx hb dX2_sumRests_109 (by decide) ?_
              refine lv_istore_n (lv' := [(3, .int (nI 5)), (0, .ref (ad 8)), (1, .ref (ad 1)), (2, .int (nI (q)))]) hx hb dX2_sumRests_110 rfl hl (by decide) rfl (fun ls hl => ?_)
              have lp_111 : ∀ (fu_111 : Nat) (t : Nat) (I2 : Ic) (L2 : Lc), t < fu_111 → t ≤ 6 → RN w ro K I I2 L L2 q t → ∀ (H : Heap) (locs : List Loc), Wd G n ad I2 L2 R (qA n ad s.heap.size) s.heap H locs s → ∀ ls : Array Slot, lv_has ls 4 [(0, .ref (ad 8)), (1, .ref (ad 1)), (2, .int (nI (q))), (3, .int (nI t - nI 1))] → W p l e ({ frames := 3, cells := 0, slots := 0, locals := 108 } : Room) s m ([.ref (ad 8), .ref (ad 1)] : List Value).toArray below meth c H locs 0 0 (MQ below (qV1 G (qA n ad s.heap.size) n ad R (fun I1 L1 => RO w ro K I I1 L L1 0)) ([.ref (ad 8), .ref (ad 1)] : List Value).toArray s 0 0 (qA n ad s.heap.size)) (F0 m 111 ls []) := by
                intro fu_111
                induction fu_111 with
                | zero =>
                  intro t I2 L2 hm; exact absurd hm (Nat.not_lt_zero _)
                | succ fu_111 ih_111 =>
                  intro t I2 L2 hm_111 ht hN H locs hW ls hl
                  have hM2 : MdI I2 w K ro := MdI_fr hM hN.2.2.2
                  rcases Nat.eq_zero_or_pos t with ht0 | ht0
                  ·
                    subst ht0
                    have hl : lv_has ls 4 [(0, .ref (ad 8)), (1, .ref (ad 1)), (2, .int (nI (q))), (3, .int (nI 0 - nI 1))] := hl
                    have hl : lv_has ls 4 [(0, .ref (ad 8)), (1, .ref (ad 1)), (2, .int (nI (q))), (3, .int (-1))] := by rw [show (-1 : Int32) = nI 0 - nI 1 by decide]; exact hl
                    refine lv_iload_n hx hb dX2_sumRests_111 rfl (lv_at hl 3 rfl) ?_
                    refine lv_if_lt (tgt := 128) hx hb dX2_sumRests_112 (by decide) (fun c_112 => ?_) (fun c_112 => absurd c_112 (by decide))
                    refine lv_aload_n hx hb dX2_sumRests_128 rfl (lv_at hl 0 rfl) ?_
                    refine lv_aload_n hx hb dX2_sumRests_129 rfl (lv_at hl 1 rfl) ?_
                    refine lv_iload_n hx hb dX2_sumRests_130 rfl (lv_at hl 2 rfl) ?_
                    refine q_bp 6 hx hb dX2_sumRests_131 (by decide) ?_
                    refine q_kV1 (q_rV (As := [.ref (ad 1), .int (nI (q)), .int (nI 6)]) (rest := []) (x := 8) hC hW mw_X2_sumRestsBehind gw_237 (k_rests l G n ad H.size I2 L2 R _ _ w K ro hn hlk hM2 (by omega) (by omega) (RN_n6 (by omega) hN)) (by omega) (ct_o2 kd_8) rfl ⟨rfl, rfl⟩ ⟨Nat.le_of_ble_eq_true rfl, Nat.le_of_ble_eq_true rfl⟩ ⟨Nat.le_of_ble_eq_true rfl, Nat.le_of_ble_eq_true rfl⟩ hl.1 rfl rfl (Nat.le_of_ble_eq_true rfl) dX2_sumRests_133) hW (fun I_133 L_133 H locs hp hW => ?_)
                    obtain ⟨rfl, rfl⟩ := hp
                    refine lv_iinc (v := nI q - nI 1) (lv' := [(2, .int (nI q - nI 1)), (0, .ref (ad 8)), (1, .ref (ad 1)), (3, .int (-1))]) hx hb dX2_sumRests_136 hl (k := 2) rfl (inc_m1 _) (by decide) rfl (fun ls hl => ?_)
                    refine lv_goto (tgt := 105) hx hb dX2_sumRests_139 (by decide) ?_
                    exact ih_105 q (up2 I2 (42 + q) 6 (nI (Cx' w K ro (K - q) 6))) (up2 (up2 L2 (26 + q) 6 (lN (Sx' w K ro (K - q) 6))) (34 + q) 6 (lN (Mx' w K ro (K - q) 6))) (by omega) (by omega) (RN_e hk6 (by omega) hN) _ _ hW _ (lv_sub hl [1, 2, 0] rfl)
                  ·
                    obtain ⟨v, rfl⟩ : ∃ v, t = v + 1 := ⟨t - 1, by omega⟩
                    have hl : lv_has ls 4 [(0, .ref (ad 8)), (1, .ref (ad 1)), (2, .int (nI (q))), (3, .int (nI (v + 1) - nI 1))] := hl
                    have hl : lv_has ls 4 [(0, .ref (ad 8)), (1, .ref (ad 1)), (2, .int (nI (q))), (3, .int (nI (v)))] := by rw [show nI v = nI (v + 1) - nI 1 by rw [pk_sub (by omega)]; rfl]; exact hl
                    refine lv_iload_n hx hb dX2_sumRests_111 rfl (lv_at hl 3 rfl) ?_
                    refine lv_if_lt (tgt := 128) hx hb dX2_sumRests_112 (by decide) (fun c_112 => absurd c_112 (nI_pos (by omega))) (fun c_112 => ?_)
                    refine lv_aload_n hx hb dX2_sumRests_115 rfl (lv_at hl 0 rfl) ?_
                    refine lv_aload_n hx hb dX2_sumRests_116 rfl (lv_at hl 1 rfl) ?_
                    refine lv_iload_n hx hb dX2_sumRests_117 rfl (lv_at hl 2 rfl) ?_
                    refine lv_iload_n hx hb dX2_sumRests_118 rfl (lv_at hl 3 rfl) ?_
                    refine q_kV1 (q_rV (As := [.ref (ad 1), .int (nI (q)), .int (nI (v))]) (rest := []) (x := 8) hC hW mw_X2_sumRestsBehind gw_237 (k_rests l G n ad H.size I2 L2 R _ _ w K ro hn hlk hM2 (by omega) (by omega) (RN_n hM.2.2.2.2.1 (by omega) (by omega) hN)) (by omega) (ct_o2 kd_8) rfl ⟨rfl, rfl⟩ ⟨Nat.le_of_ble_eq_true rfl, Nat.le_of_ble_eq_true rfl⟩ ⟨Nat.le_of_ble_eq_true rfl, Nat.le_of_ble_eq_true rfl⟩ hl.1 rfl rfl (Nat.le_of_ble_eq_true rfl) dX2_sumRests_119) hW (fun I_119 L_119 H locs hp hW => ?_)
                    obtain ⟨rfl, rfl⟩ := hp
                    refine lv_iinc (v := nI v - nI 1) (lv' := [(3, .int (nI v - nI 1)), (0, .ref (ad 8)), (1, .ref (ad 1)), (2, .int (nI (q)))]) hx hb dX2_sumRests_122 hl (k := 3) rfl (inc_m1 _) (by decide) rfl (fun ls hl => ?_)
                    refine lv_goto (tgt := 111) hx hb dX2_sumRests_125 (by decide) ?_
                    exact ih_111 v (up2 I2 (42 + q) v (nI (Cx' w K ro (K - q) v))) (up2 (up2 L2 (26 + q) v (lN (Sx' w K ro (K - q) v))) (34 + q) v (lN (Mx' w K ro (K - q) v))) (by omega) (by omega) (RN_s hk6 (by omega) hN) _ _ hW _ (lv_sub hl [1, 2, 3, 0] rfl)
              exact lp_111 (6 + 1) 6 I1 L1 (by omega) (by omega) (RN_0 hO) _ _ hW _ (lv_sub hl [1, 2, 3, 0] rfl)
        exact lp_105 (K + 1) K I1 L1 (by omega) (by omega) (RB_e (by rw [show 7 = t by omega]; exact hB)) _ _ hW _ (lv_sub hl [1, 2, 0] rfl)
      ·
        refine lv_iload_n hx hb dX2_sumRests_8 rfl (lv_at hl 2 rfl) ?_
        refine q_ic 4 hx hb dX2_sumRests_9 (by decide) ?_
        refine q_clt (tgt := 26) hx hb dX2_sumRests_10 (by decide) (by first | omega | exact Nat.lt_of_le_of_lt (hw3 _) (by decide)) (by first | omega | exact Nat.lt_of_le_of_lt (hw3 _) (by decide)) (fun c_10 => ?_) (fun c_10 => ?_)
        ·
          refine q_ic 1 hx hb dX2_sumRests_26 (by decide) ?_
          refine lv_goto (tgt := 31) hx hb dX2_sumRests_27 (by decide) ?_
          refine lv_istore_n (lv' := [(3, .int (nI 1)), (0, .ref (ad 8)), (1, .ref (ad 1)), (2, .int (nI (t)))]) hx hb dX2_sumRests_31 rfl hl (by decide) rfl (fun ls hl => ?_)
          refine lv_aload_n hx hb dX2_sumRests_32 rfl (lv_at hl 1 rfl) ?_
          refine g_2_2 (x := 8) (y := 25) hC hW (by omega) kd_8 gw_82 (hlk 8 2 25 (by omega) rfl) dX2_sumRests_33 ?_
          refine lv_aload_n hx hb dX2_sumRests_36 rfl (lv_at hl 2 rfl) ?_
          refine g_0_2 (x := 1) hC hW (by omega) kd_1 gw_35 dX2_sumRests_37 ?_
          refine q_top (v2 := .int (nI (K))) (congrArg _ hM1.2.1) ?_
          refine q_aald5 (x := 25) (i := K) (y := 26 + K) hC hW (by omega) kd_25 (by omega) (lk_row25 hlk (by omega) (by omega)) dX2_sumRests_40 ?_
          refine lv_iload_n hx hb dX2_sumRests_41 rfl (lv_at hl 3 rfl) ?_
          refine lv_iload_n hx hb dX2_sumRests_42 rfl (lv_at hl 0 rfl) ?_
          refine q_ieq (tgt := 50) hx hb dX2_sumRests_43 (by decide) (by first | omega | exact Nat.lt_of_le_of_lt (hw3 _) (by decide)) (fun c_43 => absurd c_43 (by decide)) (fun c_43 => ?_)
          refine q_lc 1 hx hb dX2_sumRests_46 (by decide) ?_
          refine lv_goto (tgt := 51) hx hb dX2_sumRests_47 (by decide) ?_
          refine q_last (x := (26 + K)) (i := t) (v := lN 1) hC hW (by omega) (kd_r26 (by omega)) (by omega) dX2_sumRests_51 (fun H locs hW => ?_)
          refine lv_aload_n hx hb dX2_sumRests_52 rfl (lv_at hl 1 rfl) ?_
          refine g_2_3 (x := 8) (y := 33) hC hW (by omega) kd_8 gw_84 (hlk 8 3 33 (by omega) rfl) dX2_sumRests_53 ?_
          refine lv_aload_n hx hb dX2_sumRests_56 rfl (lv_at hl 2 rfl) ?_
          refine g_0_2 (x := 1) hC hW (by omega) kd_1 gw_35 dX2_sumRests_57 ?_
          refine q_top (v2 := .int (nI (K))) (congrArg _ hM1.2.1) ?_
          refine q_aald5 (x := 33) (i := K) (y := 34 + K) hC hW (by omega) kd_33 (by omega) (lk_row33 hlk (by omega) (by omega)) dX2_sumRests_60 ?_
          refine lv_iload_n hx hb dX2_sumRests_61 rfl (lv_at hl 3 rfl) ?_
          refine lv_iload_n hx hb dX2_sumRests_62 rfl (lv_at hl 0 rfl) ?_
          refine q_ieq (tgt := 70) hx hb dX2_sumRests_63 (by decide) (by first | omega | exact Nat.lt_of_le_of_lt (hw3 _) (by decide)) (fun c_63 => absurd c_63 (by decide)) (fun c_63 => ?_)
          refine q_lc 1 hx hb dX2_sumRests_66 (by decide) ?_
          refine lv_goto (tgt := 71) hx hb dX2_sumRests_67 (by decide) ?_
          refine q_last (x := (34 + K)) (i := t) (v := lN 1) hC hW (by omega) (kd_r34 (by omega)) (by omega) dX2_sumRests_71 (fun H locs hW => ?_)
          refine lv_aload_n hx hb dX2_sumRests_72 rfl (lv_at hl 1 rfl) ?_
          refine g_2_4 (x := 8) (y := 41) hC hW (by omega) kd_8 gw_86 (hlk 8 4 41 (by omega) rfl) dX2_sumRests_73 ?_
          refine lv_aload_n hx hb dX2_sumRests_76 rfl (lv_at hl 2 rfl) ?_
          refine g_0_2 (x := 1) hC hW (by omega) kd_1 gw_35 dX2_sumRests_77 ?_
          refine q_top (v2 := .int (nI (K))) (congrArg _ hM1.2.1) ?_
          refine q_aald6 (x := 41) (i := K) (y := 42 + K) hC hW (by omega) kd_41 (by omega) (lk_row41 hlk (by omega) (by omega)) dX2_sumRests_80 ?_
          refine lv_iload_n hx hb dX2_sumRests_81 rfl (lv_at hl 3 rfl) ?_
          refine lv_iload_n hx hb dX2_sumRests_82 rfl (lv_at hl 0 rfl) ?_
          refine q_ieq (tgt := 90) hx hb dX2_sumRests_83 (by decide) (by first | omega | exact Nat.lt_of_le_of_lt (hw3 _) (by decide)) (fun c_83 => absurd c_83 (by decide)) (fun c_83 => ?_)
          refine q_ic 1 hx hb dX2_sumRests_86 (by decide) ?_
          refine lv_goto (tgt := 91) hx hb dX2_sumRests_87 (by decide) ?_
          refine q_iast (x := (42 + K)) (i := t) (v := nI 1) hC hW (by omega) (kd_r42 (by omega)) (by omega) dX2_sumRests_91 (fun H locs hW => ?_)
          refine q_iinc (z2 := t + 1) (lv' := [(2, .int (nI (t + 1))), (3, .int (nI 1)), (0, .ref (ad 8)), (1, .ref (ad 1))]) hx hb dX2_sumRests_92 hl (k := 3) rfl (inc_up _ 1 (by decide)) (by decide) rfl (fun ls hl => ?_)
          refine lv_goto (tgt := 2) hx hb dX2_sumRests_95 (by decide) ?_
          exact ih_2 (t + 1) (up2 I1 (42 + K) t (nI 1)) (up2 (up2 L1 (26 + K) t (lN 1)) (34 + K) t (lN 1)) (by omega) (by omega) (RB_s hk6 hB (by first | rw [if_pos (by omega)] | rw [if_neg (by omega)])) _ _ hW _ (lv_sub hl [2, 3, 0] rfl)
        ·
          refine lv_iload_n hx hb dX2_sumRests_13 rfl (lv_at hl 2 rfl) ?_
          refine q_bp 6 hx hb dX2_sumRests_14 (by decide) ?_
          refine q_cne (tgt := 30) hx hb dX2_sumRests_16 (by decide) (by first | omega | exact Nat.lt_of_le_of_lt (hw3 _) (by decide)) (by first | omega | exact Nat.lt_of_le_of_lt (hw3 _) (by decide)) (fun c_16 => ?_) (fun c_16 => ?_)
          ·
            refine q_ic 0 hx hb dX2_sumRests_30 (by decide) ?_
            refine lv_istore_n (lv' := [(3, .int (nI 0)), (0, .ref (ad 8)), (1, .ref (ad 1)), (2, .int (nI (t)))]) hx hb dX2_sumRests_31 rfl hl (by decide) rfl (fun ls hl => ?_)
            refine lv_aload_n hx hb dX2_sumRests_32 rfl (lv_at hl 1 rfl) ?_
            refine g_2_2 (x := 8) (y := 25) hC hW (by omega) kd_8 gw_82 (hlk 8 2 25 (by omega) rfl) dX2_sumRests_33 ?_
            refine lv_aload_n hx hb dX2_sumRests_36 rfl (lv_at hl 2 rfl) ?_
            refine g_0_2 (x := 1) hC hW (by omega) kd_1 gw_35 dX2_sumRests_37 ?_
            refine q_top (v2 := .int (nI (K))) (congrArg _ hM1.2.1) ?_
            refine q_aald5 (x := 25) (i := K) (y := 26 + K) hC hW (by omega) kd_25 (by omega) (lk_row25 hlk (by omega) (by omega)) dX2_sumRests_40 ?_
            refine lv_iload_n hx hb dX2_sumRests_41 rfl (lv_at hl 3 rfl) ?_
            refine lv_iload_n hx hb dX2_sumRests_42 rfl (lv_at hl 0 rfl) ?_
            refine q_ieq (tgt := 50) hx hb dX2_sumRests_43 (by decide) (by first | omega | exact Nat.lt_of_le_of_lt (hw3 _) (by decide)) (fun c_43 => ?_) (fun c_43 => absurd c_43 (by decide))
            refine q_lc 0 hx hb dX2_sumRests_50 (by decide) ?_
            refine q_last (x := (26 + K)) (i := t) (v := lN 0) hC hW (by omega) (kd_r26 (by omega)) (by omega) dX2_sumRests_51 (fun H locs hW => ?_)
            refine lv_aload_n hx hb dX2_sumRests_52 rfl (lv_at hl 1 rfl) ?_
            refine g_2_3 (x := 8) (y := 33) hC hW (by omega) kd_8 gw_84 (hlk 8 3 33 (by omega) rfl) dX2_sumRests_53 ?_
            refine lv_aload_n hx hb dX2_sumRests_56 rfl (lv_at hl 2 rfl) ?_
            refine g_0_2 (x := 1) hC hW (by omega) kd_1 gw_35 dX2_sumRests_57 ?_
            refine q_top (v2 := .int (nI (K))) (congrArg _ hM1.2.1) ?_
            refine q_aald5 (x := 33) (i := K) (y := 34 + K) hC hW (by omega) kd_33 (by omega) (lk_row33 hlk (by omega) (by omega)) dX2_sumRests_60 ?_
            refine lv_iload_n hx hb dX2_sumRests_61 rfl (lv_at hl 3 rfl) ?_
            refine lv_iload_n hx hb dX2_sumRests_62 rfl (lv_at hl 0 rfl) ?_
            refine q_ieq (tgt := 70) hx hb dX2_sumRests_63 (by decide) (by first | omega | exact Nat.lt_of_le_of_lt (hw3 _) (by decide)) (fun c_63 => ?_) (fun c_63 => absurd c_63 (by decide))
            refine q_lc 0 hx hb dX2_sumRests_70 (by decide) ?_
            refine q_last (x := (34 + K)) (i := t) (v := lN 0) hC hW (by omega) (kd_r34 (by omega)) (by omega) dX2_sumRests_71 (fun H locs hW => ?_)
            refine lv_aload_n hx hb dX2_sumRests_72 rfl (lv_at hl 1 rfl) ?_
            refine g_2_4 (x := 8) (y := 41) hC hW (by omega) kd_8 gw_86 (hlk 8 4 41 (by omega) rfl) dX2_sumRests_73 ?_
            refine lv_aload_n hx hb dX2_sumRests_76 rfl (lv_at hl 2 rfl) ?_
            refine g_0_2 (x := 1) hC hW (by omega) kd_1 gw_35 dX2_sumRests_77 ?_
            refine q_top (v2 := .int (nI (K))) (congrArg _ hM1.2.1) ?_
            refine q_aald6 (x := 41) (i := K) (y := 42 + K) hC hW (by omega) kd_41 (by omega) (lk_row41 hlk (by omega) (by omega)) dX2_sumRests_80 ?_
            refine lv_iload_n hx hb dX2_sumRests_81 rfl (lv_at hl 3 rfl) ?_
            refine lv_iload_n hx hb dX2_sumRests_82 rfl (lv_at hl 0 rfl) ?_
            refine q_ieq (tgt := 90) hx hb dX2_sumRests_83 (by decide) (by first | omega | exact Nat.lt_of_le_of_lt (hw3 _) (by decide)) (fun c_83 => ?_) (fun c_83 => absurd c_83 (by decide))
            refine q_ic 0 hx hb dX2_sumRests_90 (by decide) ?_
            refine q_iast (x := (42 + K)) (i := t) (v := nI 0) hC hW (by omega) (kd_r42 (by omega)) (by omega) dX2_sumRests_91 (fun H locs hW => ?_)
            refine q_iinc (z2 := t + 1) (lv' := [(2, .int (nI (t + 1))), (3, .int (nI 0)), (0, .ref (ad 8)), (1, .ref (ad 1))]) hx hb dX2_sumRests_92 hl (k := 3) rfl (inc_up _ 1 (by decide)) (by decide) rfl (fun ls hl => ?_)
            refine lv_goto (tgt := 2) hx hb dX2_sumRests_95 (by decide) ?_
            exact ih_2 (t + 1) (up2 I1 (42 + K) t (nI 0)) (up2 (up2 L1 (26 + K) t (lN 0)) (34 + K) t (lN 0)) (by omega) (by omega) (RB_s hk6 hB (by first | rw [if_pos (by omega)] | rw [if_neg (by omega)])) _ _ hW _ (lv_sub hl [2, 3, 0] rfl)
          ·
            refine lv_aload_n hx hb dX2_sumRests_19 rfl (lv_at hl 1 rfl) ?_
            refine g_0_2 (x := 1) hC hW (by omega) kd_1 gw_35 dX2_sumRests_20 ?_
            refine q_top (v2 := .int (nI (K))) (congrArg _ hM1.2.1) ?_
            refine q_ine (tgt := 30) hx hb dX2_sumRests_23 (by decide) (by first | omega | exact Nat.lt_of_le_of_lt (hw3 _) (by decide)) (fun c_23 => ?_) (fun c_23 => ?_)
            ·
              refine q_ic 0 hx hb dX2_sumRests_30 (by decide) ?_
              refine lv_istore_n (lv' := [(3, .int (nI 0)), (0, .ref (ad 8)), (1, .ref (ad 1)), (2, .int (nI (t)))]) hx hb dX2_sumRests_31 rfl hl (by decide) rfl (fun ls hl => ?_)
              refine lv_aload_n hx hb dX2_sumRests_32 rfl (lv_at hl 1 rfl) ?_
              refine g_2_2 (x := 8) (y := 25) hC hW (by omega) kd_8 gw_82 (hlk 8 2 25 (by omega) rfl) dX2_sumRests_33 ?_
              refine lv_aload_n hx hb dX2_sumRests_36 rfl (lv_at hl 2 rfl) ?_
              refine g_0_2 (x := 1) hC hW (by omega) kd_1 gw_35 dX2_sumRests_37 ?_
              refine q_top (v2 := .int (nI (K))) (congrArg _ hM1.2.1) ?_
              refine q_aald5 (x := 25) (i := K) (y := 26 + K) hC hW (by omega) kd_25 (by omega) (lk_row25 hlk (by omega) (by omega)) dX2_sumRests_40 ?_
              refine lv_iload_n hx hb dX2_sumRests_41 rfl (lv_at hl 3 rfl) ?_
              refine lv_iload_n hx hb dX2_sumRests_42 rfl (lv_at hl 0 rfl) ?_
              refine q_ieq (tgt := 50) hx hb dX2_sumRests_43 (by decide) (by first | omega | exact Nat.lt_of_le_of_lt (hw3 _) (by decide)) (fun c_43 => ?_) (fun c_43 => absurd c_43 (by decide))
              refine q_lc 0 hx hb dX2_sumRests_50 (by decide) ?_
              refine q_last (x := (26 + K)) (i := t) (v := lN 0) hC hW (by omega) (kd_r26 (by omega)) (by omega) dX2_sumRests_51 (fun H locs hW => ?_)
              refine lv_aload_n hx hb dX2_sumRests_52 rfl (lv_at hl 1 rfl) ?_
              refine g_2_3 (x := 8) (y := 33) hC hW (by omega) kd_8 gw_84 (hlk 8 3 33 (by omega) rfl) dX2_sumRests_53 ?_
              refine lv_aload_n hx hb dX2_sumRests_56 rfl (lv_at hl 2 rfl) ?_
              refine g_0_2 (x := 1) hC hW (by omega) kd_1 gw_35 dX2_sumRests_57 ?_
              refine q_top (v2 := .int (nI (K))) (congrArg _ hM1.2.1) ?_
              refine q_aald5 (x := 33) (i := K) (y := 34 + K) hC hW (by omega) kd_33 (by omega) (lk_row33 hlk (by omega) (by omega)) dX2_sumRests_60 ?_
              refine lv_iload_n hx hb dX2_sumRests_61 rfl (lv_at hl 3 rfl) ?_
              refine lv_iload_n hx hb dX2_sumRests_62 rfl (lv_at hl 0 rfl) ?_
              refine q_ieq (tgt := 70) hx hb dX2_sumRests_63 (by decide) (by first | omega | exact Nat.lt_of_le_of_lt (hw3 _) (by decide)) (fun c_63 => ?_) (fun c_63 => absurd c_63 (by decide))
              refine q_lc 0 hx hb dX2_sumRests_70 (by decide) ?_
              refine q_last (x := (34 + K)) (i := t) (v := lN 0) hC hW (by omega) (kd_r34 (by omega)) (by omega) dX2_sumRests_71 (fun H locs hW => ?_)
              refine lv_aload_n hx hb dX2_sumRests_72 rfl (lv_at hl 1 rfl) ?_
              refine g_2_4 (x := 8) (y := 41) hC hW (by omega) kd_8 gw_86 (hlk 8 4 41 (by omega) rfl) dX2_sumRests_73 ?_
              refine lv_aload_n hx hb dX2_sumRests_76 rfl (lv_at hl 2 rfl) ?_
              refine g_0_2 (x := 1) hC hW (by omega) kd_1 gw_35 dX2_sumRests_77 ?_
              refine q_top (v2 := .int (nI (K))) (congrArg _ hM1.2.1) ?_
              refine q_aald6 (x := 41) (i := K) (y := 42 + K) hC hW (by omega) kd_41 (by omega) (lk_row41 hlk (by omega) (by omega)) dX2_sumRests_80 ?_
              refine lv_iload_n hx hb dX2_sumRests_81 rfl (lv_at hl 3 rfl) ?_
              refine lv_iload_n hx hb dX2_sumRests_82 rfl (lv_at hl 0 rfl) ?_
              refine q_ieq (tgt := 90) hx hb dX2_sumRests_83 (by decide) (by first | omega | exact Nat.lt_of_le_of_lt (hw3 _) (by decide)) (fun c_83 => ?_) (fun c_83 => absurd c_83 (by decide))
              refine q_ic 0 hx hb dX2_sumRests_90 (by decide) ?_
              refine q_iast (x := (42 + K)) (i := t) (v := nI 0) hC hW (by omega) (kd_r42 (by omega)) (by omega) dX2_sumRests_91 (fun H locs hW => ?_)
              refine q_iinc (z2 := t + 1) (lv' := [(2, .int (nI (t + 1))), (3, .int (nI 0)), (0, .ref (ad 8)), (1, .ref (ad 1))]) hx hb dX2_sumRests_92 hl (k := 3) rfl (inc_up _ 1 (by decide)) (by decide) rfl (fun ls hl => ?_)
              refine lv_goto (tgt := 2) hx hb dX2_sumRests_95 (by decide) ?_
              exact ih_2 (t + 1) (up2 I1 (42 + K) t (nI 0)) (up2 (up2 L1 (26 + K) t (lN 0)) (34 + K) t (lN 0)) (by omega) (by omega) (RB_s hk6 hB (by first | rw [if_pos (by omega)] | rw [if_neg (by omega)])) _ _ hW _ (lv_sub hl [2, 3, 0] rfl)
            ·
              refine q_ic 1 hx hb dX2_sumRests_26 (by decide) ?_
              refine lv_goto (tgt := 31) hx hb dX2_sumRests_27 (by decide) ?_
              refine lv_istore_n (lv' := [(3, .int (nI 1)), (0, .ref (ad 8)), (1, .ref (ad 1)), (2, .int (nI (t)))]) hx hb dX2_sumRests_31 rfl hl (by decide) rfl (fun ls hl => ?_)
              refine lv_aload_n hx hb dX2_sumRests_32 rfl (lv_at hl 1 rfl) ?_
              refine g_2_2 (x := 8) (y := 25) hC hW (by omega) kd_8 gw_82 (hlk 8 2 25 (by omega) rfl) dX2_sumRests_33 ?_
              refine lv_aload_n hx hb dX2_sumRests_36 rfl (lv_at hl 2 rfl) ?_
              refine g_0_2 (x := 1) hC hW (by omega) kd_1 gw_35 dX2_sumRests_37 ?_
              refine q_top (v2 := .int (nI (K))) (congrArg _ hM1.2.1) ?_
              refine q_aald5 (x := 25) (i := K) (y := 26 + K) hC hW (by omega) kd_25 (by omega) (lk_row25 hlk (by omega) (by omega)) dX2_sumRests_40 ?_
              refine lv_iload_n hx hb dX2_sumRests_41 rfl (lv_at hl 3 rfl) ?_
              refine lv_iload_n hx hb dX2_sumRests_42 rfl (lv_at hl 0 rfl) ?_
              refine q_ieq (tgt := 50) hx hb dX2_sumRests_43 (by decide) (by first | omega | exact Nat.lt_of_le_of_lt (hw3 _) (by decide)) (fun c_43 => absurd c_43 (by decide)) (fun c_43 => ?_)
              refine q_lc 1 hx hb dX2_sumRests_46 (by decide) ?_
              refine lv_goto (tgt := 51) hx hb dX2_sumRests_47 (by decide) ?_
              refine q_last (x := (26 + K)) (i := t) (v := lN 1) hC hW (by omega) (kd_r26 (by omega)) (by omega) dX2_sumRests_51 (fun H locs hW => ?_)
              refine lv_aload_n hx hb dX2_sumRests_52 rfl (lv_at hl 1 rfl) ?_
              refine g_2_3 (x := 8) (y := 33) hC hW (by omega) kd_8 gw_84 (hlk 8 3 33 (by omega) rfl) dX2_sumRests_53 ?_
              refine lv_aload_n hx hb dX2_sumRests_56 rfl (lv_at hl 2 rfl) ?_
              refine g_0_2 (x := 1) hC hW (by omega) kd_1 gw_35 dX2_sumRests_57 ?_
              refine q_top (v2 := .int (nI (K))) (congrArg _ hM1.2.1) ?_
              refine q_aald5 (x := 33) (i := K) (y := 34 + K) hC hW (by omega) kd_33 (by omega) (lk_row33 hlk (by omega) (by omega)) dX2_sumRests_60 ?_
              refine lv_iload_n hx hb dX2_sumRests_61 rfl (lv_at hl 3 rfl) ?_
              refine lv_iload_n hx hb dX2_sumRests_62 rfl (lv_at hl 0 rfl) ?_
              refine q_ieq (tgt := 70) hx hb dX2_sumRests_63 (by decide) (by first | omega | exact Nat.lt_of_le_of_lt (hw3 _) (by decide)) (fun c_63 => absurd c_63 (by decide)) (fun c_63 => ?_)
              refine q_lc 1 hx hb dX2_sumRests_66 (by decide) ?_
              refine lv_goto (tgt := 71) hx hb dX2_sumRests_67 (by decide) ?_
              refine q_last (x := (34 + K)) (i := t) (v := lN 1) hC hW (by omega) (kd_r34 (by omega)) (by omega) dX2_sumRests_71 (fun H locs hW => ?_)
              refine lv_aload_n hx hb dX2_sumRests_72 rfl (lv_at hl 1 rfl) ?_
              refine g_2_4 (x := 8) (y := 41) hC hW (by omega) kd_8 gw_86 (hlk 8 4 41 (by omega) rfl) dX2_sumRests_73 ?_
              refine lv_aload_n hx hb dX2_sumRests_76 rfl (lv_at hl 2 rfl) ?_
              refine g_0_2 (x := 1) hC hW (by omega) kd_1 gw_35 dX2_sumRests_77 ?_
              refine q_top (v2 := .int (nI (K))) (congrArg _ hM1.2.1) ?_
              refine q_aald6 (x := 41) (i := K) (y := 42 + K) hC hW (by omega) kd_41 (by omega) (lk_row41 hlk (by omega) (by omega)) dX2_sumRests_80 ?_
              refine lv_iload_n hx hb dX2_sumRests_81 rfl (lv_at hl 3 rfl) ?_
              refine lv_iload_n hx hb dX2_sumRests_82 rfl (lv_at hl 0 rfl) ?_
              refine q_ieq (tgt := 90) hx hb dX2_sumRests_83 (by decide) (by first | omega | exact Nat.lt_of_le_of_lt (hw3 _) (by decide)) (fun c_83 => absurd c_83 (by decide)) (fun c_83 => ?_)
              refine q_ic 1 hx hb dX2_sumRests_86 (by decide) ?_
              refine lv_goto (tgt := 91) hx hb dX2_sumRests_87 (by decide) ?_
              refine q_iast (x := (42 + K)) (i := t) (v := nI 1) hC hW (by omega) (kd_r42 (by omega)) (by omega) dX2_sumRests_91 (fun H locs hW => ?_)
              refine q_iinc (z2 := t + 1) (lv' := [(2, .int (nI (t + 1))), (3, .int (nI 1)), (0, .ref (ad 8)), (1, .ref (ad 1))]) hx hb dX2_sumRests_92 hl (k := 3) rfl (inc_up _ 1 (by decide)) (by decide) rfl (fun ls hl => ?_)
              refine lv_goto (tgt := 2) hx hb dX2_sumRests_95 (by decide) ?_
              exact ih_2 (t + 1) (up2 I1 (42 + K) t (nI 1)) (up2 (up2 L1 (26 + K) t (lN 1)) (34 + K) t (lN 1)) (by omega) (by omega) (RB_s hk6 hB (by first | rw [if_pos (by omega)] | rw [if_neg (by omega)])) _ _ hW _ (lv_sub hl [2, 3, 0] rfl)
  exact lp_2 (7 + 1) 0 I L (by omega) (by omega) (RB_0 w ro K I L) _ _ hW _ (lv_sub hl [1, 2, 0] rfl)
end
section
def Meas (w r : Nat → Nat) (K : Nat) (I : Ic) (L : Lc) : Prop := (∀ d f, d ≤ K → f ≤ 6 → L (10 + d) f = lN (bF w (uB w r d) f)) ∧ (∀ d f, d ≤ K → f < 4 → L (18 + d) f = lN (rchu w (uB w r d) f)) ∧ (∀ d f, d ≤ K → f ≤ 6 → Row w r K I L d f) ∧ SI L
def thr (w r : Nat → Nat) (K p f : Nat) : Nat := uB w r (p + 1) f * Sx' w K r (K - (p + 1)) f
theorem bF_lo {w u : Nat → Nat} {f : Nat} (h : f < 4) : bF w u f = u f := by unfold bF; rw [if_neg (by omega), if_neg (by omega)]
def stN (w r : Nat → Nat) (K f t : Nat) : Nat → Nat
  | 0 => 0
  | d + 1 => stN w r K f t d + bF w (uB w r d) f * mv w K r f t d * Sx' w K r (K - nx t d) t
theorem stN_s (w r : Nat → Nat) (K f t d : Nat) : stN w r K f t (d + 1) = stN w r K f t d + bF w (uB w r d) f * mv w K r f t d * Sx' w K r (K - nx t d) t := rfl
def leN (w r : Nat → Nat) (K f t : Nat) : Nat → Nat
  | 0 => 0
  | p + 1 => if r p = t then leN w r K f t p + thr w r K p f else leN w r K f t p
theorem leN_y {w r : Nat → Nat} {K f t p : Nat} (h : r p = t) : leN w r K f t (p + 1) = leN w r K f t p + thr w r K p f := if_pos h
theorem leN_n {w r : Nat → Nat} {K f t p : Nat} (h : ¬ r p = t) : leN w r K f t (p + 1) = leN w r K f t p := if_neg h
def neN (w r : Nat → Nat) (K t : Nat) : Nat → Nat
  | 0 => 0
  | f + 1 => neN w r K t f + rchu w (uB w r K) f * w (42 + f * 4 + t)
def chN (w r : Nat → Nat) (K p t : Nat) : Nat → Nat
  | 0 => 0
  | f + 1 => chN w r K p t f + rchu w (uB w r p) f * w (42 + f * 4 + t) * Sx' w K r (K - (p + 1)) f
theorem Meas_of {w r : Nat → Nat} {K : Nat} {I0 I : Ic} {L0 L1 L : Lc} (h1 : BO w r K L0 (K + 1) L1) (hK : K ≤ 6) (h2 : RO w r K I0 I L1 L 0) : Meas w r K I L ∧ (∀ a, a < 10 ∨ 40 < a → L a = L0 a) ∧ ∀ a, a < 42 ∨ 48 < a → I a = I0 a := by
  refine ⟨⟨fun d f hd hf => ?_, fun d f hd hf => ?_, fun d f hd hf => h2.1 d f (by omega) hd hf, fun f hf => ?_, ?_, fun d hd hd6 => ?_⟩, fun a ha => ?_, h2.2.2⟩
  · rw [h2.2.1 _ (by omega)]; exact h1.1 d f (by omega) hf
  · rw [h2.2.1 _ (by omega)]; exact h1.2.1 d f (by omega) hf
  · rw [h2.2.1 _ (by omega)]; exact h1.2.2.2.1.1 f hf
  · rw [h2.2.1 _ (by omega)]; exact h1.2.2.2.1.2.1
  · rw [h2.2.1 _ (by omega)]; exact h1.2.2.2.1.2.2 d hd hd6
  · rw [h2.2.1 a (by omega)]; exact h1.2.2.2.2 a (by omega)
set_option maxRecDepth 100000 in
set_option maxHeartbeats 4000000 in
theorem k_whole (l : Launch) (G : Gx) (n : Nat) (ad : Nat → Nat) (sz : Nat) (I : Ic) (L : Lc) (R : Rc) (w : Nat → Nat) (K : Nat) (ro : Nat → Nat) (hn : 83 ≤ n) (hlk : LkOK n R) (hM : MdI I w K ro) (hMs : Meas w ro K I L) : Met l yX2_whole (Cond.code yX2_whole cX2_whole 1 (some .long) :: GW) ({ frames := 0, cells := 0, slots := 0, locals := 0 } : Room) (qPre G n ad sz I L R [.ref (ad 8)]) (qL0 G (qA n ad sz) (n, ad, I, L, R) (fun z => z = lN (Sx' w K ro K 6))) 0 0 (qA n ad sz) := by
  refine q_met (by decide) (Nat.le_of_ble_eq_true rfl) ?_
  intro p e s m below meth c hC hr hlk0 hin hsz hW ls hl
  subst hsz
  have hC : CallFix p m c cX2_whole 1 s ([.ref (ad 8)] : List Value).toArray GW "CoinRows$Sums" := hC
  have hx := hC.1
  have hb := hC.2.1
  have hk6 : K ≤ 6 := hM.2.2.2.1
  have hw3 : ∀ i, w i ≤ 3 := hM.2.2.2.2.1.1
  have hr4 : ∀ j, ro j < 4 := hM.2.2.2.2.2
  have hl : lv_has ls 1 [(0, .ref (ad 8))] := hl
  refine lv_aload_n hx hb dX2_whole_0 rfl (lv_at hl 0 rfl) ?_
  refine g_2_2 (x := 8) (y := 25) hC hW (by omega) kd_8 gw_82 (hlk 8 2 25 (by omega) rfl) dX2_whole_1 ?_
  refine q_ic 0 hx hb dX2_whole_4 (by decide) ?_
  refine q_aald5 (x := 25) (i := 0) (y := 26) hC hW (by omega) kd_25 (by omega) (lk_row25 hlk (by omega) (by omega)) dX2_whole_5 ?_
  refine q_bp 6 hx hb dX2_whole_6 (by decide) ?_
  refine q_lald (x := 26) (i := 6) hC hW (by omega) kd_26 (by omega) dX2_whole_8 ?_
  refine q_top (v2 := .long (lN (Sx' w K ro K 6))) (congrArg _ (hMs.2.2.1 0 6 (by omega) (by omega)).1) ?_
  exact q_lret0 hC hW hr hlk0 rfl dX2_whole_9
set_option maxRecDepth 100000 in
set_option maxHeartbeats 4000000 in
theorem k_number (l : Launch) (G : Gx) (n : Nat) (ad : Nat → Nat) (sz : Nat) (I : Ic) (L : Lc) (R : Rc) (w : Nat → Nat) (K : Nat) (ro : Nat → Nat) (hn : 83 ≤ n) (hlk : LkOK n R) (hM : MdI I w K ro) (hMs : Meas w ro K I L) : Met l yX2_number (Cond.code yX2_number cX2_number 1 (some .int) :: GW) ({ frames := 0, cells := 0, slots := 0, locals := 0 } : Room) (qPre G n ad sz I L R [.ref (ad 8)]) (qI0 G (qA n ad sz) (n, ad, I, L, R) (fun z => z = nI (Cx' w K ro K 6))) 0 0 (qA n ad sz) := by
  refine q_met (by decide) (Nat.le_of_ble_eq_true rfl) ?_
  intro p e s m below meth c hC hr hlk0 hin hsz hW ls hl
  subst hsz
  have hC : CallFix p m c cX2_number 1 s ([.ref (ad 8)] : List Value).toArray GW "CoinRows$Sums" := hC
  have hx := hC.1
  have hb := hC.2.1
  have hk6 : K ≤ 6 := hM.2.2.2.1
  have hw3 : ∀ i, w i ≤ 3 := hM.2.2.2.2.1.1
  have hr4 : ∀ j, ro j < 4 := hM.2.2.2.2.2
  have hl : lv_has ls 1 [(0, .ref (ad 8))] := hl
  refine lv_aload_n hx hb dX2_number_0 rfl (lv_at hl 0 rfl) ?_
  refine g_2_4 (x := 8) (y := 41) hC hW (by omega) kd_8 gw_86 (hlk 8 4 41 (by omega) rfl) dX2_number_1 ?_
  refine q_ic 0 hx hb dX2_number_4 (by decide) ?_
  refine q_aald6 (x := 41) (i := 0) (y := 42) hC hW (by omega) kd_41 (by omega) (lk_row41 hlk (by omega) (by omega)) dX2_number_5 ?_
  refine q_bp 6 hx hb dX2_number_6 (by decide) ?_
  refine q_iald (x := 42) (i := 6) hC hW (by omega) kd_42 (by omega) dX2_number_8 ?_
  refine q_top (v2 := .int (nI (Cx' w K ro K 6))) (congrArg _ (hMs.2.2.1 0 6 (by omega) (by omega)).2.2) ?_
  exact q_iret0 hC hW hr hlk0 rfl dX2_number_9
set_option maxRecDepth 100000 in
set_option maxHeartbeats 4000000 in
theorem k_greatest (l : Launch) (G : Gx) (n : Nat) (ad : Nat → Nat) (sz : Nat) (I : Ic) (L : Lc) (R : Rc) (w : Nat → Nat) (K : Nat) (ro : Nat → Nat) (hn : 83 ≤ n) (hlk : LkOK n R) (hM : MdI I w K ro) (hMs : Meas w ro K I L) : Met l yX2_greatest (Cond.code yX2_greatest cX2_greatest 1 (some .long) :: GW) ({ frames := 0, cells := 0, slots := 0, locals := 0 } : Room) (qPre G n ad sz I L R [.ref (ad 8)]) (qL0 G (qA n ad sz) (n, ad, I, L, R) (fun z => z = lN (Mx' w K ro K 6))) 0 0 (qA n ad sz) := by
  refine q_met (by decide) (Nat.le_of_ble_eq_true rfl) ?_
  intro p e s m below meth c hC hr hlk0 hin hsz hW ls hl
  subst hsz
  have hC : CallFix p m c cX2_greatest 1 s ([.ref (ad 8)] : List Value).toArray GW "CoinRows$Sums" := hC
  have hx := hC.1
  have hb := hC.2.1
  have hk6 : K ≤ 6 := hM.2.2.2.1
  have hw3 : ∀ i, w i ≤ 3 := hM.2.2.2.2.1.1
  have hr4 : ∀ j, ro j < 4 := hM.2.2.2.2.2
  have hl : lv_has ls 1 [(0, .ref (ad 8))] := hl
  refine lv_aload_n hx hb dX2_greatest_0 rfl (lv_at hl 0 rfl) ?_
  refine g_2_3 (x := 8) (y := 33) hC hW (by omega) kd_8 gw_84 (hlk 8 3 33 (by omega) rfl) dX2_greatest_1 ?_
  refine q_ic 0 hx hb dX2_greatest_4 (by decide) ?_
  refine q_aald5 (x := 33) (i := 0) (y := 34) hC hW (by omega) kd_33 (by omega) (lk_row33 hlk (by omega) (by omega)) dX2_greatest_5 ?_
  refine q_bp 6 hx hb dX2_greatest_6 (by decide) ?_
  refine q_lald (x := 34) (i := 6) hC hW (by omega) kd_34 (by omega) dX2_greatest_8 ?_
  refine q_top (v2 := .long (lN (Mx' w K ro K 6))) (congrArg _ (hMs.2.2.1 0 6 (by omega) (by omega)).2.1) ?_
  exact q_lret0 hC hW hr hlk0 rfl dX2_greatest_9
set_option maxRecDepth 100000 in
set_option maxHeartbeats 4000000 in
theorem k_through (l : Launch) (G : Gx) (n : Nat) (ad : Nat → Nat) (sz : Nat) (I : Ic) (L : Lc) (R : Rc) (q f : Nat) (w : Nat → Nat) (K : Nat) (ro : Nat → Nat) (hn : 83 ≤ n) (hlk : LkOK n R) (hM : MdI I w K ro) (hMs : Meas w ro K I L) (hp : q < K) (hf : f < 4) : Met l yX2_through (Cond.code yX2_through cX2_through 3 (some .long) :: GW) ({ frames := 0, cells := 0, slots := 0, locals := 0 } : Room) (qPre G n ad sz I L R [.ref (ad 8), .int (nI (q)), .int (nI (f))]) (qL0 G (qA n ad sz) (n, ad, I, L, R) (fun z => z = lN (thr w ro K q f))) 0 0 (qA n ad sz) := by
  refine q_met (by decide) (Nat.le_of_ble_eq_true rfl) ?_
  intro p e s m below meth c hC hr hlk0 hin hsz hW ls hl
  subst hsz
  have hC : CallFix p m c cX2_through 3 s ([.ref (ad 8), .int (nI (q)), .int (nI (f))] : List Value).toArray GW "CoinRows$Sums" := hC
  have hx := hC.1
  have hb := hC.2.1
  have hk6 : K ≤ 6 := hM.2.2.2.1
  have hw3 : ∀ i, w i ≤ 3 := hM.2.2.2.2.1.1
  have hr4 : ∀ j, ro j < 4 := hM.2.2.2.2.2
  have hl : lv_has ls 3 [(0, .ref (ad 8)), (1, .int (nI (q))), (2, .int (nI (f)))] := hl
  refine lv_aload_n hx hb dX2_through_0 rfl (lv_at hl 0 rfl) ?_
  refine g_2_0 (x := 8) (y := 9) hC hW (by omega) kd_8 gw_79 (hlk 8 0 9 (by omega) rfl) dX2_through_1 ?_
  refine lv_iload_n hx hb dX2_through_4 rfl (lv_at hl 1 rfl) ?_
  refine q_ic 1 hx hb dX2_through_5 (by decide) ?_
  refine q_iadd hx hb dX2_through_6 ?_
  refine q_aald5 (x := 9) (i := q + 1) (y := 10 + (q + 1)) hC hW (by omega) kd_9 (by omega) (lk_row9 hlk (by omega) (by omega)) dX2_through_7 ?_
  refine lv_iload_n hx hb dX2_through_8 rfl (lv_at hl 2 rfl) ?_
  refine q_lald (x := (10 + (q + 1))) (i := f) hC hW (by omega) (kd_r10 (by omega)) (by omega) dX2_through_9 ?_
  refine q_top (v2 := .long (lN (uB w ro (q + 1) f))) (congrArg _ ((hMs.1 (q + 1) f (by omega) (by omega)).trans (congrArg _ (bF_lo (by omega))))) ?_
  refine lv_aload_n hx hb dX2_through_10 rfl (lv_at hl 0 rfl) ?_
  refine g_2_2 (x := 8) (y := 25) hC hW (by omega) kd_8 gw_82 (hlk 8 2 25 (by omega) rfl) dX2_through_11 ?_
  refine lv_iload_n hx hb dX2_through_14 rfl (lv_at hl 1 rfl) ?_
  refine q_ic 1 hx hb dX2_through_15 (by decide) ?_
  refine q_iadd hx hb dX2_through_16 ?_
  refine q_aald5 (x := 25) (i := q + 1) (y := 26 + (q + 1)) hC hW (by omega) kd_25 (by omega) (lk_row25 hlk (by omega) (by omega)) dX2_through_17 ?_
  refine lv_iload_n hx hb dX2_through_18 rfl (lv_at hl 2 rfl) ?_
  refine q_lald (x := (26 + (q + 1))) (i := f) hC hW (by omega) (kd_r26 (by omega)) (by omega) dX2_through_19 ?_
  refine q_top (v2 := .long (lN (Sx' w K ro (K - (q + 1)) f))) (congrArg _ (hMs.2.2.1 (q + 1) f (by omega) (by omega)).1) ?_
  refine q_lmul hx hb dX2_through_20 ?_
  exact q_lret0 hC hW hr hlk0 rfl dX2_through_21
set_option maxRecDepth 100000 in
set_option maxHeartbeats 4000000 in
theorem k_ofStep (l : Launch) (G : Gx) (n : Nat) (ad : Nat → Nat) (sz : Nat) (I : Ic) (L : Lc) (R : Rc) (f t : Nat) (w : Nat → Nat) (K : Nat) (ro : Nat → Nat) (hn : 83 ≤ n) (hlk : LkOK n R) (hM : MdI I w K ro) (hMs : Meas w ro K I L) (hf : f ≤ 6) (ht : t < 6) : Met l yX2_ofStep (Cond.code yX2_ofStep cX2_ofStep 8 (some .long) :: GW) ({ frames := 2, cells := 0, slots := 0, locals := 72 } : Room) (qPre G n ad sz I L R [.ref (ad 8), .ref (ad 1), .int (nI (f)), .int (nI (t))]) (qL0 G (qA n ad sz) (n, ad, I, L, R) (fun z => z = lN (stN w ro K f t K))) 0 0 (qA n ad sz) := by
  refine q_met (by decide) (Nat.le_of_ble_eq_true rfl) ?_
  intro p e s m below meth c hC hr hlk0 hin hsz hW ls hl
  subst hsz
  have hC : CallFix p m c cX2_ofStep 8 s ([.ref (ad 8), .ref (ad 1), .int (nI (f)), .int (nI (t))] : List Value).toArray GW "CoinRows$Sums" := hC
  have hx := hC.1
  have hb := hC.2.1
  have hk6 : K ≤ 6 := hM.2.2.2.1
  have hw3 : ∀ i, w i ≤ 3 := hM.2.2.2.2.1.1
  have hr4 : ∀ j, ro j < 4 := hM.2.2.2.2.2
  have hl : lv_has ls 8 [(0, .ref (ad 8)), (1, .ref (ad 1)), (2, .int (nI (f))), (3, .int (nI (t)))] := hl
  refine q_lc 0 hx hb dX2_ofStep_0 (by decide) ?_
  refine lv_lstore (lv' := [(4, .long (lN 0)), (0, .ref (ad 8)), (1, .ref (ad 1)), (2, .int (nI (f))), (3, .int (nI (t)))]) hx hb dX2_ofStep_1 hl (by decide) rfl (fun ls hl => ?_)
  refine q_ic 0 hx hb dX2_ofStep_3 (by decide) ?_
  refine lv_istore (lv' := [(6, .int (nI 0)), (4, .long (lN 0)), (0, .ref (ad 8)), (1, .ref (ad 1)), (2, .int (nI (f))), (3, .int (nI (t)))]) hx hb dX2_ofStep_4 hl (by decide) rfl (fun ls hl => ?_)
  have lp_6 : ∀ (fu_6 : Nat) (i : Nat), K - i < fu_6 → i ≤ K → ∀ (H : Heap) (locs : List Loc), Wd G n ad I L R (qA n ad s.heap.size) s.heap H locs s → ∀ ls : Array Slot, lv_has ls 8 [(0, .ref (ad 8)), (1, .ref (ad 1)), (2, .int (nI (f))), (3, .int (nI (t))), (4, .long (lN (stN w ro K f t i))), (6, .int (nI (i)))] → W p l e ({ frames := 2, cells := 0, slots := 0, locals := 72 } : Room) s m ([.ref (ad 8), .ref (ad 1), .int (nI (f)), .int (nI (t))] : List Value).toArray below meth c H locs 0 0 (MQ below (qL0 G (qA n ad s.heap.size) (n, ad, I, L, R) (fun z => z = lN (stN w ro K f t K))) ([.ref (ad 8), .ref (ad 1), .int (nI (f)), .int (nI (t))] : List Value).toArray s 0 0 (qA n ad s.heap.size)) (F0 m 6 ls []) := by
    intro fu_6
    induction fu_6 with
    | zero =>
      intro i hm; exact absurd hm (Nat.not_lt_zero _)
    | succ fu_6 ih_6 =>
      intro i hm_6 hi H locs hW ls hl
      have hmv := mv_le hM.2.2.2.2.1 K ro f t i
      refine lv_iload hx hb dX2_ofStep_6 (lv_at hl 5 rfl) ?_
      refine lv_aload_n hx hb dX2_ofStep_8 rfl (lv_at hl 1 rfl) ?_
      refine g_0_2 (x := 1) hC hW (by omega) kd_1 gw_35 dX2_ofStep_9 ?_
      refine q_top (v2 := .int (nI (K))) (congrArg _ hM.2.1) ?_
      refine q_cge (tgt := 71) hx hb dX2_ofStep_12 (by decide) (by first | omega | exact Nat.lt_of_le_of_lt (hw3 _) (by decide)) (by first | omega | exact Nat.lt_of_le_of_lt (hw3 _) (by decide)) (fun c_12 => ?_) (fun c_12 => ?_)
      ·
        refine lv_lload hx hb dX2_ofStep_71 (lv_at hl 4 rfl) ?_
        exact q_lret0 hC hW hr hlk0 (by rw [show i = K by omega]) dX2_ofStep_73
      ·
        refine lv_iload_n hx hb dX2_ofStep_15 rfl (lv_at hl 3 rfl) ?_
        refine q_ic 4 hx hb dX2_ofStep_16 (by decide) ?_
        refine q_cge (tgt := 27) hx hb dX2_ofStep_17 (by decide) (by first | omega | exact Nat.lt_of_le_of_lt (hw3 _) (by decide)) (by first | omega | exact Nat.lt_of_le_of_lt (hw3 _) (by decide)) (fun c_17 => ?_) (fun c_17 => ?_)
        ·
          refine lv_iload hx hb dX2_ofStep_27 (lv_at hl 5 rfl) ?_
          refine lv_istore (lv' := [(7, .int (nI (i))), (0, .ref (ad 8)), (1, .ref (ad 1)), (2, .int (nI (f))), (3, .int (nI (t))), (4, .long (lN (stN w ro K f t i))), (6, .int (nI (i)))]) hx hb dX2_ofStep_29 hl (by decide) rfl (fun ls hl => ?_)
          refine lv_lload hx hb dX2_ofStep_31 (lv_at hl 5 rfl) ?_
          refine lv_aload_n hx hb dX2_ofStep_33 rfl (lv_at hl 1 rfl) ?_
          refine g_2_0 (x := 8) (y := 9) hC hW (by omega) kd_8 gw_79 (hlk 8 0 9 (by omega) rfl) dX2_ofStep_34 ?_
          refine lv_iload hx hb dX2_ofStep_37 (lv_at hl 6 rfl) ?_
          refine q_aald5 (x := 9) (i := i) (y := 10 + i) hC hW (by omega) kd_9 (by omega) (lk_row9 hlk (by omega) (by omega)) dX2_ofStep_39 ?_
          refine lv_iload_n hx hb dX2_ofStep_40 rfl (lv_at hl 3 rfl) ?_
          refine q_lald (x := (10 + i)) (i := f) hC hW (by omega) (kd_r10 (by omega)) (by omega) dX2_ofStep_41 ?_
          refine q_top (v2 := .long (lN (bF w (uB w ro i) f))) (congrArg _ (hMs.1 i f (by omega) (by omega))) ?_
          refine lv_aload_n hx hb dX2_ofStep_42 rfl (lv_at hl 2 rfl) ?_
          refine lv_iload_n hx hb dX2_ofStep_43 rfl (lv_at hl 3 rfl) ?_
          refine lv_iload_n hx hb dX2_ofStep_44 rfl (lv_at hl 4 rfl) ?_
          refine lv_iload hx hb dX2_ofStep_45 (lv_at hl 6 rfl) ?_
          refine q_kI0 (q_rV (As := [.int (nI (f)), .int (nI (t)), .int (nI (i))]) (rest := [.long (lN (bF w (uB w ro i) f)), .long (lN (stN w ro K f t i))]) (x := 1) hC hW mw_X0_moveWeight gw_241 (k_moveWeight l G n ad H.size I L R _ _ _ w K ro hn hlk hM (by omega) (by omega) (by omega)) (by omega) (ct_o0 kd_1) rfl ⟨rfl, rfl⟩ ⟨Nat.le_of_ble_eq_true rfl, Nat.le_of_ble_eq_true rfl⟩ ⟨Nat.le_of_ble_eq_true rfl, Nat.le_of_ble_eq_true rfl⟩ hl.1 rfl rfl (Nat.le_of_ble_eq_true rfl) dX2_ofStep_47) hW (fun r_47 H locs hp hW => ?_)
          subst hp
          refine q_i2l hx hb dX2_ofStep_50 (by first | omega | exact Nat.lt_of_le_of_lt (hw3 _) (by decide)) ?_
          refine q_lmul hx hb dX2_ofStep_51 ?_
          refine lv_aload_n hx hb dX2_ofStep_52 rfl (lv_at hl 1 rfl) ?_
          refine g_2_2 (x := 8) (y := 25) hC hW (by omega) kd_8 gw_82 (hlk 8 2 25 (by omega) rfl) dX2_ofStep_53 ?_
          refine lv_iload hx hb dX2_ofStep_56 (lv_at hl 0 rfl) ?_
          refine q_aald5 (x := 25) (i := i) (y := 26 + i) hC hW (by omega) kd_25 (by omega) (lk_row25 hlk (by omega) (by omega)) dX2_ofStep_58 ?_
          refine lv_iload_n hx hb dX2_ofStep_59 rfl (lv_at hl 4 rfl) ?_
          refine q_lald (x := (26 + i)) (i := t) hC hW (by omega) (kd_r26 (by omega)) (by omega) dX2_ofStep_60 ?_
          refine q_top (v2 := .long (lN (Sx' w K ro (K - i) t))) (congrArg _ (hMs.2.2.1 i t (by omega) (by omega)).1) ?_
          refine q_lmul hx hb dX2_ofStep_61 ?_
          refine q_ladd hx hb dX2_ofStep_62 ?_
          refine q_top (v2 := .long (lN (stN w ro K f t (i + 1)))) (congrArg _ (congrArg lN (by rw [stN_s]; unfold nx; rw [if_neg (show ¬ t < 4 by omega)]))) ?_
          refine lv_lstore (lv' := [(4, .long (lN (stN w ro K f t (i + 1)))), (7, .int (nI (i))), (0, .ref (ad 8)), (1, .ref (ad 1)), (2, .int (nI (f))), (3, .int (nI (t))), (6, .int (nI (i)))]) hx hb dX2_ofStep_63 hl (by decide) rfl (fun ls hl => ?_)
          refine q_iinc (z2 := i + 1) (lv' := [(6, .int (nI (i + 1))), (4, .long (lN (stN w ro K f t (i + 1)))), (7, .int (nI (i))), (0, .ref (ad 8)), (1, .ref (ad 1)), (2, .int (nI (f))), (3, .int (nI (t)))]) hx hb dX2_ofStep_65 hl (k := 6) rfl (inc_up _ 1 (by decide)) (by decide) rfl (fun ls hl => ?_)
          refine lv_goto (tgt := 6) hx hb dX2_ofStep_68 (by decide) ?_
          exact ih_6 (i + 1) (by omega) (by omega) _ _ hW _ (lv_sub hl [3, 4, 5, 6, 1, 0] rfl)
        ·
          refine lv_iload hx hb dX2_ofStep_20 (lv_at hl 5 rfl) ?_
          refine q_ic 1 hx hb dX2_ofStep_22 (by decide) ?_
          refine q_iadd hx hb dX2_ofStep_23 ?_
          refine lv_goto (tgt := 29) hx hb dX2_ofStep_24 (by decide) ?_
          refine lv_istore (lv' := [(7, .int (nI (i + 1))), (0, .ref (ad 8)), (1, .ref (ad 1)), (2, .int (nI (f))), (3, .int (nI (t))), (4, .long (lN (stN w ro K f t i))), (6, .int (nI (i)))]) hx hb dX2_ofStep_29 hl (by decide) rfl (fun ls hl => ?_)
          refine lv_lload hx hb dX2_ofStep_31 (lv_at hl 5 rfl) ?_
          refine lv_aload_n hx hb dX2_ofStep_33 rfl (lv_at hl 1 rfl) ?_
          refine g_2_0 (x := 8) (y := 9) hC hW (by omega) kd_8 gw_79 (hlk 8 0 9 (by omega) rfl) dX2_ofStep_34 ?_
          refine lv_iload hx hb dX2_ofStep_37 (lv_at hl 6 rfl) ?_
          refine q_aald5 (x := 9) (i := i) (y := 10 + i) hC hW (by omega) kd_9 (by omega) (lk_row9 hlk (by omega) (by omega)) dX2_ofStep_39 ?_
          refine lv_iload_n hx hb dX2_ofStep_40 rfl (lv_at hl 3 rfl) ?_
          refine q_lald (x := (10 + i)) (i := f) hC hW (by omega) (kd_r10 (by omega)) (by omega) dX2_ofStep_41 ?_
          refine q_top (v2 := .long (lN (bF w (uB w ro i) f))) (congrArg _ (hMs.1 i f (by omega) (by omega))) ?_
          refine lv_aload_n hx hb dX2_ofStep_42 rfl (lv_at hl 2 rfl) ?_
          refine lv_iload_n hx hb dX2_ofStep_43 rfl (lv_at hl 3 rfl) ?_
          refine lv_iload_n hx hb dX2_ofStep_44 rfl (lv_at hl 4 rfl) ?_
          refine lv_iload hx hb dX2_ofStep_45 (lv_at hl 6 rfl) ?_
          refine q_kI0 (q_rV (As := [.int (nI (f)), .int (nI (t)), .int (nI (i))]) (rest := [.long (lN (bF w (uB w ro i) f)), .long (lN (stN w ro K f t i))]) (x := 1) hC hW mw_X0_moveWeight gw_241 (k_moveWeight l G n ad H.size I L R _ _ _ w K ro hn hlk hM (by omega) (by omega) (by omega)) (by omega) (ct_o0 kd_1) rfl ⟨rfl, rfl⟩ ⟨Nat.le_of_ble_eq_true rfl, Nat.le_of_ble_eq_true rfl⟩ ⟨Nat.le_of_ble_eq_true rfl, Nat.le_of_ble_eq_true rfl⟩ hl.1 rfl rfl (Nat.le_of_ble_eq_true rfl) dX2_ofStep_47) hW (fun r_47 H locs hp hW => ?_)
          subst hp
          refine q_i2l hx hb dX2_ofStep_50 (by first | omega | exact Nat.lt_of_le_of_lt (hw3 _) (by decide)) ?_
          refine q_lmul hx hb dX2_ofStep_51 ?_
          refine lv_aload_n hx hb dX2_ofStep_52 rfl (lv_at hl 1 rfl) ?_
          refine g_2_2 (x := 8) (y := 25) hC hW (by omega) kd_8 gw_82 (hlk 8 2 25 (by omega) rfl) dX2_ofStep_53 ?_
          refine lv_iload hx hb dX2_ofStep_56 (lv_at hl 0 rfl) ?_
          refine q_aald5 (x := 25) (i := i + 1) (y := 26 + (i + 1)) hC hW (by omega) kd_25 (by omega) (lk_row25 hlk (by omega) (by omega)) dX2_ofStep_58 ?_
          refine lv_iload_n hx hb dX2_ofStep_59 rfl (lv_at hl 4 rfl) ?_
          refine q_lald (x := (26 + (i + 1))) (i := t) hC hW (by omega) (kd_r26 (by omega)) (by omega) dX2_ofStep_60 ?_
          refine q_top (v2 := .long (lN (Sx' w K ro (K - (i + 1)) t))) (congrArg _ (hMs.2.2.1 (i + 1) t (by omega) (by omega)).1) ?_
          refine q_lmul hx hb dX2_ofStep_61 ?_
          refine q_ladd hx hb dX2_ofStep_62 ?_
          refine q_top (v2 := .long (lN (stN w ro K f t (i + 1)))) (congrArg _ (congrArg lN (by rw [stN_s]; unfold nx; rw [if_pos (show t < 4 by omega)]))) ?_
          refine lv_lstore (lv' := [(4, .long (lN (stN w ro K f t (i + 1)))), (7, .int (nI (i + 1))), (0, .ref (ad 8)), (1, .ref (ad 1)), (2, .int (nI (f))), (3, .int (nI (t))), (6, .int (nI (i)))]) hx hb dX2_ofStep_63 hl (by decide) rfl (fun ls hl => ?_)
          refine q_iinc (z2 := i + 1) (lv' := [(6, .int (nI (i + 1))), (4, .long (lN (stN w ro K f t (i + 1)))), (7, .int (nI (i + 1))), (0, .ref (ad 8)), (1, .ref (ad 1)), (2, .int (nI (f))), (3, .int (nI (t)))]) hx hb dX2_ofStep_65 hl (k := 6) rfl (inc_up _ 1 (by decide)) (by decide) rfl (fun ls hl => ?_)
          refine lv_goto (tgt := 6) hx hb dX2_ofStep_68 (by decide) ?_
          exact ih_6 (i + 1) (by omega) (by omega) _ _ hW _ (lv_sub hl [3, 4, 5, 6, 1, 0] rfl)
  exact lp_6 (K + 1) 0 (by omega) (by omega) _ _ hW _ (lv_sub hl [2, 3, 4, 5, 1, 0] rfl)
set_option maxRecDepth 100000 in
set_option maxHeartbeats 4000000 in
theorem k_ofLetter (l : Launch) (G : Gx) (n : Nat) (ad : Nat → Nat) (sz : Nat) (I : Ic) (L : Lc) (R : Rc) (f t : Nat) (w : Nat → Nat) (K : Nat) (ro : Nat → Nat) (hn : 83 ≤ n) (hlk : LkOK n R) (hM : MdI I w K ro) (hMs : Meas w ro K I L) (hf : f < 4) (ht : t < 4) : Met l yX2_ofLetter (Cond.code yX2_ofLetter cX2_ofLetter 7 (some .long) :: GW) ({ frames := 1, cells := 0, slots := 0, locals := 36 } : Room) (qPre G n ad sz I L R [.ref (ad 8), .ref (ad 1), .int (nI (f)), .int (nI (t))]) (qL0 G (qA n ad sz) (n, ad, I, L, R) (fun z => z = lN (leN w ro K f t K))) 0 0 (qA n ad sz) := by
  refine q_met (by decide) (Nat.le_of_ble_eq_true rfl) ?_
  intro p e s m below meth c hC hr hlk0 hin hsz hW ls hl
  subst hsz
  have hC : CallFix p m c cX2_ofLetter 7 s ([.ref (ad 8), .ref (ad 1), .int (nI (f)), .int (nI (t))] : List Value).toArray GW "CoinRows$Sums" := hC
  have hx := hC.1
  have hb := hC.2.1
  have hk6 : K ≤ 6 := hM.2.2.2.1
  have hw3 : ∀ i, w i ≤ 3 := hM.2.2.2.2.1.1
  have hr4 : ∀ j, ro j < 4 := hM.2.2.2.2.2
  have hl : lv_has ls 7 [(0, .ref (ad 8)), (1, .ref (ad 1)), (2, .int (nI (f))), (3, .int (nI (t)))] := hl
  refine q_lc 0 hx hb dX2_ofLetter_0 (by decide) ?_
  refine lv_lstore (lv' := [(4, .long (lN 0)), (0, .ref (ad 8)), (1, .ref (ad 1)), (2, .int (nI (f))), (3, .int (nI (t)))]) hx hb dX2_ofLetter_1 hl (by decide) rfl (fun ls hl => ?_)
  refine q_ic 0 hx hb dX2_ofLetter_3 (by decide) ?_
  refine lv_istore (lv' := [(6, .int (nI 0)), (4, .long (lN 0)), (0, .ref (ad 8)), (1, .ref (ad 1)), (2, .int (nI (f))), (3, .int (nI (t)))]) hx hb dX2_ofLetter_4 hl (by decide) rfl (fun ls hl => ?_)
  have lp_6 : ∀ (fu_6 : Nat) (i : Nat), K - i < fu_6 → i ≤ K → ∀ (H : Heap) (locs : List Loc), Wd G n ad I L R (qA n ad s.heap.size) s.heap H locs s → ∀ ls : Array Slot, lv_has ls 7 [(0, .ref (ad 8)), (1, .ref (ad 1)), (2, .int (nI (f))), (3, .int (nI (t))), (4, .long (lN (leN w ro K f t i))), (6, .int (nI (i)))] → W p l e ({ frames := 1, cells := 0, slots := 0, locals := 36 } : Room) s m ([.ref (ad 8), .ref (ad 1), .int (nI (f)), .int (nI (t))] : List Value).toArray below meth c H locs 0 0 (MQ below (qL0 G (qA n ad s.heap.size) (n, ad, I, L, R) (fun z => z = lN (leN w ro K f t K))) ([.ref (ad 8), .ref (ad 1), .int (nI (f)), .int (nI (t))] : List Value).toArray s 0 0 (qA n ad s.heap.size)) (F0 m 6 ls []) := by
    intro fu_6
    induction fu_6 with
    | zero =>
      intro i hm; exact absurd hm (Nat.not_lt_zero _)
    | succ fu_6 ih_6 =>
      intro i hm_6 hi H locs hW ls hl
      have hri := hr4 i
      refine lv_iload hx hb dX2_ofLetter_6 (lv_at hl 5 rfl) ?_
      refine lv_aload_n hx hb dX2_ofLetter_8 rfl (lv_at hl 1 rfl) ?_
      refine g_0_2 (x := 1) hC hW (by omega) kd_1 gw_35 dX2_ofLetter_9 ?_
      refine q_top (v2 := .int (nI (K))) (congrArg _ hM.2.1) ?_
      refine q_cge (tgt := 44) hx hb dX2_ofLetter_12 (by decide) (by first | omega | exact Nat.lt_of_le_of_lt (hw3 _) (by decide)) (by first | omega | exact Nat.lt_of_le_of_lt (hw3 _) (by decide)) (fun c_12 => ?_) (fun c_12 => ?_)
      ·
        refine lv_lload hx hb dX2_ofLetter_44 (lv_at hl 4 rfl) ?_
        exact q_lret0 hC hW hr hlk0 (by rw [show i = K by omega]) dX2_ofLetter_46
      ·
        refine lv_aload_n hx hb dX2_ofLetter_15 rfl (lv_at hl 1 rfl) ?_
        refine g_0_1 (x := 1) (y := 3) hC hW (by omega) kd_1 gw_31 (hlk 1 1 3 (by omega) rfl) dX2_ofLetter_16 ?_
        refine lv_iload hx hb dX2_ofLetter_19 (lv_at hl 5 rfl) ?_
        refine q_iald (x := 3) (i := i) hC hW (by omega) kd_3 (by omega) dX2_ofLetter_21 ?_
        refine q_top (v2 := .int (nI (ro i))) (congrArg _ (hM.2.2.1 _ (by omega))) ?_
        refine lv_iload_n hx hb dX2_ofLetter_22 rfl (lv_at hl 3 rfl) ?_
        refine q_cne (tgt := 38) hx hb dX2_ofLetter_23 (by decide) (by first | omega | exact Nat.lt_of_le_of_lt (hw3 _) (by decide)) (by first | omega | exact Nat.lt_of_le_of_lt (hw3 _) (by decide)) (fun c_23 => ?_) (fun c_23 => ?_)
        ·
          have hz : ¬ ro i = t := c_23
          have hl : lv_has ls 7 [(0, .ref (ad 8)), (1, .ref (ad 1)), (2, .int (nI (f))), (3, .int (nI (t))), (4, .long (lN (leN w ro K f t (i + 1)))), (6, .int (nI (i)))] := by rw [leN_n hz]; exact hl
          refine q_iinc (z2 := i + 1) (lv' := [(6, .int (nI (i + 1))), (0, .ref (ad 8)), (1, .ref (ad 1)), (2, .int (nI (f))), (3, .int (nI (t))), (4, .long (lN (leN w ro K f t (i + 1))))]) hx hb dX2_ofLetter_38 hl (k := 5) rfl (inc_up _ 1 (by decide)) (by decide) rfl (fun ls hl => ?_)
          refine lv_goto (tgt := 6) hx hb dX2_ofLetter_41 (by decide) ?_
          exact ih_6 (i + 1) (by omega) (by omega) _ _ hW _ (lv_sub hl [1, 2, 3, 4, 5, 0] rfl)
        ·
          refine lv_lload hx hb dX2_ofLetter_26 (lv_at hl 4 rfl) ?_
          refine lv_aload_n hx hb dX2_ofLetter_28 rfl (lv_at hl 0 rfl) ?_
          refine lv_iload hx hb dX2_ofLetter_29 (lv_at hl 5 rfl) ?_
          refine lv_iload_n hx hb dX2_ofLetter_31 rfl (lv_at hl 2 rfl) ?_
          refine q_kL0 (q_rV (As := [.int (nI (i)), .int (nI (f))]) (rest := [.long (lN (leN w ro K f t i))]) (x := 8) hC hW mw_X2_through gw_266 (k_through l G n ad H.size I L R _ _ w K ro hn hlk hM hMs (by omega) (by omega)) (by omega) (ct_o2 kd_8) rfl ⟨rfl, rfl⟩ ⟨Nat.le_of_ble_eq_true rfl, Nat.le_of_ble_eq_true rfl⟩ ⟨Nat.le_of_ble_eq_true rfl, Nat.le_of_ble_eq_true rfl⟩ hl.1 rfl rfl (Nat.le_of_ble_eq_true rfl) dX2_ofLetter_32) hW (fun r_32 H locs hp hW => ?_)
          subst hp
          refine q_ladd hx hb dX2_ofLetter_35 ?_
          refine q_top (v2 := .long (lN (leN w ro K f t (i + 1)))) (congrArg _ (congrArg lN (leN_y (by omega)).symm)) ?_
          refine lv_lstore (lv' := [(4, .long (lN (leN w ro K f t (i + 1)))), (0, .ref (ad 8)), (1, .ref (ad 1)), (2, .int (nI (f))), (3, .int (nI (t))), (6, .int (nI (i)))]) hx hb dX2_ofLetter_36 hl (by decide) rfl (fun ls hl => ?_)
          refine q_iinc (z2 := i + 1) (lv' := [(6, .int (nI (i + 1))), (4, .long (lN (leN w ro K f t (i + 1)))), (0, .ref (ad 8)), (1, .ref (ad 1)), (2, .int (nI (f))), (3, .int (nI (t)))]) hx hb dX2_ofLetter_38 hl (k := 5) rfl (inc_up _ 1 (by decide)) (by decide) rfl (fun ls hl => ?_)
          refine lv_goto (tgt := 6) hx hb dX2_ofLetter_41 (by decide) ?_
          exact ih_6 (i + 1) (by omega) (by omega) _ _ hW _ (lv_sub hl [2, 3, 4, 5, 1, 0] rfl)
  exact lp_6 (K + 1) 0 (by omega) (by omega) _ _ hW _ (lv_sub hl [2, 3, 4, 5, 1, 0] rfl)
set_option maxRecDepth 100000 in
set_option maxHeartbeats 4000000 in
theorem k_ifNext (l : Launch) (G : Gx) (n : Nat) (ad : Nat → Nat) (sz : Nat) (I : Ic) (L : Lc) (R : Rc) (t : Nat) (w : Nat → Nat) (K : Nat) (ro : Nat → Nat) (hn : 83 ≤ n) (hlk : LkOK n R) (hM : MdI I w K ro) (hMs : Meas w ro K I L) (ht : t < 4) : Met l yX2_wholeIfNext (Cond.code yX2_wholeIfNext cX2_wholeIfNext 6 (some .long) :: GW) ({ frames := 1, cells := 0, slots := 0, locals := 36 } : Room) (qPre G n ad sz I L R [.ref (ad 8), .ref (ad 1), .int (nI (t))]) (qL0 G (qA n ad sz) (n, ad, I, L, R) (fun z => z = lN (neN w ro K t 4))) 0 0 (qA n ad sz) := by
  refine q_met (by decide) (Nat.le_of_ble_eq_true rfl) ?_
  intro p e s m below meth c hC hr hlk0 hin hsz hW ls hl
  subst hsz
  have hC : CallFix p m c cX2_wholeIfNext 6 s ([.ref (ad 8), .ref (ad 1), .int (nI (t))] : List Value).toArray GW "CoinRows$Sums" := hC
  have hx := hC.1
  have hb := hC.2.1
  have hk6 : K ≤ 6 := hM.2.2.2.1
  have hw3 : ∀ i, w i ≤ 3 := hM.2.2.2.2.1.1
  have hr4 : ∀ j, ro j < 4 := hM.2.2.2.2.2
  have hl : lv_has ls 6 [(0, .ref (ad 8)), (1, .ref (ad 1)), (2, .int (nI (t)))] := hl
  refine q_lc 0 hx hb dX2_wholeIfNext_0 (by decide) ?_
  refine lv_lstore_n (lv' := [(3, .long (lN 0)), (0, .ref (ad 8)), (1, .ref (ad 1)), (2, .int (nI (t)))]) hx hb dX2_wholeIfNext_1 rfl hl (by decide) rfl (fun ls hl => ?_)
  refine q_ic 0 hx hb dX2_wholeIfNext_2 (by decide) ?_
  refine lv_istore (lv' := [(5, .int (nI 0)), (3, .long (lN 0)), (0, .ref (ad 8)), (1, .ref (ad 1)), (2, .int (nI (t)))]) hx hb dX2_wholeIfNext_3 hl (by decide) rfl (fun ls hl => ?_)
  have lp_5 : ∀ (fu_5 : Nat) (i : Nat), 4 - i < fu_5 → i ≤ 4 → ∀ (H : Heap) (locs : List Loc), Wd G n ad I L R (qA n ad s.heap.size) s.heap H locs s → ∀ ls : Array Slot, lv_has ls 6 [(0, .ref (ad 8)), (1, .ref (ad 1)), (2, .int (nI (t))), (3, .long (lN (neN w ro K t i))), (5, .int (nI (i)))] → W p l e ({ frames := 1, cells := 0, slots := 0, locals := 36 } : Room) s m ([.ref (ad 8), .ref (ad 1), .int (nI (t))] : List Value).toArray below meth c H locs 0 0 (MQ below (qL0 G (qA n ad s.heap.size) (n, ad, I, L, R) (fun z => z = lN (neN w ro K t 4))) ([.ref (ad 8), .ref (ad 1), .int (nI (t))] : List Value).toArray s 0 0 (qA n ad s.heap.size)) (F0 m 5 ls []) := by
    intro fu_5
    induction fu_5 with
    | zero =>
      intro i hm; exact absurd hm (Nat.not_lt_zero _)
    | succ fu_5 ih_5 =>
      intro i hm_5 hi H locs hW ls hl
      refine lv_iload hx hb dX2_wholeIfNext_5 (lv_at hl 4 rfl) ?_
      refine q_ic 4 hx hb dX2_wholeIfNext_7 (by decide) ?_
      refine q_cge (tgt := 41) hx hb dX2_wholeIfNext_8 (by decide) (by first | omega | exact Nat.lt_of_le_of_lt (hw3 _) (by decide)) (by first | omega | exact Nat.lt_of_le_of_lt (hw3 _) (by decide)) (fun c_8 => ?_) (fun c_8 => ?_)
      ·
        refine lv_lload_n hx hb dX2_wholeIfNext_41 rfl (lv_at hl 3 rfl) ?_
        exact q_lret0 hC hW hr hlk0 (by rw [show i = 4 by omega]) dX2_wholeIfNext_42
      ·
        refine lv_lload_n hx hb dX2_wholeIfNext_11 rfl (lv_at hl 3 rfl) ?_
        refine lv_aload_n hx hb dX2_wholeIfNext_12 rfl (lv_at hl 0 rfl) ?_
        refine g_2_1 (x := 8) (y := 17) hC hW (by omega) kd_8 gw_81 (hlk 8 1 17 (by omega) rfl) dX2_wholeIfNext_13 ?_
        refine lv_aload_n hx hb dX2_wholeIfNext_16 rfl (lv_at hl 1 rfl) ?_
        refine g_0_2 (x := 1) hC hW (by omega) kd_1 gw_35 dX2_wholeIfNext_17 ?_
        refine q_top (v2 := .int (nI (K))) (congrArg _ hM.2.1) ?_
        refine q_aald5 (x := 17) (i := K) (y := 18 + K) hC hW (by omega) kd_17 (by omega) (lk_row17 hlk (by omega) (by omega)) dX2_wholeIfNext_20 ?_
        refine lv_iload hx hb dX2_wholeIfNext_21 (lv_at hl 4 rfl) ?_
        refine q_lald (x := (18 + K)) (i := i) hC hW (by omega) (kd_r18 (by omega)) (by omega) dX2_wholeIfNext_23 ?_
        refine q_top (v2 := .long (lN (rchu w (uB w ro K) i))) (congrArg _ (hMs.2.1 K i (by omega) (by omega))) ?_
        refine lv_aload_n hx hb dX2_wholeIfNext_24 rfl (lv_at hl 1 rfl) ?_
        refine lv_iload hx hb dX2_wholeIfNext_25 (lv_at hl 4 rfl) ?_
        refine lv_iload_n hx hb dX2_wholeIfNext_27 rfl (lv_at hl 2 rfl) ?_
        refine q_kI0 (q_rV (As := [.int (nI (i)), .int (nI (t))]) (rest := [.long (lN (rchu w (uB w ro K) i)), .long (lN (neN w ro K t i))]) (x := 1) hC hW mw_X0_letterWeight gw_229 (k_letterWeight l G n ad H.size I L R _ _ w K ro hn hlk hM (by omega) (by first | omega | exact hr4 _)) (by omega) (ct_o0 kd_1) rfl ⟨rfl, rfl⟩ ⟨Nat.le_of_ble_eq_true rfl, Nat.le_of_ble_eq_true rfl⟩ ⟨Nat.le_of_ble_eq_true rfl, Nat.le_of_ble_eq_true rfl⟩ hl.1 rfl rfl (Nat.le_of_ble_eq_true rfl) dX2_wholeIfNext_28) hW (fun r_28 H locs hp hW => ?_)
        subst hp
        refine q_i2l hx hb dX2_wholeIfNext_31 (by first | omega | exact Nat.lt_of_le_of_lt (hw3 _) (by decide)) ?_
        refine q_lmul hx hb dX2_wholeIfNext_32 ?_
        refine q_ladd hx hb dX2_wholeIfNext_33 ?_
        refine lv_lstore_n (lv' := [(3, .long (lN ((neN w ro K t i) + ((rchu w (uB w ro K) i) * (w (42 + i * 4 + t)))))), (0, .ref (ad 8)), (1, .ref (ad 1)), (2, .int (nI (t))), (5, .int (nI (i)))]) hx hb dX2_wholeIfNext_34 rfl hl (by decide) rfl (fun ls hl => ?_)
        refine q_iinc (z2 := i + 1) (lv' := [(5, .int (nI (i + 1))), (3, .long (lN ((neN w ro K t i) + ((rchu w (uB w ro K) i) * (w (42 + i * 4 + t)))))), (0, .ref (ad 8)), (1, .ref (ad 1)), (2, .int (nI (t)))]) hx hb dX2_wholeIfNext_35 hl (k := 4) rfl (inc_up _ 1 (by decide)) (by decide) rfl (fun ls hl => ?_)
        refine lv_goto (tgt := 5) hx hb dX2_wholeIfNext_38 (by decide) ?_
        exact ih_5 (i + 1) (by omega) (by omega) _ _ hW _ (lv_sub hl [2, 3, 4, 1, 0] rfl)
  exact lp_5 (4 + 1) 0 (by omega) (by omega) _ _ hW _ (lv_sub hl [2, 3, 4, 1, 0] rfl)
set_option maxRecDepth 100000 in
set_option maxHeartbeats 4000000 in
theorem k_ifCh (l : Launch) (G : Gx) (n : Nat) (ad : Nat → Nat) (sz : Nat) (I : Ic) (L : Lc) (R : Rc) (q t : Nat) (w : Nat → Nat) (K : Nat) (ro : Nat → Nat) (hn : 83 ≤ n) (hlk : LkOK n R) (hM : MdI I w K ro) (hMs : Meas w ro K I L) (hq : q < K) (ht : t < 4) : Met l yX2_wholeIfChanged (Cond.code yX2_wholeIfChanged cX2_wholeIfChanged 7 (some .long) :: GW) ({ frames := 1, cells := 0, slots := 0, locals := 36 } : Room) (qPre G n ad sz I L R [.ref (ad 8), .ref (ad 1), .int (nI (q)), .int (nI (t))]) (qL0 G (qA n ad sz) (n, ad, I, L, R) (fun z => z = lN (chN w ro K q t 4))) 0 0 (qA n ad sz) := by
  refine q_met (by decide) (Nat.le_of_ble_eq_true rfl) ?_
  intro p e s m below meth c hC hr hlk0 hin hsz hW ls hl
  subst hsz
  have hC : CallFix p m c cX2_wholeIfChanged 7 s ([.ref (ad 8), .ref (ad 1), .int (nI (q)), .int (nI (t))] : List Value).toArray GW "CoinRows$Sums" := hC
  have hx := hC.1
  have hb := hC.2.1
  have hk6 : K ≤ 6 := hM.2.2.2.1
  have hw3 : ∀ i, w i ≤ 3 := hM.2.2.2.2.1.1
  have hr4 : ∀ j, ro j < 4 := hM.2.2.2.2.2
  have hl : lv_has ls 7 [(0, .ref (ad 8)), (1, .ref (ad 1)), (2, .int (nI (q))), (3, .int (nI (t)))] := hl
  refine q_lc 0 hx hb dX2_wholeIfChanged_0 (by decide) ?_
  refine lv_lstore (lv' := [(4, .long (lN 0)), (0, .ref (ad 8)), (1, .ref (ad 1)), (2, .int (nI (q))), (3, .int (nI (t)))]) hx hb dX2_wholeIfChanged_1 hl (by decide) rfl (fun ls hl => ?_)
  refine q_ic 0 hx hb dX2_wholeIfChanged_3 (by decide) ?_
  refine lv_istore (lv' := [(6, .int (nI 0)), (4, .long (lN 0)), (0, .ref (ad 8)), (1, .ref (ad 1)), (2, .int (nI (q))), (3, .int (nI (t)))]) hx hb dX2_wholeIfChanged_4 hl (by decide) rfl (fun ls hl => ?_)
  have lp_6 : ∀ (fu_6 : Nat) (i : Nat), 4 - i < fu_6 → i ≤ 4 → ∀ (H : Heap) (locs : List Loc), Wd G n ad I L R (qA n ad s.heap.size) s.heap H locs s → ∀ ls : Array Slot, lv_has ls 7 [(0, .ref (ad 8)), (1, .ref (ad 1)), (2, .int (nI (q))), (3, .int (nI (t))), (4, .long (lN (chN w ro K q t i))), (6, .int (nI (i)))] → W p l e ({ frames := 1, cells := 0, slots := 0, locals := 36 } : Room) s m ([.ref (ad 8), .ref (ad 1), .int (nI (q)), .int (nI (t))] : List Value).toArray below meth c H locs 0 0 (MQ below (qL0 G (qA n ad s.heap.size) (n, ad, I, L, R) (fun z => z = lN (chN w ro K q t 4))) ([.ref (ad 8), .ref (ad 1), .int (nI (q)), .int (nI (t))] : List Value).toArray s 0 0 (qA n ad s.heap.size)) (F0 m 6 ls []) := by
    intro fu_6
    induction fu_6 with
    | zero =>
      intro i hm; exact absurd hm (Nat.not_lt_zero _)
    | succ fu_6 ih_6 =>
      intro i hm_6 hi H locs hW ls hl
      refine lv_iload hx hb dX2_wholeIfChanged_6 (lv_at hl 5 rfl) ?_
      refine q_ic 4 hx hb dX2_wholeIfChanged_8 (by decide) ?_
      refine q_cge (tgt := 53) hx hb dX2_wholeIfChanged_9 (by decide) (by first | omega | exact Nat.lt_of_le_of_lt (hw3 _) (by decide)) (by first | omega | exact Nat.lt_of_le_of_lt (hw3 _) (by decide)) (fun c_9 => ?_) (fun c_9 => ?_)
      ·
        refine lv_lload hx hb dX2_wholeIfChanged_53 (lv_at hl 4 rfl) ?_
        exact q_lret0 hC hW hr hlk0 (by rw [show i = 4 by omega]) dX2_wholeIfChanged_55
      ·
        refine lv_lload hx hb dX2_wholeIfChanged_12 (lv_at hl 4 rfl) ?_
        refine lv_aload_n hx hb dX2_wholeIfChanged_14 rfl (lv_at hl 0 rfl) ?_
        refine g_2_1 (x := 8) (y := 17) hC hW (by omega) kd_8 gw_81 (hlk 8 1 17 (by omega) rfl) dX2_wholeIfChanged_15 ?_
        refine lv_iload_n hx hb dX2_wholeIfChanged_18 rfl (lv_at hl 2 rfl) ?_
        refine q_aald5 (x := 17) (i := q) (y := 18 + q) hC hW (by omega) kd_17 (by omega) (lk_row17 hlk (by omega) (by omega)) dX2_wholeIfChanged_19 ?_
        refine lv_iload hx hb dX2_wholeIfChanged_20 (lv_at hl 5 rfl) ?_
        refine q_lald (x := (18 + q)) (i := i) hC hW (by omega) (kd_r18 (by omega)) (by omega) dX2_wholeIfChanged_22 ?_
        refine q_top (v2 := .long (lN (rchu w (uB w ro q) i))) (congrArg _ (hMs.2.1 q i (by omega) (by omega))) ?_
        refine lv_aload_n hx hb dX2_wholeIfChanged_23 rfl (lv_at hl 1 rfl) ?_
        refine lv_iload hx hb dX2_wholeIfChanged_24 (lv_at hl 5 rfl) ?_
        refine lv_iload_n hx hb dX2_wholeIfChanged_26 rfl (lv_at hl 3 rfl) ?_
        refine q_kI0 (q_rV (As := [.int (nI (i)), .int (nI (t))]) (rest := [.long (lN (rchu w (uB w ro q) i)), .long (lN (chN w ro K q t i))]) (x := 1) hC hW mw_X0_letterWeight gw_229 (k_letterWeight l G n ad H.size I L R _ _ w K ro hn hlk hM (by omega) (by first | omega | exact hr4 _)) (by omega) (ct_o0 kd_1) rfl ⟨rfl, rfl⟩ ⟨Nat.le_of_ble_eq_true rfl, Nat.le_of_ble_eq_true rfl⟩ ⟨Nat.le_of_ble_eq_true rfl, Nat.le_of_ble_eq_true rfl⟩ hl.1 rfl rfl (Nat.le_of_ble_eq_true rfl) dX2_wholeIfChanged_27) hW (fun r_27 H locs hp hW => ?_)
        subst hp
        refine q_i2l hx hb dX2_wholeIfChanged_30 (by first | omega | exact Nat.lt_of_le_of_lt (hw3 _) (by decide)) ?_
        refine q_lmul hx hb dX2_wholeIfChanged_31 ?_
        refine lv_aload_n hx hb dX2_wholeIfChanged_32 rfl (lv_at hl 0 rfl) ?_
        refine g_2_2 (x := 8) (y := 25) hC hW (by omega) kd_8 gw_82 (hlk 8 2 25 (by omega) rfl) dX2_wholeIfChanged_33 ?_
        refine lv_iload_n hx hb dX2_wholeIfChanged_36 rfl (lv_at hl 2 rfl) ?_
        refine q_ic 1 hx hb dX2_wholeIfChanged_37 (by decide) ?_
        refine q_iadd hx hb dX2_wholeIfChanged_38 ?_
        refine q_aald5 (x := 25) (i := q + 1) (y := 26 + (q + 1)) hC hW (by omega) kd_25 (by omega) (lk_row25 hlk (by omega) (by omega)) dX2_wholeIfChanged_39 ?_
        refine lv_iload hx hb dX2_wholeIfChanged_40 (lv_at hl 5 rfl) ?_
        refine q_lald (x := (26 + (q + 1))) (i := i) hC hW (by omega) (kd_r26 (by omega)) (by omega) dX2_wholeIfChanged_42 ?_
        refine q_top (v2 := .long (lN (Sx' w K ro (K - (q + 1)) i))) (congrArg _ (hMs.2.2.1 (q + 1) i (by omega) (by omega)).1) ?_
        refine q_lmul hx hb dX2_wholeIfChanged_43 ?_
        refine q_ladd hx hb dX2_wholeIfChanged_44 ?_
        refine lv_lstore (lv' := [(4, .long (lN ((chN w ro K q t i) + (((rchu w (uB w ro q) i) * (w (42 + i * 4 + t))) * (Sx' w K ro (K - (q + 1)) i))))), (0, .ref (ad 8)), (1, .ref (ad 1)), (2, .int (nI (q))), (3, .int (nI (t))), (6, .int (nI (i)))]) hx hb dX2_wholeIfChanged_45 hl (by decide) rfl (fun ls hl => ?_)
        refine q_iinc (z2 := i + 1) (lv' := [(6, .int (nI (i + 1))), (4, .long (lN ((chN w ro K q t i) + (((rchu w (uB w ro q) i) * (w (42 + i * 4 + t))) * (Sx' w K ro (K - (q + 1)) i))))), (0, .ref (ad 8)), (1, .ref (ad 1)), (2, .int (nI (q))), (3, .int (nI (t)))]) hx hb dX2_wholeIfChanged_47 hl (k := 5) rfl (inc_up _ 1 (by decide)) (by decide) rfl (fun ls hl => ?_)
        refine lv_goto (tgt := 6) hx hb dX2_wholeIfChanged_50 (by decide) ?_
        exact ih_6 (i + 1) (by omega) (by omega) _ _ hW _ (lv_sub hl [2, 3, 4, 5, 1, 0] rfl)
  exact lp_6 (4 + 1) 0 (by omega) (by omega) _ _ hW _ (lv_sub hl [2, 3, 4, 5, 1, 0] rfl)
set_option maxRecDepth 100000 in
set_option maxHeartbeats 4000000 in
theorem k_measure (l : Launch) (G : Gx) (n : Nat) (ad : Nat → Nat) (sz : Nat) (I : Ic) (L : Lc) (R : Rc) (w : Nat → Nat) (K : Nat) (ro : Nat → Nat) (hn : 83 ≤ n) (hlk : LkOK n R) (hM : MdI I w K ro) (hSI : SI L) : Met l yX2_measure (Cond.code yX2_measure cX2_measure 2 none :: GW) ({ frames := 4, cells := 0, slots := 0, locals := 144 } : Room) (qPre G n ad sz I L R [.ref (ad 8), .ref (ad 1)]) (qV1 G (qA n ad sz) n ad R (fun I1 L1 => Meas w ro K I1 L1 ∧ (∀ a, a < 10 ∨ 40 < a → L1 a = L a) ∧ ∀ a, a < 42 ∨ 48 < a → I1 a = I a)) 0 0 (qA n ad sz) := by
  refine q_met (by decide) (Nat.le_of_ble_eq_true rfl) ?_
  intro p e s m below meth c hC hr hlk0 hin hsz hW ls hl
  subst hsz
  have hC : CallFix p m c cX2_measure 2 s ([.ref (ad 8), .ref (ad 1)] : List Value).toArray GW "CoinRows$Sums" := hC
  have hx := hC.1
  have hb := hC.2.1
  have hk6 : K ≤ 6 := hM.2.2.2.1
  have hw3 : ∀ i, w i ≤ 3 := hM.2.2.2.2.1.1
  have hr4 : ∀ j, ro j < 4 := hM.2.2.2.2.2
  have hl : lv_has ls 2 [(0, .ref (ad 8)), (1, .ref (ad 1))] := hl
  refine lv_aload_n hx hb dX2_measure_0 rfl (lv_at hl 0 rfl) ?_
  refine lv_aload_n hx hb dX2_measure_1 rfl (lv_at hl 1 rfl) ?_
  refine q_kV1 (q_rV (As := [.ref (ad 1)]) (rest := []) (x := 8) hC hW mw_X2_sumBeginnings gw_217 (k_sumBeg l G n ad s.heap.size I L R w K ro hn hlk hM hSI) (by omega) (ct_o2 kd_8) rfl ⟨rfl, rfl⟩ ⟨Nat.le_of_ble_eq_true rfl, Nat.le_of_ble_eq_true rfl⟩ ⟨Nat.le_of_ble_eq_true rfl, Nat.le_of_ble_eq_true rfl⟩ hl.1 rfl rfl (Nat.le_of_ble_eq_true rfl) dX2_measure_2) hW (fun I_2 L_2 H locs hp hW => ?_)
  obtain ⟨rfl, hB_2⟩ := hp
  refine lv_aload_n hx hb dX2_measure_5 rfl (lv_at hl 0 rfl) ?_
  refine lv_aload_n hx hb dX2_measure_6 rfl (lv_at hl 1 rfl) ?_
  refine q_kV1 (q_rV (As := [.ref (ad 1)]) (rest := []) (x := 8) hC hW mw_X2_sumRests gw_233 (k_sumRests l G n ad H.size I L_2 R w K ro hn hlk hM) (by omega) (ct_o2 kd_8) rfl ⟨rfl, rfl⟩ ⟨Nat.le_of_ble_eq_true rfl, Nat.le_of_ble_eq_true rfl⟩ ⟨Nat.le_of_ble_eq_true rfl, Nat.le_of_ble_eq_true rfl⟩ hl.1 rfl rfl (Nat.le_of_ble_eq_true rfl) dX2_measure_7) hW (fun I_7 L_7 H locs hp hW => ?_)
  exact q_vret1 hC hW hr hlk0 (Meas_of hB_2 hk6 hp) dX2_measure_10
end
section
theorem MdI_lo {I I1 : Ic} {w : Nat → Nat} {K : Nat} {ro : Nat → Nat} (h : MdI I w K ro) (hf : ∀ a, a < 4 → I1 a = I a) : MdI I1 w K ro :=
  ⟨fun i hi => by rw [hf 2 (by omega)]; exact h.1 i hi, by rw [hf 1 (by omega)]; exact h.2.1, fun j hj => by rw [hf 3 (by omega)]; exact h.2.2.1 j hj, h.2.2.2⟩
theorem Meas_lo {w r : Nat → Nat} {K : Nat} {I I1 : Ic} {L L1 : Lc} (h : Meas w r K I L) (hK : K ≤ 6) (hI : ∀ a, a < 49 → I1 a = I a) (hL : ∀ a, a < 49 → L1 a = L a) : Meas w r K I1 L1 := by
  refine ⟨fun d f hd hf => ?_, fun d f hd hf => ?_, fun d f hd hf => ⟨?_, ?_, ?_⟩, fun f hf => ?_, ?_, fun d h1 hd => ?_⟩
  · rw [hL _ (by omega)]; exact h.1 d f hd hf
  · rw [hL _ (by omega)]; exact h.2.1 d f hd hf
  · rw [hL _ (by omega)]; exact (h.2.2.1 d f hd hf).1
  · rw [hL _ (by omega)]; exact (h.2.2.1 d f hd hf).2.1
  · rw [hI _ (by omega)]; exact (h.2.2.1 d f hd hf).2.2
  · rw [hL _ (by omega)]; exact h.2.2.2.1 f hf
  · rw [hL _ (by omega)]; exact h.2.2.2.2.1
  · rw [hL _ (by omega)]; exact h.2.2.2.2.2 d h1 hd
def rtN (w r : Nat → Nat) (K d f t : Nat) : Nat := if 0 < mv w K r f t d then Cx' w K r (K - nx t d) t else 0
theorem fC_s (w r : Nat → Nat) (K d f i : Nat) : fC w r K d f (i + 1) = fC w r K d f i + rtN w r K d f i := by
  unfold rtN
  by_cases h : 0 < mv w K r f i d
  · rw [if_pos h, fC_p h]
  · rw [if_neg h, fC_n (by omega)]; rfl
theorem fC_0 (w r : Nat → Nat) (K d f : Nat) : fC w r K d f 0 = 0 := rfl
theorem rtN_b {w r : Nat → Nat} (hw : Wok w) {K d f t : Nat} (hK : K ≤ 6) : rtN w r K d f t ≤ 16777216 := by
  unfold rtN
  split
  · exact Cx_b hw K _ t (by omega)
  · omega
theorem fC_b {w r : Nat → Nat} (hw : Wok w) {K d f : Nat} (hK : K ≤ 6) : ∀ i, fC w r K d f i ≤ i * 16777216
  | 0 => Nat.le_refl 0
  | i + 1 => by
    have h1 := fC_b hw (r := r) (d := d) (f := f) hK i
    have h2 := rtN_b hw (r := r) (d := d) (f := f) (t := i) hK
    rw [fC_s]; omega
theorem fC_mono {w r : Nat → Nat} {K d f i j : Nat} (h : i ≤ j) : fC w r K d f i ≤ fC w r K d f j := by
  induction j with
  | zero => rw [show i = 0 by omega]; exact Nat.le_refl _
  | succ j ih =>
    by_cases e : i = j + 1
    · rw [e]; exact Nat.le_refl _
    · have := ih (by omega)
      rw [fC_s]; omega
/-- the step of the way with this number -/
def chB (w r : Nat → Nat) (K d f q : Nat) : Nat := if q < fC w r K d f 1 then 0 else if q < fC w r K d f 2 then 1 else if q < fC w r K d f 3 then 2 else if q < fC w r K d f 4 then 3 else if q < fC w r K d f 5 then 4 else 5
theorem chB_eq {w r : Nat → Nat} {K d f q t : Nat} (ht : t < 6) (h1 : fC w r K d f t ≤ q) (h2 : t < 5 → q < fC w r K d f (t + 1)) : chB w r K d f q = t := by
  have m1 := fC_mono (w := w) (r := r) (K := K) (d := d) (f := f) (show 1 ≤ 2 by decide)
  have m2 := fC_mono (w := w) (r := r) (K := K) (d := d) (f := f) (show 2 ≤ 3 by decide)
  have m3 := fC_mono (w := w) (r := r) (K := K) (d := d) (f := f) (show 3 ≤ 4 by decide)
  have m4 := fC_mono (w := w) (r := r) (K := K) (d := d) (f := f) (show 4 ≤ 5 by decide)
  unfold chB
  have hc : t = 0 ∨ t = 1 ∨ t = 2 ∨ t = 3 ∨ t = 4 ∨ t = 5 := by omega
  rcases hc with rfl | rfl | rfl | rfl | rfl | rfl
  · rw [if_pos (h2 (by decide))]
  · have := h2 (by decide); rw [if_neg (by omega), if_pos this]
  · have := h2 (by decide); rw [if_neg (by omega), if_neg (by omega), if_pos this]
  · have := h2 (by decide); rw [if_neg (by omega), if_neg (by omega), if_neg (by omega), if_pos this]
  · have := h2 (by decide); rw [if_neg (by omega), if_neg (by omega), if_neg (by omega), if_neg (by omega), if_pos this]
  · rw [if_neg (by omega), if_neg (by omega), if_neg (by omega), if_neg (by omega), if_neg (by omega)]
/-- may be gone to, and is as good as the best -/
def okM (w r : Nat → Nat) (K d f t : Nat) : Bool := decide (0 < rtN w r K d f t) && decide (mv w K r f t d * Mx' w K r (K - nx t d) t = Mx' w K r (K - d) f)
theorem okM_iff {w r : Nat → Nat} {K d f t : Nat} : okM w r K d f t = true ↔ 0 < rtN w r K d f t ∧ mv w K r f t d * Mx' w K r (K - nx t d) t = Mx' w K r (K - d) f := by
  unfold okM; rw [Bool.and_eq_true, decide_eq_true_iff, decide_eq_true_iff]
def chM (w r : Nat → Nat) (K d f : Nat) : Nat := if okM w r K d f 0 then 0 else if okM w r K d f 1 then 1 else if okM w r K d f 2 then 2 else if okM w r K d f 3 then 3 else if okM w r K d f 4 then 4 else 5
theorem chM_eq {w r : Nat → Nat} {K d f t : Nat} (ht : t < 6) (h1 : ∀ i, i < t → ¬ okM w r K d f i = true) (h2 : t < 5 → okM w r K d f t = true) : chM w r K d f = t := by
  unfold chM
  have hc : t = 0 ∨ t = 1 ∨ t = 2 ∨ t = 3 ∨ t = 4 ∨ t = 5 := by omega
  rcases hc with rfl | rfl | rfl | rfl | rfl | rfl
  · rw [if_pos (h2 (by decide))]
  · rw [if_neg (h1 0 (by decide)), if_pos (h2 (by decide))]
  · rw [if_neg (h1 0 (by decide)), if_neg (h1 1 (by decide)), if_pos (h2 (by decide))]
  · rw [if_neg (h1 0 (by decide)), if_neg (h1 1 (by decide)), if_neg (h1 2 (by decide)), if_pos (h2 (by decide))]
  · rw [if_neg (h1 0 (by decide)), if_neg (h1 1 (by decide)), if_neg (h1 2 (by decide)), if_neg (h1 3 (by decide)), if_pos (h2 (by decide))]
  · rw [if_neg (h1 0 (by decide)), if_neg (h1 1 (by decide)), if_neg (h1 2 (by decide)), if_neg (h1 3 (by decide)), if_neg (h1 4 (by decide))]
theorem chB_lt (w r : Nat → Nat) (K d f q : Nat) : chB w r K d f q < 6 := by unfold chB; repeat (first | decide | split)
theorem chM_lt (w r : Nat → Nat) (K d f : Nat) : chM w r K d f < 6 := by unfold chM; repeat (first | decide | split)
theorem chB_in {w r : Nat → Nat} (hw : Wok w) {K d f q : Nat} (hd : d < K) (h : q < Cx' w K r (K - d) f) : fC w r K d f (chB w r K d f q) ≤ q ∧ q < fC w r K d f (chB w r K d f q + 1) := by
  rw [Cx_f hw K d f hd] at h
  have m0 := fC_0 w r K d f
  unfold chB
  by_cases h1 : q < fC w r K d f 1
  · rw [if_pos h1]; exact ⟨by omega, h1⟩
  rw [if_neg h1]
  by_cases h2 : q < fC w r K d f 2
  · rw [if_pos h2]; exact ⟨by omega, h2⟩
  rw [if_neg h2]
  by_cases h3 : q < fC w r K d f 3
  · rw [if_pos h3]; exact ⟨by omega, h3⟩
  rw [if_neg h3]
  by_cases h4 : q < fC w r K d f 4
  · rw [if_pos h4]; exact ⟨by omega, h4⟩
  rw [if_neg h4]
  by_cases h5 : q < fC w r K d f 5
  · rw [if_pos h5]; exact ⟨by omega, h5⟩
  rw [if_neg h5]
  exact ⟨by omega, h⟩
theorem rt_step {w r : Nat → Nat} {K d f t : Nat} (h : 0 < rtN w r K d f t) : 0 < mv w K r f t d ∧ rtN w r K d f t = Cx' w K r (K - nx t d) t := by
  unfold rtN at h ⊢
  by_cases hm : 0 < mv w K r f t d
  · rw [if_pos hm]; exact ⟨hm, rfl⟩
  · rw [if_neg hm] at h; omega
/-- how far it may still be -/
def mu (K d f : Nat) : Nat := 3 * (K - d) - (if f = 4 then 1 else if f = 5 then 2 else 0)
theorem mu_step {w r : Nat → Nat} (hw : Wok w) {K d f t : Nat} (hd : d < K) (ht : t < 6) (hm : 0 < mv w K r f t d) : mu K (nx t d) t + 1 ≤ mu K d f := by
  unfold mu nx
  by_cases h4 : t < 4
  · rw [if_pos h4, if_neg (show ¬ t = 4 by omega), if_neg (show ¬ t = 5 by omega)]
    split
    · omega
    · split <;> omega
  · rw [if_neg h4]
    have h45 : t = 4 ∨ t = 5 := by omega
    rcases h45 with rfl | rfl
    · rw [if_pos rfl]
      by_cases f4 : f = 4
      · subst f4; rw [mv_44 hw] at hm; omega
      · by_cases f5 : f = 5
        · subst f5; rw [mv_54 hw] at hm; omega
        · rw [if_neg f4, if_neg f5]; omega
    · rw [if_neg (by decide), if_pos rfl]
      by_cases f5 : f = 5
      · subst f5; rw [mv_55 hw] at hm; omega
      · rw [if_neg f5]; split <;> omega
/-- ways as rows of places -/
def byN (w r : Nat → Nat) (K : Nat) : Nat → Nat → Nat → Nat → List Nat
  | 0, _, _, _ => []
  | u + 1, d, f, q => if d < K then chB w r K d f q :: byN w r K u (nx (chB w r K d f q) d) (chB w r K d f q) (q - fC w r K d f (chB w r K d f q)) else []
def byM (w r : Nat → Nat) (K : Nat) : Nat → Nat → Nat → List Nat
  | 0, _, _ => []
  | u + 1, d, f => if d < K then chM w r K d f :: byM w r K u (nx (chM w r K d f) d) (chM w r K d f) else []
def prN (w r : Nat → Nat) (K : Nat) : Nat → Nat → List Nat → Nat
  | _, _, [] => 1
  | d, f, t :: l => mv w K r f t d * prN w r K (nx t d) t l
def rkN (w r : Nat → Nat) (K : Nat) : Nat → Nat → List Nat → Nat
  | _, _, [] => 0
  | d, f, t :: l => fC w r K d f t + rkN w r K (nx t d) t l
abbrev wayN (w r : Nat → Nat) (K q : Nat) : List Nat := byN w r K 19 0 6 q
abbrev wayM (w r : Nat → Nat) (K : Nat) : List Nat := byM w r K 19 0 6
/-- what lies in the walk's cells -/
def Fol (l : List Nat) (P : Nat) (I : Ic) (L : Lc) : Prop := I 49 1 = nI l.length ∧ (∀ j, j < l.length → I 50 j = nI (l.getD j 0)) ∧ L 49 2 = lN P ∧ l.length ≤ 18
def FI (w r : Nat → Nat) (K way : Nat) (I0 : Ic) (L0 : Lc) (s d f q : Nat) (I : Ic) (L : Lc) : Prop :=
  (∃ (dn : List Nat) (P : Nat), wayN w r K way = dn ++ byN w r K (19 - s) d f q ∧ dn.length = s ∧ (∀ j, j < s → I 50 j = nI (dn.getD j 0)) ∧ L 49 2 = lN P ∧ P * prN w r K d f (byN w r K (19 - s) d f q) = prN w r K 0 6 (wayN w r K way)) ∧
  I 49 1 = nI s ∧ s + mu K d f ≤ 3 * K ∧ d ≤ K ∧ f ≤ 6 ∧ q < Cx' w K r (K - d) f ∧ (∀ a, a < 49 ∨ 50 < a → I a = I0 a) ∧ (∀ a, a < 49 ∨ 49 < a → L a = L0 a)
theorem FI_s {w r : Nat → Nat} (hw : Wok w) {K way s d f q t : Nat} {I0 I : Ic} {L0 L : Lc} (h : FI w r K way I0 L0 s d f q I L) (hK : K ≤ 6) (hd : d < K) (ht : t < 6) (h1 : fC w r K d f t ≤ q) (h2 : t < 5 → q < fC w r K d f (t + 1)) :
    FI w r K way I0 L0 (s + 1) (nx t d) t (q - fC w r K d f t) (up2 (up2 (up2 I 49 3 (nI (fC w r K d f t))) 50 s (nI t)) 49 1 (nI (s + 1))) (up2 L 49 2 (L 49 2 * lN (mv w K r f t d))) ∧ s < 18 := by
  obtain ⟨⟨dn, P, e1, e2, e3, e4, e5⟩, e6, e7, e8, e9, e10, e11, e12⟩ := h
  have ec : chB w r K d f q = t := chB_eq ht h1 h2
  have hin := chB_in hw hd e10
  rw [ec] at hin
  have hrt : q < fC w r K d f t + rtN w r K d f t := by rw [← fC_s]; exact hin.2
  have hst := rt_step (w := w) (r := r) (K := K) (d := d) (f := f) (t := t) (by omega)
  have hmu := mu_step hw hd ht hst.1
  have hmu1 : mu K d f ≤ 18 := by omega
  have hs : s < 18 := by omega
  have hfu : 19 - s = (19 - (s + 1)) + 1 := by omega
  have eb : byN w r K (19 - s) d f q = t :: byN w r K (19 - (s + 1)) (nx t d) t (q - fC w r K d f t) := by
    rw [hfu]
    show (if d < K then _ else _) = _
    rw [if_pos hd, ec]
  refine ⟨⟨⟨dn ++ [t], P * mv w K r f t d, ?_, ?_, fun j hj => ?_, ?_, ?_⟩, ?_, by omega, by unfold nx; split <;> omega, by omega, by rw [hst.2] at hrt; omega, fun a ha => ?_, fun a ha => ?_⟩, hs⟩
  · rw [e1, eb, List.append_assoc]; rfl
  · rw [List.length_append, e2]; rfl
  · rw [up2_at, if_neg (by omega), up2_at]
    by_cases ej : j = s
    · rw [if_pos ⟨rfl, ej⟩, ej, ← e2]; simp
    · rw [if_neg (by omega), up2_at, if_neg (by omega), e3 j (by omega)]
      simp [List.getElem?_append_left (show j < dn.length by omega)]
  · rw [up2_at, if_pos ⟨rfl, rfl⟩, e4, lN_mul]
  · rw [← e5, eb]
    show P * mv w K r f t d * prN w r K (nx t d) t _ = P * (mv w K r f t d * prN w r K (nx t d) t _)
    rw [Nat.mul_assoc]
  · rw [up2_at, if_pos ⟨rfl, rfl⟩]
  · rw [up2_ne (by omega), up2_ne (by omega), up2_ne (by omega)]; exact e11 a ha
  · rw [up2_ne (by omega)]; exact e12 a ha
theorem FI_e {w r : Nat → Nat} {K way s d f q : Nat} {I0 I : Ic} {L0 L : Lc} (h : FI w r K way I0 L0 s d f q I L) (hK : K ≤ 6) (hd : K ≤ d) : Fol (wayN w r K way) (prN w r K 0 6 (wayN w r K way)) I L := by
  obtain ⟨⟨dn, P, e1, e2, e3, e4, e5⟩, e6, e7, e8, e9, e10, e11, e12⟩ := h
  have eb : byN w r K (19 - s) d f q = [] := by
    cases hu : 19 - s with
    | zero => rfl
    | succ u => show (if d < K then _ else _) = _; rw [if_neg (by omega)]
  rw [eb, List.append_nil] at e1
  rw [eb] at e5
  have e5' : P * 1 = prN w r K 0 6 (wayN w r K way) := e5
  refine ⟨by rw [e1, e2]; exact e6, fun j hj => ?_, by rw [← e5', Nat.mul_one]; exact e4, by rw [e1, e2]; omega⟩
  rw [e1] at hj ⊢
  exact e3 j (by omega)
theorem FI_0 {w r : Nat → Nat} {K way : Nat} {I0 I : Ic} {L0 L : Lc} (hway : way < Cx' w K r K 6) (hI : I 49 1 = nI 0) (hL : L 49 2 = lN 1) (h1 : ∀ a, a < 49 ∨ 50 < a → I a = I0 a) (h2 : ∀ a, a < 49 ∨ 49 < a → L a = L0 a) : FI w r K way I0 L0 0 0 6 way I L :=
  ⟨⟨[], 1, rfl, rfl, fun j hj => absurd hj (by omega), hL, Nat.one_mul _⟩, hI, by unfold mu; simp, Nat.zero_le K, by decide, hway, h1, h2⟩
def tellS (l : List Nat) (x : Int32) : Int32 := if x = -1 then nI l.length else match rng x l.length with | some j => nI (l.getD j 0) | none => -6
theorem up2_up2 {α : Type} {f : Nat → Nat → α} {a j : Nat} {x y : α} : up2 (up2 f a j x) a j y = up2 f a j y := by
  funext b
  by_cases hb : b = a
  · subst hb
    funext q
    rw [up2_at, up2_at, up2_at]
    by_cases hq : q = j
    · rw [if_pos ⟨rfl, hq⟩, if_pos ⟨rfl, hq⟩]
    · rw [if_neg (fun z => hq z.2), if_neg (fun z => hq z.2), if_neg (fun z => hq z.2)]
  · rw [up2_ne hb, up2_ne hb, up2_ne hb]
theorem FI_lt {w r : Nat → Nat} {K way s d f q : Nat} {I0 I : Ic} {L0 L : Lc} (h : FI w r K way I0 L0 s d f q I L) (hK : K ≤ 6) (hd : d < K) : s < 18 := by
  have h7 := h.2.2.1
  have : 1 ≤ mu K d f := by unfold mu; split; omega; split <;> omega
  omega
def GI (w r : Nat → Nat) (K s d f a : Nat) : Prop := a + rkN w r K d f (byM w r K (19 - s) d f) = rkN w r K 0 6 (wayM w r K) ∧ s + mu K d f ≤ 3 * K ∧ d ≤ K ∧ f ≤ 6 ∧ 0 < Cx' w K r (K - d) f
theorem GI_lt {w r : Nat → Nat} {K s d f a : Nat} (h : GI w r K s d f a) (hK : K ≤ 6) (hd : d < K) : s < 18 := by
  have h7 := h.2.1
  have : 1 ≤ mu K d f := by unfold mu; split; omega; split <;> omega
  omega
theorem fM_ex (w r : Nat → Nat) (K d f : Nat) : ∀ i, fM w r K d f i = 0 ∨ ∃ t, t < i ∧ 0 < mv w K r f t d ∧ mv w K r f t d * Mx' w K r (K - nx t d) t = fM w r K d f i
  | 0 => Or.inl rfl
  | i + 1 => by
    by_cases hm : 0 < mv w K r f i d
    · rw [fM_p hm]
      by_cases hx : fM w r K d f i ≤ mv w K r f i d * Mx' w K r (K - nx i d) i
      · rw [Nat.max_eq_right hx]; exact Or.inr ⟨i, by omega, hm, rfl⟩
      · rw [Nat.max_eq_left (by omega)]
        rcases fM_ex w r K d f i with h | ⟨t, h1, h2, h3⟩
        · exact Or.inl h
        · exact Or.inr ⟨t, by omega, h2, h3⟩
    · rw [fM_n (by omega)]
      rcases fM_ex w r K d f i with h | ⟨t, h1, h2, h3⟩
      · exact Or.inl h
      · exact Or.inr ⟨t, by omega, h2, h3⟩
theorem chM_ok {w r : Nat → Nat} (hw : Wok w) {K d f : Nat} (hd : d < K) (h : 0 < Cx' w K r (K - d) f) : okM w r K d f (chM w r K d f) = true := by
  have hM : 0 < Mx' w K r (K - d) f := (AxM_pos K r (K - d) f).mpr ((AxC_pos K r (K - d) f).mp h)
  have e := Mx_f hw K d f hd (r := r)
  rcases fM_ex w r K d f 6 with h0 | ⟨t, h1, h2, h3⟩
  · omega
  · have h4 : 0 < mv w K r f t d * Mx' w K r (K - nx t d) t := by omega
    have h5 : 0 < Mx' w K r (K - nx t d) t := Nat.pos_of_mul_pos_left h4
    have h6 : 0 < Cx' w K r (K - nx t d) t := (AxC_pos K r _ t).mpr ((AxM_pos K r _ t).mp h5)
    have hok : okM w r K d f t = true := okM_iff.mpr ⟨by unfold rtN; rw [if_pos h2]; exact h6, by rw [h3, e]⟩
    unfold chM
    by_cases k0 : okM w r K d f 0 = true
    · rw [if_pos k0]; exact k0
    rw [if_neg k0]
    by_cases k1 : okM w r K d f 1 = true
    · rw [if_pos k1]; exact k1
    rw [if_neg k1]
    by_cases k2 : okM w r K d f 2 = true
    · rw [if_pos k2]; exact k2
    rw [if_neg k2]
    by_cases k3 : okM w r K d f 3 = true
    · rw [if_pos k3]; exact k3
    rw [if_neg k3]
    by_cases k4 : okM w r K d f 4 = true
    · rw [if_pos k4]; exact k4
    rw [if_neg k4]
    have hc : t = 0 ∨ t = 1 ∨ t = 2 ∨ t = 3 ∨ t = 4 ∨ t = 5 := by omega
    rcases hc with rfl | rfl | rfl | rfl | rfl | rfl
    · exact absurd hok k0
    · exact absurd hok k1
    · exact absurd hok k2
    · exact absurd hok k3
    · exact absurd hok k4
    · exact hok
theorem GI_s {w r : Nat → Nat} (hw : Wok w) {K s d f a t : Nat} (h : GI w r K s d f a) (hK : K ≤ 6) (hd : d < K) (ht : t < 6) (h1 : ∀ i, i < t → ¬ okM w r K d f i = true) (h2 : t < 5 → okM w r K d f t = true) : GI w r K (s + 1) (nx t d) t (a + fC w r K d f t) := by
  have hs := GI_lt h hK hd
  obtain ⟨e1, e2, e3, e4, e5⟩ := h
  have ec : chM w r K d f = t := chM_eq ht h1 h2
  have hok := chM_ok hw hd e5
  rw [ec] at hok
  have hrt := (okM_iff.mp hok).1
  have hst := rt_step hrt
  have hmu := mu_step hw hd ht hst.1
  have hfu : 19 - s = (19 - (s + 1)) + 1 := by omega
  have eb : byM w r K (19 - s) d f = t :: byM w r K (19 - (s + 1)) (nx t d) t := by
    rw [hfu]
    show (if d < K then _ else _) = _
    rw [if_pos hd, ec]
  refine ⟨?_, by omega, by unfold nx; split <;> omega, by omega, by rw [← hst.2]; exact hrt⟩
  rw [← e1, eb]
  show a + fC w r K d f t + rkN w r K (nx t d) t _ = a + (fC w r K d f t + rkN w r K (nx t d) t _)
  rw [Nat.add_assoc]
theorem GI_e {w r : Nat → Nat} {K s d f a : Nat} (h : GI w r K s d f a) (hd : K ≤ d) : a = rkN w r K 0 6 (wayM w r K) := by
  have e1 := h.1
  have eb : byM w r K (19 - s) d f = [] := by
    cases hu : 19 - s with
    | zero => rfl
    | succ u => show (if d < K then _ else _) = _; rw [if_neg (by omega)]
  rw [eb] at e1
  have : a + 0 = rkN w r K 0 6 (wayM w r K) := e1
  omega
theorem GI_0 {w r : Nat → Nat} {K : Nat} (h : 0 < Cx' w K r K 6) : GI w r K 0 0 6 0 := ⟨Nat.zero_add _, by unfold mu; simp, Nat.zero_le K, by decide, h⟩
theorem tell_s {l : List Nat} {x : Int32} {j : Nat} (h : j < l.length) (hl : l.length ≤ 18) (hx : x = nI j) : tellS l x = nI (l.getD j 0) := by
  subst hx
  unfold tellS
  have hne : ¬ nI j = -1 := fun q => by
    have h1 := congrArg Int32.toInt q
    rw [nI_toInt (by omega), i_m1] at h1
    omega
  rw [if_neg hne, rng_nI h (by omega)]
theorem tell_n {l : List Nat} {x : Int32} (h1 : ¬ x = -1) (h : rng x l.length = none) : tellS l x = -6 := by
  unfold tellS
  rw [if_neg h1, h]
theorem tell_m (l : List Nat) : tellS l (-1) = nI l.length := if_pos rfl
end
section
set_option maxRecDepth 100000 in
set_option maxHeartbeats 4000000 in
theorem k_rtN (l : Launch) (G : Gx) (n : Nat) (ad : Nat → Nat) (sz : Nat) (I : Ic) (L : Lc) (R : Rc) (d f t : Nat) (w : Nat → Nat) (K : Nat) (ro : Nat → Nat) (hn : 83 ≤ n) (hlk : LkOK n R) (hM : MdI I w K ro) (hMs : Meas w ro K I L) (hd : d < K) (hf : f ≤ 6) (ht : t < 6) : Met l yX4_restsThrough (Cond.code yX4_restsThrough cX4_restsThrough 6 (some .int) :: GW) ({ frames := 2, cells := 0, slots := 0, locals := 72 } : Room) (qPre G n ad sz I L R [.ref (ad 1), .ref (ad 8), .int (nI (d)), .int (nI (f)), .int (nI (t))]) (qI0 G (qA n ad sz) (n, ad, I, L, R) (fun z => z = nI (rtN w ro K d f t))) 0 0 (qA n ad sz) := by
  refine q_met (by decide) (Nat.le_of_ble_eq_true rfl) ?_
  intro p e s m below meth c hC hr hlk0 hin hsz hW ls hl
  subst hsz
  have hC : CallFix p m c cX4_restsThrough 6 s ([.ref (ad 1), .ref (ad 8), .int (nI (d)), .int (nI (f)), .int (nI (t))] : List Value).toArray GW "CoinRows$Walk" := hC
  have hx := hC.1
  have hb := hC.2.1
  have hk6 : K ≤ 6 := hM.2.2.2.1
  have hw3 : ∀ i, w i ≤ 3 := hM.2.2.2.2.1.1
  have hr4 : ∀ j, ro j < 4 := hM.2.2.2.2.2
  have hmv := mv_le hM.2.2.2.2.1 K ro f t d
  have hl : lv_has ls 6 [(0, .ref (ad 1)), (1, .ref (ad 8)), (2, .int (nI (d))), (3, .int (nI (f))), (4, .int (nI (t)))] := hl
  refine lv_iload hx hb dX4_restsThrough_0 (lv_at hl 4 rfl) ?_
  refine q_ic 4 hx hb dX4_restsThrough_2 (by decide) ?_
  refine q_cge (tgt := 12) hx hb dX4_restsThrough_3 (by decide) (by first | omega | exact Nat.lt_of_le_of_lt (hw3 _) (by decide)) (by first | omega | exact Nat.lt_of_le_of_lt (hw3 _) (by decide)) (fun c_3 => ?_) (fun c_3 => ?_)
  ·
    refine lv_iload_n hx hb dX4_restsThrough_12 rfl (lv_at hl 2 rfl) ?_
    refine lv_istore (lv' := [(5, .int (nI (d))), (0, .ref (ad 1)), (1, .ref (ad 8)), (2, .int (nI (d))), (3, .int (nI (f))), (4, .int (nI (t)))]) hx hb dX4_restsThrough_13 hl (by decide) rfl (fun ls hl => ?_)
    refine lv_aload_n hx hb dX4_restsThrough_15 rfl (lv_at hl 1 rfl) ?_
    refine lv_iload_n hx hb dX4_restsThrough_16 rfl (lv_at hl 4 rfl) ?_
    refine lv_iload hx hb dX4_restsThrough_17 (lv_at hl 5 rfl) ?_
    refine lv_iload_n hx hb dX4_restsThrough_19 rfl (lv_at hl 3 rfl) ?_
    refine q_kI0 (q_rV (As := [.int (nI (f)), .int (nI (t)), .int (nI (d))]) (rest := []) (x := 1) hC hW mw_X0_moveWeight gw_381 (k_moveWeight l G n ad s.heap.size I L R _ _ _ w K ro hn hlk hM (by omega) (by omega) (by omega)) (by omega) (ct_o0 kd_1) rfl ⟨rfl, rfl⟩ ⟨Nat.le_of_ble_eq_true rfl, Nat.le_of_ble_eq_true rfl⟩ ⟨Nat.le_of_ble_eq_true rfl, Nat.le_of_ble_eq_true rfl⟩ hl.1 rfl rfl (Nat.le_of_ble_eq_true rfl) dX4_restsThrough_20) hW (fun r_20 H locs hp hW => ?_)
    subst hp
    refine q_ile (tgt := 39) hx hb dX4_restsThrough_23 (by decide) (by first | omega | exact Nat.lt_of_le_of_lt (hw3 _) (by decide)) (fun c_23 => ?_) (fun c_23 => ?_)
    ·
      refine q_ic 0 hx hb dX4_restsThrough_39 (by decide) ?_
      exact q_iret0 hC hW hr hlk0 (by unfold rtN; rw [if_neg (by omega)]) dX4_restsThrough_40
    ·
      refine lv_aload_n hx hb dX4_restsThrough_26 rfl (lv_at hl 2 rfl) ?_
      refine g_2_4 (x := 8) (y := 41) hC hW (by omega) kd_8 gw_87 (hlk 8 4 41 (by omega) rfl) dX4_restsThrough_27 ?_
      refine lv_iload hx hb dX4_restsThrough_30 (lv_at hl 0 rfl) ?_
      refine q_aald6 (x := 41) (i := d) (y := 42 + d) hC hW (by omega) kd_41 (by omega) (lk_row41 hlk (by omega) (by omega)) dX4_restsThrough_32 ?_
      refine lv_iload hx hb dX4_restsThrough_33 (lv_at hl 5 rfl) ?_
      refine q_iald (x := (42 + d)) (i := t) hC hW (by omega) (kd_r42 (by omega)) (by omega) dX4_restsThrough_35 ?_
      refine q_top (v2 := .int (nI (Cx' w K ro (K - d) t))) (congrArg _ (hMs.2.2.1 d t (by omega) (by omega)).2.2) ?_
      refine lv_goto (tgt := 40) hx hb dX4_restsThrough_36 (by decide) ?_
      exact q_iret0 hC hW hr hlk0 (by unfold rtN nx; rw [if_pos (by omega), if_neg (show ¬ t < 4 by omega)]) dX4_restsThrough_40
  ·
    refine lv_iload_n hx hb dX4_restsThrough_6 rfl (lv_at hl 2 rfl) ?_
    refine q_ic 1 hx hb dX4_restsThrough_7 (by decide) ?_
    refine q_iadd hx hb dX4_restsThrough_8 ?_
    refine lv_goto (tgt := 13) hx hb dX4_restsThrough_9 (by decide) ?_
    refine lv_istore (lv' := [(5, .int (nI (d + 1))), (0, .ref (ad 1)), (1, .ref (ad 8)), (2, .int (nI (d))), (3, .int (nI (f))), (4, .int (nI (t)))]) hx hb dX4_restsThrough_13 hl (by decide) rfl (fun ls hl => ?_)
    refine lv_aload_n hx hb dX4_restsThrough_15 rfl (lv_at hl 1 rfl) ?_
    refine lv_iload_n hx hb dX4_restsThrough_16 rfl (lv_at hl 4 rfl) ?_
    refine lv_iload hx hb dX4_restsThrough_17 (lv_at hl 5 rfl) ?_
    refine lv_iload_n hx hb dX4_restsThrough_19 rfl (lv_at hl 3 rfl) ?_
    refine q_kI0 (q_rV (As := [.int (nI (f)), .int (nI (t)), .int (nI (d))]) (rest := []) (x := 1) hC hW mw_X0_moveWeight gw_381 (k_moveWeight l G n ad s.heap.size I L R _ _ _ w K ro hn hlk hM (by omega) (by omega) (by omega)) (by omega) (ct_o0 kd_1) rfl ⟨rfl, rfl⟩ ⟨Nat.le_of_ble_eq_true rfl, Nat.le_of_ble_eq_true rfl⟩ ⟨Nat.le_of_ble_eq_true rfl, Nat.le_of_ble_eq_true rfl⟩ hl.1 rfl rfl (Nat.le_of_ble_eq_true rfl) dX4_restsThrough_20) hW (fun r_20 H locs hp hW => ?_)
    subst hp
    refine q_ile (tgt := 39) hx hb dX4_restsThrough_23 (by decide) (by first | omega | exact Nat.lt_of_le_of_lt (hw3 _) (by decide)) (fun c_23 => ?_) (fun c_23 => ?_)
    ·
      refine q_ic 0 hx hb dX4_restsThrough_39 (by decide) ?_
      exact q_iret0 hC hW hr hlk0 (by unfold rtN; rw [if_neg (by omega)]) dX4_restsThrough_40
    ·
      refine lv_aload_n hx hb dX4_restsThrough_26 rfl (lv_at hl 2 rfl) ?_
      refine g_2_4 (x := 8) (y := 41) hC hW (by omega) kd_8 gw_87 (hlk 8 4 41 (by omega) rfl) dX4_restsThrough_27 ?_
      refine lv_iload hx hb dX4_restsThrough_30 (lv_at hl 0 rfl) ?_
      refine q_aald6 (x := 41) (i := d + 1) (y := 42 + (d + 1)) hC hW (by omega) kd_41 (by omega) (lk_row41 hlk (by omega) (by omega)) dX4_restsThrough_32 ?_
      refine lv_iload hx hb dX4_restsThrough_33 (lv_at hl 5 rfl) ?_
      refine q_iald (x := (42 + (d + 1))) (i := t) hC hW (by omega) (kd_r42 (by omega)) (by omega) dX4_restsThrough_35 ?_
      refine q_top (v2 := .int (nI (Cx' w K ro (K - (d + 1)) t))) (congrArg _ (hMs.2.2.1 (d + 1) t (by omega) (by omega)).2.2) ?_
      refine lv_goto (tgt := 40) hx hb dX4_restsThrough_36 (by decide) ?_
      exact q_iret0 hC hW hr hlk0 (by unfold rtN nx; rw [if_pos (by omega), if_pos (show t < 4 by omega)]) dX4_restsThrough_40
set_option maxRecDepth 100000 in
set_option maxHeartbeats 4000000 in
theorem k_chB (l : Launch) (G : Gx) (n : Nat) (ad : Nat → Nat) (sz : Nat) (I : Ic) (L : Lc) (R : Rc) (d f q : Nat) (w : Nat → Nat) (K : Nat) (ro : Nat → Nat) (hn : 83 ≤ n) (hlk : LkOK n R) (hM : MdI I w K ro) (hMs : Meas w ro K I L) (hd : d < K) (hf : f ≤ 6) (hq : q < Cx' w K ro (K - d) f) : Met l yX4_chooseByNumber (Cond.code yX4_chooseByNumber cX4_chooseByNumber 8 (some .int) :: GW) ({ frames := 3, cells := 0, slots := 0, locals := 108 } : Room) (qPre G n ad sz I L R [.ref (ad 49), .ref (ad 1), .ref (ad 8), .int (nI (d)), .int (nI (f)), .int (nI (q))]) (qI1 G (qA n ad sz) n ad R (fun z I1 L1 => ∃ t, t < 6 ∧ z = nI t ∧ I1 = up2 I 49 3 (nI (fC w ro K d f t)) ∧ L = L1 ∧ fC w ro K d f t ≤ q ∧ (t < 5 → q < fC w ro K d f (t + 1)))) 0 0 (qA n ad sz) := by
  refine q_met (by decide) (Nat.le_of_ble_eq_true rfl) ?_
  intro p e s m below meth c hC hr hlk0 hin hsz hW ls hl
  subst hsz
  have hC : CallFix p m c cX4_chooseByNumber 8 s ([.ref (ad 49), .ref (ad 1), .ref (ad 8), .int (nI (d)), .int (nI (f)), .int (nI (q))] : List Value).toArray GW "CoinRows$Walk" := hC
  have hx := hC.1
  have hb := hC.2.1
  have hk6 : K ≤ 6 := hM.2.2.2.1
  have hw3 : ∀ i, w i ≤ 3 := hM.2.2.2.2.1.1
  have hr4 : ∀ j, ro j < 4 := hM.2.2.2.2.2
  have hCb := Cx_b hM.2.2.2.2.1 (r := ro) K (K - d) f (by omega)
  have hl : lv_has ls 8 [(0, .ref (ad 49)), (1, .ref (ad 1)), (2, .ref (ad 8)), (3, .int (nI (d))), (4, .int (nI (f))), (5, .int (nI (q)))] := hl
  refine lv_aload_n hx hb dX4_chooseByNumber_0 rfl (lv_at hl 0 rfl) ?_
  refine q_ic 0 hx hb dX4_chooseByNumber_1 (by decide) ?_
  refine p_4_3 (x := 49) (v := nI 0) hC hW (by omega) kd_49 gw_110 dX4_chooseByNumber_2 (fun H locs hW => ?_)
  refine q_ic 0 hx hb dX4_chooseByNumber_5 (by decide) ?_
  refine lv_istore (lv' := [(6, .int (nI 0)), (0, .ref (ad 49)), (1, .ref (ad 1)), (2, .ref (ad 8)), (3, .int (nI (d))), (4, .int (nI (f))), (5, .int (nI (q)))]) hx hb dX4_chooseByNumber_6 hl (by decide) rfl (fun ls hl => ?_)
  have lp_8 : ∀ (fu_8 : Nat) (i : Nat), 5 - i < fu_8 → (i ≤ 5) → (fC w ro K d f i ≤ q) → ∀ (H : Heap) (locs : List Loc), Wd G n ad (up2 I 49 3 (nI (fC w ro K d f i))) L R (qA n ad s.heap.size) s.heap H locs s → ∀ ls : Array Slot, lv_has ls 8 [(0, .ref (ad 49)), (1, .ref (ad 1)), (2, .ref (ad 8)), (3, .int (nI (d))), (4, .int (nI (f))), (5, .int (nI (q))), (6, .int (nI (i)))] → W p l e ({ frames := 3, cells := 0, slots := 0, locals := 108 } : Room) s m ([.ref (ad 49), .ref (ad 1), .ref (ad 8), .int (nI (d)), .int (nI (f)), .int (nI (q))] : List Value).toArray below meth c H locs 0 0 (MQ below (qI1 G (qA n ad s.heap.size) n ad R (fun z I1 L1 => ∃ t, t < 6 ∧ z = nI t ∧ I1 = up2 I 49 3 (nI (fC w ro K d f t)) ∧ L = L1 ∧ fC w ro K d f t ≤ q ∧ (t < 5 → q < fC w ro K d f (t + 1)))) ([.ref (ad 49), .ref (ad 1), .ref (ad 8), .int (nI (d)), .int (nI (f)), .int (nI (q))] : List Value).toArray s 0 0 (qA n ad s.heap.size)) (F0 m 8 ls []) := by
    intro fu_8
    induction fu_8 with
    | zero =>
      intro i hm; exact absurd hm (Nat.not_lt_zero _)
    | succ fu_8 ih_8 =>
      intro i hm_8 hi hc H locs hW ls hl
      have hM1 : MdI (up2 I 49 3 (nI (fC w ro K d f i))) w K ro := MdI_lo hM (fun a ha => up2_ne (by omega))
      have hMs1 : Meas w ro K (up2 I 49 3 (nI (fC w ro K d f i))) L := Meas_lo hMs hk6 (fun a ha => up2_ne (by omega)) (fun _ _ => rfl)
      have hfb := fC_b hM.2.2.2.2.1 (r := ro) (d := d) (f := f) hk6 i
      have hrb := rtN_b hM.2.2.2.2.1 (r := ro) (d := d) (f := f) (t := i) hk6
      refine lv_iload hx hb dX4_chooseByNumber_8 (lv_at hl 6 rfl) ?_
      refine q_ic 5 hx hb dX4_chooseByNumber_10 (by decide) ?_
      refine q_cge (tgt := 58) hx hb dX4_chooseByNumber_11 (by decide) (by first | omega | exact Nat.lt_of_le_of_lt (hw3 _) (by decide)) (by first | omega | exact Nat.lt_of_le_of_lt (hw3 _) (by decide)) (fun c_11 => ?_) (fun c_11 => ?_)
      ·
        refine q_ic 5 hx hb dX4_chooseByNumber_58 (by decide) ?_
        exact q_iret1 hC hW hr hlk0 ⟨5, by decide, rfl, by rw [show i = 5 by omega], rfl, by rw [show (5 : Nat) = i by omega]; exact hc, fun h => absurd h (by decide)⟩ dX4_chooseByNumber_59
      ·
        refine lv_aload_n hx hb dX4_chooseByNumber_14 rfl (lv_at hl 1 rfl) ?_
        refine lv_aload_n hx hb dX4_chooseByNumber_15 rfl (lv_at hl 2 rfl) ?_
        refine lv_iload_n hx hb dX4_chooseByNumber_16 rfl (lv_at hl 3 rfl) ?_
        refine lv_iload hx hb dX4_chooseByNumber_17 (lv_at hl 4 rfl) ?_
        refine lv_iload hx hb dX4_chooseByNumber_19 (lv_at hl 6 rfl) ?_
        refine q_kI0 (q_rS (As := [.ref (ad 1), .ref (ad 8), .int (nI (d)), .int (nI (f)), .int (nI (i))]) (rest := []) hC hW mw_X4_restsThrough gw_378 (k_rtN l G n ad H.size (up2 I 49 3 (nI (fC w ro K d f i))) L R _ _ _ w K ro hn hlk hM1 hMs1 (by omega) (by omega) (by omega)) ⟨rfl, rfl⟩ ⟨Nat.le_of_ble_eq_true rfl, Nat.le_of_ble_eq_true rfl⟩ ⟨Nat.le_of_ble_eq_true rfl, Nat.le_of_ble_eq_true rfl⟩ hl.1 rfl rfl (Nat.le_of_ble_eq_true rfl) dX4_chooseByNumber_21) hW (fun r_21 H locs hp hW => ?_)
        subst hp
        refine lv_istore (lv' := [(7, .int (nI (rtN w ro K d f i))), (0, .ref (ad 49)), (1, .ref (ad 1)), (2, .ref (ad 8)), (3, .int (nI (d))), (4, .int (nI (f))), (5, .int (nI (q))), (6, .int (nI (i)))]) hx hb dX4_chooseByNumber_24 hl (by decide) rfl (fun ls hl => ?_)
        refine lv_iload hx hb dX4_chooseByNumber_26 (lv_at hl 6 rfl) ?_
        refine lv_aload_n hx hb dX4_chooseByNumber_28 rfl (lv_at hl 1 rfl) ?_
        refine g_4_3 (x := 49) hC hW (by omega) kd_49 gw_110 dX4_chooseByNumber_29 ?_
        refine q_top (v2 := .int (nI (fC w ro K d f i))) (congrArg _ (by rw [up2_at, if_pos ⟨rfl, rfl⟩])) ?_
        refine lv_iload hx hb dX4_chooseByNumber_32 (lv_at hl 0 rfl) ?_
        refine q_iadd hx hb dX4_chooseByNumber_34 ?_
        refine q_cge (tgt := 41) hx hb dX4_chooseByNumber_35 (by decide) (by first | omega | exact Nat.lt_of_le_of_lt (hw3 _) (by decide)) (by first | omega | exact Nat.lt_of_le_of_lt (hw3 _) (by decide)) (fun c_35 => ?_) (fun c_35 => ?_)
        ·
          refine lv_aload_n hx hb dX4_chooseByNumber_41 rfl (lv_at hl 1 rfl) ?_
          refine lv_dup hx hb dX4_chooseByNumber_42 rfl ?_
          refine g_4_3 (x := 49) hC hW (by omega) kd_49 gw_110 dX4_chooseByNumber_43 ?_
          refine q_top (v2 := .int (nI (fC w ro K d f i))) (congrArg _ (by rw [up2_at, if_pos ⟨rfl, rfl⟩])) ?_
          refine lv_iload hx hb dX4_chooseByNumber_46 (lv_at hl 0 rfl) ?_
          refine q_iadd hx hb dX4_chooseByNumber_48 ?_
          refine p_4_3 (x := 49) (v := nI ((fC w ro K d f i) + (rtN w ro K d f i))) hC hW (by omega) kd_49 gw_110 dX4_chooseByNumber_49 (fun H locs hW => ?_)
          refine q_iinc (z2 := i + 1) (lv' := [(6, .int (nI (i + 1))), (7, .int (nI (rtN w ro K d f i))), (0, .ref (ad 49)), (1, .ref (ad 1)), (2, .ref (ad 8)), (3, .int (nI (d))), (4, .int (nI (f))), (5, .int (nI (q)))]) hx hb dX4_chooseByNumber_52 hl (k := 7) rfl (inc_up _ 1 (by decide)) (by decide) rfl (fun ls hl => ?_)
          refine lv_goto (tgt := 8) hx hb dX4_chooseByNumber_55 (by decide) ?_
          rw [up2_up2, ← fC_s] at hW
          exact ih_8 (i + 1) (by omega) (by omega) (by rw [fC_s]; omega) _ _ hW _ (lv_sub hl [2, 3, 4, 5, 6, 7, 0] rfl)
        ·
          refine lv_iload hx hb dX4_chooseByNumber_38 (lv_at hl 7 rfl) ?_
          exact q_iret1 hC hW hr hlk0 ⟨i, by omega, rfl, rfl, rfl, hc, fun _ => by rw [fC_s]; exact c_35⟩ dX4_chooseByNumber_40
  exact lp_8 (5 + 1) 0 (by omega) (by omega) (Nat.zero_le _) _ _ hW _ (lv_sub hl [1, 2, 3, 4, 5, 6, 0] rfl)
set_option maxRecDepth 100000 in
set_option maxHeartbeats 4000000 in
theorem k_chM (l : Launch) (G : Gx) (n : Nat) (ad : Nat → Nat) (sz : Nat) (I : Ic) (L : Lc) (R : Rc) (d f : Nat) (w : Nat → Nat) (K : Nat) (ro : Nat → Nat) (hn : 83 ≤ n) (hlk : LkOK n R) (hM : MdI I w K ro) (hMs : Meas w ro K I L) (hd : d < K) (hf : f ≤ 6) : Met l yX4_chooseBest (Cond.code yX4_chooseBest cX4_chooseBest 10 (some .int) :: GW) ({ frames := 3, cells := 0, slots := 0, locals := 108 } : Room) (qPre G n ad sz I L R [.ref (ad 49), .ref (ad 1), .ref (ad 8), .int (nI (d)), .int (nI (f))]) (qI1 G (qA n ad sz) n ad R (fun z I1 L1 => ∃ t, t < 6 ∧ z = nI t ∧ I1 = up2 I 49 3 (nI (fC w ro K d f t)) ∧ L = L1 ∧ (∀ i, i < t → ¬ okM w ro K d f i = true) ∧ (t < 5 → okM w ro K d f t = true))) 0 0 (qA n ad sz) := by
  refine q_met (by decide) (Nat.le_of_ble_eq_true rfl) ?_
  intro p e s m below meth c hC hr hlk0 hin hsz hW ls hl
  subst hsz
  have hC : CallFix p m c cX4_chooseBest 10 s ([.ref (ad 49), .ref (ad 1), .ref (ad 8), .int (nI (d)), .int (nI (f))] : List Value).toArray GW "CoinRows$Walk" := hC
  have hx := hC.1
  have hb := hC.2.1
  have hk6 : K ≤ 6 := hM.2.2.2.1
  have hw3 : ∀ i, w i ≤ 3 := hM.2.2.2.2.1.1
  have hr4 : ∀ j, ro j < 4 := hM.2.2.2.2.2
  have hl : lv_has ls 10 [(0, .ref (ad 49)), (1, .ref (ad 1)), (2, .ref (ad 8)), (3, .int (nI (d))), (4, .int (nI (f)))] := hl
  refine lv_aload_n hx hb dX4_chooseBest_0 rfl (lv_at hl 0 rfl) ?_
  refine q_ic 0 hx hb dX4_chooseBest_1 (by decide) ?_
  refine p_4_3 (x := 49) (v := nI 0) hC hW (by omega) kd_49 gw_110 dX4_chooseBest_2 (fun H locs hW => ?_)
  refine q_ic 0 hx hb dX4_chooseBest_5 (by decide) ?_
  refine lv_istore (lv' := [(5, .int (nI 0)), (0, .ref (ad 49)), (1, .ref (ad 1)), (2, .ref (ad 8)), (3, .int (nI (d))), (4, .int (nI (f)))]) hx hb dX4_chooseBest_6 hl (by decide) rfl (fun ls hl => ?_)
  have lp_8 : ∀ (fu_8 : Nat) (i : Nat), 5 - i < fu_8 → (i ≤ 5) → (∀ j, j < i → ¬ okM w ro K d f j = true) → ∀ (H : Heap) (locs : List Loc), Wd G n ad (up2 I 49 3 (nI (fC w ro K d f i))) L R (qA n ad s.heap.size) s.heap H locs s → ∀ ls : Array Slot, lv_has ls 10 [(0, .ref (ad 49)), (1, .ref (ad 1)), (2, .ref (ad 8)), (3, .int (nI (d))), (4, .int (nI (f))), (5, .int (nI (i)))] → W p l e ({ frames := 3, cells := 0, slots := 0, locals := 108 } : Room) s m ([.ref (ad 49), .ref (ad 1), .ref (ad 8), .int (nI (d)), .int (nI (f))] : List Value).toArray below meth c H locs 0 0 (MQ below (qI1 G (qA n ad s.heap.size) n ad R (fun z I1 L1 => ∃ t, t < 6 ∧ z = nI t ∧ I1 = up2 I 49 3 (nI (fC w ro K d f t)) ∧ L = L1 ∧ (∀ i, i < t → ¬ okM w ro K d f i = true) ∧ (t < 5 → okM w ro K d f t = true))) ([.ref (ad 49), .ref (ad 1), .ref (ad 8), .int (nI (d)), .int (nI (f))] : List Value).toArray s 0 0 (qA n ad s.heap.size)) (F0 m 8 ls []) := by
    intro fu_8
    induction fu_8 with
    | zero =>
      intro i hm; exact absurd hm (Nat.not_lt_zero _)
    | succ fu_8 ih_8 =>
      intro i hm_8 hi hno H locs hW ls hl
      have hM1 : MdI (up2 I 49 3 (nI (fC w ro K d f i))) w K ro := MdI_lo hM (fun a ha => up2_ne (by omega))
      have hMs1 : Meas w ro K (up2 I 49 3 (nI (fC w ro K d f i))) L := Meas_lo hMs hk6 (fun a ha => up2_ne (by omega)) (fun _ _ => rfl)
      have hmv := mv_le hM.2.2.2.2.1 K ro f i d
      have hrb := rtN_b hM.2.2.2.2.1 (r := ro) (d := d) (f := f) (t := i) hk6
      have hb1 := mM_lt hM.2.2.2.2.1 (r := ro) K d f i hk6
      have hb2 : Mx' w K ro (K - d) f < 2 ^ 63 := Nat.lt_of_le_of_lt (Mx_b hM.2.2.2.2.1 (r := ro) K (K - d) f (by omega)) (by decide)
      refine lv_iload hx hb dX4_chooseBest_8 (lv_at hl 5 rfl) ?_
      refine q_ic 5 hx hb dX4_chooseBest_10 (by decide) ?_
      refine q_cge (tgt := 104) hx hb dX4_chooseBest_11 (by decide) (by first | omega | exact Nat.lt_of_le_of_lt (hw3 _) (by decide)) (by first | omega | exact Nat.lt_of_le_of_lt (hw3 _) (by decide)) (fun c_11 => ?_) (fun c_11 => ?_)
      ·
        refine q_ic 5 hx hb dX4_chooseBest_104 (by decide) ?_
        exact q_iret1 hC hW hr hlk0 ⟨5, by decide, rfl, by rw [show i = 5 by omega], rfl, fun j hj => hno j (by omega), fun h => absurd h (by decide)⟩ dX4_chooseBest_105
      ·
        refine lv_aload_n hx hb dX4_chooseBest_14 rfl (lv_at hl 1 rfl) ?_
        refine lv_aload_n hx hb dX4_chooseBest_15 rfl (lv_at hl 2 rfl) ?_
        refine lv_iload_n hx hb dX4_chooseBest_16 rfl (lv_at hl 3 rfl) ?_
        refine lv_iload hx hb dX4_chooseBest_17 (lv_at hl 4 rfl) ?_
        refine lv_iload hx hb dX4_chooseBest_19 (lv_at hl 5 rfl) ?_
        refine q_kI0 (q_rS (As := [.ref (ad 1), .ref (ad 8), .int (nI (d)), .int (nI (f)), .int (nI (i))]) (rest := []) hC hW mw_X4_restsThrough gw_378 (k_rtN l G n ad H.size (up2 I 49 3 (nI (fC w ro K d f i))) L R _ _ _ w K ro hn hlk hM1 hMs1 (by omega) (by omega) (by omega)) ⟨rfl, rfl⟩ ⟨Nat.le_of_ble_eq_true rfl, Nat.le_of_ble_eq_true rfl⟩ ⟨Nat.le_of_ble_eq_true rfl, Nat.le_of_ble_eq_true rfl⟩ hl.1 rfl rfl (Nat.le_of_ble_eq_true rfl) dX4_chooseBest_21) hW (fun r_21 H locs hp hW => ?_)
        subst hp
        refine lv_istore (lv' := [(6, .int (nI (rtN w ro K d f i))), (0, .ref (ad 49)), (1, .ref (ad 1)), (2, .ref (ad 8)), (3, .int (nI (d))), (4, .int (nI (f))), (5, .int (nI (i)))]) hx hb dX4_chooseBest_24 hl (by decide) rfl (fun ls hl => ?_)
        refine lv_iload hx hb dX4_chooseBest_26 (lv_at hl 6 rfl) ?_
        refine q_ic 4 hx hb dX4_chooseBest_28 (by decide) ?_
        refine q_cge (tgt := 38) hx hb dX4_chooseBest_29 (by decide) (by first | omega | exact Nat.lt_of_le_of_lt (hw3 _) (by decide)) (by first | omega | exact Nat.lt_of_le_of_lt (hw3 _) (by decide)) (fun c_29 => ?_) (fun c_29 => ?_)
        ·
          refine lv_iload_n hx hb dX4_chooseBest_38 rfl (lv_at hl 4 rfl) ?_
          refine lv_istore (lv' := [(7, .int (nI (d))), (6, .int (nI (rtN w ro K d f i))), (0, .ref (ad 49)), (1, .ref (ad 1)), (2, .ref (ad 8)), (3, .int (nI (d))), (4, .int (nI (f))), (5, .int (nI (i)))]) hx hb dX4_chooseBest_39 hl (by decide) rfl (fun ls hl => ?_)
          refine lv_aload_n hx hb dX4_chooseBest_41 rfl (lv_at hl 3 rfl) ?_
          refine lv_iload hx hb dX4_chooseBest_42 (lv_at hl 6 rfl) ?_
          refine lv_iload hx hb dX4_chooseBest_44 (lv_at hl 7 rfl) ?_
          refine lv_iload_n hx hb dX4_chooseBest_46 rfl (lv_at hl 5 rfl) ?_
          refine q_kI0 (q_rV (As := [.int (nI (f)), .int (nI (i)), .int (nI (d))]) (rest := []) (x := 1) hC hW mw_X0_moveWeight gw_381 (k_moveWeight l G n ad H.size (up2 I 49 3 (nI (fC w ro K d f i))) L R _ _ _ w K ro hn hlk hM1 (by omega) (by omega) (by omega)) (by omega) (ct_o0 kd_1) rfl ⟨rfl, rfl⟩ ⟨Nat.le_of_ble_eq_true rfl, Nat.le_of_ble_eq_true rfl⟩ ⟨Nat.le_of_ble_eq_true rfl, Nat.le_of_ble_eq_true rfl⟩ hl.1 rfl rfl (Nat.le_of_ble_eq_true rfl) dX4_chooseBest_47) hW (fun r_47 H locs hp hW => ?_)
          subst hp
          refine q_i2l hx hb dX4_chooseBest_50 (by first | omega | exact Nat.lt_of_le_of_lt (hw3 _) (by decide)) ?_
          refine lv_aload_n hx hb dX4_chooseBest_51 rfl (lv_at hl 4 rfl) ?_
          refine g_2_3 (x := 8) (y := 33) hC hW (by omega) kd_8 gw_85 (hlk 8 3 33 (by omega) rfl) dX4_chooseBest_52 ?_
          refine lv_iload hx hb dX4_chooseBest_55 (lv_at hl 0 rfl) ?_
          refine q_aald5 (x := 33) (i := d) (y := 34 + d) hC hW (by omega) kd_33 (by omega) (lk_row33 hlk (by omega) (by omega)) dX4_chooseBest_57 ?_
          refine lv_iload hx hb dX4_chooseBest_58 (lv_at hl 7 rfl) ?_
          refine q_lald (x := (34 + d)) (i := i) hC hW (by omega) (kd_r34 (by omega)) (by omega) dX4_chooseBest_60 ?_
          refine q_top (v2 := .long (lN (Mx' w K ro (K - d) i))) (congrArg _ (hMs1.2.2.1 d i (by omega) (by omega)).2.1) ?_
          refine q_lmul hx hb dX4_chooseBest_61 ?_
          refine q_top (v2 := .long (lN (mv w K ro f i d * Mx' w K ro (K - nx i d) i))) (by unfold nx; rw [if_neg (show ¬ i < 4 by omega)]) ?_
          refine lv_lstore (lv' := [(8, .long (lN (mv w K ro f i d * Mx' w K ro (K - nx i d) i))), (7, .int (nI (d))), (6, .int (nI (rtN w ro K d f i))), (0, .ref (ad 49)), (1, .ref (ad 1)), (2, .ref (ad 8)), (3, .int (nI (d))), (4, .int (nI (f))), (5, .int (nI (i)))]) hx hb dX4_chooseBest_62 hl (by decide) rfl (fun ls hl => ?_)
          refine lv_iload hx hb dX4_chooseBest_64 (lv_at hl 2 rfl) ?_
          refine q_ile (tgt := 87) hx hb dX4_chooseBest_66 (by decide) (by first | omega | exact Nat.lt_of_le_of_lt (hw3 _) (by decide)) (fun c_66 => ?_) (fun c_66 => ?_)
          ·
            refine lv_aload_n hx hb dX4_chooseBest_87 rfl (lv_at hl 3 rfl) ?_
            refine lv_dup hx hb dX4_chooseBest_88 rfl ?_
            refine g_4_3 (x := 49) hC hW (by omega) kd_49 gw_110 dX4_chooseBest_89 ?_
            refine q_top (v2 := .int (nI (fC w ro K d f i))) (congrArg _ (by rw [up2_at, if_pos ⟨rfl, rfl⟩])) ?_
            refine lv_iload hx hb dX4_chooseBest_92 (lv_at hl 2 rfl) ?_
            refine q_iadd hx hb dX4_chooseBest_94 ?_
            refine p_4_3 (x := 49) (v := nI ((fC w ro K d f i) + (rtN w ro K d f i))) hC hW (by omega) kd_49 gw_110 dX4_chooseBest_95 (fun H locs hW => ?_)
            refine q_iinc (z2 := i + 1) (lv' := [(5, .int (nI (i + 1))), (8, .long (lN (mv w K ro f i d * Mx' w K ro (K - nx i d) i))), (7, .int (nI (d))), (6, .int (nI (rtN w ro K d f i))), (0, .ref (ad 49)), (1, .ref (ad 1)), (2, .ref (ad 8)), (3, .int (nI (d))), (4, .int (nI (f)))]) hx hb dX4_chooseBest_98 hl (k := 8) rfl (inc_up _ 1 (by decide)) (by decide) rfl (fun ls hl => ?_)
            refine lv_goto (tgt := 8) hx hb dX4_chooseBest_101 (by decide) ?_
            rw [up2_up2, ← fC_s] at hW
            exact ih_8 (i + 1) (by omega) (by omega) (fun j hj => by by_cases e9 : j = i; (subst e9; exact fun q9 => by have h9 := okM_iff.mp q9; first | omega | exact c_81 h9.2); exact hno j (by omega)) _ _ hW _ (lv_sub hl [4, 5, 6, 7, 8, 0] rfl)
          ·
            refine lv_lload hx hb dX4_chooseBest_69 (lv_at hl 0 rfl) ?_
            refine lv_aload_n hx hb dX4_chooseBest_71 rfl (lv_at hl 5 rfl) ?_
            refine g_2_3 (x := 8) (y := 33) hC hW (by omega) kd_8 gw_85 (hlk 8 3 33 (by omega) rfl) dX4_chooseBest_72 ?_
            refine lv_iload_n hx hb dX4_chooseBest_75 rfl (lv_at hl 6 rfl) ?_
            refine q_aald5 (x := 33) (i := d) (y := 34 + d) hC hW (by omega) kd_33 (by omega) (lk_row33 hlk (by omega) (by omega)) dX4_chooseBest_76 ?_
            refine lv_iload hx hb dX4_chooseBest_77 (lv_at hl 7 rfl) ?_
            refine q_lald (x := (34 + d)) (i := f) hC hW (by omega) (kd_r34 (by omega)) (by omega) dX4_chooseBest_79 ?_
            refine q_top (v2 := .long (lN (Mx' w K ro (K - d) f))) (congrArg _ (hMs1.2.2.1 d f (by omega) (by omega)).2.1) ?_
            refine q_lcmp hx hb dX4_chooseBest_80 ?_
            refine q_lne (tgt := 87) hx hb dX4_chooseBest_81 (by decide) (by first | decide | omega | assumption) (by first | decide | omega | assumption) (fun c_81 => ?_) (fun c_81 => ?_)
            ·
              refine lv_aload_n hx hb dX4_chooseBest_87 rfl (lv_at hl 3 rfl) ?_
              refine lv_dup hx hb dX4_chooseBest_88 rfl ?_
              refine g_4_3 (x := 49) hC hW (by omega) kd_49 gw_110 dX4_chooseBest_89 ?_
              refine q_top (v2 := .int (nI (fC w ro K d f i))) (congrArg _ (by rw [up2_at, if_pos ⟨rfl, rfl⟩])) ?_
              refine lv_iload hx hb dX4_chooseBest_92 (lv_at hl 2 rfl) ?_
              refine q_iadd hx hb dX4_chooseBest_94 ?_
              refine p_4_3 (x := 49) (v := nI ((fC w ro K d f i) + (rtN w ro K d f i))) hC hW (by omega) kd_49 gw_110 dX4_chooseBest_95 (fun H locs hW => ?_)
              refine q_iinc (z2 := i + 1) (lv' := [(5, .int (nI (i + 1))), (8, .long (lN (mv w K ro f i d * Mx' w K ro (K - nx i d) i))), (7, .int (nI (d))), (6, .int (nI (rtN w ro K d f i))), (0, .ref (ad 49)), (1, .ref (ad 1)), (2, .ref (ad 8)), (3, .int (nI (d))), (4, .int (nI (f)))]) hx hb dX4_chooseBest_98 hl (k := 8) rfl (inc_up _ 1 (by decide)) (by decide) rfl (fun ls hl => ?_)
              refine lv_goto (tgt := 8) hx hb dX4_chooseBest_101 (by decide) ?_
              rw [up2_up2, ← fC_s] at hW
              exact ih_8 (i + 1) (by omega) (by omega) (fun j hj => by by_cases e9 : j = i; (subst e9; exact fun q9 => by have h9 := okM_iff.mp q9; first | omega | exact c_81 h9.2); exact hno j (by omega)) _ _ hW _ (lv_sub hl [4, 5, 6, 7, 8, 0] rfl)
            ·
              refine lv_iload hx hb dX4_chooseBest_84 (lv_at hl 8 rfl) ?_
              exact q_iret1 hC hW hr hlk0 ⟨i, by omega, rfl, rfl, rfl, hno, fun _ => okM_iff.mpr ⟨by omega, c_81⟩⟩ dX4_chooseBest_86
        ·
          refine lv_iload_n hx hb dX4_chooseBest_32 rfl (lv_at hl 4 rfl) ?_
          refine q_ic 1 hx hb dX4_chooseBest_33 (by decide) ?_
          refine q_iadd hx hb dX4_chooseBest_34 ?_
          refine lv_goto (tgt := 39) hx hb dX4_chooseBest_35 (by decide) ?_
          refine lv_istore (lv' := [(7, .int (nI (d + 1))), (6, .int (nI (rtN w ro K d f i))), (0, .ref (ad 49)), (1, .ref (ad 1)), (2, .ref (ad 8)), (3, .int (nI (d))), (4, .int (nI (f))), (5, .int (nI (i)))]) hx hb dX4_chooseBest_39 hl (by decide) rfl (fun ls hl => ?_)
          refine lv_aload_n hx hb dX4_chooseBest_41 rfl (lv_at hl 3 rfl) ?_
          refine lv_iload hx hb dX4_chooseBest_42 (lv_at hl 6 rfl) ?_
          refine lv_iload hx hb dX4_chooseBest_44 (lv_at hl 7 rfl) ?_
          refine lv_iload_n hx hb dX4_chooseBest_46 rfl (lv_at hl 5 rfl) ?_
          refine q_kI0 (q_rV (As := [.int (nI (f)), .int (nI (i)), .int (nI (d))]) (rest := []) (x := 1) hC hW mw_X0_moveWeight gw_381 (k_moveWeight l G n ad H.size (up2 I 49 3 (nI (fC w ro K d f i))) L R _ _ _ w K ro hn hlk hM1 (by omega) (by omega) (by omega)) (by omega) (ct_o0 kd_1) rfl ⟨rfl, rfl⟩ ⟨Nat.le_of_ble_eq_true rfl, Nat.le_of_ble_eq_true rfl⟩ ⟨Nat.le_of_ble_eq_true rfl, Nat.le_of_ble_eq_true rfl⟩ hl.1 rfl rfl (Nat.le_of_ble_eq_true rfl) dX4_chooseBest_47) hW (fun r_47 H locs hp hW => ?_)
          subst hp
          refine q_i2l hx hb dX4_chooseBest_50 (by first | omega | exact Nat.lt_of_le_of_lt (hw3 _) (by decide)) ?_
          refine lv_aload_n hx hb dX4_chooseBest_51 rfl (lv_at hl 4 rfl) ?_
          refine g_2_3 (x := 8) (y := 33) hC hW (by omega) kd_8 gw_85 (hlk 8 3 33 (by omega) rfl) dX4_chooseBest_52 ?_
          refine lv_iload hx hb dX4_chooseBest_55 (lv_at hl 0 rfl) ?_
          refine q_aald5 (x := 33) (i := d + 1) (y := 34 + (d + 1)) hC hW (by omega) kd_33 (by omega) (lk_row33 hlk (by omega) (by omega)) dX4_chooseBest_57 ?_
          refine lv_iload hx hb dX4_chooseBest_58 (lv_at hl 7 rfl) ?_
          refine q_lald (x := (34 + (d + 1))) (i := i) hC hW (by omega) (kd_r34 (by omega)) (by omega) dX4_chooseBest_60 ?_
          refine q_top (v2 := .long (lN (Mx' w K ro (K - (d + 1)) i))) (congrArg _ (hMs1.2.2.1 (d + 1) i (by omega) (by omega)).2.1) ?_
          refine q_lmul hx hb dX4_chooseBest_61 ?_
          refine q_top (v2 := .long (lN (mv w K ro f i d * Mx' w K ro (K - nx i d) i))) (by unfold nx; rw [if_pos (show i < 4 by omega)]) ?_
          refine lv_lstore (lv' := [(8, .long (lN (mv w K ro f i d * Mx' w K ro (K - nx i d) i))), (7, .int (nI (d + 1))), (6, .int (nI (rtN w ro K d f i))), (0, .ref (ad 49)), (1, .ref (ad 1)), (2, .ref (ad 8)), (3, .int (nI (d))), (4, .int (nI (f))), (5, .int (nI (i)))]) hx hb dX4_chooseBest_62 hl (by decide) rfl (fun ls hl => ?_)
          refine lv_iload hx hb dX4_chooseBest_64 (lv_at hl 2 rfl) ?_
          refine q_ile (tgt := 87) hx hb dX4_chooseBest_66 (by decide) (by first | omega | exact Nat.lt_of_le_of_lt (hw3 _) (by decide)) (fun c_66 => ?_) (fun c_66 => ?_)
          ·
            refine lv_aload_n hx hb dX4_chooseBest_87 rfl (lv_at hl 3 rfl) ?_
            refine lv_dup hx hb dX4_chooseBest_88 rfl ?_
            refine g_4_3 (x := 49) hC hW (by omega) kd_49 gw_110 dX4_chooseBest_89 ?_
            refine q_top (v2 := .int (nI (fC w ro K d f i))) (congrArg _ (by rw [up2_at, if_pos ⟨rfl, rfl⟩])) ?_
            refine lv_iload hx hb dX4_chooseBest_92 (lv_at hl 2 rfl) ?_
            refine q_iadd hx hb dX4_chooseBest_94 ?_
            refine p_4_3 (x := 49) (v := nI ((fC w ro K d f i) + (rtN w ro K d f i))) hC hW (by omega) kd_49 gw_110 dX4_chooseBest_95 (fun H locs hW => ?_)
            refine q_iinc (z2 := i + 1) (lv' := [(5, .int (nI (i + 1))), (8, .long (lN (mv w K ro f i d * Mx' w K ro (K - nx i d) i))), (7, .int (nI (d + 1))), (6, .int (nI (rtN w ro K d f i))), (0, .ref (ad 49)), (1, .ref (ad 1)), (2, .ref (ad 8)), (3, .int (nI (d))), (4, .int (nI (f)))]) hx hb dX4_chooseBest_98 hl (k := 8) rfl (inc_up _ 1 (by decide)) (by decide) rfl (fun ls hl => ?_)
            refine lv_goto (tgt := 8) hx hb dX4_chooseBest_101 (by decide) ?_
            rw [up2_up2, ← fC_s] at hW
            exact ih_8 (i + 1) (by omega) (by omega) (fun j hj => by by_cases e9 : j = i; (subst e9; exact fun q9 => by have h9 := okM_iff.mp q9; first | omega | exact c_81 h9.2); exact hno j (by omega)) _ _ hW _ (lv_sub hl [4, 5, 6, 7, 8, 0] rfl)
          ·
            refine lv_lload hx hb dX4_chooseBest_69 (lv_at hl 0 rfl) ?_
            refine lv_aload_n hx hb dX4_chooseBest_71 rfl (lv_at hl 5 rfl) ?_
            refine g_2_3 (x := 8) (y := 33) hC hW (by omega) kd_8 gw_85 (hlk 8 3 33 (by omega) rfl) dX4_chooseBest_72 ?_
            refine lv_iload_n hx hb dX4_chooseBest_75 rfl (lv_at hl 6 rfl) ?_
            refine q_aald5 (x := 33) (i := d) (y := 34 + d) hC hW (by omega) kd_33 (by omega) (lk_row33 hlk (by omega) (by omega)) dX4_chooseBest_76 ?_
            refine lv_iload hx hb dX4_chooseBest_77 (lv_at hl 7 rfl) ?_
            refine q_lald (x := (34 + d)) (i := f) hC hW (by omega) (kd_r34 (by omega)) (by omega) dX4_chooseBest_79 ?_
            refine q_top (v2 := .long (lN (Mx' w K ro (K - d) f))) (congrArg _ (hMs1.2.2.1 d f (by omega) (by omega)).2.1) ?_
            refine q_lcmp hx hb dX4_chooseBest_80 ?_
            refine q_lne (tgt := 87) hx hb dX4_chooseBest_81 (by decide) (by first | decide | omega | assumption) (by first | decide | omega | assumption) (fun c_81 => ?_) (fun c_81 => ?_)
            ·
              refine lv_aload_n hx hb dX4_chooseBest_87 rfl (lv_at hl 3 rfl) ?_
              refine lv_dup hx hb dX4_chooseBest_88 rfl ?_
              refine g_4_3 (x := 49) hC hW (by omega) kd_49 gw_110 dX4_chooseBest_89 ?_
              refine q_top (v2 := .int (nI (fC w ro K d f i))) (congrArg _ (by rw [up2_at, if_pos ⟨rfl, rfl⟩])) ?_
              refine lv_iload hx hb dX4_chooseBest_92 (lv_at hl 2 rfl) ?_
              refine q_iadd hx hb dX4_chooseBest_94 ?_
              refine p_4_3 (x := 49) (v := nI ((fC w ro K d f i) + (rtN w ro K d f i))) hC hW (by omega) kd_49 gw_110 dX4_chooseBest_95 (fun H locs hW => ?_)
              refine q_iinc (z2 := i + 1) (lv' := [(5, .int (nI (i + 1))), (8, .long (lN (mv w K ro f i d * Mx' w K ro (K - nx i d) i))), (7, .int (nI (d + 1))), (6, .int (nI (rtN w ro K d f i))), (0, .ref (ad 49)), (1, .ref (ad 1)), (2, .ref (ad 8)), (3, .int (nI (d))), (4, .int (nI (f)))]) hx hb dX4_chooseBest_98 hl (k := 8) rfl (inc_up _ 1 (by decide)) (by decide) rfl (fun ls hl => ?_)
              refine lv_goto (tgt := 8) hx hb dX4_chooseBest_101 (by decide) ?_
              rw [up2_up2, ← fC_s] at hW
              exact ih_8 (i + 1) (by omega) (by omega) (fun j hj => by by_cases e9 : j = i; (subst e9; exact fun q9 => by have h9 := okM_iff.mp q9; first | omega | exact c_81 h9.2); exact hno j (by omega)) _ _ hW _ (lv_sub hl [4, 5, 6, 7, 8, 0] rfl)
            ·
              refine lv_iload hx hb dX4_chooseBest_84 (lv_at hl 8 rfl) ?_
              exact q_iret1 hC hW hr hlk0 ⟨i, by omega, rfl, rfl, rfl, hno, fun _ => okM_iff.mpr ⟨by omega, c_81⟩⟩ dX4_chooseBest_86
  exact lp_8 (5 + 1) 0 (by omega) (by omega) (fun j hj => absurd hj (by omega)) _ _ hW _ (lv_sub hl [1, 2, 3, 4, 5, 0] rfl)
set_option maxRecDepth 100000 in
set_option maxHeartbeats 4000000 in
theorem k_follow (l : Launch) (G : Gx) (n : Nat) (ad : Nat → Nat) (sz : Nat) (I : Ic) (L : Lc) (R : Rc) (q0 : Nat) (w : Nat → Nat) (K : Nat) (ro : Nat → Nat) (hn : 83 ≤ n) (hlk : LkOK n R) (hM : MdI I w K ro) (hMs : Meas w ro K I L) (hq0 : q0 < Cx' w K ro K 6) : Met l yX4_follow (Cond.code yX4_follow cX4_follow 8 none :: GW) ({ frames := 4, cells := 0, slots := 0, locals := 144 } : Room) (qPre G n ad sz I L R [.ref (ad 49), .ref (ad 1), .ref (ad 8), .int (nI (q0))]) (qV1 G (qA n ad sz) n ad R (fun I1 L1 => Fol (wayN w ro K q0) (prN w ro K 0 6 (wayN w ro K q0)) I1 L1 ∧ (∀ a, a < 49 ∨ 50 < a → I1 a = I a) ∧ (∀ a, a < 49 ∨ 49 < a → L1 a = L a))) 0 0 (qA n ad sz) := by
  refine q_met (by decide) (Nat.le_of_ble_eq_true rfl) ?_
  intro p e s m below meth c hC hr hlk0 hin hsz hW ls hl
  subst hsz
  have hC : CallFix p m c cX4_follow 8 s ([.ref (ad 49), .ref (ad 1), .ref (ad 8), .int (nI (q0))] : List Value).toArray GW "CoinRows$Walk" := hC
  have hx := hC.1
  have hb := hC.2.1
  have hk6 : K ≤ 6 := hM.2.2.2.1
  have hw3 : ∀ i, w i ≤ 3 := hM.2.2.2.2.1.1
  have hr4 : ∀ j, ro j < 4 := hM.2.2.2.2.2
  have hl : lv_has ls 8 [(0, .ref (ad 49)), (1, .ref (ad 1)), (2, .ref (ad 8)), (3, .int (nI (q0)))] := hl
  refine lv_aload_n hx hb dX4_follow_0 rfl (lv_at hl 0 rfl) ?_
  refine q_ic 0 hx hb dX4_follow_1 (by decide) ?_
  refine p_4_1 (x := 49) (v := nI 0) hC hW (by omega) kd_49 gw_107 dX4_follow_2 (fun H locs hW => ?_)
  refine lv_aload_n hx hb dX4_follow_5 rfl (lv_at hl 0 rfl) ?_
  refine q_lc 1 hx hb dX4_follow_6 (by decide) ?_
  refine p_4_2 (x := 49) (v := lN 1) hC hW (by omega) kd_49 gw_108 dX4_follow_7 (fun H locs hW => ?_)
  refine lv_iload_n hx hb dX4_follow_10 rfl (lv_at hl 3 rfl) ?_
  refine lv_istore (lv' := [(4, .int (nI (q0))), (0, .ref (ad 49)), (1, .ref (ad 1)), (2, .ref (ad 8)), (3, .int (nI (q0)))]) hx hb dX4_follow_11 hl (by decide) rfl (fun ls hl => ?_)
  refine q_bp 6 hx hb dX4_follow_13 (by decide) ?_
  refine lv_istore (lv' := [(5, .int (nI 6)), (4, .int (nI (q0))), (0, .ref (ad 49)), (1, .ref (ad 1)), (2, .ref (ad 8)), (3, .int (nI (q0)))]) hx hb dX4_follow_15 hl (by decide) rfl (fun ls hl => ?_)
  refine q_ic 0 hx hb dX4_follow_17 (by decide) ?_
  refine lv_istore (lv' := [(6, .int (nI 0)), (5, .int (nI 6)), (4, .int (nI (q0))), (0, .ref (ad 49)), (1, .ref (ad 1)), (2, .ref (ad 8)), (3, .int (nI (q0)))]) hx hb dX4_follow_18 hl (by decide) rfl (fun ls hl => ?_)
  have lp_20 : ∀ (fu_20 : Nat) (s1 : Nat) (d : Nat) (f : Nat) (q : Nat) (I1 : Ic) (L1 : Lc), 18 - s1 < fu_20 → (FI w ro K q0 I L s1 d f q I1 L1) → ∀ (H : Heap) (locs : List Loc), Wd G n ad I1 L1 R (qA n ad s.heap.size) s.heap H locs s → ∀ ls : Array Slot, lv_has ls 8 [(0, .ref (ad 49)), (1, .ref (ad 1)), (2, .ref (ad 8)), (4, .int (nI (q))), (5, .int (nI (f))), (6, .int (nI (d)))] → W p l e ({ frames := 4, cells := 0, slots := 0, locals := 144 } : Room) s m ([.ref (ad 49), .ref (ad 1), .ref (ad 8), .int (nI (q0))] : List Value).toArray below meth c H locs 0 0 (MQ below (qV1 G (qA n ad s.heap.size) n ad R (fun I1 L1 => Fol (wayN w ro K q0) (prN w ro K 0 6 (wayN w ro K q0)) I1 L1 ∧ (∀ a, a < 49 ∨ 50 < a → I1 a = I a) ∧ (∀ a, a < 49 ∨ 49 < a → L1 a = L a))) ([.ref (ad 49), .ref (ad 1), .ref (ad 8), .int (nI (q0))] : List Value).toArray s 0 0 (qA n ad s.heap.size)) (F0 m 20 ls []) := by
    intro fu_20
    induction fu_20 with
    | zero =>
      intro s1 d f q I1 L1 hm; exact absurd hm (Nat.not_lt_zero _)
    | succ fu_20 ih_20 =>
      intro s1 d f q I1 L1 hm_20 hF H locs hW ls hl
      have hdK := hF.2.2.2.1
      have hf6 := hF.2.2.2.2.1
      have hqC := hF.2.2.2.2.2.1
      have hM1 : MdI I1 w K ro := MdI_lo hM (fun a ha => hF.2.2.2.2.2.2.1 a (by omega))
      have hMs1 : Meas w ro K I1 L1 := Meas_lo hMs hk6 (fun a ha => hF.2.2.2.2.2.2.1 a (by omega)) (fun a ha => hF.2.2.2.2.2.2.2 a (by omega))
      refine lv_iload hx hb dX4_follow_20 (lv_at hl 5 rfl) ?_
      refine lv_aload_n hx hb dX4_follow_22 rfl (lv_at hl 1 rfl) ?_
      refine g_0_2 (x := 1) hC hW (by omega) kd_1 gw_33 dX4_follow_23 ?_
      refine q_top (v2 := .int (nI (K))) (congrArg _ hM1.2.1) ?_
      refine q_cge (tgt := 125) hx hb dX4_follow_26 (by decide) (by first | omega | exact Nat.lt_of_le_of_lt (hw3 _) (by decide)) (by first | omega | exact Nat.lt_of_le_of_lt (hw3 _) (by decide)) (fun c_26 => ?_) (fun c_26 => ?_)
      ·
        exact q_vret1 hC hW hr hlk0 ⟨FI_e hF hk6 (by omega), hF.2.2.2.2.2.2.1, hF.2.2.2.2.2.2.2⟩ dX4_follow_125
      ·
        have hs18 : s1 < 18 := FI_lt hF hk6 (by omega)
        refine lv_aload_n hx hb dX4_follow_29 rfl (lv_at hl 0 rfl) ?_
        refine g_4_1 (x := 49) hC hW (by omega) kd_49 gw_107 dX4_follow_30 ?_
        refine q_top (v2 := .int (nI (s1))) (congrArg _ hF.2.1) ?_
        refine q_bp 18 hx hb dX4_follow_33 (by decide) ?_
        refine q_cge (tgt := 125) hx hb dX4_follow_35 (by decide) (by first | omega | exact Nat.lt_of_le_of_lt (hw3 _) (by decide)) (by first | omega | exact Nat.lt_of_le_of_lt (hw3 _) (by decide)) (fun c_35 => absurd c_35 (by omega)) (fun c_35 => ?_)
        refine lv_aload_n hx hb dX4_follow_38 rfl (lv_at hl 0 rfl) ?_
        refine lv_aload_n hx hb dX4_follow_39 rfl (lv_at hl 1 rfl) ?_
        refine lv_aload_n hx hb dX4_follow_40 rfl (lv_at hl 2 rfl) ?_
        refine lv_iload hx hb dX4_follow_41 (lv_at hl 5 rfl) ?_
        refine lv_iload hx hb dX4_follow_43 (lv_at hl 4 rfl) ?_
        refine lv_iload hx hb dX4_follow_45 (lv_at hl 3 rfl) ?_
        refine q_kI1 (q_rV (As := [.ref (ad 1), .ref (ad 8), .int (nI (d)), .int (nI (f)), .int (nI (q))]) (rest := []) (x := 49) hC hW mw_X4_chooseByNumber gw_374 (k_chB l G n ad H.size I1 L1 R _ _ _ w K ro hn hlk hM1 hMs1 (by omega) (by omega) hqC) (by omega) (ct_o4 kd_49) rfl ⟨rfl, rfl⟩ ⟨Nat.le_of_ble_eq_true rfl, Nat.le_of_ble_eq_true rfl⟩ ⟨Nat.le_of_ble_eq_true rfl, Nat.le_of_ble_eq_true rfl⟩ hl.1 rfl rfl (Nat.le_of_ble_eq_true rfl) dX4_follow_47) hW (fun r_47 I_47 L_47 H locs hp hW => ?_)
        obtain ⟨t_47, ht_47, rfl, rfl, rfl, hc1_47, hc2_47⟩ := hp
        have hM_47 : MdI (up2 I1 49 3 (nI (fC w ro K d f t_47))) w K ro := MdI_lo hM1 (fun a ha => up2_ne (by omega))
        have hmv_47 := mv_le hM.2.2.2.2.1 K ro f t_47 d
        refine lv_istore (lv' := [(7, .int (nI (t_47))), (0, .ref (ad 49)), (1, .ref (ad 1)), (2, .ref (ad 8)), (4, .int (nI (q))), (5, .int (nI (f))), (6, .int (nI (d)))]) hx hb dX4_follow_50 hl (by decide) rfl (fun ls hl => ?_)
        refine lv_iload hx hb dX4_follow_52 (lv_at hl 4 rfl) ?_
        refine lv_aload_n hx hb dX4_follow_54 rfl (lv_at hl 1 rfl) ?_
        refine g_4_3 (x := 49) hC hW (by omega) kd_49 gw_110 dX4_follow_55 ?_
        refine q_top (v2 := .int (nI (fC w ro K d f t_47))) (congrArg _ (by rw [up2_at, if_pos ⟨rfl, rfl⟩])) ?_
        refine q_isub hx hb dX4_follow_58 (by omega) ?_
        refine lv_istore (lv' := [(4, .int (nI (q - (fC w ro K d f t_47)))), (7, .int (nI (t_47))), (0, .ref (ad 49)), (1, .ref (ad 1)), (2, .ref (ad 8)), (5, .int (nI (f))), (6, .int (nI (d)))]) hx hb dX4_follow_59 hl (by decide) rfl (fun ls hl => ?_)
        refine lv_aload_n hx hb dX4_follow_61 rfl (lv_at hl 2 rfl) ?_
        refine lv_dup hx hb dX4_follow_62 rfl ?_
        refine g_4_2 (x := 49) hC hW (by omega) kd_49 gw_108 dX4_follow_63 ?_
        refine lv_aload_n hx hb dX4_follow_66 rfl (lv_at hl 3 rfl) ?_
        refine lv_iload hx hb dX4_follow_67 (lv_at hl 5 rfl) ?_
        refine lv_iload hx hb dX4_follow_69 (lv_at hl 1 rfl) ?_
        refine lv_iload hx hb dX4_follow_71 (lv_at hl 6 rfl) ?_
        refine q_kI0 (q_rV (As := [.int (nI (f)), .int (nI (t_47)), .int (nI (d))]) (rest := [.long (L1 49 2), .ref (ad 49)]) (x := 1) hC hW mw_X0_moveWeight gw_381 (k_moveWeight l G n ad H.size (up2 I1 49 3 (nI (fC w ro K d f t_47))) L1 R _ _ _ w K ro hn hlk hM_47 (by omega) (by omega) (by omega)) (by omega) (ct_o0 kd_1) rfl ⟨rfl, rfl⟩ ⟨Nat.le_of_ble_eq_true rfl, Nat.le_of_ble_eq_true rfl⟩ ⟨Nat.le_of_ble_eq_true rfl, Nat.le_of_ble_eq_true rfl⟩ hl.1 rfl rfl (Nat.le_of_ble_eq_true rfl) dX4_follow_73) hW (fun r_73 H locs hp hW => ?_)
        subst hp
        refine q_i2l hx hb dX4_follow_76 (by first | omega | exact Nat.lt_of_le_of_lt (hw3 _) (by decide)) ?_
        refine lv_lmul hx hb dX4_follow_77 ?_
        refine p_4_2 (x := 49) (v := (L1 49 2) * (lN (mv w K ro f t_47 d))) hC hW (by omega) kd_49 gw_108 dX4_follow_78 (fun H locs hW => ?_)
        refine lv_aload_n hx hb dX4_follow_81 rfl (lv_at hl 2 rfl) ?_
        refine g_4_0 (x := 49) (y := 50) hC hW (by omega) kd_49 gw_106 (hlk 49 0 50 (by omega) rfl) dX4_follow_82 ?_
        refine lv_aload_n hx hb dX4_follow_85 rfl (lv_at hl 2 rfl) ?_
        refine g_4_1 (x := 49) hC hW (by omega) kd_49 gw_107 dX4_follow_86 ?_
        refine q_top (v2 := .int (nI (s1))) (congrArg _ (by rw [up2_at, if_neg (by decide)]; exact hF.2.1)) ?_
        refine lv_iload hx hb dX4_follow_89 (lv_at hl 1 rfl) ?_
        refine q_iast (x := 50) (i := s1) (v := nI t_47) hC hW (by omega) kd_50 (by omega) dX4_follow_91 (fun H locs hW => ?_)
        refine lv_aload_n hx hb dX4_follow_92 rfl (lv_at hl 2 rfl) ?_
        refine lv_dup hx hb dX4_follow_93 rfl ?_
        refine g_4_1 (x := 49) hC hW (by omega) kd_49 gw_107 dX4_follow_94 ?_
        refine q_top (v2 := .int (nI (s1))) (congrArg _ (by rw [up2_at, if_neg (by omega), up2_at, if_neg (by omega)]; exact hF.2.1)) ?_
        refine q_ic 1 hx hb dX4_follow_97 (by decide) ?_
        refine q_iadd hx hb dX4_follow_98 ?_
        refine p_4_1 (x := 49) (v := nI (s1 + 1)) hC hW (by omega) kd_49 gw_107 dX4_follow_99 (fun H locs hW => ?_)
        refine lv_iload hx hb dX4_follow_102 (lv_at hl 6 rfl) ?_
        refine lv_iload hx hb dX4_follow_104 (lv_at hl 1 rfl) ?_
        refine q_ic 4 hx hb dX4_follow_106 (by decide) ?_
        refine q_cge (tgt := 114) hx hb dX4_follow_107 (by decide) (by first | omega | exact Nat.lt_of_le_of_lt (hw3 _) (by decide)) (by first | omega | exact Nat.lt_of_le_of_lt (hw3 _) (by decide)) (fun c_107 => ?_) (fun c_107 => ?_)
        ·
          refine q_ic 0 hx hb dX4_follow_114 (by decide) ?_
          refine q_iadd hx hb dX4_follow_115 ?_
          refine q_top (v2 := .int (nI (nx t_47 d))) (by unfold nx; rw [if_neg (show ¬ t_47 < 4 by omega)]; try rfl) ?_
          refine lv_istore (lv' := [(6, .int (nI (nx t_47 d))), (4, .int (nI (q - (fC w ro K d f t_47)))), (7, .int (nI (t_47))), (0, .ref (ad 49)), (1, .ref (ad 1)), (2, .ref (ad 8)), (5, .int (nI (f)))]) hx hb dX4_follow_116 hl (by decide) rfl (fun ls hl => ?_)
          refine lv_iload hx hb dX4_follow_118 (lv_at hl 2 rfl) ?_
          refine lv_istore (lv' := [(5, .int (nI (t_47))), (6, .int (nI (nx t_47 d))), (4, .int (nI (q - (fC w ro K d f t_47)))), (7, .int (nI (t_47))), (0, .ref (ad 49)), (1, .ref (ad 1)), (2, .ref (ad 8))]) hx hb dX4_follow_120 hl (by decide) rfl (fun ls hl => ?_)
          refine lv_goto (tgt := 20) hx hb dX4_follow_122 (by decide) ?_
          exact ih_20 (s1 + 1) (nx t_47 d) t_47 (q - fC w ro K d f t_47) (up2 (up2 (up2 I1 49 3 (nI (fC w ro K d f t_47))) 50 s1 (nI t_47)) 49 1 (nI (s1 + 1))) (up2 L1 49 2 ((L1 49 2) * (lN (mv w K ro f t_47 d)))) (by omega) ((FI_s hM.2.2.2.2.1 hF hk6 (by omega) ht_47 hc1_47 hc2_47).1) _ _ hW _ (lv_sub hl [4, 5, 6, 2, 0, 1] rfl)
        ·
          refine q_ic 1 hx hb dX4_follow_110 (by decide) ?_
          refine lv_goto (tgt := 115) hx hb dX4_follow_111 (by decide) ?_
          refine q_iadd hx hb dX4_follow_115 ?_
          refine q_top (v2 := .int (nI (nx t_47 d))) (by unfold nx; rw [if_pos (show t_47 < 4 by omega)]; try rfl) ?_
          refine lv_istore (lv' := [(6, .int (nI (nx t_47 d))), (4, .int (nI (q - (fC w ro K d f t_47)))), (7, .int (nI (t_47))), (0, .ref (ad 49)), (1, .ref (ad 1)), (2, .ref (ad 8)), (5, .int (nI (f)))]) hx hb dX4_follow_116 hl (by decide) rfl (fun ls hl => ?_)
          refine lv_iload hx hb dX4_follow_118 (lv_at hl 2 rfl) ?_
          refine lv_istore (lv' := [(5, .int (nI (t_47))), (6, .int (nI (nx t_47 d))), (4, .int (nI (q - (fC w ro K d f t_47)))), (7, .int (nI (t_47))), (0, .ref (ad 49)), (1, .ref (ad 1)), (2, .ref (ad 8))]) hx hb dX4_follow_120 hl (by decide) rfl (fun ls hl => ?_)
          refine lv_goto (tgt := 20) hx hb dX4_follow_122 (by decide) ?_
          exact ih_20 (s1 + 1) (nx t_47 d) t_47 (q - fC w ro K d f t_47) (up2 (up2 (up2 I1 49 3 (nI (fC w ro K d f t_47))) 50 s1 (nI t_47)) 49 1 (nI (s1 + 1))) (up2 L1 49 2 ((L1 49 2) * (lN (mv w K ro f t_47 d)))) (by omega) ((FI_s hM.2.2.2.2.1 hF hk6 (by omega) ht_47 hc1_47 hc2_47).1) _ _ hW _ (lv_sub hl [4, 5, 6, 2, 0, 1] rfl)
  exact lp_20 (18 + 1) 0 0 6 q0 (up2 I 49 1 (nI 0)) (up2 L 49 2 (lN 1)) (by omega) (FI_0 hq0 (by rw [up2_at, if_pos ⟨rfl, rfl⟩]) (by rw [up2_at, if_pos ⟨rfl, rfl⟩]) (fun a ha => up2_ne (by omega)) (fun a ha => up2_ne (by omega))) _ _ hW _ (lv_sub hl [3, 4, 5, 2, 1, 0] rfl)
set_option maxRecDepth 100000 in
set_option maxHeartbeats 4000000 in
theorem k_findBest (l : Launch) (G : Gx) (n : Nat) (ad : Nat → Nat) (sz : Nat) (I : Ic) (L : Lc) (R : Rc) (w : Nat → Nat) (K : Nat) (ro : Nat → Nat) (hn : 83 ≤ n) (hlk : LkOK n R) (hM : MdI I w K ro) (hMs : Meas w ro K I L) (hC0 : 0 < Cx' w K ro K 6) : Met l yX4_findBest (Cond.code yX4_findBest cX4_findBest 7 (some .int) :: GW) ({ frames := 4, cells := 0, slots := 0, locals := 144 } : Room) (qPre G n ad sz I L R [.ref (ad 49), .ref (ad 1), .ref (ad 8)]) (qI1 G (qA n ad sz) n ad R (fun z I1 L1 => z = nI (rkN w ro K 0 6 (wayM w ro K)) ∧ (∀ a, a < 49 ∨ 50 < a → I1 a = I a) ∧ (∀ a, a < 49 ∨ 49 < a → L1 a = L a))) 0 0 (qA n ad sz) := by
  refine q_met (by decide) (Nat.le_of_ble_eq_true rfl) ?_
  intro p e s m below meth c hC hr hlk0 hin hsz hW ls hl
  subst hsz
  have hC : CallFix p m c cX4_findBest 7 s ([.ref (ad 49), .ref (ad 1), .ref (ad 8)] : List Value).toArray GW "CoinRows$Walk" := hC
  have hx := hC.1
  have hb := hC.2.1
  have hk6 : K ≤ 6 := hM.2.2.2.1
  have hw3 : ∀ i, w i ≤ 3 := hM.2.2.2.2.1.1
  have hr4 : ∀ j, ro j < 4 := hM.2.2.2.2.2
  have hl : lv_has ls 7 [(0, .ref (ad 49)), (1, .ref (ad 1)), (2, .ref (ad 8))] := hl
  refine q_ic 0 hx hb dX4_findBest_0 (by decide) ?_
  refine lv_istore_n (lv' := [(3, .int (nI 0)), (0, .ref (ad 49)), (1, .ref (ad 1)), (2, .ref (ad 8))]) hx hb dX4_findBest_1 rfl hl (by decide) rfl (fun ls hl => ?_)
  refine q_bp 6 hx hb dX4_findBest_2 (by decide) ?_
  refine lv_istore (lv' := [(4, .int (nI 6)), (3, .int (nI 0)), (0, .ref (ad 49)), (1, .ref (ad 1)), (2, .ref (ad 8))]) hx hb dX4_findBest_4 hl (by decide) rfl (fun ls hl => ?_)
  refine q_ic 0 hx hb dX4_findBest_6 (by decide) ?_
  refine lv_istore (lv' := [(5, .int (nI 0)), (4, .int (nI 6)), (3, .int (nI 0)), (0, .ref (ad 49)), (1, .ref (ad 1)), (2, .ref (ad 8))]) hx hb dX4_findBest_7 hl (by decide) rfl (fun ls hl => ?_)
  refine q_ic 0 hx hb dX4_findBest_9 (by decide) ?_
  refine lv_istore (lv' := [(6, .int (nI 0)), (5, .int (nI 0)), (4, .int (nI 6)), (3, .int (nI 0)), (0, .ref (ad 49)), (1, .ref (ad 1)), (2, .ref (ad 8))]) hx hb dX4_findBest_10 hl (by decide) rfl (fun ls hl => ?_)
  have lp_12 : ∀ (fu_12 : Nat) (s1 : Nat) (d : Nat) (f : Nat) (a1 : Nat) (I1 : Ic), 18 - s1 < fu_12 → (GI w ro K s1 d f a1) → (∀ a, a < 49 ∨ 49 < a → I1 a = I a) → ∀ (H : Heap) (locs : List Loc), Wd G n ad I1 L R (qA n ad s.heap.size) s.heap H locs s → ∀ ls : Array Slot, lv_has ls 7 [(0, .ref (ad 49)), (1, .ref (ad 1)), (2, .ref (ad 8)), (3, .int (nI (a1))), (4, .int (nI (f))), (5, .int (nI (d))), (6, .int (nI (s1)))] → W p l e ({ frames := 4, cells := 0, slots := 0, locals := 144 } : Room) s m ([.ref (ad 49), .ref (ad 1), .ref (ad 8)] : List Value).toArray below meth c H locs 0 0 (MQ below (qI1 G (qA n ad s.heap.size) n ad R (fun z I1 L1 => z = nI (rkN w ro K 0 6 (wayM w ro K)) ∧ (∀ a, a < 49 ∨ 50 < a → I1 a = I a) ∧ (∀ a, a < 49 ∨ 49 < a → L1 a = L a))) ([.ref (ad 49), .ref (ad 1), .ref (ad 8)] : List Value).toArray s 0 0 (qA n ad s.heap.size)) (F0 m 12 ls []) := by
    intro fu_12
    induction fu_12 with
    | zero =>
      intro s1 d f a1 I1 hm; exact absurd hm (Nat.not_lt_zero _)
    | succ fu_12 ih_12 =>
      intro s1 d f a1 I1 hm_12 hG hIf H locs hW ls hl
      have hdK := hG.2.2.1
      have hf6 := hG.2.2.2.1
      have hM1 : MdI I1 w K ro := MdI_lo hM (fun a ha => hIf a (by omega))
      have hMs1 : Meas w ro K I1 L := Meas_lo hMs hk6 (fun a ha => hIf a (by omega)) (fun _ _ => rfl)
      refine lv_iload hx hb dX4_findBest_12 (lv_at hl 5 rfl) ?_
      refine lv_aload_n hx hb dX4_findBest_14 rfl (lv_at hl 1 rfl) ?_
      refine g_0_2 (x := 1) hC hW (by omega) kd_1 gw_33 dX4_findBest_15 ?_
      refine q_top (v2 := .int (nI (K))) (congrArg _ hM1.2.1) ?_
      refine q_cge (tgt := 69) hx hb dX4_findBest_18 (by decide) (by first | omega | exact Nat.lt_of_le_of_lt (hw3 _) (by decide)) (by first | omega | exact Nat.lt_of_le_of_lt (hw3 _) (by decide)) (fun c_18 => ?_) (fun c_18 => ?_)
      ·
        refine lv_iload_n hx hb dX4_findBest_69 rfl (lv_at hl 3 rfl) ?_
        exact q_iret1 hC hW hr hlk0 ⟨congrArg nI (GI_e hG (by omega)), fun a ha => hIf a (by omega), fun _ _ => rfl⟩ dX4_findBest_70
      ·
        have hs18 : s1 < 18 := GI_lt hG hk6 (by omega)
        refine lv_iload hx hb dX4_findBest_21 (lv_at hl 6 rfl) ?_
        refine q_bp 18 hx hb dX4_findBest_23 (by decide) ?_
        refine q_cge (tgt := 69) hx hb dX4_findBest_25 (by decide) (by first | omega | exact Nat.lt_of_le_of_lt (hw3 _) (by decide)) (by first | omega | exact Nat.lt_of_le_of_lt (hw3 _) (by decide)) (fun c_25 => absurd c_25 (by omega)) (fun c_25 => ?_)
        refine lv_aload_n hx hb dX4_findBest_28 rfl (lv_at hl 0 rfl) ?_
        refine lv_aload_n hx hb dX4_findBest_29 rfl (lv_at hl 1 rfl) ?_
        refine lv_aload_n hx hb dX4_findBest_30 rfl (lv_at hl 2 rfl) ?_
        refine lv_iload hx hb dX4_findBest_31 (lv_at hl 5 rfl) ?_
        refine lv_iload hx hb dX4_findBest_33 (lv_at hl 4 rfl) ?_
        refine q_kI1 (q_rV (As := [.ref (ad 1), .ref (ad 8), .int (nI (d)), .int (nI (f))]) (rest := []) (x := 49) hC hW mw_X4_chooseBest gw_398 (k_chM l G n ad H.size I1 L R _ _ w K ro hn hlk hM1 hMs1 (by omega) (by omega)) (by omega) (ct_o4 kd_49) rfl ⟨rfl, rfl⟩ ⟨Nat.le_of_ble_eq_true rfl, Nat.le_of_ble_eq_true rfl⟩ ⟨Nat.le_of_ble_eq_true rfl, Nat.le_of_ble_eq_true rfl⟩ hl.1 rfl rfl (Nat.le_of_ble_eq_true rfl) dX4_findBest_35) hW (fun r_35 I_35 L_35 H locs hp hW => ?_)
        obtain ⟨t_35, ht_35, rfl, rfl, rfl, hc1_35, hc2_35⟩ := hp
        have hM_35 : MdI (up2 I1 49 3 (nI (fC w ro K d f t_35))) w K ro := MdI_lo hM1 (fun a ha => up2_ne (by omega))
        have hmv_35 := mv_le hM.2.2.2.2.1 K ro f t_35 d
        refine lv_istore (lv' := [(4, .int (nI (t_35))), (0, .ref (ad 49)), (1, .ref (ad 1)), (2, .ref (ad 8)), (3, .int (nI (a1))), (5, .int (nI (d))), (6, .int (nI (s1)))]) hx hb dX4_findBest_38 hl (by decide) rfl (fun ls hl => ?_)
        refine lv_iload_n hx hb dX4_findBest_40 rfl (lv_at hl 4 rfl) ?_
        refine lv_aload_n hx hb dX4_findBest_41 rfl (lv_at hl 1 rfl) ?_
        refine g_4_3 (x := 49) hC hW (by omega) kd_49 gw_110 dX4_findBest_42 ?_
        refine q_top (v2 := .int (nI (fC w ro K d f t_35))) (congrArg _ (by rw [up2_at, if_pos ⟨rfl, rfl⟩])) ?_
        refine q_iadd hx hb dX4_findBest_45 ?_
        refine lv_istore_n (lv' := [(3, .int (nI (a1 + (fC w ro K d f t_35)))), (4, .int (nI (t_35))), (0, .ref (ad 49)), (1, .ref (ad 1)), (2, .ref (ad 8)), (5, .int (nI (d))), (6, .int (nI (s1)))]) hx hb dX4_findBest_46 rfl hl (by decide) rfl (fun ls hl => ?_)
        refine lv_iload hx hb dX4_findBest_47 (lv_at hl 5 rfl) ?_
        refine lv_iload hx hb dX4_findBest_49 (lv_at hl 1 rfl) ?_
        refine q_ic 4 hx hb dX4_findBest_51 (by decide) ?_
        refine q_cge (tgt := 59) hx hb dX4_findBest_52 (by decide) (by first | omega | exact Nat.lt_of_le_of_lt (hw3 _) (by decide)) (by first | omega | exact Nat.lt_of_le_of_lt (hw3 _) (by decide)) (fun c_52 => ?_) (fun c_52 => ?_)
        ·
          refine q_ic 0 hx hb dX4_findBest_59 (by decide) ?_
          refine q_iadd hx hb dX4_findBest_60 ?_
          refine q_top (v2 := .int (nI (nx t_35 d))) (by unfold nx; rw [if_neg (show ¬ t_35 < 4 by omega)]; try rfl) ?_
          refine lv_istore (lv' := [(5, .int (nI (nx t_35 d))), (3, .int (nI (a1 + (fC w ro K d f t_35)))), (4, .int (nI (t_35))), (0, .ref (ad 49)), (1, .ref (ad 1)), (2, .ref (ad 8)), (6, .int (nI (s1)))]) hx hb dX4_findBest_61 hl (by decide) rfl (fun ls hl => ?_)
          refine q_iinc (z2 := s1 + 1) (lv' := [(6, .int (nI (s1 + 1))), (5, .int (nI (nx t_35 d))), (3, .int (nI (a1 + (fC w ro K d f t_35)))), (4, .int (nI (t_35))), (0, .ref (ad 49)), (1, .ref (ad 1)), (2, .ref (ad 8))]) hx hb dX4_findBest_63 hl (k := 6) rfl (inc_up _ 1 (by decide)) (by decide) rfl (fun ls hl => ?_)
          refine lv_goto (tgt := 12) hx hb dX4_findBest_66 (by decide) ?_
          exact ih_12 (s1 + 1) (nx t_35 d) t_35 (a1 + fC w ro K d f t_35) (up2 I1 49 3 (nI (fC w ro K d f t_35))) (by omega) (GI_s hM.2.2.2.2.1 hG hk6 (by omega) ht_35 hc1_35 hc2_35) (fun a ha => by rw [up2_ne (by omega)]; exact hIf a ha) _ _ hW _ (lv_sub hl [4, 5, 6, 2, 3, 1, 0] rfl)
        ·
          refine q_ic 1 hx hb dX4_findBest_55 (by decide) ?_
          refine lv_goto (tgt := 60) hx hb dX4_findBest_56 (by decide) ?_
          refine q_iadd hx hb dX4_findBest_60 ?_
          refine q_top (v2 := .int (nI (nx t_35 d))) (by unfold nx; rw [if_pos (show t_35 < 4 by omega)]; try rfl) ?_
          refine lv_istore (lv' := [(5, .int (nI (nx t_35 d))), (3, .int (nI (a1 + (fC w ro K d f t_35)))), (4, .int (nI (t_35))), (0, .ref (ad 49)), (1, .ref (ad 1)), (2, .ref (ad 8)), (6, .int (nI (s1)))]) hx hb dX4_findBest_61 hl (by decide) rfl (fun ls hl => ?_)
          refine q_iinc (z2 := s1 + 1) (lv' := [(6, .int (nI (s1 + 1))), (5, .int (nI (nx t_35 d))), (3, .int (nI (a1 + (fC w ro K d f t_35)))), (4, .int (nI (t_35))), (0, .ref (ad 49)), (1, .ref (ad 1)), (2, .ref (ad 8))]) hx hb dX4_findBest_63 hl (k := 6) rfl (inc_up _ 1 (by decide)) (by decide) rfl (fun ls hl => ?_)
          refine lv_goto (tgt := 12) hx hb dX4_findBest_66 (by decide) ?_
          exact ih_12 (s1 + 1) (nx t_35 d) t_35 (a1 + fC w ro K d f t_35) (up2 I1 49 3 (nI (fC w ro K d f t_35))) (by omega) (GI_s hM.2.2.2.2.1 hG hk6 (by omega) ht_35 hc1_35 hc2_35) (fun a ha => by rw [up2_ne (by omega)]; exact hIf a ha) _ _ hW _ (lv_sub hl [4, 5, 6, 2, 3, 1, 0] rfl)
  exact lp_12 (18 + 1) 0 0 6 0 I (by omega) (GI_0 hC0) (fun _ _ => rfl) _ _ hW _ (lv_sub hl [4, 5, 6, 3, 2, 1, 0] rfl)
set_option maxRecDepth 100000 in
set_option maxHeartbeats 4000000 in
theorem k_tell (l : Launch) (G : Gx) (n : Nat) (ad : Nat → Nat) (sz : Nat) (I : Ic) (L : Lc) (R : Rc) (x : Int32) (q : List Nat) (P : Nat) (hn : 83 ≤ n) (hlk : LkOK n R) (hF : Fol q P I L) : Met l yX4_tell (Cond.code yX4_tell cX4_tell 2 (some .int) :: GW) ({ frames := 0, cells := 0, slots := 0, locals := 0 } : Room) (qPre G n ad sz I L R [.ref (ad 49), .int (x)]) (qI0 G (qA n ad sz) (n, ad, I, L, R) (fun z => z = tellS q x)) 0 0 (qA n ad sz) := by
  refine q_met (by decide) (Nat.le_of_ble_eq_true rfl) ?_
  intro p e s m below meth c hC hr hlk0 hin hsz hW ls hl
  subst hsz
  have hC : CallFix p m c cX4_tell 2 s ([.ref (ad 49), .int (x)] : List Value).toArray GW "CoinRows$Walk" := hC
  have hx := hC.1
  have hb := hC.2.1
  have h18 := hF.2.2.2
  have hT : (nI q.length).toInt = (q.length : Int) := nI_toInt (by omega)
  have hl : lv_has ls 2 [(0, .ref (ad 49)), (1, .int (x))] := hl
  refine lv_iload_n hx hb dX4_tell_0 rfl (lv_at hl 1 rfl) ?_
  refine lv_iconst (v := -1) hx hb dX4_tell_1 (by decide) ?_
  refine lv_icmp_ne (tgt := 10) hx hb dX4_tell_2 (by decide) (fun c_2 => ?_) (fun c_2 => ?_)
  ·
    refine lv_iload_n hx hb dX4_tell_10 rfl (lv_at hl 1 rfl) ?_
    refine lv_if_lt (tgt := 31) hx hb dX4_tell_11 (by decide) (fun c_11 => ?_) (fun c_11 => ?_)
    ·
      refine lv_bipush (v := -6) hx hb dX4_tell_31 (by decide) ?_
      have hfin : rng x q.length = none := rng_none.mpr (by simp only [hT, Int32.lt_iff_toInt_lt, Int32.le_iff_toInt_le, ← Int32.toInt_inj, nT0, nT1, nT2, nT3, nT4, nT5, nT6, nT7, nT8, nT9, nT10, nT33, nT36, nT42, nT58, nT80, nT126, nT255, i_m1, i_m2, Int32.toInt_zero, Int32.toInt_one] at c_11; omega)
      exact q_iret0 hC hW hr hlk0 (tell_n (fun h => c_2 h) hfin).symm dX4_tell_33
    ·
      refine lv_iload_n hx hb dX4_tell_14 rfl (lv_at hl 1 rfl) ?_
      refine lv_aload_n hx hb dX4_tell_15 rfl (lv_at hl 0 rfl) ?_
      refine g_4_1 (x := 49) hC hW (by omega) kd_49 gw_107 dX4_tell_16 ?_
      refine q_top (v2 := .int (nI (q.length))) (congrArg _ hF.1) ?_
      refine lv_icmp_ge (tgt := 31) hx hb dX4_tell_19 (by decide) (fun c_19 => ?_) (fun c_19 => ?_)
      ·
        refine lv_bipush (v := -6) hx hb dX4_tell_31 (by decide) ?_
        have hfin : rng x q.length = none := rng_none.mpr (by simp only [hT, Int32.lt_iff_toInt_lt, Int32.le_iff_toInt_le, ← Int32.toInt_inj, nT0, nT1, nT2, nT3, nT4, nT5, nT6, nT7, nT8, nT9, nT10, nT33, nT36, nT42, nT58, nT80, nT126, nT255, i_m1, i_m2, Int32.toInt_zero, Int32.toInt_one] at c_11 c_19; omega)
        exact q_iret0 hC hW hr hlk0 (tell_n (fun h => c_2 h) hfin).symm dX4_tell_33
      ·
        obtain ⟨j1, hj1, rfl⟩ := rng_ex (N := q.length) (x := x) (by omega) (by simp only [hT, Int32.lt_iff_toInt_lt, Int32.le_iff_toInt_le, ← Int32.toInt_inj, nT0, nT1, nT2, nT3, nT4, nT5, nT6, nT7, nT8, nT9, nT10, nT33, nT36, nT42, nT58, nT80, nT126, nT255, i_m1, i_m2, Int32.toInt_zero, Int32.toInt_one] at c_11 c_19; omega) (by simp only [hT, Int32.lt_iff_toInt_lt, Int32.le_iff_toInt_le, ← Int32.toInt_inj, nT0, nT1, nT2, nT3, nT4, nT5, nT6, nT7, nT8, nT9, nT10, nT33, nT36, nT42, nT58, nT80, nT126, nT255, i_m1, i_m2, Int32.toInt_zero, Int32.toInt_one] at c_11 c_19; omega)
        refine lv_aload_n hx hb dX4_tell_22 rfl (lv_at hl 0 rfl) ?_
        refine g_4_0 (x := 49) (y := 50) hC hW (by omega) kd_49 gw_106 (hlk 49 0 50 (by omega) rfl) dX4_tell_23 ?_
        refine lv_iload_n hx hb dX4_tell_26 rfl (lv_at hl 1 rfl) ?_
        refine q_iald (x := 50) (i := j1) hC hW (by omega) kd_50 (by omega) dX4_tell_27 ?_
        refine q_top (v2 := .int (nI (q.getD j1 0))) (congrArg _ (hF.2.1 _ hj1)) ?_
        refine lv_goto (tgt := 33) hx hb dX4_tell_28 (by decide) ?_
        exact q_iret0 hC hW hr hlk0 (tell_s hj1 hF.2.2.2 rfl).symm dX4_tell_33
  ·
    refine lv_aload_n hx hb dX4_tell_5 rfl (lv_at hl 0 rfl) ?_
    refine g_4_1 (x := 49) hC hW (by omega) kd_49 gw_107 dX4_tell_6 ?_
    refine q_top (v2 := .int (nI (q.length))) (congrArg _ hF.1) ?_
    exact q_iret0 hC hW hr hlk0 (by rw [c_2, tell_m]) dX4_tell_9
end
section
def gx (E : Nat → Nat) (a : Nat) : Nat → Nat
  | 0 => 0
  | m + 1 => max (gx E a m) (E (a + m))
def tr1 (x g : Nat) : Nat := (6 * x + g) / (2 * g)
def tg (E v : Nat → Nat) (a z : Nat) (j : Nat) : Nat := if gx E a z = 0 then v j else tr1 (E j) (gx E a z)
def cntF (u v : Nat → Nat) (a : Nat) : Nat → Nat
  | 0 => 0
  | m + 1 => cntF u v a m + if u (a + m) = v (a + m) then 0 else 1
def mixA (v t : Nat → Nat) (a b : Nat) : Nat → Nat := fun j => if a ≤ j ∧ j < b then t j else v j
def wI (I : Ic) (v : Nat → Nat) : Ic := fun b => if b = 2 then (fun j => if j < 58 then nI (v j) else I 2 j) else I b
theorem wI_at {I : Ic} {v : Nat → Nat} {j : Nat} (h : j < 58) : wI I v 2 j = nI (v j) := by
  show (if 2 = 2 then _ else _ : Nat → Int32) j = _
  rw [if_pos rfl, if_pos h]
theorem wI_ne {I : Ic} {v : Nat → Nat} {b : Nat} (h : b ≠ 2) : wI I v b = I b := if_neg h
theorem wI_self {I : Ic} {w : Nat → Nat} (h : ∀ i, i < 58 → I 2 i = nI (w i)) : wI I w = I := by
  funext b
  by_cases hb : b = 2
  · subst hb
    funext j
    by_cases hj : j < 58
    · rw [wI_at hj, h j hj]
    · show (if 2 = 2 then _ else _ : Nat → Int32) j = _
      rw [if_pos rfl, if_neg hj]
  · exact wI_ne hb
theorem wI_up {I : Ic} {v : Nat → Nat} {i x : Nat} (hi : i < 58) : up2 (wI I v) 2 i (nI x) = wI I (fun j => if j = i then x else v j) := by
  funext b
  by_cases hb : b = 2
  · subst hb
    funext j
    rw [up2_at]
    by_cases hj : j < 58
    · rw [wI_at hj]
      by_cases e : j = i
      · rw [if_pos ⟨rfl, e⟩, wI_at hj, if_pos e]
      · rw [if_neg (fun q => e q.2), wI_at hj, if_neg e]
    · rw [if_neg (by omega)]
      show (if 2 = 2 then _ else _ : Nat → Int32) j = (if 2 = 2 then _ else _ : Nat → Int32) j
      rw [if_pos rfl, if_pos rfl, if_neg hj, if_neg hj]
  · rw [up2_ne hb, wI_ne hb, wI_ne hb]
theorem mixA_0 (v t : Nat → Nat) (a : Nat) : mixA v t a a = v := by
  funext j; unfold mixA; rw [if_neg (by omega)]
theorem mixA_s (v t : Nat → Nat) (a m : Nat) : (fun j => if j = a + m then t (a + m) else mixA v t a (a + m) j) = mixA v t a (a + (m + 1)) := by
  funext j
  unfold mixA
  by_cases e : j = a + m
  · rw [if_pos e, if_pos (by omega), e]
  · rw [if_neg e]
    by_cases h : a ≤ j ∧ j < a + m
    · rw [if_pos h, if_pos (by omega)]
    · rw [if_neg h, if_neg (by omega)]
theorem mixA_n {v t : Nat → Nat} {a m : Nat} (h : t (a + m) = v (a + m)) : mixA v t a (a + (m + 1)) = mixA v t a (a + m) := by
  funext j
  unfold mixA
  by_cases e : j = a + m
  · rw [if_pos (by omega), if_neg (by omega), e, h]
  · by_cases h : a ≤ j ∧ j < a + m
    · rw [if_pos h, if_pos (by omega)]
    · rw [if_neg h, if_neg (by omega)]
theorem mixA_at (v t : Nat → Nat) (a m : Nat) : mixA v t a (a + m) (a + m) = v (a + m) := by unfold mixA; rw [if_neg (by omega)]
theorem gx_le {E : Nat → Nat} {B a : Nat} : ∀ {m : Nat}, (∀ i, i < m → E (a + i) ≤ B) → gx E a m ≤ B
  | 0, _ => Nat.zero_le B
  | m + 1, h => by
    have h1 := gx_le (m := m) (fun i hi => h i (by omega))
    have h2 := h m (by omega)
    show max (gx E a m) (E (a + m)) ≤ B
    omega
theorem gx_ge (E : Nat → Nat) (a : Nat) : ∀ {m i : Nat}, i < m → E (a + i) ≤ gx E a m
  | 0, i, h => absurd h (Nat.not_lt_zero i)
  | m + 1, i, h => by
    show _ ≤ max (gx E a m) (E (a + m))
    by_cases e : i = m
    · rw [e]; exact Nat.le_max_right _ _
    · exact Nat.le_trans (gx_ge E a (show i < m by omega)) (Nat.le_max_left _ _)
theorem tr1_le {x g : Nat} (hg : 0 < g) (h : x ≤ g) : tr1 x g ≤ 3 := by
  unfold tr1
  have : 6 * x + g < 4 * (2 * g) := by omega
  have := (Nat.div_lt_iff_lt_mul (show 0 < 2 * g by omega)).mpr this
  omega
theorem tr1_0 (g : Nat) : tr1 0 g = 0 := by
  unfold tr1
  by_cases h : g = 0
  · subst h; rfl
  · exact Nat.div_eq_of_lt (by omega)
theorem cntF_y {u v : Nat → Nat} {a m : Nat} (h : u (a + m) = v (a + m)) : cntF u v a (m + 1) = cntF u v a m := by show cntF u v a m + _ = _; rw [if_pos h]; rfl
theorem cntF_n {u v : Nat → Nat} {a m : Nat} (h : ¬ u (a + m) = v (a + m)) : cntF u v a (m + 1) = cntF u v a m + 1 := by show cntF u v a m + _ = _; rw [if_neg h]
theorem cntF_le (u v : Nat → Nat) (a : Nat) : ∀ m, cntF u v a m ≤ m
  | 0 => Nat.le_refl 0
  | m + 1 => by
    have := cntF_le u v a m
    show cntF u v a m + _ ≤ _
    split <;> omega
theorem cntF_cong {u v u' v' : Nat → Nat} {a : Nat} : ∀ {m : Nat}, (∀ i, i < m → (u (a + i) = v (a + i) ↔ u' (a + i) = v' (a + i))) → cntF u v a m = cntF u' v' a m
  | 0, _ => rfl
  | m + 1, h => by
    show cntF u v a m + _ = cntF u' v' a m + _
    rw [cntF_cong (fun i hi => h i (by omega))]
    by_cases e : u (a + m) = v (a + m)
    · rw [if_pos e, if_pos ((h m (by omega)).mp e)]
    · rw [if_neg e, if_neg (fun q => e ((h m (by omega)).mpr q))]
theorem cntF_add (u v : Nat → Nat) (a m : Nat) : ∀ n, cntF u v a (m + n) = cntF u v a m + cntF u v (a + m) n
  | 0 => rfl
  | n + 1 => by
    show cntF u v a (m + n) + (if u (a + (m + n)) = v (a + (m + n)) then 0 else 1) = cntF u v a m + (cntF u v (a + m) n + (if u (a + m + n) = v (a + m + n) then 0 else 1))
    rw [cntF_add u v a m n, Nat.add_assoc, show a + (m + n) = a + m + n by omega]
/-- all groups' numbers -/
def exN (w r : Nat → Nat) (K : Nat) (j : Nat) : Nat := if j < 42 then stN w r K (j / 6) (j % 6) K else if j < 58 then leN w r K ((j - 42) / 4) ((j - 42) % 4) K else 0
def gfst (j : Nat) : Nat := if j < 42 then j / 6 * 6 else 42 + (j - 42) / 4 * 4
def gsz (j : Nat) : Nat := if j < 42 then 6 else 4
def tnew (E w : Nat → Nat) (j : Nat) : Nat := tg E w (gfst j) (gsz j) j
theorem exN_st {w r : Nat → Nat} {K f t : Nat} (hf : f ≤ 6) (ht : t < 6) : exN w r K (f * 6 + t) = stN w r K f t K := by
  unfold exN
  rw [if_pos (by omega), show (f * 6 + t) / 6 = f by omega, show (f * 6 + t) % 6 = t by omega]
theorem exN_le {w r : Nat → Nat} {K f t : Nat} (hf : f < 4) (ht : t < 4) : exN w r K (42 + f * 4 + t) = leN w r K f t K := by
  unfold exN
  rw [if_neg (by omega), if_pos (by omega), show (42 + f * 4 + t - 42) / 4 = f by omega, show (42 + f * 4 + t - 42) % 4 = t by omega]
theorem tg_cong {E v v' : Nat → Nat} {a z j : Nat} (h : v j = v' j) : tg E v a z j = tg E v' a z j := by unfold tg; rw [h]
/-- a group, behind those ahead of it -/
theorem grp_s {E w : Nat → Nat} {a z : Nat} (hg : ∀ j, a ≤ j → j < a + z → gfst j = a ∧ gsz j = z) : mixA (mixA w (tnew E w) 0 a) (tg E (mixA w (tnew E w) 0 a) a z) a (a + z) = mixA w (tnew E w) 0 (a + z) := by
  funext j
  have e1 : mixA w (tnew E w) 0 a = fun j => if 0 ≤ j ∧ j < a then tnew E w j else w j := rfl
  by_cases h : a ≤ j ∧ j < a + z
  · have h1 : mixA (mixA w (tnew E w) 0 a) (tg E (mixA w (tnew E w) 0 a) a z) a (a + z) j = tg E (mixA w (tnew E w) 0 a) a z j := if_pos h
    have h2 : mixA w (tnew E w) 0 (a + z) j = tnew E w j := if_pos (by omega)
    have h3 : mixA w (tnew E w) 0 a j = w j := if_neg (by omega)
    rw [h1, h2, tg_cong h3]
    unfold tnew
    rw [(hg j h.1 h.2).1, (hg j h.1 h.2).2]
  · have h1 : mixA (mixA w (tnew E w) 0 a) (tg E (mixA w (tnew E w) 0 a) a z) a (a + z) j = mixA w (tnew E w) 0 a j := if_neg h
    rw [h1]
    by_cases h4 : j < a
    · have h2 : mixA w (tnew E w) 0 a j = tnew E w j := if_pos (by omega)
      have h3 : mixA w (tnew E w) 0 (a + z) j = tnew E w j := if_pos (by omega)
      rw [h2, h3]
    · have h2 : mixA w (tnew E w) 0 a j = w j := if_neg (by omega)
      have h3 : mixA w (tnew E w) 0 (a + z) j = w j := if_neg (by omega)
      rw [h2, h3]
theorem grp_c {E w : Nat → Nat} {a z : Nat} (hg : ∀ j, a ≤ j → j < a + z → gfst j = a ∧ gsz j = z) : cntF (mixA w (tnew E w) 0 a) (tg E (mixA w (tnew E w) 0 a) a z) a z = cntF w (tnew E w) a z := cntF_cong fun i hi => by
  have h3 : mixA w (tnew E w) 0 a (a + i) = w (a + i) := if_neg (by omega)
  rw [h3, tg_cong h3]
  unfold tnew
  rw [(hg (a + i) (by omega) (by omega)).1, (hg (a + i) (by omega) (by omega)).2]
theorem grp6 (f : Nat) (hf : f ≤ 6) : ∀ j, f * 6 ≤ j → j < f * 6 + 6 → gfst j = f * 6 ∧ gsz j = 6 := fun j h1 h2 => by
  unfold gfst gsz
  rw [if_pos (by omega), if_pos (by omega), show j / 6 = f by omega]; exact ⟨rfl, rfl⟩
theorem grp4 (f : Nat) (hf : f < 4) : ∀ j, 42 + f * 4 ≤ j → j < 42 + f * 4 + 4 → gfst j = 42 + f * 4 ∧ gsz j = 4 := fun j h1 h2 => by
  unfold gfst gsz
  rw [if_neg (by omega), if_neg (by omega), show (j - 42) / 4 = f by omega]; exact ⟨rfl, rfl⟩
theorem tg_le {E v : Nat → Nat} {a z j : Nat} (hv : v j ≤ 3) (h1 : a ≤ j) (h2 : j < a + z) : tg E v a z j ≤ 3 := by
  unfold tg
  split
  · exact hv
  · have := gx_ge E a (show j - a < z by omega)
    rw [show a + (j - a) = j by omega] at this
    exact tr1_le (by omega) this
theorem gr_in (j : Nat) (h : j < 58) : gfst j ≤ j ∧ j < gfst j + gsz j := by
  unfold gfst gsz
  by_cases h1 : j < 42
  · rw [if_pos h1, if_pos h1]; omega
  · rw [if_neg h1, if_neg h1]; omega
theorem tnew_le {E w : Nat → Nat} (hw : ∀ i, w i ≤ 3) (j : Nat) : tnew E w j ≤ 3 := by
  unfold tnew
  have h : gfst j ≤ j ∧ j < gfst j + gsz j := by
    unfold gfst gsz
    by_cases h1 : j < 42
    · rw [if_pos h1, if_pos h1]; omega
    · rw [if_neg h1, if_neg h1]; omega
  exact tg_le (hw j) h.1 h.2
theorem mix_le {E w : Nat → Nat} (hw : ∀ i, w i ≤ 3) (b j : Nat) : mixA w (tnew E w) 0 b j ≤ 3 := by
  unfold mixA
  split
  · exact tnew_le hw j
  · exact hw j
theorem tnew_0 {E w : Nat → Nat} {j : Nat} (hE : E j = 0) (hw : w j = 0) : tnew E w j = 0 := by
  unfold tnew tg
  split
  · exact hw
  · rw [hE]; exact tr1_0 _
end
section
theorem div_ne {a : Nat} (h0 : 0 < a) (h : 2 * a < 2 ^ 63) : ¬ lN (2 * a) = 0 := fun q => by
  have h1 : lN (2 * a) = lN 0 := q
  have h2 := (pk_lEQ h (by decide)).mp h1
  omega
theorem mix0 {E v : Nat → Nat} {a z b : Nat} (h : gx E a z = 0) : mixA v (tg E v a z) a b = v := by
  funext j; unfold mixA tg; rw [if_pos h]; split <;> rfl
theorem cnt0 {E v : Nat → Nat} {a z : Nat} (h : gx E a z = 0) : nI (cntF v (tg E v a z) a z) = nI 0 := by
  have : ∀ m, cntF v (tg E v a z) a m = 0 := fun m => by
    induction m with
    | zero => rfl
    | succ m ih => rw [cntF_y (by unfold tg; rw [if_pos h]), ih]
  rw [this]
set_option maxRecDepth 100000 in
set_option maxHeartbeats 4000000 in
theorem k_group (l : Launch) (G : Gx) (n : Nat) (ad : Nat → Nat) (sz : Nat) (I : Ic) (L : Lc) (R : Rc) (v E : Nat → Nat) (a z : Nat) (hn : 83 ≤ n) (hlk : LkOK n R) (hE : ∀ j, j < 58 → L 52 j = lN (E j)) (hEb : ∀ j, E j ≤ 1317000000000000000) (hv : ∀ j, v j ≤ 3) (haz : a + z ≤ 58) : Met l yX3_improveGroup (Cond.code yX3_improveGroup cX3_improveGroup 9 (some .int) :: GW) ({ frames := 1, cells := 0, slots := 0, locals := 36 } : Room) (qPre G n ad sz (wI I v) L R [.ref (ad 51), .ref (ad 1), .int (nI (a)), .int (nI (z))]) (qI1 G (qA n ad sz) n ad R (fun y I1 L1 => y = nI (cntF v (tg E v a z) a z) ∧ I1 = wI I (mixA v (tg E v a z) a (a + z)) ∧ L = L1)) 0 0 (qA n ad sz) := by
  refine q_met (by decide) (Nat.le_of_ble_eq_true rfl) ?_
  intro p e s m below meth c hC hr hlk0 hin hsz hW ls hl
  subst hsz
  have hC : CallFix p m c cX3_improveGroup 9 s ([.ref (ad 51), .ref (ad 1), .int (nI (a)), .int (nI (z))] : List Value).toArray GW "CoinRows$Trainer" := hC
  have hx := hC.1
  have hb := hC.2.1
  have hl : lv_has ls 9 [(0, .ref (ad 51)), (1, .ref (ad 1)), (2, .int (nI (a))), (3, .int (nI (z)))] := hl
  refine q_lc 0 hx hb dX3_improveGroup_0 (by decide) ?_
  refine lv_lstore (lv' := [(4, .long (lN 0)), (0, .ref (ad 51)), (1, .ref (ad 1)), (2, .int (nI (a))), (3, .int (nI (z)))]) hx hb dX3_improveGroup_1 hl (by decide) rfl (fun ls hl => ?_)
  refine lv_iload_n hx hb dX3_improveGroup_3 rfl (lv_at hl 3 rfl) ?_
  refine lv_istore (lv' := [(6, .int (nI (a))), (4, .long (lN 0)), (0, .ref (ad 51)), (1, .ref (ad 1)), (2, .int (nI (a))), (3, .int (nI (z)))]) hx hb dX3_improveGroup_4 hl (by decide) rfl (fun ls hl => ?_)
  have lp_6 : ∀ (fu_6 : Nat) (i : Nat), z - i < fu_6 → (i ≤ z) → ∀ (H : Heap) (locs : List Loc), Wd G n ad (wI I v) L R (qA n ad s.heap.size) s.heap H locs s → ∀ ls : Array Slot, lv_has ls 9 [(0, .ref (ad 51)), (1, .ref (ad 1)), (2, .int (nI (a))), (3, .int (nI (z))), (4, .long (lN (gx E a i))), (6, .int (nI (a + i)))] → W p l e ({ frames := 1, cells := 0, slots := 0, locals := 36 } : Room) s m ([.ref (ad 51), .ref (ad 1), .int (nI (a)), .int (nI (z))] : List Value).toArray below meth c H locs 0 0 (MQ below (qI1 G (qA n ad s.heap.size) n ad R (fun y I1 L1 => y = nI (cntF v (tg E v a z) a z) ∧ I1 = wI I (mixA v (tg E v a z) a (a + z)) ∧ L = L1)) ([.ref (ad 51), .ref (ad 1), .int (nI (a)), .int (nI (z))] : List Value).toArray s 0 0 (qA n ad s.heap.size)) (F0 m 6 ls []) := by
    intro fu_6
    induction fu_6 with
    | zero =>
      intro i hm; exact absurd hm (Nat.not_lt_zero _)
    | succ fu_6 ih_6 =>
      intro i hm_6 hi H locs hW ls hl
      have hgl : gx E a i ≤ 1317000000000000000 := gx_le (fun q _ => hEb _)
      have hEi := hEb (a + i)
      refine lv_iload hx hb dX3_improveGroup_6 (lv_at hl 5 rfl) ?_
      refine lv_iload_n hx hb dX3_improveGroup_8 rfl (lv_at hl 2 rfl) ?_
      refine lv_iload_n hx hb dX3_improveGroup_9 rfl (lv_at hl 3 rfl) ?_
      refine q_iadd hx hb dX3_improveGroup_10 ?_
      refine q_cge (tgt := 34) hx hb dX3_improveGroup_11 (by decide) (by first | omega | exact Nat.lt_of_le_of_lt (hw3 _) (by decide)) (by first | omega | exact Nat.lt_of_le_of_lt (hw3 _) (by decide)) (fun c_11 => ?_) (fun c_11 => ?_)
      ·
        have ez : z = i := by omega
        subst ez
        refine lv_lload hx hb dX3_improveGroup_34 (lv_at hl 4 rfl) ?_
        refine q_lc 0 hx hb dX3_improveGroup_36 (by decide) ?_
        refine q_lcmp hx hb dX3_improveGroup_37 ?_
        refine q_lne (tgt := 43) hx hb dX3_improveGroup_38 (by decide) (by first | decide | omega | assumption) (by first | decide | omega | assumption) (fun c_38 => ?_) (fun c_38 => ?_)
        ·
          refine q_ic 0 hx hb dX3_improveGroup_43 (by decide) ?_
          refine lv_istore (lv' := [(6, .int (nI 0)), (0, .ref (ad 51)), (1, .ref (ad 1)), (2, .int (nI (a))), (3, .int (nI (z))), (4, .long (lN (gx E a z)))]) hx hb dX3_improveGroup_44 hl (by decide) rfl (fun ls hl => ?_)
          have hW := (show wI I v = wI I (mixA v (tg E v a z) a (a + 0)) from by rw [Nat.add_zero, mixA_0]) ▸ hW
          refine lv_iload_n hx hb dX3_improveGroup_46 rfl (lv_at hl 3 rfl) ?_
          refine lv_istore (lv' := [(7, .int (nI (a))), (6, .int (nI 0)), (0, .ref (ad 51)), (1, .ref (ad 1)), (2, .int (nI (a))), (3, .int (nI (z))), (4, .long (lN (gx E a z)))]) hx hb dX3_improveGroup_47 hl (by decide) rfl (fun ls hl => ?_)
          have lp_49 : ∀ (fu_49 : Nat) (j : Nat), z - j < fu_49 → (j ≤ z) → ∀ (H : Heap) (locs : List Loc), Wd G n ad (wI I (mixA v (tg E v a z) a (a + j))) L R (qA n ad s.heap.size) s.heap H locs s → ∀ ls : Array Slot, lv_has ls 9 [(0, .ref (ad 51)), (1, .ref (ad 1)), (2, .int (nI (a))), (3, .int (nI (z))), (4, .long (lN (gx E a z))), (6, .int (nI (cntF v (tg E v a z) a j))), (7, .int (nI (a + j)))] → W p l e ({ frames := 1, cells := 0, slots := 0, locals := 36 } : Room) s m ([.ref (ad 51), .ref (ad 1), .int (nI (a)), .int (nI (z))] : List Value).toArray below meth c H locs 0 0 (MQ below (qI1 G (qA n ad s.heap.size) n ad R (fun y I1 L1 => y = nI (cntF v (tg E v a z) a z) ∧ I1 = wI I (mixA v (tg E v a z) a (a + z)) ∧ L = L1)) ([.ref (ad 51), .ref (ad 1), .int (nI (a)), .int (nI (z))] : List Value).toArray s 0 0 (qA n ad s.heap.size)) (F0 m 49 ls []) := by
            intro fu_49
            induction fu_49 with
            | zero =>
              intro j hm; exact absurd hm (Nat.not_lt_zero _)
            | succ fu_49 ih_49 =>
              intro j hm_49 hj H locs hW ls hl
              have hcl := cntF_le v (tg E v a z) a j
              refine lv_iload hx hb dX3_improveGroup_49 (lv_at hl 6 rfl) ?_
              refine lv_iload_n hx hb dX3_improveGroup_51 rfl (lv_at hl 2 rfl) ?_
              refine lv_iload_n hx hb dX3_improveGroup_52 rfl (lv_at hl 3 rfl) ?_
              refine q_iadd hx hb dX3_improveGroup_53 ?_
              refine q_cge (tgt := 111) hx hb dX3_improveGroup_54 (by decide) (by first | omega | exact Nat.lt_of_le_of_lt (hw3 _) (by decide)) (by first | omega | exact Nat.lt_of_le_of_lt (hw3 _) (by decide)) (fun c_54 => ?_) (fun c_54 => ?_)
              ·
                refine lv_iload hx hb dX3_improveGroup_111 (lv_at hl 5 rfl) ?_
                have ej : z = j := by omega
                subst ej
                exact q_iret1 hC hW hr hlk0 ⟨rfl, rfl, rfl⟩ dX3_improveGroup_113
              ·
                refine lv_ldc2 (v := lN 6) hx hb hC.2.2.2.1 (hC.2.2.2.2 _ gw_275) dX3_improveGroup_57 ?_
                refine lv_aload_n hx hb dX3_improveGroup_60 rfl (lv_at hl 0 rfl) ?_
                refine g_3_0 (x := 51) (y := 52) hC hW (by omega) kd_51 gw_126 (hlk 51 0 52 (by omega) rfl) dX3_improveGroup_61 ?_
                refine lv_iload hx hb dX3_improveGroup_64 (lv_at hl 6 rfl) ?_
                refine q_lald (x := 52) (i := a + j) hC hW (by omega) kd_52 (by omega) dX3_improveGroup_66 ?_
                refine q_top (v2 := .long (lN (E (a + j)))) (congrArg _ (hE _ (by omega))) ?_
                refine q_lmul hx hb dX3_improveGroup_67 ?_
                refine lv_lload hx hb dX3_improveGroup_68 (lv_at hl 4 rfl) ?_
                refine q_ladd hx hb dX3_improveGroup_70 ?_
                refine lv_ldc2 (v := lN 2) hx hb hC.2.2.2.1 (hC.2.2.2.2 _ gw_276) dX3_improveGroup_71 ?_
                refine lv_lload hx hb dX3_improveGroup_74 (lv_at hl 4 rfl) ?_
                refine q_lmul hx hb dX3_improveGroup_76 ?_
                have hg0 : 0 < gx E a z := by omega
                have hEj := hEb (a + j)
                refine lv_ldiv hx hb dX3_improveGroup_77 (div_ne (by omega) (by omega)) ?_
                refine q_top (v2 := .long (lN (tg E v a z (a + j)))) (by rw [pk_lDiv (by omega) (by omega) (by omega)]; unfold tg tr1; rw [if_neg (by omega)]) ?_
                refine q_l2i hx hb dX3_improveGroup_78 ?_
                refine lv_istore (lv' := [(8, .int (nI (tg E v a z (a + j)))), (0, .ref (ad 51)), (1, .ref (ad 1)), (2, .int (nI (a))), (3, .int (nI (z))), (4, .long (lN (gx E a z))), (6, .int (nI (cntF v (tg E v a z) a j))), (7, .int (nI (a + j)))]) hx hb dX3_improveGroup_79 hl (by decide) rfl (fun ls hl => ?_)
                have ht3 : tg E v a z (a + j) ≤ 3 := tg_le (hv _) (by omega) (by omega)
                have hvj := hv (a + j)
                refine lv_iload hx hb dX3_improveGroup_81 (lv_at hl 0 rfl) ?_
                refine lv_aload_n hx hb dX3_improveGroup_83 rfl (lv_at hl 2 rfl) ?_
                refine g_0_0 (x := 1) (y := 2) hC hW (by omega) kd_1 gw_27 (hlk 1 0 2 (by omega) rfl) dX3_improveGroup_84 ?_
                refine lv_iload hx hb dX3_improveGroup_87 (lv_at hl 7 rfl) ?_
                refine q_iald (x := 2) (i := a + j) hC hW (by omega) kd_2 (by omega) dX3_improveGroup_89 ?_
                refine q_top (v2 := .int (nI (v (a + j)))) (congrArg _ (by rw [wI_at (by omega), mixA_at])) ?_
                refine q_ceq (tgt := 105) hx hb dX3_improveGroup_90 (by decide) (by first | omega | exact Nat.lt_of_le_of_lt (hw3 _) (by decide)) (by first | omega | exact Nat.lt_of_le_of_lt (hw3 _) (by decide)) (fun c_90 => ?_) (fun c_90 => ?_)
                ·
                  have hz : tg E v a z (a + j) = v (a + j) := c_90
                  rw [← mixA_n hz] at hW
                  have hl : lv_has ls 9 [(8, .int (nI (tg E v a z (a + j)))), (0, .ref (ad 51)), (1, .ref (ad 1)), (2, .int (nI (a))), (3, .int (nI (z))), (4, .long (lN (gx E a z))), (6, .int (nI (cntF v (tg E v a z) a (j + 1)))), (7, .int (nI (a + j)))] := by rw [cntF_y hz.symm]; exact hl
                  refine q_iinc (z2 := (a + j) + 1) (lv' := [(7, .int (nI ((a + j) + 1))), (8, .int (nI (tg E v a z (a + j)))), (0, .ref (ad 51)), (1, .ref (ad 1)), (2, .int (nI (a))), (3, .int (nI (z))), (4, .long (lN (gx E a z))), (6, .int (nI (cntF v (tg E v a z) a (j + 1))))]) hx hb dX3_improveGroup_105 hl (k := 7) rfl (inc_up _ 1 (by decide)) (by decide) rfl (fun ls hl => ?_)
                  refine lv_goto (tgt := 49) hx hb dX3_improveGroup_108 (by decide) ?_
                  exact ih_49 (j + 1) (by omega) (by omega) _ _ hW _ (lv_sub hl [2, 3, 4, 5, 6, 7, 0] rfl)
                ·
                  have hz : ¬ tg E v a z (a + j) = v (a + j) := c_90
                  refine lv_aload_n hx hb dX3_improveGroup_93 rfl (lv_at hl 2 rfl) ?_
                  refine g_0_0 (x := 1) (y := 2) hC hW (by omega) kd_1 gw_27 (hlk 1 0 2 (by omega) rfl) dX3_improveGroup_94 ?_
                  refine lv_iload hx hb dX3_improveGroup_97 (lv_at hl 7 rfl) ?_
                  refine lv_iload hx hb dX3_improveGroup_99 (lv_at hl 0 rfl) ?_
                  refine q_iast (x := 2) (i := a + j) (v := nI (tg E v a z (a + j))) hC hW (by omega) kd_2 (by omega) dX3_improveGroup_101 (fun H locs hW => ?_)
                  refine q_iinc (z2 := (cntF v (tg E v a z) a j) + 1) (lv' := [(6, .int (nI ((cntF v (tg E v a z) a j) + 1))), (8, .int (nI (tg E v a z (a + j)))), (0, .ref (ad 51)), (1, .ref (ad 1)), (2, .int (nI (a))), (3, .int (nI (z))), (4, .long (lN (gx E a z))), (7, .int (nI (a + j)))]) hx hb dX3_improveGroup_102 hl (k := 6) rfl (inc_up _ 1 (by decide)) (by decide) rfl (fun ls hl => ?_)
                  rw [wI_up (by omega), mixA_s] at hW
                  have hl : lv_has ls 9 [(6, .int (nI (cntF v (tg E v a z) a (j + 1)))), (8, .int (nI (tg E v a z (a + j)))), (0, .ref (ad 51)), (1, .ref (ad 1)), (2, .int (nI (a))), (3, .int (nI (z))), (4, .long (lN (gx E a z))), (7, .int (nI (a + j)))] := by rw [cntF_n (fun q9 => hz q9.symm)]; exact hl
                  refine q_iinc (z2 := (a + j) + 1) (lv' := [(7, .int (nI ((a + j) + 1))), (6, .int (nI (cntF v (tg E v a z) a (j + 1)))), (8, .int (nI (tg E v a z (a + j)))), (0, .ref (ad 51)), (1, .ref (ad 1)), (2, .int (nI (a))), (3, .int (nI (z))), (4, .long (lN (gx E a z)))]) hx hb dX3_improveGroup_105 hl (k := 7) rfl (inc_up _ 1 (by decide)) (by decide) rfl (fun ls hl => ?_)
                  refine lv_goto (tgt := 49) hx hb dX3_improveGroup_108 (by decide) ?_
                  exact ih_49 (j + 1) (by omega) (by omega) _ _ hW _ (lv_sub hl [3, 4, 5, 6, 7, 1, 0] rfl)
          exact lp_49 (z + 1) 0 (by omega) (by omega) _ _ hW _ (lv_sub hl [2, 3, 4, 5, 6, 1, 0] rfl)
        ·
          refine q_ic 0 hx hb dX3_improveGroup_41 (by decide) ?_
          exact q_iret1 hC hW hr hlk0 ⟨(cnt0 c_38).symm, (by rw [mix0 c_38]), rfl⟩ dX3_improveGroup_42
      ·
        refine lv_lload hx hb dX3_improveGroup_14 (lv_at hl 4 rfl) ?_
        refine lv_aload_n hx hb dX3_improveGroup_16 rfl (lv_at hl 0 rfl) ?_
        refine g_3_0 (x := 51) (y := 52) hC hW (by omega) kd_51 gw_126 (hlk 51 0 52 (by omega) rfl) dX3_improveGroup_17 ?_
        refine lv_iload hx hb dX3_improveGroup_20 (lv_at hl 5 rfl) ?_
        refine q_lald (x := 52) (i := a + i) hC hW (by omega) kd_52 (by omega) dX3_improveGroup_22 ?_
        refine q_top (v2 := .long (lN (E (a + i)))) (congrArg _ (hE _ (by omega))) ?_
        refine q_max hC hl.1 gw_274 (Nat.le_of_ble_eq_true rfl) (Nat.le_of_ble_eq_true rfl) (Nat.le_refl _) (Nat.le_refl _) dX3_improveGroup_23 ?_
        refine q_top (v2 := .long (lN (gx E a (i + 1)))) (by rw [lN_max (by omega) (by omega)]; rfl) ?_
        refine lv_lstore (lv' := [(4, .long (lN (gx E a (i + 1)))), (0, .ref (ad 51)), (1, .ref (ad 1)), (2, .int (nI (a))), (3, .int (nI (z))), (6, .int (nI (a + i)))]) hx hb dX3_improveGroup_26 hl (by decide) rfl (fun ls hl => ?_)
        refine q_iinc (z2 := (a + i) + 1) (lv' := [(6, .int (nI ((a + i) + 1))), (4, .long (lN (gx E a (i + 1)))), (0, .ref (ad 51)), (1, .ref (ad 1)), (2, .int (nI (a))), (3, .int (nI (z)))]) hx hb dX3_improveGroup_28 hl (k := 5) rfl (inc_up _ 1 (by decide)) (by decide) rfl (fun ls hl => ?_)
        refine lv_goto (tgt := 6) hx hb dX3_improveGroup_31 (by decide) ?_
        exact ih_6 (i + 1) (by omega) (by omega) _ _ hW _ (lv_sub hl [2, 3, 4, 5, 1, 0] rfl)
  exact lp_6 (z + 1) 0 (by omega) (by omega) _ _ hW _ (lv_sub hl [2, 3, 4, 5, 1, 0] rfl)
set_option maxRecDepth 100000 in
set_option maxHeartbeats 4000000 in
theorem k_improve (l : Launch) (G : Gx) (n : Nat) (ad : Nat → Nat) (sz : Nat) (I : Ic) (L : Lc) (R : Rc) (w : Nat → Nat) (K : Nat) (ro : Nat → Nat) (hn : 83 ≤ n) (hlk : LkOK n R) (hM : MdI I w K ro) (hMs : Meas w ro K I L) (hEb : ∀ j, exN w ro K j ≤ 1317000000000000000) : Met l yX3_improve (Cond.code yX3_improve cX3_improve 5 (some .int) :: GW) ({ frames := 3, cells := 0, slots := 0, locals := 108 } : Room) (qPre G n ad sz I L R [.ref (ad 51), .ref (ad 1), .ref (ad 8)]) (qI1 G (qA n ad sz) n ad R (fun y I1 L1 => y = nI (cntF w (tnew (exN w ro K) w) 0 58) ∧ I1 = wI I (mixA w (tnew (exN w ro K) w) 0 58) ∧ ∀ a, a < 52 ∨ 52 < a → L1 a = L a)) 0 0 (qA n ad sz) := by
  refine q_met (by decide) (Nat.le_of_ble_eq_true rfl) ?_
  intro p e s m below meth c hC hr hlk0 hin hsz hW ls hl
  subst hsz
  have hC : CallFix p m c cX3_improve 5 s ([.ref (ad 51), .ref (ad 1), .ref (ad 8)] : List Value).toArray GW "CoinRows$Trainer" := hC
  have hx := hC.1
  have hb := hC.2.1
  have hk6 : K ≤ 6 := hM.2.2.2.1
  have hw3 : ∀ i, w i ≤ 3 := hM.2.2.2.2.1.1
  have hr4 : ∀ j, ro j < 4 := hM.2.2.2.2.2
  have hl : lv_has ls 5 [(0, .ref (ad 51)), (1, .ref (ad 1)), (2, .ref (ad 8))] := hl
  refine q_ic 0 hx hb dX3_improve_0 (by decide) ?_
  refine lv_istore_n (lv' := [(3, .int (nI 0)), (0, .ref (ad 51)), (1, .ref (ad 1)), (2, .ref (ad 8))]) hx hb dX3_improve_1 rfl hl (by decide) rfl (fun ls hl => ?_)
  have lp_2 : ∀ (fu_2 : Nat) (f : Nat) (L1 : Lc), 7 - f < fu_2 → (f ≤ 7) → (∀ j, j < f * 6 → L1 52 j = lN (exN w ro K j)) → (∀ a, a < 52 ∨ 52 < a → L1 a = L a) → ∀ (H : Heap) (locs : List Loc), Wd G n ad I L1 R (qA n ad s.heap.size) s.heap H locs s → ∀ ls : Array Slot, lv_has ls 5 [(0, .ref (ad 51)), (1, .ref (ad 1)), (2, .ref (ad 8)), (3, .int (nI (f)))] → W p l e ({ frames := 3, cells := 0, slots := 0, locals := 108 } : Room) s m ([.ref (ad 51), .ref (ad 1), .ref (ad 8)] : List Value).toArray below meth c H locs 0 0 (MQ below (qI1 G (qA n ad s.heap.size) n ad R (fun y I1 L1 => y = nI (cntF w (tnew (exN w ro K) w) 0 58) ∧ I1 = wI I (mixA w (tnew (exN w ro K) w) 0 58) ∧ ∀ a, a < 52 ∨ 52 < a → L1 a = L a)) ([.ref (ad 51), .ref (ad 1), .ref (ad 8)] : List Value).toArray s 0 0 (qA n ad s.heap.size)) (F0 m 2 ls []) := by
    intro fu_2
    induction fu_2 with
    | zero =>
      intro f L1 hm; exact absurd hm (Nat.not_lt_zero _)
    | succ fu_2 ih_2 =>
      intro f L1 hm_2 hf hE1 hFr H locs hW ls hl
      refine lv_iload_n hx hb dX3_improve_2 rfl (lv_at hl 3 rfl) ?_
      refine q_bp 6 hx hb dX3_improve_3 (by decide) ?_
      refine q_cgt (tgt := 50) hx hb dX3_improve_5 (by decide) (by first | omega | exact Nat.lt_of_le_of_lt (hw3 _) (by decide)) (by first | omega | exact Nat.lt_of_le_of_lt (hw3 _) (by decide)) (fun c_5 => ?_) (fun c_5 => ?_)
      ·
        refine q_ic 0 hx hb dX3_improve_50 (by decide) ?_
        refine lv_istore_n (lv' := [(3, .int (nI 0)), (0, .ref (ad 51)), (1, .ref (ad 1)), (2, .ref (ad 8))]) hx hb dX3_improve_51 rfl hl (by decide) rfl (fun ls hl => ?_)
        have lp_52 : ∀ (fu_52 : Nat) (f : Nat) (L1 : Lc), 4 - f < fu_52 → (f ≤ 4) → (∀ j, j < 42 + f * 4 → L1 52 j = lN (exN w ro K j)) → (∀ a, a < 52 ∨ 52 < a → L1 a = L a) → ∀ (H : Heap) (locs : List Loc), Wd G n ad I L1 R (qA n ad s.heap.size) s.heap H locs s → ∀ ls : Array Slot, lv_has ls 5 [(0, .ref (ad 51)), (1, .ref (ad 1)), (2, .ref (ad 8)), (3, .int (nI (f)))] → W p l e ({ frames := 3, cells := 0, slots := 0, locals := 108 } : Room) s m ([.ref (ad 51), .ref (ad 1), .ref (ad 8)] : List Value).toArray below meth c H locs 0 0 (MQ below (qI1 G (qA n ad s.heap.size) n ad R (fun y I1 L1 => y = nI (cntF w (tnew (exN w ro K) w) 0 58) ∧ I1 = wI I (mixA w (tnew (exN w ro K) w) 0 58) ∧ ∀ a, a < 52 ∨ 52 < a → L1 a = L a)) ([.ref (ad 51), .ref (ad 1), .ref (ad 8)] : List Value).toArray s 0 0 (qA n ad s.heap.size)) (F0 m 52 ls []) := by
          intro fu_52
          induction fu_52 with
          | zero =>
            intro f L1 hm; exact absurd hm (Nat.not_lt_zero _)
          | succ fu_52 ih_52 =>
            intro f L1 hm_52 hf hE1 hFr H locs hW ls hl
            refine lv_iload_n hx hb dX3_improve_52 rfl (lv_at hl 3 rfl) ?_
            refine q_ic 4 hx hb dX3_improve_53 (by decide) ?_
            refine q_cge (tgt := 100) hx hb dX3_improve_54 (by decide) (by first | omega | exact Nat.lt_of_le_of_lt (hw3 _) (by decide)) (by first | omega | exact Nat.lt_of_le_of_lt (hw3 _) (by decide)) (fun c_54 => ?_) (fun c_54 => ?_)
            ·
              have hE : ∀ j, j < 58 → L1 52 j = lN (exN w ro K j) := fun j hj => hE1 j (by omega)
              refine q_ic 0 hx hb dX3_improve_100 (by decide) ?_
              refine lv_istore_n (lv' := [(3, .int (nI 0)), (0, .ref (ad 51)), (1, .ref (ad 1)), (2, .ref (ad 8))]) hx hb dX3_improve_101 rfl hl (by decide) rfl (fun ls hl => ?_)
              refine q_ic 0 hx hb dX3_improve_102 (by decide) ?_
              have hW := (show I = wI I (mixA w (tnew (exN w ro K) w) 0 (0 * 6)) from by rw [Nat.zero_mul, mixA_0, wI_self hM.1]) ▸ hW
              refine lv_istore (lv' := [(4, .int (nI 0)), (3, .int (nI 0)), (0, .ref (ad 51)), (1, .ref (ad 1)), (2, .ref (ad 8))]) hx hb dX3_improve_103 hl (by decide) rfl (fun ls hl => ?_)
              have lp_105 : ∀ (fu_105 : Nat) (f : Nat), 7 - f < fu_105 → (f ≤ 7) → ∀ (H : Heap) (locs : List Loc), Wd G n ad (wI I (mixA w (tnew (exN w ro K) w) 0 (f * 6))) L1 R (qA n ad s.heap.size) s.heap H locs s → ∀ ls : Array Slot, lv_has ls 5 [(0, .ref (ad 51)), (1, .ref (ad 1)), (2, .ref (ad 8)), (3, .int (nI (cntF w (tnew (exN w ro K) w) 0 (f * 6)))), (4, .int (nI (f)))] → W p l e ({ frames := 3, cells := 0, slots := 0, locals := 108 } : Room) s m ([.ref (ad 51), .ref (ad 1), .ref (ad 8)] : List Value).toArray below meth c H locs 0 0 (MQ below (qI1 G (qA n ad s.heap.size) n ad R (fun y I1 L1 => y = nI (cntF w (tnew (exN w ro K) w) 0 58) ∧ I1 = wI I (mixA w (tnew (exN w ro K) w) 0 58) ∧ ∀ a, a < 52 ∨ 52 < a → L1 a = L a)) ([.ref (ad 51), .ref (ad 1), .ref (ad 8)] : List Value).toArray s 0 0 (qA n ad s.heap.size)) (F0 m 105 ls []) := by
                intro fu_105
                induction fu_105 with
                | zero =>
                  intro f hm; exact absurd hm (Nat.not_lt_zero _)
                | succ fu_105 ih_105 =>
                  intro f hm_105 hf H locs hW ls hl
                  refine lv_iload hx hb dX3_improve_105 (lv_at hl 4 rfl) ?_
                  refine q_bp 6 hx hb dX3_improve_107 (by decide) ?_
                  refine q_cgt (tgt := 133) hx hb dX3_improve_109 (by decide) (by first | omega | exact Nat.lt_of_le_of_lt (hw3 _) (by decide)) (by first | omega | exact Nat.lt_of_le_of_lt (hw3 _) (by decide)) (fun c_109 => ?_) (fun c_109 => ?_)
                  ·
                    have e7 : f * 6 = 42 + 0 * 4 := by omega
                    rw [e7] at hW hl
                    refine q_ic 0 hx hb dX3_improve_133 (by decide) ?_
                    refine lv_istore (lv' := [(4, .int (nI 0)), (0, .ref (ad 51)), (1, .ref (ad 1)), (2, .ref (ad 8)), (3, .int (nI (cntF w (tnew (exN w ro K) w) 0 (42 + 0 * 4))))]) hx hb dX3_improve_134 hl (by decide) rfl (fun ls hl => ?_)
                    have lp_136 : ∀ (fu_136 : Nat) (f : Nat), 4 - f < fu_136 → (f ≤ 4) → ∀ (H : Heap) (locs : List Loc), Wd G n ad (wI I (mixA w (tnew (exN w ro K) w) 0 (42 + f * 4))) L1 R (qA n ad s.heap.size) s.heap H locs s → ∀ ls : Array Slot, lv_has ls 5 [(0, .ref (ad 51)), (1, .ref (ad 1)), (2, .ref (ad 8)), (3, .int (nI (cntF w (tnew (exN w ro K) w) 0 (42 + f * 4)))), (4, .int (nI (f)))] → W p l e ({ frames := 3, cells := 0, slots := 0, locals := 108 } : Room) s m ([.ref (ad 51), .ref (ad 1), .ref (ad 8)] : List Value).toArray below meth c H locs 0 0 (MQ below (qI1 G (qA n ad s.heap.size) n ad R (fun y I1 L1 => y = nI (cntF w (tnew (exN w ro K) w) 0 58) ∧ I1 = wI I (mixA w (tnew (exN w ro K) w) 0 58) ∧ ∀ a, a < 52 ∨ 52 < a → L1 a = L a)) ([.ref (ad 51), .ref (ad 1), .ref (ad 8)] : List Value).toArray s 0 0 (qA n ad s.heap.size)) (F0 m 136 ls []) := by
                      intro fu_136
                      induction fu_136 with
                      | zero =>
                        intro f hm; exact absurd hm (Nat.not_lt_zero _)
                      | succ fu_136 ih_136 =>
                        intro f hm_136 hf H locs hW ls hl
                        refine lv_iload hx hb dX3_improve_136 (lv_at hl 4 rfl) ?_
                        refine q_ic 4 hx hb dX3_improve_138 (by decide) ?_
                        refine q_cge (tgt := 164) hx hb dX3_improve_139 (by decide) (by first | omega | exact Nat.lt_of_le_of_lt (hw3 _) (by decide)) (by first | omega | exact Nat.lt_of_le_of_lt (hw3 _) (by decide)) (fun c_139 => ?_) (fun c_139 => ?_)
                        ·
                          refine lv_iload_n hx hb dX3_improve_164 rfl (lv_at hl 3 rfl) ?_
                          have e4 : 42 + f * 4 = 58 := by omega
                          exact q_iret1 hC hW hr hlk0 ⟨by rw [e4], by rw [e4], hFr⟩ dX3_improve_165
                        ·
                          refine lv_iload_n hx hb dX3_improve_142 rfl (lv_at hl 3 rfl) ?_
                          refine lv_aload_n hx hb dX3_improve_143 rfl (lv_at hl 0 rfl) ?_
                          refine lv_aload_n hx hb dX3_improve_144 rfl (lv_at hl 1 rfl) ?_
                          refine q_bp 42 hx hb dX3_improve_145 (by decide) ?_
                          refine lv_iload hx hb dX3_improve_147 (lv_at hl 4 rfl) ?_
                          refine q_ic 4 hx hb dX3_improve_149 (by decide) ?_
                          refine q_imul hx hb dX3_improve_150 ?_
                          refine q_iadd hx hb dX3_improve_151 ?_
                          refine q_ic 4 hx hb dX3_improve_152 (by decide) ?_
                          refine q_kI1 (q_rV (As := [.ref (ad 1), .int (nI (42 + (f * 4))), .int (nI 4)]) (rest := [.int (nI (cntF w (tnew (exN w ro K) w) 0 (42 + f * 4)))]) (x := 51) hC hW mw_X3_improveGroup gw_270 (k_group l G n ad H.size I L1 R (mixA w (tnew (exN w ro K) w) 0 (42 + f * 4)) (exN w ro K) _ _ hn hlk hE hEb (mix_le hw3 _) (by omega)) (by omega) (ct_o3 kd_51) rfl ⟨rfl, rfl⟩ ⟨Nat.le_of_ble_eq_true rfl, Nat.le_of_ble_eq_true rfl⟩ ⟨Nat.le_of_ble_eq_true rfl, Nat.le_of_ble_eq_true rfl⟩ hl.1 rfl rfl (Nat.le_of_ble_eq_true rfl) dX3_improve_153) hW (fun r_153 I_153 L_153 H locs hp hW => ?_)
                          obtain ⟨rfl, rfl, rfl⟩ := hp
                          rw [grp_s (grp4 f (by omega))] at hW
                          refine q_top (v2 := .int (nI (cntF w (tnew (exN w ro K) w) (42 + f * 4) 4))) (by rw [grp_c (grp4 f (by omega))]) ?_
                          have hc1 := cntF_le w (tnew (exN w ro K) w) 0 (42 + f * 4)
                          have hc2 := cntF_le w (tnew (exN w ro K) w) (42 + f * 4) 4
                          refine q_iadd hx hb dX3_improve_156 ?_
                          refine lv_istore_n (lv' := [(3, .int (nI ((cntF w (tnew (exN w ro K) w) 0 (42 + f * 4)) + (cntF w (tnew (exN w ro K) w) (42 + f * 4) 4)))), (0, .ref (ad 51)), (1, .ref (ad 1)), (2, .ref (ad 8)), (4, .int (nI (f)))]) hx hb dX3_improve_157 rfl hl (by decide) rfl (fun ls hl => ?_)
                          have hl : lv_has ls 5 [(3, .int (nI (cntF w (tnew (exN w ro K) w) 0 (42 + (f + 1) * 4)))), (0, .ref (ad 51)), (1, .ref (ad 1)), (2, .ref (ad 8)), (4, .int (nI (f)))] := by rw [show 42 + (f + 1) * 4 = 42 + f * 4 + 4 by omega, show cntF w (tnew (exN w ro K) w) 0 (42 + f * 4 + 4) = cntF w (tnew (exN w ro K) w) 0 (42 + f * 4) + cntF w (tnew (exN w ro K) w) (42 + f * 4) 4 by rw [cntF_add, Nat.zero_add]]; exact hl
                          rw [show 42 + f * 4 + 4 = 42 + (f + 1) * 4 by omega] at hW
                          refine q_iinc (z2 := f + 1) (lv' := [(4, .int (nI (f + 1))), (3, .int (nI (cntF w (tnew (exN w ro K) w) 0 (42 + (f + 1) * 4)))), (0, .ref (ad 51)), (1, .ref (ad 1)), (2, .ref (ad 8))]) hx hb dX3_improve_158 hl (k := 4) rfl (inc_up _ 1 (by decide)) (by decide) rfl (fun ls hl => ?_)
                          refine lv_goto (tgt := 136) hx hb dX3_improve_161 (by decide) ?_
                          exact ih_136 (f + 1) (by omega) (by omega) _ _ hW _ (lv_sub hl [2, 3, 4, 1, 0] rfl)
                    exact lp_136 (4 + 1) 0 (by omega) (by omega) _ _ hW _ (lv_sub hl [1, 2, 3, 4, 0] rfl)
                  ·
                    refine lv_iload_n hx hb dX3_improve_112 rfl (lv_at hl 3 rfl) ?_
                    refine lv_aload_n hx hb dX3_improve_113 rfl (lv_at hl 0 rfl) ?_
                    refine lv_aload_n hx hb dX3_improve_114 rfl (lv_at hl 1 rfl) ?_
                    refine lv_iload hx hb dX3_improve_115 (lv_at hl 4 rfl) ?_
                    refine q_bp 6 hx hb dX3_improve_117 (by decide) ?_
                    refine q_imul hx hb dX3_improve_119 ?_
                    refine q_bp 6 hx hb dX3_improve_120 (by decide) ?_
                    refine q_kI1 (q_rV (As := [.ref (ad 1), .int (nI (f * 6)), .int (nI 6)]) (rest := [.int (nI (cntF w (tnew (exN w ro K) w) 0 (f * 6)))]) (x := 51) hC hW mw_X3_improveGroup gw_270 (k_group l G n ad H.size I L1 R (mixA w (tnew (exN w ro K) w) 0 (f * 6)) (exN w ro K) _ _ hn hlk hE hEb (mix_le hw3 _) (by omega)) (by omega) (ct_o3 kd_51) rfl ⟨rfl, rfl⟩ ⟨Nat.le_of_ble_eq_true rfl, Nat.le_of_ble_eq_true rfl⟩ ⟨Nat.le_of_ble_eq_true rfl, Nat.le_of_ble_eq_true rfl⟩ hl.1 rfl rfl (Nat.le_of_ble_eq_true rfl) dX3_improve_122) hW (fun r_122 I_122 L_122 H locs hp hW => ?_)
                    obtain ⟨rfl, rfl, rfl⟩ := hp
                    rw [grp_s (grp6 f (by omega))] at hW
                    refine q_top (v2 := .int (nI (cntF w (tnew (exN w ro K) w) (f * 6) 6))) (by rw [grp_c (grp6 f (by omega))]) ?_
                    have hc1 := cntF_le w (tnew (exN w ro K) w) 0 (f * 6)
                    have hc2 := cntF_le w (tnew (exN w ro K) w) (f * 6) 6
                    refine q_iadd hx hb dX3_improve_125 ?_
                    refine lv_istore_n (lv' := [(3, .int (nI ((cntF w (tnew (exN w ro K) w) 0 (f * 6)) + (cntF w (tnew (exN w ro K) w) (f * 6) 6)))), (0, .ref (ad 51)), (1, .ref (ad 1)), (2, .ref (ad 8)), (4, .int (nI (f)))]) hx hb dX3_improve_126 rfl hl (by decide) rfl (fun ls hl => ?_)
                    have hl : lv_has ls 5 [(3, .int (nI (cntF w (tnew (exN w ro K) w) 0 ((f + 1) * 6)))), (0, .ref (ad 51)), (1, .ref (ad 1)), (2, .ref (ad 8)), (4, .int (nI (f)))] := by rw [show (f + 1) * 6 = f * 6 + 6 by omega, show cntF w (tnew (exN w ro K) w) 0 (f * 6 + 6) = cntF w (tnew (exN w ro K) w) 0 (f * 6) + cntF w (tnew (exN w ro K) w) (f * 6) 6 by rw [cntF_add, Nat.zero_add]]; exact hl
                    rw [show f * 6 + 6 = (f + 1) * 6 by omega] at hW
                    refine q_iinc (z2 := f + 1) (lv' := [(4, .int (nI (f + 1))), (3, .int (nI (cntF w (tnew (exN w ro K) w) 0 ((f + 1) * 6)))), (0, .ref (ad 51)), (1, .ref (ad 1)), (2, .ref (ad 8))]) hx hb dX3_improve_127 hl (k := 4) rfl (inc_up _ 1 (by decide)) (by decide) rfl (fun ls hl => ?_)
                    refine lv_goto (tgt := 105) hx hb dX3_improve_130 (by decide) ?_
                    exact ih_105 (f + 1) (by omega) (by omega) _ _ hW _ (lv_sub hl [2, 3, 4, 1, 0] rfl)
              exact lp_105 (7 + 1) 0 (by omega) (by omega) _ _ hW _ (lv_sub hl [2, 3, 4, 1, 0] rfl)
            ·
              refine q_ic 0 hx hb dX3_improve_57 (by decide) ?_
              refine lv_istore (lv' := [(4, .int (nI 0)), (0, .ref (ad 51)), (1, .ref (ad 1)), (2, .ref (ad 8)), (3, .int (nI (f)))]) hx hb dX3_improve_58 hl (by decide) rfl (fun ls hl => ?_)
              have lp_60 : ∀ (fu_60 : Nat) (t : Nat) (L2 : Lc), 4 - t < fu_60 → (t ≤ 4) → (∀ j, j < 42 + f * 4 + t → L2 52 j = lN (exN w ro K j)) → (∀ a, a < 52 ∨ 52 < a → L2 a = L a) → ∀ (H : Heap) (locs : List Loc), Wd G n ad I L2 R (qA n ad s.heap.size) s.heap H locs s → ∀ ls : Array Slot, lv_has ls 5 [(0, .ref (ad 51)), (1, .ref (ad 1)), (2, .ref (ad 8)), (3, .int (nI (f))), (4, .int (nI (t)))] → W p l e ({ frames := 3, cells := 0, slots := 0, locals := 108 } : Room) s m ([.ref (ad 51), .ref (ad 1), .ref (ad 8)] : List Value).toArray below meth c H locs 0 0 (MQ below (qI1 G (qA n ad s.heap.size) n ad R (fun y I1 L1 => y = nI (cntF w (tnew (exN w ro K) w) 0 58) ∧ I1 = wI I (mixA w (tnew (exN w ro K) w) 0 58) ∧ ∀ a, a < 52 ∨ 52 < a → L1 a = L a)) ([.ref (ad 51), .ref (ad 1), .ref (ad 8)] : List Value).toArray s 0 0 (qA n ad s.heap.size)) (F0 m 60 ls []) := by
                intro fu_60
                induction fu_60 with
                | zero =>
                  intro t L2 hm; exact absurd hm (Nat.not_lt_zero _)
                | succ fu_60 ih_60 =>
                  intro t L2 hm_60 ht hE2 hFr2 H locs hW ls hl
                  have hMs2 : Meas w ro K I L2 := Meas_lo hMs hk6 (fun _ _ => rfl) (fun a ha => hFr2 a (by omega))
                  refine lv_iload hx hb dX3_improve_60 (lv_at hl 4 rfl) ?_
                  refine q_ic 4 hx hb dX3_improve_62 (by decide) ?_
                  refine q_cge (tgt := 94) hx hb dX3_improve_63 (by decide) (by first | omega | exact Nat.lt_of_le_of_lt (hw3 _) (by decide)) (by first | omega | exact Nat.lt_of_le_of_lt (hw3 _) (by decide)) (fun c_63 => ?_) (fun c_63 => ?_)
                  ·
                    refine q_iinc (z2 := f + 1) (lv' := [(3, .int (nI (f + 1))), (0, .ref (ad 51)), (1, .ref (ad 1)), (2, .ref (ad 8)), (4, .int (nI (t)))]) hx hb dX3_improve_94 hl (k := 3) rfl (inc_up _ 1 (by decide)) (by decide) rfl (fun ls hl => ?_)
                    refine lv_goto (tgt := 52) hx hb dX3_improve_97 (by decide) ?_
                    exact ih_52 (f + 1) L2 (by omega) (by omega) (fun j hj => hE2 j (by omega)) hFr2 _ _ hW _ (lv_sub hl [1, 2, 3, 0] rfl)
                  ·
                    refine lv_aload_n hx hb dX3_improve_66 rfl (lv_at hl 0 rfl) ?_
                    refine g_3_0 (x := 51) (y := 52) hC hW (by omega) kd_51 gw_126 (hlk 51 0 52 (by omega) rfl) dX3_improve_67 ?_
                    refine q_bp 42 hx hb dX3_improve_70 (by decide) ?_
                    refine lv_iload_n hx hb dX3_improve_72 rfl (lv_at hl 3 rfl) ?_
                    refine q_ic 4 hx hb dX3_improve_73 (by decide) ?_
                    refine q_imul hx hb dX3_improve_74 ?_
                    refine q_iadd hx hb dX3_improve_75 ?_
                    refine lv_iload hx hb dX3_improve_76 (lv_at hl 4 rfl) ?_
                    refine q_iadd hx hb dX3_improve_78 ?_
                    refine lv_aload_n hx hb dX3_improve_79 rfl (lv_at hl 2 rfl) ?_
                    refine lv_aload_n hx hb dX3_improve_80 rfl (lv_at hl 1 rfl) ?_
                    refine lv_iload_n hx hb dX3_improve_81 rfl (lv_at hl 3 rfl) ?_
                    refine lv_iload hx hb dX3_improve_82 (lv_at hl 4 rfl) ?_
                    refine q_kL0 (q_rV (As := [.ref (ad 1), .int (nI (f)), .int (nI (t))]) (rest := [.int (nI ((42 + (f * 4)) + t)), .ref (ad 52)]) (x := 8) hC hW mw_X2_ofLetter gw_262 (k_ofLetter l G n ad H.size I L2 R _ _ w K ro hn hlk hM hMs2 (by omega) (by omega)) (by omega) (ct_o2 kd_8) rfl ⟨rfl, rfl⟩ ⟨Nat.le_of_ble_eq_true rfl, Nat.le_of_ble_eq_true rfl⟩ ⟨Nat.le_of_ble_eq_true rfl, Nat.le_of_ble_eq_true rfl⟩ hl.1 rfl rfl (Nat.le_of_ble_eq_true rfl) dX3_improve_84) hW (fun r_84 H locs hp hW => ?_)
                    subst hp
                    refine q_last (x := 52) (i := (42 + (f * 4)) + t) (v := lN (leN w ro K f t K)) hC hW (by omega) kd_52 (by omega) dX3_improve_87 (fun H locs hW => ?_)
                    refine q_iinc (z2 := t + 1) (lv' := [(4, .int (nI (t + 1))), (0, .ref (ad 51)), (1, .ref (ad 1)), (2, .ref (ad 8)), (3, .int (nI (f)))]) hx hb dX3_improve_88 hl (k := 4) rfl (inc_up _ 1 (by decide)) (by decide) rfl (fun ls hl => ?_)
                    refine lv_goto (tgt := 60) hx hb dX3_improve_91 (by decide) ?_
                    exact ih_60 (t + 1) (up2 L2 52 ((42 + (f * 4)) + t) (lN (leN w ro K f t K))) (by omega) (by omega) (fun j hj => by rw [up2_at]; by_cases e9 : j = 42 + f * 4 + t; (rw [if_pos ⟨rfl, e9⟩, e9, exN_le (by omega) (by omega)]); rw [if_neg (fun q9 => e9 q9.2)]; exact hE2 j (by omega)) (fun a ha => by rw [up2_ne (by omega)]; exact hFr2 a ha) _ _ hW _ (lv_sub hl [1, 2, 3, 4, 0] rfl)
              exact lp_60 (4 + 1) 0 L1 (by omega) (by omega) (fun j hj => hE1 j (by omega)) hFr _ _ hW _ (lv_sub hl [1, 2, 3, 4, 0] rfl)
        exact lp_52 (4 + 1) 0 L1 (by omega) (by omega) (fun j hj => hE1 j (by omega)) hFr _ _ hW _ (lv_sub hl [1, 2, 3, 0] rfl)
      ·
        refine q_ic 0 hx hb dX3_improve_8 (by decide) ?_
        refine lv_istore (lv' := [(4, .int (nI 0)), (0, .ref (ad 51)), (1, .ref (ad 1)), (2, .ref (ad 8)), (3, .int (nI (f)))]) hx hb dX3_improve_9 hl (by decide) rfl (fun ls hl => ?_)
        have lp_11 : ∀ (fu_11 : Nat) (t : Nat) (L2 : Lc), 6 - t < fu_11 → (t ≤ 6) → (∀ j, j < f * 6 + t → L2 52 j = lN (exN w ro K j)) → (∀ a, a < 52 ∨ 52 < a → L2 a = L a) → ∀ (H : Heap) (locs : List Loc), Wd G n ad I L2 R (qA n ad s.heap.size) s.heap H locs s → ∀ ls : Array Slot, lv_has ls 5 [(0, .ref (ad 51)), (1, .ref (ad 1)), (2, .ref (ad 8)), (3, .int (nI (f))), (4, .int (nI (t)))] → W p l e ({ frames := 3, cells := 0, slots := 0, locals := 108 } : Room) s m ([.ref (ad 51), .ref (ad 1), .ref (ad 8)] : List Value).toArray below meth c H locs 0 0 (MQ below (qI1 G (qA n ad s.heap.size) n ad R (fun y I1 L1 => y = nI (cntF w (tnew (exN w ro K) w) 0 58) ∧ I1 = wI I (mixA w (tnew (exN w ro K) w) 0 58) ∧ ∀ a, a < 52 ∨ 52 < a → L1 a = L a)) ([.ref (ad 51), .ref (ad 1), .ref (ad 8)] : List Value).toArray s 0 0 (qA n ad s.heap.size)) (F0 m 11 ls []) := by
          intro fu_11
          induction fu_11 with
          | zero =>
            intro t L2 hm; exact absurd hm (Nat.not_lt_zero _)
          | succ fu_11 ih_11 =>
            intro t L2 hm_11 ht hE2 hFr2 H locs hW ls hl
            have hMs2 : Meas w ro K I L2 := Meas_lo hMs hk6 (fun _ _ => rfl) (fun a ha => hFr2 a (by omega))
            refine lv_iload hx hb dX3_improve_11 (lv_at hl 4 rfl) ?_
            refine q_bp 6 hx hb dX3_improve_13 (by decide) ?_
            refine q_cge (tgt := 44) hx hb dX3_improve_15 (by decide) (by first | omega | exact Nat.lt_of_le_of_lt (hw3 _) (by decide)) (by first | omega | exact Nat.lt_of_le_of_lt (hw3 _) (by decide)) (fun c_15 => ?_) (fun c_15 => ?_)
            ·
              refine q_iinc (z2 := f + 1) (lv' := [(3, .int (nI (f + 1))), (0, .ref (ad 51)), (1, .ref (ad 1)), (2, .ref (ad 8)), (4, .int (nI (t)))]) hx hb dX3_improve_44 hl (k := 3) rfl (inc_up _ 1 (by decide)) (by decide) rfl (fun ls hl => ?_)
              refine lv_goto (tgt := 2) hx hb dX3_improve_47 (by decide) ?_
              exact ih_2 (f + 1) L2 (by omega) (by omega) (fun j hj => hE2 j (by omega)) hFr2 _ _ hW _ (lv_sub hl [1, 2, 3, 0] rfl)
            ·
              refine lv_aload_n hx hb dX3_improve_18 rfl (lv_at hl 0 rfl) ?_
              refine g_3_0 (x := 51) (y := 52) hC hW (by omega) kd_51 gw_126 (hlk 51 0 52 (by omega) rfl) dX3_improve_19 ?_
              refine lv_iload_n hx hb dX3_improve_22 rfl (lv_at hl 3 rfl) ?_
              refine q_bp 6 hx hb dX3_improve_23 (by decide) ?_
              refine q_imul hx hb dX3_improve_25 ?_
              refine lv_iload hx hb dX3_improve_26 (lv_at hl 4 rfl) ?_
              refine q_iadd hx hb dX3_improve_28 ?_
              refine lv_aload_n hx hb dX3_improve_29 rfl (lv_at hl 2 rfl) ?_
              refine lv_aload_n hx hb dX3_improve_30 rfl (lv_at hl 1 rfl) ?_
              refine lv_iload_n hx hb dX3_improve_31 rfl (lv_at hl 3 rfl) ?_
              refine lv_iload hx hb dX3_improve_32 (lv_at hl 4 rfl) ?_
              refine q_kL0 (q_rV (As := [.ref (ad 1), .int (nI (f)), .int (nI (t))]) (rest := [.int (nI ((f * 6) + t)), .ref (ad 52)]) (x := 8) hC hW mw_X2_ofStep gw_258 (k_ofStep l G n ad H.size I L2 R _ _ w K ro hn hlk hM hMs2 (by omega) (by omega)) (by omega) (ct_o2 kd_8) rfl ⟨rfl, rfl⟩ ⟨Nat.le_of_ble_eq_true rfl, Nat.le_of_ble_eq_true rfl⟩ ⟨Nat.le_of_ble_eq_true rfl, Nat.le_of_ble_eq_true rfl⟩ hl.1 rfl rfl (Nat.le_of_ble_eq_true rfl) dX3_improve_34) hW (fun r_34 H locs hp hW => ?_)
              subst hp
              refine q_last (x := 52) (i := (f * 6) + t) (v := lN (stN w ro K f t K)) hC hW (by omega) kd_52 (by omega) dX3_improve_37 (fun H locs hW => ?_)
              refine q_iinc (z2 := t + 1) (lv' := [(4, .int (nI (t + 1))), (0, .ref (ad 51)), (1, .ref (ad 1)), (2, .ref (ad 8)), (3, .int (nI (f)))]) hx hb dX3_improve_38 hl (k := 4) rfl (inc_up _ 1 (by decide)) (by decide) rfl (fun ls hl => ?_)
              refine lv_goto (tgt := 11) hx hb dX3_improve_41 (by decide) ?_
              exact ih_11 (t + 1) (up2 L2 52 ((f * 6) + t) (lN (stN w ro K f t K))) (by omega) (by omega) (fun j hj => by rw [up2_at]; by_cases e9 : j = f * 6 + t; (rw [if_pos ⟨rfl, e9⟩, e9, exN_st (by omega) (by omega)]); rw [if_neg (fun q9 => e9 q9.2)]; exact hE2 j (by omega)) (fun a ha => by rw [up2_ne (by omega)]; exact hFr2 a ha) _ _ hW _ (lv_sub hl [1, 2, 3, 4, 0] rfl)
        exact lp_11 (6 + 1) 0 L1 (by omega) (by omega) (fun j hj => hE1 j (by omega)) hFr _ _ hW _ (lv_sub hl [1, 2, 3, 4, 0] rfl)
  exact lp_2 (7 + 1) 0 L (by omega) (by omega) (fun j hj => absurd hj (by omega)) (fun _ _ => rfl) _ _ hW _ (lv_sub hl [1, 2, 3, 0] rfl)
end
