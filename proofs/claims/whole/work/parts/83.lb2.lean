set_option maxRecDepth 100000 in
set_option maxHeartbeats 4000000 in
theorem law_c18 {p : Program} {e : Env} {s : State} {m : MethodId} {below : List Frame} {meth : Method} {c : Code} {Q : State → Prop} (l : Launch) {b Lx : Nat} {xs : Nat → Int32} (hC : CallFix p m c cL_law 4 s #[Value.ref b] GW "CoinRowsLaw") (hX : va_X b Lx xs s s.heap) (hbl : b < s.heap.size) (hLx : Lx ≤ 2560) {G : Gx} {n : Nat} {ad : Nat → Nat} {I : Ic} {L : Lc} {R : Rc} {H : Heap} {locs : List Loc} {cells slots iq : Nat} {S : ST} (hcc : cells + 3 ≤ 600000) (hss : slots + 67 ≤ 7302250) (hiq : iq + 5 ≤ Lx) (hW : Wd G n ad I L R (fun q => s.heap.size ≤ q) s.heap H locs s) (hA : InvA n I L R S) (hB : InvB n I R S) (ls : Array Slot) (hl : lv_has ls 4 [(3, .int (nI iq)), (2, .ref (ad 71)), (1, .ref (ad 0)), (0, .ref b)]) (kk : ∀ (n1 : Nat) (ad1 : Nat → Nat) (I1 : Ic) (L1 : Lc) (R1 : Rc) (S1 : ST) (H1 : Heap) (locs1 : List Loc) (ls1 : Array Slot), Wd G n1 ad1 I1 L1 R1 (fun q => s.heap.size ≤ q) s.heap H1 locs1 s → InvA n1 I1 L1 R1 S1 → InvB n1 I1 R1 S1 → lv_has ls1 4 [(3, .int (nI iq)), (2, .ref (ad1 71)), (1, .ref (ad1 0)), (0, .ref b)] → W p l e room_1 s m #[Value.ref b] below meth c H1 locs1 (cells + 3) (slots + 67) Q (F0 m 855 ls1 [])) : W p l e room_1 s m #[Value.ref b] below meth c H locs cells slots Q (F0 m 635 ls []) := by
  obtain ⟨⟨w, K, ro⟩, hc, hi, sv, pn, ch⟩ := S
  have hx := hC.1
  have hb := hC.2.1
  have hbA : ¬ (fun q : Nat => s.heap.size ≤ q) b := Nat.not_le.mpr hbl
  have hn : 83 ≤ n := hA.1
  refine lv_aload_n hx hb dL_law_635 rfl (lv_at hl 2 rfl) ?_
  refine lv_aload_n hx hb dL_law_636 rfl (lv_at hl 3 rfl) ?_
  refine lv_iload_n hx hb dL_law_637 rfl (lv_at hl 0 rfl) ?_
  refine q_ic 1 hx hb dL_law_638 (by decide) ?_
  refine q_iadd hx hb dL_law_639 ?_
  refine va_sld hC.1 hC.2.1 hX hbl hbA hW.2.2.2.1 (in_k (i := iq + 1) (by omega) hLx) dL_law_640 ?_
  refine q_top (v2 := .int (xs (iq + 1))) (congrArg (fun z => Value.int (xs z)) (nI_clamp (by omega))) ?_
  refine q_kI2 (q_rV (As := [.int (xs (iq + 1))]) (rest := []) (x := 0) hC hW mw_X5_likelyAt gw_418 (k_likelyAt l G n ad H.size I L R (xs (iq + 1)) w K ro hc hi sv pn ch hA) (by omega) (ct_o5 kd_0) rfl ⟨rfl, rfl⟩ ⟨Nat.le_of_ble_eq_true rfl, Nat.le_of_ble_eq_true rfl⟩ ⟨(by show _ ≤ 600000; omega), (by show _ ≤ 7302250; omega)⟩ hl.1 rfl rfl (Nat.le_of_ble_eq_true rfl) dL_law_641) hW (fun r_641 n_641 ad_641 I_641 L_641 R_641 H locs hp hW => ?_)
  obtain ⟨hz5, hA5, ⟨hn5, hag5⟩, hf5⟩ := hp
  have hA5 : InvA n_641 I_641 L_641 R_641 _ := hA5
  have hn5 : n ≤ n_641 := hn5
  have hag5 : ∀ k, k < n → ad_641 k = ad k := hag5
  have hf5 : ∀ a, 71 ≤ a → a < 83 → I_641 a = I a ∧ L_641 a = L a := hf5
  have hB5 : InvB n_641 I_641 R_641 ((w, K, ro), hc, hi, sv, pn, ch) := InvB_fr hB hA5.1 hA5.2.1 (fun a h1 h2 => (hf5 a h1 h2).1)
  have hn : 83 ≤ n_641 := hA5.1
  have hl : lv_has ls 4 [(3, .int (nI (iq))), (2, .ref (ad_641 71)), (1, .ref (ad_641 0)), (0, .ref b)] := by rw [hag5 0 (by omega), hag5 71 (by omega)]; exact hl
  refine lv_aload_n hx hb dL_law_644 rfl (lv_at hl 1 rfl) ?_
  refine lv_aload_n hx hb dL_law_645 rfl (lv_at hl 3 rfl) ?_
  refine lv_iload_n hx hb dL_law_646 rfl (lv_at hl 0 rfl) ?_
  refine q_ic 1 hx hb dL_law_647 (by decide) ?_
  refine q_iadd hx hb dL_law_648 ?_
  refine va_sld hC.1 hC.2.1 hX hbl hbA hW.2.2.2.1 (in_k (i := iq + 1) (by omega) hLx) dL_law_649 ?_
  refine q_top (v2 := .int (xs (iq + 1))) (congrArg (fun z => Value.int (xs z)) (nI_clamp (by omega))) ?_
  refine q_kI1 (q_rV (As := [.int (xs (iq + 1))]) (rest := [.int (r_641)]) (x := 71) hC hW mw_X6_likelyAt gw_670 (k_rlikelyAt l G n_641 ad_641 H.size I_641 L_641 R_641 (xs (iq + 1)) w K ro hc hi sv pn ch hB5) (by omega) (ct_o6 kd_71) rfl ⟨rfl, rfl⟩ ⟨Nat.le_of_ble_eq_true rfl, Nat.le_of_ble_eq_true rfl⟩ ⟨(by show _ ≤ 600000; omega), (by show _ ≤ 7302250; omega)⟩ hl.1 rfl rfl (Nat.le_of_ble_eq_true rfl) dL_law_650) hW (fun r_650 I_650 L_650 H locs hp hW => ?_)
  obtain ⟨hz6, hB6, hf6⟩ := hp
  have hA6 : InvA n_641 I_650 L_650 R_641 _ := InvA_fr hA5 hf6
  refine lv_icmp_eq (tgt := 855) hx hb dL_law_653 (by decide) (fun c_653 => ?_) (fun c_653 => absurd (hz5.trans hz6.symm) c_653)
  refine q_more (c2 := cells + 3) (s2 := slots + 67) (by omega) (by omega) ?_
  exact kk _ _ _ _ _ _ _ _ ls hW hA6 hB6 hl
set_option maxRecDepth 100000 in
set_option maxHeartbeats 4000000 in
theorem law_c19 {p : Program} {e : Env} {s : State} {m : MethodId} {below : List Frame} {meth : Method} {c : Code} {Q : State → Prop} (l : Launch) {b Lx : Nat} {xs : Nat → Int32} (hC : CallFix p m c cL_law 4 s #[Value.ref b] GW "CoinRowsLaw") (hX : va_X b Lx xs s s.heap) (hbl : b < s.heap.size) (hLx : Lx ≤ 2560) {G : Gx} {n : Nat} {ad : Nat → Nat} {I : Ic} {L : Lc} {R : Rc} {H : Heap} {locs : List Loc} {cells slots iq : Nat} {S : ST} (hcc : cells + 3 ≤ 600000) (hss : slots + 67 ≤ 7302250) (hiq : iq + 5 ≤ Lx) (hW : Wd G n ad I L R (fun q => s.heap.size ≤ q) s.heap H locs s) (hA : InvA n I L R S) (hB : InvB n I R S) (ls : Array Slot) (hl : lv_has ls 4 [(3, .int (nI iq)), (2, .ref (ad 71)), (1, .ref (ad 0)), (0, .ref b)]) (kk : ∀ (n1 : Nat) (ad1 : Nat → Nat) (I1 : Ic) (L1 : Lc) (R1 : Rc) (S1 : ST) (H1 : Heap) (locs1 : List Loc) (ls1 : Array Slot), Wd G n1 ad1 I1 L1 R1 (fun q => s.heap.size ≤ q) s.heap H1 locs1 s → InvA n1 I1 L1 R1 S1 → InvB n1 I1 R1 S1 → lv_has ls1 4 [(3, .int (nI iq)), (2, .ref (ad1 71)), (1, .ref (ad1 0)), (0, .ref b)] → W p l e room_1 s m #[Value.ref b] below meth c H1 locs1 (cells + 3) (slots + 67) Q (F0 m 855 ls1 [])) : W p l e room_1 s m #[Value.ref b] below meth c H locs cells slots Q (F0 m 658 ls []) := by
  obtain ⟨⟨w, K, ro⟩, hc, hi, sv, pn, ch⟩ := S
  have hx := hC.1
  have hb := hC.2.1
  have hbA : ¬ (fun q : Nat => s.heap.size ≤ q) b := Nat.not_le.mpr hbl
  have hn : 83 ≤ n := hA.1
  refine lv_aload_n hx hb dL_law_658 rfl (lv_at hl 2 rfl) ?_
  refine lv_aload_n hx hb dL_law_659 rfl (lv_at hl 3 rfl) ?_
  refine lv_iload_n hx hb dL_law_660 rfl (lv_at hl 0 rfl) ?_
  refine q_ic 1 hx hb dL_law_661 (by decide) ?_
  refine q_iadd hx hb dL_law_662 ?_
  refine va_sld hC.1 hC.2.1 hX hbl hbA hW.2.2.2.1 (in_k (i := iq + 1) (by omega) hLx) dL_law_663 ?_
  refine q_top (v2 := .int (xs (iq + 1))) (congrArg (fun z => Value.int (xs z)) (nI_clamp (by omega))) ?_
  refine lv_aload_n hx hb dL_law_664 rfl (lv_at hl 3 rfl) ?_
  refine lv_iload_n hx hb dL_law_665 rfl (lv_at hl 0 rfl) ?_
  refine q_ic 2 hx hb dL_law_666 (by decide) ?_
  refine q_iadd hx hb dL_law_667 ?_
  refine va_sld hC.1 hC.2.1 hX hbl hbA hW.2.2.2.1 (in_k (i := iq + 2) (by omega) hLx) dL_law_668 ?_
  refine q_top (v2 := .int (xs (iq + 2))) (congrArg (fun z => Value.int (xs z)) (nI_clamp (by omega))) ?_
  refine lv_aload_n hx hb dL_law_669 rfl (lv_at hl 3 rfl) ?_
  refine lv_iload_n hx hb dL_law_670 rfl (lv_at hl 0 rfl) ?_
  refine q_ic 3 hx hb dL_law_671 (by decide) ?_
  refine q_iadd hx hb dL_law_672 ?_
  refine va_sld hC.1 hC.2.1 hX hbl hbA hW.2.2.2.1 (in_k (i := iq + 3) (by omega) hLx) dL_law_673 ?_
  refine q_top (v2 := .int (xs (iq + 3))) (congrArg (fun z => Value.int (xs z)) (nI_clamp (by omega))) ?_
  refine lv_aload_n hx hb dL_law_674 rfl (lv_at hl 3 rfl) ?_
  refine lv_iload_n hx hb dL_law_675 rfl (lv_at hl 0 rfl) ?_
  refine q_ic 4 hx hb dL_law_676 (by decide) ?_
  refine q_iadd hx hb dL_law_677 ?_
  refine va_sld hC.1 hC.2.1 hX hbl hbA hW.2.2.2.1 (in_k (i := iq + 4) (by omega) hLx) dL_law_678 ?_
  refine q_top (v2 := .int (xs (iq + 4))) (congrArg (fun z => Value.int (xs z)) (nI_clamp (by omega))) ?_
  refine q_kL2 (q_rV (As := [.int (xs (iq + 1)), .int (xs (iq + 2)), .int (xs (iq + 3)), .int (xs (iq + 4))]) (rest := []) (x := 0) hC hW mw_X5_expected gw_422 (k_expected l G n ad H.size I L R (xs (iq + 1)) (xs (iq + 2)) (xs (iq + 3)) (xs (iq + 4)) w K ro hc hi sv pn ch hA) (by omega) (ct_o5 kd_0) rfl ⟨rfl, rfl⟩ ⟨Nat.le_of_ble_eq_true rfl, Nat.le_of_ble_eq_true rfl⟩ ⟨(by show _ ≤ 600000; omega), (by show _ ≤ 7302250; omega)⟩ hl.1 rfl rfl (Nat.le_of_ble_eq_true rfl) dL_law_679) hW (fun r_679 n_679 ad_679 I_679 L_679 R_679 H locs hp hW => ?_)
  obtain ⟨hz5, hA5, ⟨hn5, hag5⟩, hf5⟩ := hp
  have hA5 : InvA n_679 I_679 L_679 R_679 _ := hA5
  have hn5 : n ≤ n_679 := hn5
  have hag5 : ∀ k, k < n → ad_679 k = ad k := hag5
  have hf5 : ∀ a, 71 ≤ a → a < 83 → I_679 a = I a ∧ L_679 a = L a := hf5
  have hB5 : InvB n_679 I_679 R_679 ((w, K, ro), hc, hi, sv, pn, ch) := InvB_fr hB hA5.1 hA5.2.1 (fun a h1 h2 => (hf5 a h1 h2).1)
  have hn : 83 ≤ n_679 := hA5.1
  have hl : lv_has ls 4 [(3, .int (nI (iq))), (2, .ref (ad_679 71)), (1, .ref (ad_679 0)), (0, .ref b)] := by rw [hag5 0 (by omega), hag5 71 (by omega)]; exact hl
  refine lv_aload_n hx hb dL_law_682 rfl (lv_at hl 1 rfl) ?_
  refine lv_aload_n hx hb dL_law_683 rfl (lv_at hl 3 rfl) ?_
  refine lv_iload_n hx hb dL_law_684 rfl (lv_at hl 0 rfl) ?_
  refine q_ic 1 hx hb dL_law_685 (by decide) ?_
  refine q_iadd hx hb dL_law_686 ?_
  refine va_sld hC.1 hC.2.1 hX hbl hbA hW.2.2.2.1 (in_k (i := iq + 1) (by omega) hLx) dL_law_687 ?_
  refine q_top (v2 := .int (xs (iq + 1))) (congrArg (fun z => Value.int (xs z)) (nI_clamp (by omega))) ?_
  refine lv_aload_n hx hb dL_law_688 rfl (lv_at hl 3 rfl) ?_
  refine lv_iload_n hx hb dL_law_689 rfl (lv_at hl 0 rfl) ?_
  refine q_ic 2 hx hb dL_law_690 (by decide) ?_
  refine q_iadd hx hb dL_law_691 ?_
  refine va_sld hC.1 hC.2.1 hX hbl hbA hW.2.2.2.1 (in_k (i := iq + 2) (by omega) hLx) dL_law_692 ?_
  refine q_top (v2 := .int (xs (iq + 2))) (congrArg (fun z => Value.int (xs z)) (nI_clamp (by omega))) ?_
  refine lv_aload_n hx hb dL_law_693 rfl (lv_at hl 3 rfl) ?_
  refine lv_iload_n hx hb dL_law_694 rfl (lv_at hl 0 rfl) ?_
  refine q_ic 3 hx hb dL_law_695 (by decide) ?_
  refine q_iadd hx hb dL_law_696 ?_
  refine va_sld hC.1 hC.2.1 hX hbl hbA hW.2.2.2.1 (in_k (i := iq + 3) (by omega) hLx) dL_law_697 ?_
  refine q_top (v2 := .int (xs (iq + 3))) (congrArg (fun z => Value.int (xs z)) (nI_clamp (by omega))) ?_
  refine lv_aload_n hx hb dL_law_698 rfl (lv_at hl 3 rfl) ?_
  refine lv_iload_n hx hb dL_law_699 rfl (lv_at hl 0 rfl) ?_
  refine q_ic 4 hx hb dL_law_700 (by decide) ?_
  refine q_iadd hx hb dL_law_701 ?_
  refine va_sld hC.1 hC.2.1 hX hbl hbA hW.2.2.2.1 (in_k (i := iq + 4) (by omega) hLx) dL_law_702 ?_
  refine q_top (v2 := .int (xs (iq + 4))) (congrArg (fun z => Value.int (xs z)) (nI_clamp (by omega))) ?_
  refine q_kL1 (q_rV (As := [.int (xs (iq + 1)), .int (xs (iq + 2)), .int (xs (iq + 3)), .int (xs (iq + 4))]) (rest := [.long (r_679)]) (x := 71) hC hW mw_X6_expected gw_674 (k_rexpected l G n_679 ad_679 H.size I_679 L_679 R_679 (xs (iq + 1)) (xs (iq + 2)) (xs (iq + 3)) (xs (iq + 4)) w K ro hc hi sv pn ch hB5) (by omega) (ct_o6 kd_71) rfl ⟨rfl, rfl⟩ ⟨Nat.le_of_ble_eq_true rfl, Nat.le_of_ble_eq_true rfl⟩ ⟨(by show _ ≤ 600000; omega), (by show _ ≤ 7302250; omega)⟩ hl.1 rfl rfl (Nat.le_of_ble_eq_true rfl) dL_law_703) hW (fun r_703 I_703 L_703 H locs hp hW => ?_)
  obtain ⟨hz6, hB6, hf6⟩ := hp
  have hA6 : InvA n_679 I_703 L_703 R_679 _ := InvA_fr hA5 hf6
  refine W.lcmp hx hb dL_law_706 ?_
  refine q_Leq (tgt := 855) hx hb dL_law_707 (by decide) (fun c_707 => ?_) (fun c_707 => absurd (hz5.trans hz6.symm) c_707)
  refine q_more (c2 := cells + 3) (s2 := slots + 67) (by omega) (by omega) ?_
  exact kk _ _ _ _ _ _ _ _ ls hW hA6 hB6 hl
set_option maxRecDepth 100000 in
set_option maxHeartbeats 4000000 in
theorem law_c20 {p : Program} {e : Env} {s : State} {m : MethodId} {below : List Frame} {meth : Method} {c : Code} {Q : State → Prop} (l : Launch) {b Lx : Nat} {xs : Nat → Int32} (hC : CallFix p m c cL_law 4 s #[Value.ref b] GW "CoinRowsLaw") (hX : va_X b Lx xs s s.heap) (hbl : b < s.heap.size) (hLx : Lx ≤ 2560) {G : Gx} {n : Nat} {ad : Nat → Nat} {I : Ic} {L : Lc} {R : Rc} {H : Heap} {locs : List Loc} {cells slots iq : Nat} {S : ST} (hcc : cells + 3 ≤ 600000) (hss : slots + 67 ≤ 7302250) (hiq : iq + 5 ≤ Lx) (hW : Wd G n ad I L R (fun q => s.heap.size ≤ q) s.heap H locs s) (hA : InvA n I L R S) (hB : InvB n I R S) (ls : Array Slot) (hl : lv_has ls 4 [(3, .int (nI iq)), (2, .ref (ad 71)), (1, .ref (ad 0)), (0, .ref b)]) (kk : ∀ (n1 : Nat) (ad1 : Nat → Nat) (I1 : Ic) (L1 : Lc) (R1 : Rc) (S1 : ST) (H1 : Heap) (locs1 : List Loc) (ls1 : Array Slot), Wd G n1 ad1 I1 L1 R1 (fun q => s.heap.size ≤ q) s.heap H1 locs1 s → InvA n1 I1 L1 R1 S1 → InvB n1 I1 R1 S1 → lv_has ls1 4 [(3, .int (nI iq)), (2, .ref (ad1 71)), (1, .ref (ad1 0)), (0, .ref b)] → W p l e room_1 s m #[Value.ref b] below meth c H1 locs1 (cells + 3) (slots + 67) Q (F0 m 855 ls1 [])) : W p l e room_1 s m #[Value.ref b] below meth c H locs cells slots Q (F0 m 712 ls []) := by
  obtain ⟨⟨w, K, ro⟩, hc, hi, sv, pn, ch⟩ := S
  have hx := hC.1
  have hb := hC.2.1
  have hbA : ¬ (fun q : Nat => s.heap.size ≤ q) b := Nat.not_le.mpr hbl
  have hn : 83 ≤ n := hA.1
  refine lv_aload_n hx hb dL_law_712 rfl (lv_at hl 2 rfl) ?_
  refine q_kI2 (q_rV (As := []) (rest := []) (x := 0) hC hW mw_X5_shareBits gw_428 (k_shareBits l G n ad H.size I L R  w K ro hc hi sv pn ch hA) (by omega) (ct_o5 kd_0) rfl ⟨rfl, rfl⟩ ⟨Nat.le_of_ble_eq_true rfl, Nat.le_of_ble_eq_true rfl⟩ ⟨(by show _ ≤ 600000; omega), (by show _ ≤ 7302250; omega)⟩ hl.1 rfl rfl (Nat.le_of_ble_eq_true rfl) dL_law_713) hW (fun r_713 n_713 ad_713 I_713 L_713 R_713 H locs hp hW => ?_)
  obtain ⟨hz5, hA5, ⟨hn5, hag5⟩, hf5⟩ := hp
  have hA5 : InvA n_713 I_713 L_713 R_713 _ := hA5
  have hn5 : n ≤ n_713 := hn5
  have hag5 : ∀ k, k < n → ad_713 k = ad k := hag5
  have hf5 : ∀ a, 71 ≤ a → a < 83 → I_713 a = I a ∧ L_713 a = L a := hf5
  have hB5 : InvB n_713 I_713 R_713 ((w, K, ro), hc, hi, sv, pn, ch) := InvB_fr hB hA5.1 hA5.2.1 (fun a h1 h2 => (hf5 a h1 h2).1)
  have hn : 83 ≤ n_713 := hA5.1
  have hl : lv_has ls 4 [(3, .int (nI (iq))), (2, .ref (ad_713 71)), (1, .ref (ad_713 0)), (0, .ref b)] := by rw [hag5 0 (by omega), hag5 71 (by omega)]; exact hl
  refine lv_aload_n hx hb dL_law_716 rfl (lv_at hl 1 rfl) ?_
  refine q_kI1 (q_rV (As := []) (rest := [.int (r_713)]) (x := 71) hC hW mw_X6_shareBits gw_682 (k_rshareBits l G n_713 ad_713 H.size I_713 L_713 R_713  w K ro hc hi sv pn ch hB5) (by omega) (ct_o6 kd_71) rfl ⟨rfl, rfl⟩ ⟨Nat.le_of_ble_eq_true rfl, Nat.le_of_ble_eq_true rfl⟩ ⟨(by show _ ≤ 600000; omega), (by show _ ≤ 7302250; omega)⟩ hl.1 rfl rfl (Nat.le_of_ble_eq_true rfl) dL_law_717) hW (fun r_717 I_717 L_717 H locs hp hW => ?_)
  obtain ⟨hz6, hB6, hf6⟩ := hp
  have hA6 : InvA n_713 I_717 L_717 R_713 _ := InvA_fr hA5 hf6
  refine lv_icmp_eq (tgt := 855) hx hb dL_law_720 (by decide) (fun c_720 => ?_) (fun c_720 => absurd (hz5.trans hz6.symm) c_720)
  refine q_more (c2 := cells + 3) (s2 := slots + 67) (by omega) (by omega) ?_
  exact kk _ _ _ _ _ _ _ _ ls hW hA6 hB6 hl
set_option maxRecDepth 100000 in
set_option maxHeartbeats 4000000 in
theorem law_c21 {p : Program} {e : Env} {s : State} {m : MethodId} {below : List Frame} {meth : Method} {c : Code} {Q : State → Prop} (l : Launch) {b Lx : Nat} {xs : Nat → Int32} (hC : CallFix p m c cL_law 4 s #[Value.ref b] GW "CoinRowsLaw") (hX : va_X b Lx xs s s.heap) (hbl : b < s.heap.size) (hLx : Lx ≤ 2560) {G : Gx} {n : Nat} {ad : Nat → Nat} {I : Ic} {L : Lc} {R : Rc} {H : Heap} {locs : List Loc} {cells slots iq : Nat} {S : ST} (hcc : cells + 3 ≤ 600000) (hss : slots + 67 ≤ 7302250) (hiq : iq + 5 ≤ Lx) (hW : Wd G n ad I L R (fun q => s.heap.size ≤ q) s.heap H locs s) (hA : InvA n I L R S) (hB : InvB n I R S) (ls : Array Slot) (hl : lv_has ls 4 [(3, .int (nI iq)), (2, .ref (ad 71)), (1, .ref (ad 0)), (0, .ref b)]) (kk : ∀ (n1 : Nat) (ad1 : Nat → Nat) (I1 : Ic) (L1 : Lc) (R1 : Rc) (S1 : ST) (H1 : Heap) (locs1 : List Loc) (ls1 : Array Slot), Wd G n1 ad1 I1 L1 R1 (fun q => s.heap.size ≤ q) s.heap H1 locs1 s → InvA n1 I1 L1 R1 S1 → InvB n1 I1 R1 S1 → lv_has ls1 4 [(3, .int (nI iq)), (2, .ref (ad1 71)), (1, .ref (ad1 0)), (0, .ref b)] → W p l e room_1 s m #[Value.ref b] below meth c H1 locs1 (cells + 3) (slots + 67) Q (F0 m 855 ls1 [])) : W p l e room_1 s m #[Value.ref b] below meth c H locs cells slots Q (F0 m 725 ls []) := by
  obtain ⟨⟨w, K, ro⟩, hc, hi, sv, pn, ch⟩ := S
  have hx := hC.1
  have hb := hC.2.1
  have hbA : ¬ (fun q : Nat => s.heap.size ≤ q) b := Nat.not_le.mpr hbl
  have hn : 83 ≤ n := hA.1
  refine lv_aload_n hx hb dL_law_725 rfl (lv_at hl 2 rfl) ?_
  refine lv_aload_n hx hb dL_law_726 rfl (lv_at hl 3 rfl) ?_
  refine lv_iload_n hx hb dL_law_727 rfl (lv_at hl 0 rfl) ?_
  refine q_ic 1 hx hb dL_law_728 (by decide) ?_
  refine q_iadd hx hb dL_law_729 ?_
  refine va_sld hC.1 hC.2.1 hX hbl hbA hW.2.2.2.1 (in_k (i := iq + 1) (by omega) hLx) dL_law_730 ?_
  refine q_top (v2 := .int (xs (iq + 1))) (congrArg (fun z => Value.int (xs z)) (nI_clamp (by omega))) ?_
  refine q_kL2 (q_rV (As := [.int (xs (iq + 1))]) (rest := []) (x := 0) hC hW mw_X5_next gw_440 (k_next l G n ad H.size I L R (xs (iq + 1)) w K ro hc hi sv pn ch hA) (by omega) (ct_o5 kd_0) rfl ⟨rfl, rfl⟩ ⟨Nat.le_of_ble_eq_true rfl, Nat.le_of_ble_eq_true rfl⟩ ⟨(by show _ ≤ 600000; omega), (by show _ ≤ 7302250; omega)⟩ hl.1 rfl rfl (Nat.le_of_ble_eq_true rfl) dL_law_731) hW (fun r_731 n_731 ad_731 I_731 L_731 R_731 H locs hp hW => ?_)
  obtain ⟨hz5, hA5, ⟨hn5, hag5⟩, hf5⟩ := hp
  have hA5 : InvA n_731 I_731 L_731 R_731 _ := hA5
  have hn5 : n ≤ n_731 := hn5
  have hag5 : ∀ k, k < n → ad_731 k = ad k := hag5
  have hf5 : ∀ a, 71 ≤ a → a < 83 → I_731 a = I a ∧ L_731 a = L a := hf5
  have hB5 : InvB n_731 I_731 R_731 ((w, K, ro), hc, hi, sv, pn, ch) := InvB_fr hB hA5.1 hA5.2.1 (fun a h1 h2 => (hf5 a h1 h2).1)
  have hn : 83 ≤ n_731 := hA5.1
  have hl : lv_has ls 4 [(3, .int (nI (iq))), (2, .ref (ad_731 71)), (1, .ref (ad_731 0)), (0, .ref b)] := by rw [hag5 0 (by omega), hag5 71 (by omega)]; exact hl
  refine lv_aload_n hx hb dL_law_734 rfl (lv_at hl 1 rfl) ?_
  refine lv_aload_n hx hb dL_law_735 rfl (lv_at hl 3 rfl) ?_
  refine lv_iload_n hx hb dL_law_736 rfl (lv_at hl 0 rfl) ?_
  refine q_ic 1 hx hb dL_law_737 (by decide) ?_
  refine q_iadd hx hb dL_law_738 ?_
  refine va_sld hC.1 hC.2.1 hX hbl hbA hW.2.2.2.1 (in_k (i := iq + 1) (by omega) hLx) dL_law_739 ?_
  refine q_top (v2 := .int (xs (iq + 1))) (congrArg (fun z => Value.int (xs z)) (nI_clamp (by omega))) ?_
  refine q_kL1 (q_rV (As := [.int (xs (iq + 1))]) (rest := [.long (r_731)]) (x := 71) hC hW mw_X6_next gw_706 (k_rnext l G n_731 ad_731 H.size I_731 L_731 R_731 (xs (iq + 1)) w K ro hc hi sv pn ch hB5) (by omega) (ct_o6 kd_71) rfl ⟨rfl, rfl⟩ ⟨Nat.le_of_ble_eq_true rfl, Nat.le_of_ble_eq_true rfl⟩ ⟨(by show _ ≤ 600000; omega), (by show _ ≤ 7302250; omega)⟩ hl.1 rfl rfl (Nat.le_of_ble_eq_true rfl) dL_law_740) hW (fun r_740 I_740 L_740 H locs hp hW => ?_)
  obtain ⟨hz6, hB6, hf6⟩ := hp
  have hA6 : InvA n_731 I_740 L_740 R_731 _ := InvA_fr hA5 hf6
  refine W.lcmp hx hb dL_law_743 ?_
  refine q_Leq (tgt := 855) hx hb dL_law_744 (by decide) (fun c_744 => ?_) (fun c_744 => absurd (hz5.trans hz6.symm) c_744)
  refine q_more (c2 := cells + 3) (s2 := slots + 67) (by omega) (by omega) ?_
  exact kk _ _ _ _ _ _ _ _ ls hW hA6 hB6 hl
set_option maxRecDepth 100000 in
set_option maxHeartbeats 4000000 in
theorem law_c22 {p : Program} {e : Env} {s : State} {m : MethodId} {below : List Frame} {meth : Method} {c : Code} {Q : State → Prop} (l : Launch) {b Lx : Nat} {xs : Nat → Int32} (hC : CallFix p m c cL_law 4 s #[Value.ref b] GW "CoinRowsLaw") (hX : va_X b Lx xs s s.heap) (hbl : b < s.heap.size) (hLx : Lx ≤ 2560) {G : Gx} {n : Nat} {ad : Nat → Nat} {I : Ic} {L : Lc} {R : Rc} {H : Heap} {locs : List Loc} {cells slots iq : Nat} {S : ST} (hcc : cells + 3 ≤ 600000) (hss : slots + 67 ≤ 7302250) (hiq : iq + 5 ≤ Lx) (hW : Wd G n ad I L R (fun q => s.heap.size ≤ q) s.heap H locs s) (hA : InvA n I L R S) (hB : InvB n I R S) (ls : Array Slot) (hl : lv_has ls 4 [(3, .int (nI iq)), (2, .ref (ad 71)), (1, .ref (ad 0)), (0, .ref b)]) (kk : ∀ (n1 : Nat) (ad1 : Nat → Nat) (I1 : Ic) (L1 : Lc) (R1 : Rc) (S1 : ST) (H1 : Heap) (locs1 : List Loc) (ls1 : Array Slot), Wd G n1 ad1 I1 L1 R1 (fun q => s.heap.size ≤ q) s.heap H1 locs1 s → InvA n1 I1 L1 R1 S1 → InvB n1 I1 R1 S1 → lv_has ls1 4 [(3, .int (nI iq)), (2, .ref (ad1 71)), (1, .ref (ad1 0)), (0, .ref b)] → W p l e room_1 s m #[Value.ref b] below meth c H1 locs1 (cells + 3) (slots + 67) Q (F0 m 855 ls1 [])) : W p l e room_1 s m #[Value.ref b] below meth c H locs cells slots Q (F0 m 749 ls []) := by
  obtain ⟨⟨w, K, ro⟩, hc, hi, sv, pn, ch⟩ := S
  have hx := hC.1
  have hb := hC.2.1
  have hbA : ¬ (fun q : Nat => s.heap.size ≤ q) b := Nat.not_le.mpr hbl
  have hn : 83 ≤ n := hA.1
  refine lv_aload_n hx hb dL_law_749 rfl (lv_at hl 2 rfl) ?_
  refine lv_aload_n hx hb dL_law_750 rfl (lv_at hl 3 rfl) ?_
  refine lv_iload_n hx hb dL_law_751 rfl (lv_at hl 0 rfl) ?_
  refine q_ic 1 hx hb dL_law_752 (by decide) ?_
  refine q_iadd hx hb dL_law_753 ?_
  refine va_sld hC.1 hC.2.1 hX hbl hbA hW.2.2.2.1 (in_k (i := iq + 1) (by omega) hLx) dL_law_754 ?_
  refine q_top (v2 := .int (xs (iq + 1))) (congrArg (fun z => Value.int (xs z)) (nI_clamp (by omega))) ?_
  refine q_kL2 (q_rV (As := [.int (xs (iq + 1))]) (rest := []) (x := 0) hC hW mw_X5_slip gw_449 (k_slip l G n ad H.size I L R (xs (iq + 1)) w K ro hc hi sv pn ch hA) (by omega) (ct_o5 kd_0) rfl ⟨rfl, rfl⟩ ⟨Nat.le_of_ble_eq_true rfl, Nat.le_of_ble_eq_true rfl⟩ ⟨(by show _ ≤ 600000; omega), (by show _ ≤ 7302250; omega)⟩ hl.1 rfl rfl (Nat.le_of_ble_eq_true rfl) dL_law_755) hW (fun r_755 n_755 ad_755 I_755 L_755 R_755 H locs hp hW => ?_)
  obtain ⟨hz5, hA5, ⟨hn5, hag5⟩, hf5⟩ := hp
  have hA5 : InvA n_755 I_755 L_755 R_755 _ := hA5
  have hn5 : n ≤ n_755 := hn5
  have hag5 : ∀ k, k < n → ad_755 k = ad k := hag5
  have hf5 : ∀ a, 71 ≤ a → a < 83 → I_755 a = I a ∧ L_755 a = L a := hf5
  have hB5 : InvB n_755 I_755 R_755 ((w, K, ro), hc, hi, sv, pn, ch) := InvB_fr hB hA5.1 hA5.2.1 (fun a h1 h2 => (hf5 a h1 h2).1)
  have hn : 83 ≤ n_755 := hA5.1
  have hl : lv_has ls 4 [(3, .int (nI (iq))), (2, .ref (ad_755 71)), (1, .ref (ad_755 0)), (0, .ref b)] := by rw [hag5 0 (by omega), hag5 71 (by omega)]; exact hl
  refine lv_aload_n hx hb dL_law_758 rfl (lv_at hl 1 rfl) ?_
  refine lv_aload_n hx hb dL_law_759 rfl (lv_at hl 3 rfl) ?_
  refine lv_iload_n hx hb dL_law_760 rfl (lv_at hl 0 rfl) ?_
  refine q_ic 1 hx hb dL_law_761 (by decide) ?_
  refine q_iadd hx hb dL_law_762 ?_
  refine va_sld hC.1 hC.2.1 hX hbl hbA hW.2.2.2.1 (in_k (i := iq + 1) (by omega) hLx) dL_law_763 ?_
  refine q_top (v2 := .int (xs (iq + 1))) (congrArg (fun z => Value.int (xs z)) (nI_clamp (by omega))) ?_
  refine q_kL1 (q_rV (As := [.int (xs (iq + 1))]) (rest := [.long (r_755)]) (x := 71) hC hW mw_X6_slip gw_711 (k_rslip l G n_755 ad_755 H.size I_755 L_755 R_755 (xs (iq + 1)) w K ro hc hi sv pn ch hB5) (by omega) (ct_o6 kd_71) rfl ⟨rfl, rfl⟩ ⟨Nat.le_of_ble_eq_true rfl, Nat.le_of_ble_eq_true rfl⟩ ⟨(by show _ ≤ 600000; omega), (by show _ ≤ 7302250; omega)⟩ hl.1 rfl rfl (Nat.le_of_ble_eq_true rfl) dL_law_764) hW (fun r_764 I_764 L_764 H locs hp hW => ?_)
  obtain ⟨hz6, hB6, hf6⟩ := hp
  have hA6 : InvA n_755 I_764 L_764 R_755 _ := InvA_fr hA5 hf6
  refine W.lcmp hx hb dL_law_767 ?_
  refine q_Leq (tgt := 855) hx hb dL_law_768 (by decide) (fun c_768 => ?_) (fun c_768 => absurd (hz5.trans hz6.symm) c_768)
  refine q_more (c2 := cells + 3) (s2 := slots + 67) (by omega) (by omega) ?_
  exact kk _ _ _ _ _ _ _ _ ls hW hA6 hB6 hl
set_option maxRecDepth 100000 in
set_option maxHeartbeats 4000000 in
theorem law_c23 {p : Program} {e : Env} {s : State} {m : MethodId} {below : List Frame} {meth : Method} {c : Code} {Q : State → Prop} (l : Launch) {b Lx : Nat} {xs : Nat → Int32} (hC : CallFix p m c cL_law 4 s #[Value.ref b] GW "CoinRowsLaw") (hX : va_X b Lx xs s s.heap) (hbl : b < s.heap.size) (hLx : Lx ≤ 2560) {G : Gx} {n : Nat} {ad : Nat → Nat} {I : Ic} {L : Lc} {R : Rc} {H : Heap} {locs : List Loc} {cells slots iq : Nat} {S : ST} (hcc : cells + 3 ≤ 600000) (hss : slots + 67 ≤ 7302250) (hiq : iq + 5 ≤ Lx) (hW : Wd G n ad I L R (fun q => s.heap.size ≤ q) s.heap H locs s) (hA : InvA n I L R S) (hB : InvB n I R S) (ls : Array Slot) (hl : lv_has ls 4 [(3, .int (nI iq)), (2, .ref (ad 71)), (1, .ref (ad 0)), (0, .ref b)]) (kk : ∀ (n1 : Nat) (ad1 : Nat → Nat) (I1 : Ic) (L1 : Lc) (R1 : Rc) (S1 : ST) (H1 : Heap) (locs1 : List Loc) (ls1 : Array Slot), Wd G n1 ad1 I1 L1 R1 (fun q => s.heap.size ≤ q) s.heap H1 locs1 s → InvA n1 I1 L1 R1 S1 → InvB n1 I1 R1 S1 → lv_has ls1 4 [(3, .int (nI iq)), (2, .ref (ad1 71)), (1, .ref (ad1 0)), (0, .ref b)] → W p l e room_1 s m #[Value.ref b] below meth c H1 locs1 (cells + 3) (slots + 67) Q (F0 m 855 ls1 [])) : W p l e room_1 s m #[Value.ref b] below meth c H locs cells slots Q (F0 m 773 ls []) := by
  obtain ⟨⟨w, K, ro⟩, hc, hi, sv, pn, ch⟩ := S
  have hx := hC.1
  have hb := hC.2.1
  have hbA : ¬ (fun q : Nat => s.heap.size ≤ q) b := Nat.not_le.mpr hbl
  have hn : 83 ≤ n := hA.1
  refine lv_aload_n hx hb dL_law_773 rfl (lv_at hl 2 rfl) ?_
  refine lv_aload_n hx hb dL_law_774 rfl (lv_at hl 3 rfl) ?_
  refine lv_iload_n hx hb dL_law_775 rfl (lv_at hl 0 rfl) ?_
  refine q_ic 1 hx hb dL_law_776 (by decide) ?_
  refine q_iadd hx hb dL_law_777 ?_
  refine va_sld hC.1 hC.2.1 hX hbl hbA hW.2.2.2.1 (in_k (i := iq + 1) (by omega) hLx) dL_law_778 ?_
  refine q_top (v2 := .int (xs (iq + 1))) (congrArg (fun z => Value.int (xs z)) (nI_clamp (by omega))) ?_
  refine q_kI2 (q_rV (As := [.int (xs (iq + 1))]) (rest := []) (x := 0) hC hW mw_X5_count gw_457 (k_count l G n ad H.size I L R (xs (iq + 1)) w K ro hc hi sv pn ch hA) (by omega) (ct_o5 kd_0) rfl ⟨rfl, rfl⟩ ⟨Nat.le_of_ble_eq_true rfl, Nat.le_of_ble_eq_true rfl⟩ ⟨(by show _ ≤ 600000; omega), (by show _ ≤ 7302250; omega)⟩ hl.1 rfl rfl (Nat.le_of_ble_eq_true rfl) dL_law_779) hW (fun r_779 n_779 ad_779 I_779 L_779 R_779 H locs hp hW => ?_)
  obtain ⟨hz5, hA5, ⟨hn5, hag5⟩, hf5⟩ := hp
  have hA5 : InvA n_779 I_779 L_779 R_779 _ := hA5
  have hn5 : n ≤ n_779 := hn5
  have hag5 : ∀ k, k < n → ad_779 k = ad k := hag5
  have hf5 : ∀ a, 71 ≤ a → a < 83 → I_779 a = I a ∧ L_779 a = L a := hf5
  have hB5 : InvB n_779 I_779 R_779 ((w, K, ro), hc, hi, sv, pn, ch) := InvB_fr hB hA5.1 hA5.2.1 (fun a h1 h2 => (hf5 a h1 h2).1)
  have hn : 83 ≤ n_779 := hA5.1
  have hl : lv_has ls 4 [(3, .int (nI (iq))), (2, .ref (ad_779 71)), (1, .ref (ad_779 0)), (0, .ref b)] := by rw [hag5 0 (by omega), hag5 71 (by omega)]; exact hl
  refine lv_aload_n hx hb dL_law_782 rfl (lv_at hl 1 rfl) ?_
  refine lv_aload_n hx hb dL_law_783 rfl (lv_at hl 3 rfl) ?_
  refine lv_iload_n hx hb dL_law_784 rfl (lv_at hl 0 rfl) ?_
  refine q_ic 1 hx hb dL_law_785 (by decide) ?_
  refine q_iadd hx hb dL_law_786 ?_
  refine va_sld hC.1 hC.2.1 hX hbl hbA hW.2.2.2.1 (in_k (i := iq + 1) (by omega) hLx) dL_law_787 ?_
  refine q_top (v2 := .int (xs (iq + 1))) (congrArg (fun z => Value.int (xs z)) (nI_clamp (by omega))) ?_
  refine q_kI1 (q_rV (As := [.int (xs (iq + 1))]) (rest := [.int (r_779)]) (x := 71) hC hW mw_X6_count gw_715 (k_rcount l G n_779 ad_779 H.size I_779 L_779 R_779 (xs (iq + 1)) w K ro hc hi sv pn ch hB5) (by omega) (ct_o6 kd_71) rfl ⟨rfl, rfl⟩ ⟨Nat.le_of_ble_eq_true rfl, Nat.le_of_ble_eq_true rfl⟩ ⟨(by show _ ≤ 600000; omega), (by show _ ≤ 7302250; omega)⟩ hl.1 rfl rfl (Nat.le_of_ble_eq_true rfl) dL_law_788) hW (fun r_788 I_788 L_788 H locs hp hW => ?_)
  obtain ⟨hz6, hB6, hf6⟩ := hp
  have hA6 : InvA n_779 I_788 L_788 R_779 _ := InvA_fr hA5 hf6
  refine lv_icmp_eq (tgt := 855) hx hb dL_law_791 (by decide) (fun c_791 => ?_) (fun c_791 => absurd (hz5.trans hz6.symm) c_791)
  refine q_more (c2 := cells + 3) (s2 := slots + 67) (by omega) (by omega) ?_
  exact kk _ _ _ _ _ _ _ _ ls hW hA6 hB6 hl
set_option maxRecDepth 100000 in
set_option maxHeartbeats 4000000 in
theorem law_c24 {p : Program} {e : Env} {s : State} {m : MethodId} {below : List Frame} {meth : Method} {c : Code} {Q : State → Prop} (l : Launch) {b Lx : Nat} {xs : Nat → Int32} (hC : CallFix p m c cL_law 4 s #[Value.ref b] GW "CoinRowsLaw") (hX : va_X b Lx xs s s.heap) (hbl : b < s.heap.size) (hLx : Lx ≤ 2560) {G : Gx} {n : Nat} {ad : Nat → Nat} {I : Ic} {L : Lc} {R : Rc} {H : Heap} {locs : List Loc} {cells slots iq : Nat} {S : ST} (hcc : cells + 3 ≤ 600000) (hss : slots + 67 ≤ 7302250) (hiq : iq + 5 ≤ Lx) (hW : Wd G n ad I L R (fun q => s.heap.size ≤ q) s.heap H locs s) (hA : InvA n I L R S) (hB : InvB n I R S) (ls : Array Slot) (hl : lv_has ls 4 [(3, .int (nI iq)), (2, .ref (ad 71)), (1, .ref (ad 0)), (0, .ref b)]) (kk : ∀ (n1 : Nat) (ad1 : Nat → Nat) (I1 : Ic) (L1 : Lc) (R1 : Rc) (S1 : ST) (H1 : Heap) (locs1 : List Loc) (ls1 : Array Slot), Wd G n1 ad1 I1 L1 R1 (fun q => s.heap.size ≤ q) s.heap H1 locs1 s → InvA n1 I1 L1 R1 S1 → InvB n1 I1 R1 S1 → lv_has ls1 4 [(3, .int (nI iq)), (2, .ref (ad1 71)), (1, .ref (ad1 0)), (0, .ref b)] → W p l e room_1 s m #[Value.ref b] below meth c H1 locs1 (cells + 3) (slots + 67) Q (F0 m 855 ls1 [])) : W p l e room_1 s m #[Value.ref b] below meth c H locs cells slots Q (F0 m 796 ls []) := by
  obtain ⟨⟨w, K, ro⟩, hc, hi, sv, pn, ch⟩ := S
  have hx := hC.1
  have hb := hC.2.1
  have hbA : ¬ (fun q : Nat => s.heap.size ≤ q) b := Nat.not_le.mpr hbl
  have hn : 83 ≤ n := hA.1
  refine lv_aload_n hx hb dL_law_796 rfl (lv_at hl 2 rfl) ?_
  refine q_kI2 (q_rV (As := []) (rest := []) (x := 0) hC hW mw_X5_undo gw_465 (k_undo l G n ad H.size I L R  w K ro hc hi sv pn ch hA) (by omega) (ct_o5 kd_0) rfl ⟨rfl, rfl⟩ ⟨Nat.le_of_ble_eq_true rfl, Nat.le_of_ble_eq_true rfl⟩ ⟨(by show _ ≤ 600000; omega), (by show _ ≤ 7302250; omega)⟩ hl.1 rfl rfl (Nat.le_of_ble_eq_true rfl) dL_law_797) hW (fun r_797 n_797 ad_797 I_797 L_797 R_797 H locs hp hW => ?_)
  obtain ⟨hz5, hA5, ⟨hn5, hag5⟩, hf5⟩ := hp
  have hA5 : InvA n_797 I_797 L_797 R_797 _ := hA5
  have hn5 : n ≤ n_797 := hn5
  have hag5 : ∀ k, k < n → ad_797 k = ad k := hag5
  have hf5 : ∀ a, 71 ≤ a → a < 83 → I_797 a = I a ∧ L_797 a = L a := hf5
  have hB5 : InvB n_797 I_797 R_797 ((w, K, ro), hc, hi, sv, pn, ch) := InvB_fr hB hA5.1 hA5.2.1 (fun a h1 h2 => (hf5 a h1 h2).1)
  have hn : 83 ≤ n_797 := hA5.1
  have hl : lv_has ls 4 [(3, .int (nI (iq))), (2, .ref (ad_797 71)), (1, .ref (ad_797 0)), (0, .ref b)] := by rw [hag5 0 (by omega), hag5 71 (by omega)]; exact hl
  refine lv_aload_n hx hb dL_law_800 rfl (lv_at hl 1 rfl) ?_
  refine q_kI1 (q_rV (As := []) (rest := [.int (r_797)]) (x := 71) hC hW mw_X6_undo gw_744 (k_rundo l G n_797 ad_797 H.size I_797 L_797 R_797  w K ro hc hi sv pn ch hB5) (by omega) (ct_o6 kd_71) rfl ⟨rfl, rfl⟩ ⟨Nat.le_of_ble_eq_true rfl, Nat.le_of_ble_eq_true rfl⟩ ⟨(by show _ ≤ 600000; omega), (by show _ ≤ 7302250; omega)⟩ hl.1 rfl rfl (Nat.le_of_ble_eq_true rfl) dL_law_801) hW (fun r_801 I_801 L_801 H locs hp hW => ?_)
  obtain ⟨hz6, hB6, hf6⟩ := hp
  have hA6 : InvA n_797 I_801 L_801 R_797 _ := InvA_fr hA5 hf6
  refine lv_icmp_eq (tgt := 855) hx hb dL_law_804 (by decide) (fun c_804 => ?_) (fun c_804 => absurd (hz5.trans hz6.symm) c_804)
  refine q_more (c2 := cells + 3) (s2 := slots + 67) (by omega) (by omega) ?_
  exact kk _ _ _ _ _ _ _ _ ls hW hA6 hB6 hl
set_option maxRecDepth 100000 in
set_option maxHeartbeats 4000000 in
theorem law_c25 {p : Program} {e : Env} {s : State} {m : MethodId} {below : List Frame} {meth : Method} {c : Code} {Q : State → Prop} (l : Launch) {b Lx : Nat} {xs : Nat → Int32} (hC : CallFix p m c cL_law 4 s #[Value.ref b] GW "CoinRowsLaw") (hX : va_X b Lx xs s s.heap) (hbl : b < s.heap.size) (hLx : Lx ≤ 2560) {G : Gx} {n : Nat} {ad : Nat → Nat} {I : Ic} {L : Lc} {R : Rc} {H : Heap} {locs : List Loc} {cells slots iq : Nat} {S : ST} (hcc : cells + 3 ≤ 600000) (hss : slots + 67 ≤ 7302250) (hiq : iq + 5 ≤ Lx) (hW : Wd G n ad I L R (fun q => s.heap.size ≤ q) s.heap H locs s) (hA : InvA n I L R S) (hB : InvB n I R S) (ls : Array Slot) (hl : lv_has ls 4 [(3, .int (nI iq)), (2, .ref (ad 71)), (1, .ref (ad 0)), (0, .ref b)]) (kk : ∀ (n1 : Nat) (ad1 : Nat → Nat) (I1 : Ic) (L1 : Lc) (R1 : Rc) (S1 : ST) (H1 : Heap) (locs1 : List Loc) (ls1 : Array Slot), Wd G n1 ad1 I1 L1 R1 (fun q => s.heap.size ≤ q) s.heap H1 locs1 s → InvA n1 I1 L1 R1 S1 → InvB n1 I1 R1 S1 → lv_has ls1 4 [(3, .int (nI iq)), (2, .ref (ad1 71)), (1, .ref (ad1 0)), (0, .ref b)] → W p l e room_1 s m #[Value.ref b] below meth c H1 locs1 (cells + 3) (slots + 67) Q (F0 m 855 ls1 [])) : W p l e room_1 s m #[Value.ref b] below meth c H locs cells slots Q (F0 m 809 ls []) := by
  obtain ⟨⟨w, K, ro⟩, hc, hi, sv, pn, ch⟩ := S
  have hx := hC.1
  have hb := hC.2.1
  have hbA : ¬ (fun q : Nat => s.heap.size ≤ q) b := Nat.not_le.mpr hbl
  have hn : 83 ≤ n := hA.1
  refine lv_aload_n hx hb dL_law_809 rfl (lv_at hl 2 rfl) ?_
  refine lv_aload_n hx hb dL_law_810 rfl (lv_at hl 3 rfl) ?_
  refine lv_iload_n hx hb dL_law_811 rfl (lv_at hl 0 rfl) ?_
  refine q_ic 1 hx hb dL_law_812 (by decide) ?_
  refine q_iadd hx hb dL_law_813 ?_
  refine va_sld hC.1 hC.2.1 hX hbl hbA hW.2.2.2.1 (in_k (i := iq + 1) (by omega) hLx) dL_law_814 ?_
  refine q_top (v2 := .int (xs (iq + 1))) (congrArg (fun z => Value.int (xs z)) (nI_clamp (by omega))) ?_
  refine q_kI2 (q_rV (As := [.int (xs (iq + 1))]) (rest := []) (x := 0) hC hW mw_X5_save gw_469 (k_save l G n ad H.size I L R (xs (iq + 1)) w K ro hc hi sv pn ch hA) (by omega) (ct_o5 kd_0) rfl ⟨rfl, rfl⟩ ⟨Nat.le_of_ble_eq_true rfl, Nat.le_of_ble_eq_true rfl⟩ ⟨(by show _ ≤ 600000; omega), (by show _ ≤ 7302250; omega)⟩ hl.1 rfl rfl (Nat.le_of_ble_eq_true rfl) dL_law_815) hW (fun r_815 n_815 ad_815 I_815 L_815 R_815 H locs hp hW => ?_)
  obtain ⟨hz5, hA5, ⟨hn5, hag5⟩, hf5⟩ := hp
  have hA5 : InvA n_815 I_815 L_815 R_815 _ := hA5
  have hn5 : n ≤ n_815 := hn5
  have hag5 : ∀ k, k < n → ad_815 k = ad k := hag5
  have hf5 : ∀ a, 71 ≤ a → a < 83 → I_815 a = I a ∧ L_815 a = L a := hf5
  have hB5 : InvB n_815 I_815 R_815 ((w, K, ro), hc, hi, sv, pn, ch) := InvB_fr hB hA5.1 hA5.2.1 (fun a h1 h2 => (hf5 a h1 h2).1)
  have hn : 83 ≤ n_815 := hA5.1
  have hl : lv_has ls 4 [(3, .int (nI (iq))), (2, .ref (ad_815 71)), (1, .ref (ad_815 0)), (0, .ref b)] := by rw [hag5 0 (by omega), hag5 71 (by omega)]; exact hl
  refine lv_aload_n hx hb dL_law_818 rfl (lv_at hl 1 rfl) ?_
  refine lv_aload_n hx hb dL_law_819 rfl (lv_at hl 3 rfl) ?_
  refine lv_iload_n hx hb dL_law_820 rfl (lv_at hl 0 rfl) ?_
  refine q_ic 1 hx hb dL_law_821 (by decide) ?_
  refine q_iadd hx hb dL_law_822 ?_
  refine va_sld hC.1 hC.2.1 hX hbl hbA hW.2.2.2.1 (in_k (i := iq + 1) (by omega) hLx) dL_law_823 ?_
  refine q_top (v2 := .int (xs (iq + 1))) (congrArg (fun z => Value.int (xs z)) (nI_clamp (by omega))) ?_
  refine q_kI1 (q_rV (As := [.int (xs (iq + 1))]) (rest := [.int (r_815)]) (x := 71) hC hW mw_X6_save gw_748 (k_rsave l G n_815 ad_815 H.size I_815 L_815 R_815 (xs (iq + 1)) w K ro hc hi sv pn ch hB5) (by omega) (ct_o6 kd_71) rfl ⟨rfl, rfl⟩ ⟨Nat.le_of_ble_eq_true rfl, Nat.le_of_ble_eq_true rfl⟩ ⟨(by show _ ≤ 600000; omega), (by show _ ≤ 7302250; omega)⟩ hl.1 rfl rfl (Nat.le_of_ble_eq_true rfl) dL_law_824) hW (fun r_824 I_824 L_824 H locs hp hW => ?_)
  obtain ⟨hz6, hB6, hf6⟩ := hp
  have hA6 : InvA n_815 I_824 L_824 R_815 _ := InvA_fr hA5 hf6
  refine lv_icmp_eq (tgt := 855) hx hb dL_law_827 (by decide) (fun c_827 => ?_) (fun c_827 => absurd (hz5.trans hz6.symm) c_827)
  refine q_more (c2 := cells + 3) (s2 := slots + 67) (by omega) (by omega) ?_
  exact kk _ _ _ _ _ _ _ _ ls hW hA6 hB6 hl
set_option maxRecDepth 100000 in
set_option maxHeartbeats 4000000 in
theorem law_c26 {p : Program} {e : Env} {s : State} {m : MethodId} {below : List Frame} {meth : Method} {c : Code} {Q : State → Prop} (l : Launch) {b Lx : Nat} {xs : Nat → Int32} (hC : CallFix p m c cL_law 4 s #[Value.ref b] GW "CoinRowsLaw") (hX : va_X b Lx xs s s.heap) (hbl : b < s.heap.size) (hLx : Lx ≤ 2560) {G : Gx} {n : Nat} {ad : Nat → Nat} {I : Ic} {L : Lc} {R : Rc} {H : Heap} {locs : List Loc} {cells slots iq : Nat} {S : ST} (hcc : cells + 3 ≤ 600000) (hss : slots + 67 ≤ 7302250) (hiq : iq + 5 ≤ Lx) (hW : Wd G n ad I L R (fun q => s.heap.size ≤ q) s.heap H locs s) (hA : InvA n I L R S) (hB : InvB n I R S) (ls : Array Slot) (hl : lv_has ls 4 [(3, .int (nI iq)), (2, .ref (ad 71)), (1, .ref (ad 0)), (0, .ref b)]) (kk : ∀ (n1 : Nat) (ad1 : Nat → Nat) (I1 : Ic) (L1 : Lc) (R1 : Rc) (S1 : ST) (H1 : Heap) (locs1 : List Loc) (ls1 : Array Slot), Wd G n1 ad1 I1 L1 R1 (fun q => s.heap.size ≤ q) s.heap H1 locs1 s → InvA n1 I1 L1 R1 S1 → InvB n1 I1 R1 S1 → lv_has ls1 4 [(3, .int (nI iq)), (2, .ref (ad1 71)), (1, .ref (ad1 0)), (0, .ref b)] → W p l e room_1 s m #[Value.ref b] below meth c H1 locs1 (cells + 3) (slots + 67) Q (F0 m 855 ls1 [])) : W p l e room_1 s m #[Value.ref b] below meth c H locs cells slots Q (F0 m 832 ls []) := by
  obtain ⟨⟨w, K, ro⟩, hc, hi, sv, pn, ch⟩ := S
  have hx := hC.1
  have hb := hC.2.1
  have hbA : ¬ (fun q : Nat => s.heap.size ≤ q) b := Nat.not_le.mpr hbl
  have hn : 83 ≤ n := hA.1
  refine lv_aload_n hx hb dL_law_832 rfl (lv_at hl 2 rfl) ?_
  refine lv_aload_n hx hb dL_law_833 rfl (lv_at hl 3 rfl) ?_
  refine lv_iload_n hx hb dL_law_834 rfl (lv_at hl 0 rfl) ?_
  refine q_ic 1 hx hb dL_law_835 (by decide) ?_
  refine q_iadd hx hb dL_law_836 ?_
  refine va_sld hC.1 hC.2.1 hX hbl hbA hW.2.2.2.1 (in_k (i := iq + 1) (by omega) hLx) dL_law_837 ?_
  refine q_top (v2 := .int (xs (iq + 1))) (congrArg (fun z => Value.int (xs z)) (nI_clamp (by omega))) ?_
  refine q_kI2 (q_rV (As := [.int (xs (iq + 1))]) (rest := []) (x := 0) hC hW mw_X5_restore gw_473 (k_restore l G n ad H.size I L R (xs (iq + 1)) w K ro hc hi sv pn ch hA) (by omega) (ct_o5 kd_0) rfl ⟨rfl, rfl⟩ ⟨Nat.le_of_ble_eq_true rfl, Nat.le_of_ble_eq_true rfl⟩ ⟨(by show _ ≤ 600000; omega), (by show _ ≤ 7302250; omega)⟩ hl.1 rfl rfl (Nat.le_of_ble_eq_true rfl) dL_law_838) hW (fun r_838 n_838 ad_838 I_838 L_838 R_838 H locs hp hW => ?_)
  obtain ⟨hz5, hA5, ⟨hn5, hag5⟩, hf5⟩ := hp
  have hA5 : InvA n_838 I_838 L_838 R_838 _ := hA5
  have hn5 : n ≤ n_838 := hn5
  have hag5 : ∀ k, k < n → ad_838 k = ad k := hag5
  have hf5 : ∀ a, 71 ≤ a → a < 83 → I_838 a = I a ∧ L_838 a = L a := hf5
  have hB5 : InvB n_838 I_838 R_838 ((w, K, ro), hc, hi, sv, pn, ch) := InvB_fr hB hA5.1 hA5.2.1 (fun a h1 h2 => (hf5 a h1 h2).1)
  have hn : 83 ≤ n_838 := hA5.1
  have hl : lv_has ls 4 [(3, .int (nI (iq))), (2, .ref (ad_838 71)), (1, .ref (ad_838 0)), (0, .ref b)] := by rw [hag5 0 (by omega), hag5 71 (by omega)]; exact hl
  refine lv_aload_n hx hb dL_law_841 rfl (lv_at hl 1 rfl) ?_
  refine lv_aload_n hx hb dL_law_842 rfl (lv_at hl 3 rfl) ?_
  refine lv_iload_n hx hb dL_law_843 rfl (lv_at hl 0 rfl) ?_
  refine q_ic 1 hx hb dL_law_844 (by decide) ?_
  refine q_iadd hx hb dL_law_845 ?_
  refine va_sld hC.1 hC.2.1 hX hbl hbA hW.2.2.2.1 (in_k (i := iq + 1) (by omega) hLx) dL_law_846 ?_
  refine q_top (v2 := .int (xs (iq + 1))) (congrArg (fun z => Value.int (xs z)) (nI_clamp (by omega))) ?_
  refine q_kI1 (q_rV (As := [.int (xs (iq + 1))]) (rest := [.int (r_838)]) (x := 71) hC hW mw_X6_restore gw_752 (k_rrestore l G n_838 ad_838 H.size I_838 L_838 R_838 (xs (iq + 1)) w K ro hc hi sv pn ch hB5) (by omega) (ct_o6 kd_71) rfl ⟨rfl, rfl⟩ ⟨Nat.le_of_ble_eq_true rfl, Nat.le_of_ble_eq_true rfl⟩ ⟨(by show _ ≤ 600000; omega), (by show _ ≤ 7302250; omega)⟩ hl.1 rfl rfl (Nat.le_of_ble_eq_true rfl) dL_law_847) hW (fun r_847 I_847 L_847 H locs hp hW => ?_)
  obtain ⟨hz6, hB6, hf6⟩ := hp
  have hA6 : InvA n_838 I_847 L_847 R_838 _ := InvA_fr hA5 hf6
  refine lv_icmp_eq (tgt := 855) hx hb dL_law_850 (by decide) (fun c_850 => ?_) (fun c_850 => absurd (hz5.trans hz6.symm) c_850)
  refine q_more (c2 := cells + 3) (s2 := slots + 67) (by omega) (by omega) ?_
  exact kk _ _ _ _ _ _ _ _ ls hW hA6 hB6 hl
