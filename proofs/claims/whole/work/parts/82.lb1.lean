set_option maxRecDepth 100000 in
set_option maxHeartbeats 4000000 in
theorem law_c9 {p : Program} {e : Env} {s : State} {m : MethodId} {below : List Frame} {meth : Method} {c : Code} {Q : State → Prop} (l : Launch) {b Lx : Nat} {xs : Nat → Int32} (hC : CallFix p m c cL_law 4 s #[Value.ref b] GW "CoinRowsLaw") (hX : va_X b Lx xs s s.heap) (hbl : b < s.heap.size) (hLx : Lx ≤ 2560) {G : Gx} {n : Nat} {ad : Nat → Nat} {I : Ic} {L : Lc} {R : Rc} {H : Heap} {locs : List Loc} {cells slots iq : Nat} {S : ST} (hcc : cells + 3 ≤ 600000) (hss : slots + 67 ≤ 7302250) (hiq : iq + 5 ≤ Lx) (hW : Wd G n ad I L R (fun q => s.heap.size ≤ q) s.heap H locs s) (hA : InvA n I L R S) (hB : InvB n I R S) (ls : Array Slot) (hl : lv_has ls 4 [(3, .int (nI iq)), (2, .ref (ad 71)), (1, .ref (ad 0)), (0, .ref b)]) (kk : ∀ (n1 : Nat) (ad1 : Nat → Nat) (I1 : Ic) (L1 : Lc) (R1 : Rc) (S1 : ST) (H1 : Heap) (locs1 : List Loc) (ls1 : Array Slot), Wd G n1 ad1 I1 L1 R1 (fun q => s.heap.size ≤ q) s.heap H1 locs1 s → InvA n1 I1 L1 R1 S1 → InvB n1 I1 R1 S1 → lv_has ls1 4 [(3, .int (nI iq)), (2, .ref (ad1 71)), (1, .ref (ad1 0)), (0, .ref b)] → W p l e room_1 s m #[Value.ref b] below meth c H1 locs1 (cells + 3) (slots + 67) Q (F0 m 855 ls1 [])) : W p l e room_1 s m #[Value.ref b] below meth c H locs cells slots Q (F0 m 403 ls []) := by
  obtain ⟨⟨w, K, ro⟩, hc, hi, sv, pn, ch⟩ := S
  have hx := hC.1
  have hb := hC.2.1
  have hbA : ¬ (fun q : Nat => s.heap.size ≤ q) b := Nat.not_le.mpr hbl
  have hn : 83 ≤ n := hA.1
  refine lv_aload_n hx hb dL_law_403 rfl (lv_at hl 2 rfl) ?_
  refine q_kI2 (q_rV (As := []) (rest := []) (x := 0) hC hW mw_X5_load gw_341 (k_load l G n ad H.size I L R  w K ro hc hi sv pn ch hA) (by omega) (ct_o5 kd_0) rfl ⟨rfl, rfl⟩ ⟨Nat.le_of_ble_eq_true rfl, Nat.le_of_ble_eq_true rfl⟩ ⟨(by show _ ≤ 600000; omega), (by show _ ≤ 7302250; omega)⟩ hl.1 rfl rfl (Nat.le_of_ble_eq_true rfl) dL_law_404) hW (fun r_404 n_404 ad_404 I_404 L_404 R_404 H locs hp hW => ?_)
  obtain ⟨hz5, hA5, ⟨hn5, hag5⟩, hf5⟩ := hp
  have hA5 : InvA n_404 I_404 L_404 R_404 _ := hA5
  have hn5 : n ≤ n_404 := hn5
  have hag5 : ∀ k, k < n → ad_404 k = ad k := hag5
  have hf5 : ∀ a, 71 ≤ a → a < 83 → I_404 a = I a ∧ L_404 a = L a := hf5
  have hB5 : InvB n_404 I_404 R_404 ((w, K, ro), hc, hi, sv, pn, ch) := InvB_fr hB hA5.1 hA5.2.1 (fun a h1 h2 => (hf5 a h1 h2).1)
  have hn : 83 ≤ n_404 := hA5.1
  have hl : lv_has ls 4 [(3, .int (nI (iq))), (2, .ref (ad_404 71)), (1, .ref (ad_404 0)), (0, .ref b)] := by rw [hag5 0 (by omega), hag5 71 (by omega)]; exact hl
  refine lv_aload_n hx hb dL_law_407 rfl (lv_at hl 1 rfl) ?_
  refine q_kI1 (q_rV (As := []) (rest := [.int (r_404)]) (x := 71) hC hW mw_X6_load gw_740 (k_rload l G n_404 ad_404 H.size I_404 L_404 R_404  w K ro hc hi sv pn ch hB5) (by omega) (ct_o6 kd_71) rfl ⟨rfl, rfl⟩ ⟨Nat.le_of_ble_eq_true rfl, Nat.le_of_ble_eq_true rfl⟩ ⟨(by show _ ≤ 600000; omega), (by show _ ≤ 7302250; omega)⟩ hl.1 rfl rfl (Nat.le_of_ble_eq_true rfl) dL_law_408) hW (fun r_408 I_408 L_408 H locs hp hW => ?_)
  obtain ⟨hz6, hB6, hf6⟩ := hp
  have hA6 : InvA n_404 I_408 L_408 R_404 _ := InvA_fr hA5 hf6
  refine lv_icmp_eq (tgt := 855) hx hb dL_law_411 (by decide) (fun c_411 => ?_) (fun c_411 => absurd (hz5.trans hz6.symm) c_411)
  refine q_more (c2 := cells + 3) (s2 := slots + 67) (by omega) (by omega) ?_
  exact kk _ _ _ _ _ _ _ _ ls hW hA6 hB6 hl
set_option maxRecDepth 100000 in
set_option maxHeartbeats 4000000 in
theorem law_c10 {p : Program} {e : Env} {s : State} {m : MethodId} {below : List Frame} {meth : Method} {c : Code} {Q : State → Prop} (l : Launch) {b Lx : Nat} {xs : Nat → Int32} (hC : CallFix p m c cL_law 4 s #[Value.ref b] GW "CoinRowsLaw") (hX : va_X b Lx xs s s.heap) (hbl : b < s.heap.size) (hLx : Lx ≤ 2560) {G : Gx} {n : Nat} {ad : Nat → Nat} {I : Ic} {L : Lc} {R : Rc} {H : Heap} {locs : List Loc} {cells slots iq : Nat} {S : ST} (hcc : cells + 3 ≤ 600000) (hss : slots + 67 ≤ 7302250) (hiq : iq + 5 ≤ Lx) (hW : Wd G n ad I L R (fun q => s.heap.size ≤ q) s.heap H locs s) (hA : InvA n I L R S) (hB : InvB n I R S) (ls : Array Slot) (hl : lv_has ls 4 [(3, .int (nI iq)), (2, .ref (ad 71)), (1, .ref (ad 0)), (0, .ref b)]) (kk : ∀ (n1 : Nat) (ad1 : Nat → Nat) (I1 : Ic) (L1 : Lc) (R1 : Rc) (S1 : ST) (H1 : Heap) (locs1 : List Loc) (ls1 : Array Slot), Wd G n1 ad1 I1 L1 R1 (fun q => s.heap.size ≤ q) s.heap H1 locs1 s → InvA n1 I1 L1 R1 S1 → InvB n1 I1 R1 S1 → lv_has ls1 4 [(3, .int (nI iq)), (2, .ref (ad1 71)), (1, .ref (ad1 0)), (0, .ref b)] → W p l e room_1 s m #[Value.ref b] below meth c H1 locs1 (cells + 3) (slots + 67) Q (F0 m 855 ls1 [])) : W p l e room_1 s m #[Value.ref b] below meth c H locs cells slots Q (F0 m 416 ls []) := by
  obtain ⟨⟨w, K, ro⟩, hc, hi, sv, pn, ch⟩ := S
  have hx := hC.1
  have hb := hC.2.1
  have hbA : ¬ (fun q : Nat => s.heap.size ≤ q) b := Nat.not_le.mpr hbl
  have hn : 83 ≤ n := hA.1
  refine lv_aload_n hx hb dL_law_416 rfl (lv_at hl 2 rfl) ?_
  refine q_kL2 (q_rV (As := []) (rest := []) (x := 0) hC hW mw_X5_total gw_345 (k_total l G n ad H.size I L R  w K ro hc hi sv pn ch hA) (by omega) (ct_o5 kd_0) rfl ⟨rfl, rfl⟩ ⟨Nat.le_of_ble_eq_true rfl, Nat.le_of_ble_eq_true rfl⟩ ⟨(by show _ ≤ 600000; omega), (by show _ ≤ 7302250; omega)⟩ hl.1 rfl rfl (Nat.le_of_ble_eq_true rfl) dL_law_417) hW (fun r_417 n_417 ad_417 I_417 L_417 R_417 H locs hp hW => ?_)
  obtain ⟨hz5, hA5, ⟨hn5, hag5⟩, hf5⟩ := hp
  have hA5 : InvA n_417 I_417 L_417 R_417 _ := hA5
  have hn5 : n ≤ n_417 := hn5
  have hag5 : ∀ k, k < n → ad_417 k = ad k := hag5
  have hf5 : ∀ a, 71 ≤ a → a < 83 → I_417 a = I a ∧ L_417 a = L a := hf5
  have hB5 : InvB n_417 I_417 R_417 ((w, K, ro), hc, hi, sv, pn, ch) := InvB_fr hB hA5.1 hA5.2.1 (fun a h1 h2 => (hf5 a h1 h2).1)
  have hn : 83 ≤ n_417 := hA5.1
  have hl : lv_has ls 4 [(3, .int (nI (iq))), (2, .ref (ad_417 71)), (1, .ref (ad_417 0)), (0, .ref b)] := by rw [hag5 0 (by omega), hag5 71 (by omega)]; exact hl
  refine lv_aload_n hx hb dL_law_420 rfl (lv_at hl 1 rfl) ?_
  refine q_kL1 (q_rV (As := []) (rest := [.long (r_417)]) (x := 71) hC hW mw_X6_total gw_570 (k_rtotal l G n_417 ad_417 H.size I_417 L_417 R_417  w K ro hc hi sv pn ch hB5) (by omega) (ct_o6 kd_71) rfl ⟨rfl, rfl⟩ ⟨Nat.le_of_ble_eq_true rfl, Nat.le_of_ble_eq_true rfl⟩ ⟨(by show _ ≤ 600000; omega), (by show _ ≤ 7302250; omega)⟩ hl.1 rfl rfl (Nat.le_of_ble_eq_true rfl) dL_law_421) hW (fun r_421 I_421 L_421 H locs hp hW => ?_)
  obtain ⟨hz6, hB6, hf6⟩ := hp
  have hA6 : InvA n_417 I_421 L_421 R_417 _ := InvA_fr hA5 hf6
  refine W.lcmp hx hb dL_law_424 ?_
  refine q_Leq (tgt := 855) hx hb dL_law_425 (by decide) (fun c_425 => ?_) (fun c_425 => absurd (hz5.trans hz6.symm) c_425)
  refine q_more (c2 := cells + 3) (s2 := slots + 67) (by omega) (by omega) ?_
  exact kk _ _ _ _ _ _ _ _ ls hW hA6 hB6 hl
set_option maxRecDepth 100000 in
set_option maxHeartbeats 4000000 in
theorem law_c11 {p : Program} {e : Env} {s : State} {m : MethodId} {below : List Frame} {meth : Method} {c : Code} {Q : State → Prop} (l : Launch) {b Lx : Nat} {xs : Nat → Int32} (hC : CallFix p m c cL_law 4 s #[Value.ref b] GW "CoinRowsLaw") (hX : va_X b Lx xs s s.heap) (hbl : b < s.heap.size) (hLx : Lx ≤ 2560) {G : Gx} {n : Nat} {ad : Nat → Nat} {I : Ic} {L : Lc} {R : Rc} {H : Heap} {locs : List Loc} {cells slots iq : Nat} {S : ST} (hcc : cells + 3 ≤ 600000) (hss : slots + 67 ≤ 7302250) (hiq : iq + 5 ≤ Lx) (hW : Wd G n ad I L R (fun q => s.heap.size ≤ q) s.heap H locs s) (hA : InvA n I L R S) (hB : InvB n I R S) (ls : Array Slot) (hl : lv_has ls 4 [(3, .int (nI iq)), (2, .ref (ad 71)), (1, .ref (ad 0)), (0, .ref b)]) (kk : ∀ (n1 : Nat) (ad1 : Nat → Nat) (I1 : Ic) (L1 : Lc) (R1 : Rc) (S1 : ST) (H1 : Heap) (locs1 : List Loc) (ls1 : Array Slot), Wd G n1 ad1 I1 L1 R1 (fun q => s.heap.size ≤ q) s.heap H1 locs1 s → InvA n1 I1 L1 R1 S1 → InvB n1 I1 R1 S1 → lv_has ls1 4 [(3, .int (nI iq)), (2, .ref (ad1 71)), (1, .ref (ad1 0)), (0, .ref b)] → W p l e room_1 s m #[Value.ref b] below meth c H1 locs1 (cells + 3) (slots + 67) Q (F0 m 855 ls1 [])) : W p l e room_1 s m #[Value.ref b] below meth c H locs cells slots Q (F0 m 430 ls []) := by
  obtain ⟨⟨w, K, ro⟩, hc, hi, sv, pn, ch⟩ := S
  have hx := hC.1
  have hb := hC.2.1
  have hbA : ¬ (fun q : Nat => s.heap.size ≤ q) b := Nat.not_le.mpr hbl
  have hn : 83 ≤ n := hA.1
  refine lv_aload_n hx hb dL_law_430 rfl (lv_at hl 2 rfl) ?_
  refine lv_aload_n hx hb dL_law_431 rfl (lv_at hl 3 rfl) ?_
  refine lv_iload_n hx hb dL_law_432 rfl (lv_at hl 0 rfl) ?_
  refine q_ic 1 hx hb dL_law_433 (by decide) ?_
  refine q_iadd hx hb dL_law_434 ?_
  refine va_sld hC.1 hC.2.1 hX hbl hbA hW.2.2.2.1 (in_k (i := iq + 1) (by omega) hLx) dL_law_435 ?_
  refine q_top (v2 := .int (xs (iq + 1))) (congrArg (fun z => Value.int (xs z)) (nI_clamp (by omega))) ?_
  refine lv_aload_n hx hb dL_law_436 rfl (lv_at hl 3 rfl) ?_
  refine lv_iload_n hx hb dL_law_437 rfl (lv_at hl 0 rfl) ?_
  refine q_ic 2 hx hb dL_law_438 (by decide) ?_
  refine q_iadd hx hb dL_law_439 ?_
  refine va_sld hC.1 hC.2.1 hX hbl hbA hW.2.2.2.1 (in_k (i := iq + 2) (by omega) hLx) dL_law_440 ?_
  refine q_top (v2 := .int (xs (iq + 2))) (congrArg (fun z => Value.int (xs z)) (nI_clamp (by omega))) ?_
  refine q_kL2 (q_rV (As := [.int (xs (iq + 1)), .int (xs (iq + 2))]) (rest := []) (x := 0) hC hW mw_X5_forward gw_349 (k_forward l G n ad H.size I L R (xs (iq + 1)) (xs (iq + 2)) w K ro hc hi sv pn ch hA) (by omega) (ct_o5 kd_0) rfl ⟨rfl, rfl⟩ ⟨Nat.le_of_ble_eq_true rfl, Nat.le_of_ble_eq_true rfl⟩ ⟨(by show _ ≤ 600000; omega), (by show _ ≤ 7302250; omega)⟩ hl.1 rfl rfl (Nat.le_of_ble_eq_true rfl) dL_law_441) hW (fun r_441 n_441 ad_441 I_441 L_441 R_441 H locs hp hW => ?_)
  obtain ⟨hz5, hA5, ⟨hn5, hag5⟩, hf5⟩ := hp
  have hA5 : InvA n_441 I_441 L_441 R_441 _ := hA5
  have hn5 : n ≤ n_441 := hn5
  have hag5 : ∀ k, k < n → ad_441 k = ad k := hag5
  have hf5 : ∀ a, 71 ≤ a → a < 83 → I_441 a = I a ∧ L_441 a = L a := hf5
  have hB5 : InvB n_441 I_441 R_441 ((w, K, ro), hc, hi, sv, pn, ch) := InvB_fr hB hA5.1 hA5.2.1 (fun a h1 h2 => (hf5 a h1 h2).1)
  have hn : 83 ≤ n_441 := hA5.1
  have hl : lv_has ls 4 [(3, .int (nI (iq))), (2, .ref (ad_441 71)), (1, .ref (ad_441 0)), (0, .ref b)] := by rw [hag5 0 (by omega), hag5 71 (by omega)]; exact hl
  refine lv_aload_n hx hb dL_law_444 rfl (lv_at hl 1 rfl) ?_
  refine lv_aload_n hx hb dL_law_445 rfl (lv_at hl 3 rfl) ?_
  refine lv_iload_n hx hb dL_law_446 rfl (lv_at hl 0 rfl) ?_
  refine q_ic 1 hx hb dL_law_447 (by decide) ?_
  refine q_iadd hx hb dL_law_448 ?_
  refine va_sld hC.1 hC.2.1 hX hbl hbA hW.2.2.2.1 (in_k (i := iq + 1) (by omega) hLx) dL_law_449 ?_
  refine q_top (v2 := .int (xs (iq + 1))) (congrArg (fun z => Value.int (xs z)) (nI_clamp (by omega))) ?_
  refine lv_aload_n hx hb dL_law_450 rfl (lv_at hl 3 rfl) ?_
  refine lv_iload_n hx hb dL_law_451 rfl (lv_at hl 0 rfl) ?_
  refine q_ic 2 hx hb dL_law_452 (by decide) ?_
  refine q_iadd hx hb dL_law_453 ?_
  refine va_sld hC.1 hC.2.1 hX hbl hbA hW.2.2.2.1 (in_k (i := iq + 2) (by omega) hLx) dL_law_454 ?_
  refine q_top (v2 := .int (xs (iq + 2))) (congrArg (fun z => Value.int (xs z)) (nI_clamp (by omega))) ?_
  refine q_kL1 (q_rV (As := [.int (xs (iq + 1)), .int (xs (iq + 2))]) (rest := [.long (r_441)]) (x := 71) hC hW mw_X6_forward gw_601 (k_rforward l G n_441 ad_441 H.size I_441 L_441 R_441 (xs (iq + 1)) (xs (iq + 2)) w K ro hc hi sv pn ch hB5) (by omega) (ct_o6 kd_71) rfl ⟨rfl, rfl⟩ ⟨Nat.le_of_ble_eq_true rfl, Nat.le_of_ble_eq_true rfl⟩ ⟨(by show _ ≤ 600000; omega), (by show _ ≤ 7302250; omega)⟩ hl.1 rfl rfl (Nat.le_of_ble_eq_true rfl) dL_law_455) hW (fun r_455 I_455 L_455 H locs hp hW => ?_)
  obtain ⟨hz6, hB6, hf6⟩ := hp
  have hA6 : InvA n_441 I_455 L_455 R_441 _ := InvA_fr hA5 hf6
  refine W.lcmp hx hb dL_law_458 ?_
  refine q_Leq (tgt := 855) hx hb dL_law_459 (by decide) (fun c_459 => ?_) (fun c_459 => absurd (hz5.trans hz6.symm) c_459)
  refine q_more (c2 := cells + 3) (s2 := slots + 67) (by omega) (by omega) ?_
  exact kk _ _ _ _ _ _ _ _ ls hW hA6 hB6 hl
set_option maxRecDepth 100000 in
set_option maxHeartbeats 4000000 in
theorem law_c12 {p : Program} {e : Env} {s : State} {m : MethodId} {below : List Frame} {meth : Method} {c : Code} {Q : State → Prop} (l : Launch) {b Lx : Nat} {xs : Nat → Int32} (hC : CallFix p m c cL_law 4 s #[Value.ref b] GW "CoinRowsLaw") (hX : va_X b Lx xs s s.heap) (hbl : b < s.heap.size) (hLx : Lx ≤ 2560) {G : Gx} {n : Nat} {ad : Nat → Nat} {I : Ic} {L : Lc} {R : Rc} {H : Heap} {locs : List Loc} {cells slots iq : Nat} {S : ST} (hcc : cells + 3 ≤ 600000) (hss : slots + 67 ≤ 7302250) (hiq : iq + 5 ≤ Lx) (hW : Wd G n ad I L R (fun q => s.heap.size ≤ q) s.heap H locs s) (hA : InvA n I L R S) (hB : InvB n I R S) (ls : Array Slot) (hl : lv_has ls 4 [(3, .int (nI iq)), (2, .ref (ad 71)), (1, .ref (ad 0)), (0, .ref b)]) (kk : ∀ (n1 : Nat) (ad1 : Nat → Nat) (I1 : Ic) (L1 : Lc) (R1 : Rc) (S1 : ST) (H1 : Heap) (locs1 : List Loc) (ls1 : Array Slot), Wd G n1 ad1 I1 L1 R1 (fun q => s.heap.size ≤ q) s.heap H1 locs1 s → InvA n1 I1 L1 R1 S1 → InvB n1 I1 R1 S1 → lv_has ls1 4 [(3, .int (nI iq)), (2, .ref (ad1 71)), (1, .ref (ad1 0)), (0, .ref b)] → W p l e room_1 s m #[Value.ref b] below meth c H1 locs1 (cells + 3) (slots + 67) Q (F0 m 855 ls1 [])) : W p l e room_1 s m #[Value.ref b] below meth c H locs cells slots Q (F0 m 464 ls []) := by
  obtain ⟨⟨w, K, ro⟩, hc, hi, sv, pn, ch⟩ := S
  have hx := hC.1
  have hb := hC.2.1
  have hbA : ¬ (fun q : Nat => s.heap.size ≤ q) b := Nat.not_le.mpr hbl
  have hn : 83 ≤ n := hA.1
  refine lv_aload_n hx hb dL_law_464 rfl (lv_at hl 2 rfl) ?_
  refine lv_aload_n hx hb dL_law_465 rfl (lv_at hl 3 rfl) ?_
  refine lv_iload_n hx hb dL_law_466 rfl (lv_at hl 0 rfl) ?_
  refine q_ic 1 hx hb dL_law_467 (by decide) ?_
  refine q_iadd hx hb dL_law_468 ?_
  refine va_sld hC.1 hC.2.1 hX hbl hbA hW.2.2.2.1 (in_k (i := iq + 1) (by omega) hLx) dL_law_469 ?_
  refine q_top (v2 := .int (xs (iq + 1))) (congrArg (fun z => Value.int (xs z)) (nI_clamp (by omega))) ?_
  refine lv_aload_n hx hb dL_law_470 rfl (lv_at hl 3 rfl) ?_
  refine lv_iload_n hx hb dL_law_471 rfl (lv_at hl 0 rfl) ?_
  refine q_ic 2 hx hb dL_law_472 (by decide) ?_
  refine q_iadd hx hb dL_law_473 ?_
  refine va_sld hC.1 hC.2.1 hX hbl hbA hW.2.2.2.1 (in_k (i := iq + 2) (by omega) hLx) dL_law_474 ?_
  refine q_top (v2 := .int (xs (iq + 2))) (congrArg (fun z => Value.int (xs z)) (nI_clamp (by omega))) ?_
  refine q_kL2 (q_rV (As := [.int (xs (iq + 1)), .int (xs (iq + 2))]) (rest := []) (x := 0) hC hW mw_X5_backward gw_354 (k_backward l G n ad H.size I L R (xs (iq + 1)) (xs (iq + 2)) w K ro hc hi sv pn ch hA) (by omega) (ct_o5 kd_0) rfl ⟨rfl, rfl⟩ ⟨Nat.le_of_ble_eq_true rfl, Nat.le_of_ble_eq_true rfl⟩ ⟨(by show _ ≤ 600000; omega), (by show _ ≤ 7302250; omega)⟩ hl.1 rfl rfl (Nat.le_of_ble_eq_true rfl) dL_law_475) hW (fun r_475 n_475 ad_475 I_475 L_475 R_475 H locs hp hW => ?_)
  obtain ⟨hz5, hA5, ⟨hn5, hag5⟩, hf5⟩ := hp
  have hA5 : InvA n_475 I_475 L_475 R_475 _ := hA5
  have hn5 : n ≤ n_475 := hn5
  have hag5 : ∀ k, k < n → ad_475 k = ad k := hag5
  have hf5 : ∀ a, 71 ≤ a → a < 83 → I_475 a = I a ∧ L_475 a = L a := hf5
  have hB5 : InvB n_475 I_475 R_475 ((w, K, ro), hc, hi, sv, pn, ch) := InvB_fr hB hA5.1 hA5.2.1 (fun a h1 h2 => (hf5 a h1 h2).1)
  have hn : 83 ≤ n_475 := hA5.1
  have hl : lv_has ls 4 [(3, .int (nI (iq))), (2, .ref (ad_475 71)), (1, .ref (ad_475 0)), (0, .ref b)] := by rw [hag5 0 (by omega), hag5 71 (by omega)]; exact hl
  refine lv_aload_n hx hb dL_law_478 rfl (lv_at hl 1 rfl) ?_
  refine lv_aload_n hx hb dL_law_479 rfl (lv_at hl 3 rfl) ?_
  refine lv_iload_n hx hb dL_law_480 rfl (lv_at hl 0 rfl) ?_
  refine q_ic 1 hx hb dL_law_481 (by decide) ?_
  refine q_iadd hx hb dL_law_482 ?_
  refine va_sld hC.1 hC.2.1 hX hbl hbA hW.2.2.2.1 (in_k (i := iq + 1) (by omega) hLx) dL_law_483 ?_
  refine q_top (v2 := .int (xs (iq + 1))) (congrArg (fun z => Value.int (xs z)) (nI_clamp (by omega))) ?_
  refine lv_aload_n hx hb dL_law_484 rfl (lv_at hl 3 rfl) ?_
  refine lv_iload_n hx hb dL_law_485 rfl (lv_at hl 0 rfl) ?_
  refine q_ic 2 hx hb dL_law_486 (by decide) ?_
  refine q_iadd hx hb dL_law_487 ?_
  refine va_sld hC.1 hC.2.1 hX hbl hbA hW.2.2.2.1 (in_k (i := iq + 2) (by omega) hLx) dL_law_488 ?_
  refine q_top (v2 := .int (xs (iq + 2))) (congrArg (fun z => Value.int (xs z)) (nI_clamp (by omega))) ?_
  refine q_kL1 (q_rV (As := [.int (xs (iq + 1)), .int (xs (iq + 2))]) (rest := [.long (r_475)]) (x := 71) hC hW mw_X6_backward gw_618 (k_rbackward l G n_475 ad_475 H.size I_475 L_475 R_475 (xs (iq + 1)) (xs (iq + 2)) w K ro hc hi sv pn ch hB5) (by omega) (ct_o6 kd_71) rfl ⟨rfl, rfl⟩ ⟨Nat.le_of_ble_eq_true rfl, Nat.le_of_ble_eq_true rfl⟩ ⟨(by show _ ≤ 600000; omega), (by show _ ≤ 7302250; omega)⟩ hl.1 rfl rfl (Nat.le_of_ble_eq_true rfl) dL_law_489) hW (fun r_489 I_489 L_489 H locs hp hW => ?_)
  obtain ⟨hz6, hB6, hf6⟩ := hp
  have hA6 : InvA n_475 I_489 L_489 R_475 _ := InvA_fr hA5 hf6
  refine W.lcmp hx hb dL_law_492 ?_
  refine q_Leq (tgt := 855) hx hb dL_law_493 (by decide) (fun c_493 => ?_) (fun c_493 => absurd (hz5.trans hz6.symm) c_493)
  refine q_more (c2 := cells + 3) (s2 := slots + 67) (by omega) (by omega) ?_
  exact kk _ _ _ _ _ _ _ _ ls hW hA6 hB6 hl
set_option maxRecDepth 100000 in
set_option maxHeartbeats 4000000 in
theorem law_c13 {p : Program} {e : Env} {s : State} {m : MethodId} {below : List Frame} {meth : Method} {c : Code} {Q : State → Prop} (l : Launch) {b Lx : Nat} {xs : Nat → Int32} (hC : CallFix p m c cL_law 4 s #[Value.ref b] GW "CoinRowsLaw") (hX : va_X b Lx xs s s.heap) (hbl : b < s.heap.size) (hLx : Lx ≤ 2560) {G : Gx} {n : Nat} {ad : Nat → Nat} {I : Ic} {L : Lc} {R : Rc} {H : Heap} {locs : List Loc} {cells slots iq : Nat} {S : ST} (hcc : cells + 3 ≤ 600000) (hss : slots + 67 ≤ 7302250) (hiq : iq + 5 ≤ Lx) (hW : Wd G n ad I L R (fun q => s.heap.size ≤ q) s.heap H locs s) (hA : InvA n I L R S) (hB : InvB n I R S) (ls : Array Slot) (hl : lv_has ls 4 [(3, .int (nI iq)), (2, .ref (ad 71)), (1, .ref (ad 0)), (0, .ref b)]) (kk : ∀ (n1 : Nat) (ad1 : Nat → Nat) (I1 : Ic) (L1 : Lc) (R1 : Rc) (S1 : ST) (H1 : Heap) (locs1 : List Loc) (ls1 : Array Slot), Wd G n1 ad1 I1 L1 R1 (fun q => s.heap.size ≤ q) s.heap H1 locs1 s → InvA n1 I1 L1 R1 S1 → InvB n1 I1 R1 S1 → lv_has ls1 4 [(3, .int (nI iq)), (2, .ref (ad1 71)), (1, .ref (ad1 0)), (0, .ref b)] → W p l e room_1 s m #[Value.ref b] below meth c H1 locs1 (cells + 3) (slots + 67) Q (F0 m 855 ls1 [])) : W p l e room_1 s m #[Value.ref b] below meth c H locs cells slots Q (F0 m 498 ls []) := by
  obtain ⟨⟨w, K, ro⟩, hc, hi, sv, pn, ch⟩ := S
  have hx := hC.1
  have hb := hC.2.1
  have hbA : ¬ (fun q : Nat => s.heap.size ≤ q) b := Nat.not_le.mpr hbl
  have hn : 83 ≤ n := hA.1
  refine lv_aload_n hx hb dL_law_498 rfl (lv_at hl 2 rfl) ?_
  refine q_kI2 (q_rV (As := []) (rest := []) (x := 0) hC hW mw_X5_ways gw_358 (k_ways l G n ad H.size I L R  w K ro hc hi sv pn ch hA) (by omega) (ct_o5 kd_0) rfl ⟨rfl, rfl⟩ ⟨Nat.le_of_ble_eq_true rfl, Nat.le_of_ble_eq_true rfl⟩ ⟨(by show _ ≤ 600000; omega), (by show _ ≤ 7302250; omega)⟩ hl.1 rfl rfl (Nat.le_of_ble_eq_true rfl) dL_law_499) hW (fun r_499 n_499 ad_499 I_499 L_499 R_499 H locs hp hW => ?_)
  obtain ⟨hz5, hA5, ⟨hn5, hag5⟩, hf5⟩ := hp
  have hA5 : InvA n_499 I_499 L_499 R_499 _ := hA5
  have hn5 : n ≤ n_499 := hn5
  have hag5 : ∀ k, k < n → ad_499 k = ad k := hag5
  have hf5 : ∀ a, 71 ≤ a → a < 83 → I_499 a = I a ∧ L_499 a = L a := hf5
  have hB5 : InvB n_499 I_499 R_499 ((w, K, ro), hc, hi, sv, pn, ch) := InvB_fr hB hA5.1 hA5.2.1 (fun a h1 h2 => (hf5 a h1 h2).1)
  have hn : 83 ≤ n_499 := hA5.1
  have hl : lv_has ls 4 [(3, .int (nI (iq))), (2, .ref (ad_499 71)), (1, .ref (ad_499 0)), (0, .ref b)] := by rw [hag5 0 (by omega), hag5 71 (by omega)]; exact hl
  refine lv_aload_n hx hb dL_law_502 rfl (lv_at hl 1 rfl) ?_
  refine q_kI1 (q_rV (As := []) (rest := [.int (r_499)]) (x := 71) hC hW mw_X6_ways gw_622 (k_rways l G n_499 ad_499 H.size I_499 L_499 R_499  w K ro hc hi sv pn ch hB5) (by omega) (ct_o6 kd_71) rfl ⟨rfl, rfl⟩ ⟨Nat.le_of_ble_eq_true rfl, Nat.le_of_ble_eq_true rfl⟩ ⟨(by show _ ≤ 600000; omega), (by show _ ≤ 7302250; omega)⟩ hl.1 rfl rfl (Nat.le_of_ble_eq_true rfl) dL_law_503) hW (fun r_503 I_503 L_503 H locs hp hW => ?_)
  obtain ⟨hz6, hB6, hf6⟩ := hp
  have hA6 : InvA n_499 I_503 L_503 R_499 _ := InvA_fr hA5 hf6
  refine lv_icmp_eq (tgt := 855) hx hb dL_law_506 (by decide) (fun c_506 => ?_) (fun c_506 => absurd (hz5.trans hz6.symm) c_506)
  refine q_more (c2 := cells + 3) (s2 := slots + 67) (by omega) (by omega) ?_
  exact kk _ _ _ _ _ _ _ _ ls hW hA6 hB6 hl
set_option maxRecDepth 100000 in
set_option maxHeartbeats 4000000 in
theorem law_c14 {p : Program} {e : Env} {s : State} {m : MethodId} {below : List Frame} {meth : Method} {c : Code} {Q : State → Prop} (l : Launch) {b Lx : Nat} {xs : Nat → Int32} (hC : CallFix p m c cL_law 4 s #[Value.ref b] GW "CoinRowsLaw") (hX : va_X b Lx xs s s.heap) (hbl : b < s.heap.size) (hLx : Lx ≤ 2560) {G : Gx} {n : Nat} {ad : Nat → Nat} {I : Ic} {L : Lc} {R : Rc} {H : Heap} {locs : List Loc} {cells slots iq : Nat} {S : ST} (hcc : cells + 3 ≤ 600000) (hss : slots + 67 ≤ 7302250) (hiq : iq + 5 ≤ Lx) (hW : Wd G n ad I L R (fun q => s.heap.size ≤ q) s.heap H locs s) (hA : InvA n I L R S) (hB : InvB n I R S) (ls : Array Slot) (hl : lv_has ls 4 [(3, .int (nI iq)), (2, .ref (ad 71)), (1, .ref (ad 0)), (0, .ref b)]) (kk : ∀ (n1 : Nat) (ad1 : Nat → Nat) (I1 : Ic) (L1 : Lc) (R1 : Rc) (S1 : ST) (H1 : Heap) (locs1 : List Loc) (ls1 : Array Slot), Wd G n1 ad1 I1 L1 R1 (fun q => s.heap.size ≤ q) s.heap H1 locs1 s → InvA n1 I1 L1 R1 S1 → InvB n1 I1 R1 S1 → lv_has ls1 4 [(3, .int (nI iq)), (2, .ref (ad1 71)), (1, .ref (ad1 0)), (0, .ref b)] → W p l e room_1 s m #[Value.ref b] below meth c H1 locs1 (cells + 3) (slots + 67) Q (F0 m 855 ls1 [])) : W p l e room_1 s m #[Value.ref b] below meth c H locs cells slots Q (F0 m 511 ls []) := by
  obtain ⟨⟨w, K, ro⟩, hc, hi, sv, pn, ch⟩ := S
  have hx := hC.1
  have hb := hC.2.1
  have hbA : ¬ (fun q : Nat => s.heap.size ≤ q) b := Nat.not_le.mpr hbl
  have hn : 83 ≤ n := hA.1
  refine lv_aload_n hx hb dL_law_511 rfl (lv_at hl 2 rfl) ?_
  refine lv_aload_n hx hb dL_law_512 rfl (lv_at hl 3 rfl) ?_
  refine lv_iload_n hx hb dL_law_513 rfl (lv_at hl 0 rfl) ?_
  refine q_ic 1 hx hb dL_law_514 (by decide) ?_
  refine q_iadd hx hb dL_law_515 ?_
  refine va_sld hC.1 hC.2.1 hX hbl hbA hW.2.2.2.1 (in_k (i := iq + 1) (by omega) hLx) dL_law_516 ?_
  refine q_top (v2 := .int (xs (iq + 1))) (congrArg (fun z => Value.int (xs z)) (nI_clamp (by omega))) ?_
  refine lv_aload_n hx hb dL_law_517 rfl (lv_at hl 3 rfl) ?_
  refine lv_iload_n hx hb dL_law_518 rfl (lv_at hl 0 rfl) ?_
  refine q_ic 2 hx hb dL_law_519 (by decide) ?_
  refine q_iadd hx hb dL_law_520 ?_
  refine va_sld hC.1 hC.2.1 hX hbl hbA hW.2.2.2.1 (in_k (i := iq + 2) (by omega) hLx) dL_law_521 ?_
  refine q_top (v2 := .int (xs (iq + 2))) (congrArg (fun z => Value.int (xs z)) (nI_clamp (by omega))) ?_
  refine q_kI2 (q_rV (As := [.int (xs (iq + 1)), .int (xs (iq + 2))]) (rest := []) (x := 0) hC hW mw_X5_way gw_366 (k_way l G n ad H.size I L R (xs (iq + 1)) (xs (iq + 2)) w K ro hc hi sv pn ch hA) (by omega) (ct_o5 kd_0) rfl ⟨rfl, rfl⟩ ⟨Nat.le_of_ble_eq_true rfl, Nat.le_of_ble_eq_true rfl⟩ ⟨(by show _ ≤ 600000; omega), (by show _ ≤ 7302250; omega)⟩ hl.1 rfl rfl (Nat.le_of_ble_eq_true rfl) dL_law_522) hW (fun r_522 n_522 ad_522 I_522 L_522 R_522 H locs hp hW => ?_)
  obtain ⟨hz5, hA5, ⟨hn5, hag5⟩, hf5⟩ := hp
  have hA5 : InvA n_522 I_522 L_522 R_522 _ := hA5
  have hn5 : n ≤ n_522 := hn5
  have hag5 : ∀ k, k < n → ad_522 k = ad k := hag5
  have hf5 : ∀ a, 71 ≤ a → a < 83 → I_522 a = I a ∧ L_522 a = L a := hf5
  have hB5 : InvB n_522 I_522 R_522 ((w, K, ro), hc, hi, sv, pn, ch) := InvB_fr hB hA5.1 hA5.2.1 (fun a h1 h2 => (hf5 a h1 h2).1)
  have hn : 83 ≤ n_522 := hA5.1
  have hl : lv_has ls 4 [(3, .int (nI (iq))), (2, .ref (ad_522 71)), (1, .ref (ad_522 0)), (0, .ref b)] := by rw [hag5 0 (by omega), hag5 71 (by omega)]; exact hl
  refine lv_aload_n hx hb dL_law_525 rfl (lv_at hl 1 rfl) ?_
  refine lv_aload_n hx hb dL_law_526 rfl (lv_at hl 3 rfl) ?_
  refine lv_iload_n hx hb dL_law_527 rfl (lv_at hl 0 rfl) ?_
  refine q_ic 1 hx hb dL_law_528 (by decide) ?_
  refine q_iadd hx hb dL_law_529 ?_
  refine va_sld hC.1 hC.2.1 hX hbl hbA hW.2.2.2.1 (in_k (i := iq + 1) (by omega) hLx) dL_law_530 ?_
  refine q_top (v2 := .int (xs (iq + 1))) (congrArg (fun z => Value.int (xs z)) (nI_clamp (by omega))) ?_
  refine lv_aload_n hx hb dL_law_531 rfl (lv_at hl 3 rfl) ?_
  refine lv_iload_n hx hb dL_law_532 rfl (lv_at hl 0 rfl) ?_
  refine q_ic 2 hx hb dL_law_533 (by decide) ?_
  refine q_iadd hx hb dL_law_534 ?_
  refine va_sld hC.1 hC.2.1 hX hbl hbA hW.2.2.2.1 (in_k (i := iq + 2) (by omega) hLx) dL_law_535 ?_
  refine q_top (v2 := .int (xs (iq + 2))) (congrArg (fun z => Value.int (xs z)) (nI_clamp (by omega))) ?_
  refine q_kI1 (q_rV (As := [.int (xs (iq + 1)), .int (xs (iq + 2))]) (rest := [.int (r_522)]) (x := 71) hC hW mw_X6_way gw_630 (k_rway l G n_522 ad_522 H.size I_522 L_522 R_522 (xs (iq + 1)) (xs (iq + 2)) w K ro hc hi sv pn ch hB5) (by omega) (ct_o6 kd_71) rfl ⟨rfl, rfl⟩ ⟨Nat.le_of_ble_eq_true rfl, Nat.le_of_ble_eq_true rfl⟩ ⟨(by show _ ≤ 600000; omega), (by show _ ≤ 7302250; omega)⟩ hl.1 rfl rfl (Nat.le_of_ble_eq_true rfl) dL_law_536) hW (fun r_536 I_536 L_536 H locs hp hW => ?_)
  obtain ⟨hz6, hB6, hf6⟩ := hp
  have hA6 : InvA n_522 I_536 L_536 R_522 _ := InvA_fr hA5 hf6
  refine lv_icmp_eq (tgt := 855) hx hb dL_law_539 (by decide) (fun c_539 => ?_) (fun c_539 => absurd (hz5.trans hz6.symm) c_539)
  refine q_more (c2 := cells + 3) (s2 := slots + 67) (by omega) (by omega) ?_
  exact kk _ _ _ _ _ _ _ _ ls hW hA6 hB6 hl
set_option maxRecDepth 100000 in
set_option maxHeartbeats 4000000 in
theorem law_c15 {p : Program} {e : Env} {s : State} {m : MethodId} {below : List Frame} {meth : Method} {c : Code} {Q : State → Prop} (l : Launch) {b Lx : Nat} {xs : Nat → Int32} (hC : CallFix p m c cL_law 4 s #[Value.ref b] GW "CoinRowsLaw") (hX : va_X b Lx xs s s.heap) (hbl : b < s.heap.size) (hLx : Lx ≤ 2560) {G : Gx} {n : Nat} {ad : Nat → Nat} {I : Ic} {L : Lc} {R : Rc} {H : Heap} {locs : List Loc} {cells slots iq : Nat} {S : ST} (hcc : cells + 3 ≤ 600000) (hss : slots + 67 ≤ 7302250) (hiq : iq + 5 ≤ Lx) (hW : Wd G n ad I L R (fun q => s.heap.size ≤ q) s.heap H locs s) (hA : InvA n I L R S) (hB : InvB n I R S) (ls : Array Slot) (hl : lv_has ls 4 [(3, .int (nI iq)), (2, .ref (ad 71)), (1, .ref (ad 0)), (0, .ref b)]) (kk : ∀ (n1 : Nat) (ad1 : Nat → Nat) (I1 : Ic) (L1 : Lc) (R1 : Rc) (S1 : ST) (H1 : Heap) (locs1 : List Loc) (ls1 : Array Slot), Wd G n1 ad1 I1 L1 R1 (fun q => s.heap.size ≤ q) s.heap H1 locs1 s → InvA n1 I1 L1 R1 S1 → InvB n1 I1 R1 S1 → lv_has ls1 4 [(3, .int (nI iq)), (2, .ref (ad1 71)), (1, .ref (ad1 0)), (0, .ref b)] → W p l e room_1 s m #[Value.ref b] below meth c H1 locs1 (cells + 3) (slots + 67) Q (F0 m 855 ls1 [])) : W p l e room_1 s m #[Value.ref b] below meth c H locs cells slots Q (F0 m 544 ls []) := by
  obtain ⟨⟨w, K, ro⟩, hc, hi, sv, pn, ch⟩ := S
  have hx := hC.1
  have hb := hC.2.1
  have hbA : ¬ (fun q : Nat => s.heap.size ≤ q) b := Nat.not_le.mpr hbl
  have hn : 83 ≤ n := hA.1
  refine lv_aload_n hx hb dL_law_544 rfl (lv_at hl 2 rfl) ?_
  refine lv_aload_n hx hb dL_law_545 rfl (lv_at hl 3 rfl) ?_
  refine lv_iload_n hx hb dL_law_546 rfl (lv_at hl 0 rfl) ?_
  refine q_ic 1 hx hb dL_law_547 (by decide) ?_
  refine q_iadd hx hb dL_law_548 ?_
  refine va_sld hC.1 hC.2.1 hX hbl hbA hW.2.2.2.1 (in_k (i := iq + 1) (by omega) hLx) dL_law_549 ?_
  refine q_top (v2 := .int (xs (iq + 1))) (congrArg (fun z => Value.int (xs z)) (nI_clamp (by omega))) ?_
  refine q_kL2 (q_rV (As := [.int (xs (iq + 1))]) (rest := []) (x := 0) hC hW mw_X5_weighs gw_386 (k_weighs l G n ad H.size I L R (xs (iq + 1)) w K ro hc hi sv pn ch hA) (by omega) (ct_o5 kd_0) rfl ⟨rfl, rfl⟩ ⟨Nat.le_of_ble_eq_true rfl, Nat.le_of_ble_eq_true rfl⟩ ⟨(by show _ ≤ 600000; omega), (by show _ ≤ 7302250; omega)⟩ hl.1 rfl rfl (Nat.le_of_ble_eq_true rfl) dL_law_550) hW (fun r_550 n_550 ad_550 I_550 L_550 R_550 H locs hp hW => ?_)
  obtain ⟨hz5, hA5, ⟨hn5, hag5⟩, hf5⟩ := hp
  have hA5 : InvA n_550 I_550 L_550 R_550 _ := hA5
  have hn5 : n ≤ n_550 := hn5
  have hag5 : ∀ k, k < n → ad_550 k = ad k := hag5
  have hf5 : ∀ a, 71 ≤ a → a < 83 → I_550 a = I a ∧ L_550 a = L a := hf5
  have hB5 : InvB n_550 I_550 R_550 ((w, K, ro), hc, hi, sv, pn, ch) := InvB_fr hB hA5.1 hA5.2.1 (fun a h1 h2 => (hf5 a h1 h2).1)
  have hn : 83 ≤ n_550 := hA5.1
  have hl : lv_has ls 4 [(3, .int (nI (iq))), (2, .ref (ad_550 71)), (1, .ref (ad_550 0)), (0, .ref b)] := by rw [hag5 0 (by omega), hag5 71 (by omega)]; exact hl
  refine lv_aload_n hx hb dL_law_553 rfl (lv_at hl 1 rfl) ?_
  refine lv_aload_n hx hb dL_law_554 rfl (lv_at hl 3 rfl) ?_
  refine lv_iload_n hx hb dL_law_555 rfl (lv_at hl 0 rfl) ?_
  refine q_ic 1 hx hb dL_law_556 (by decide) ?_
  refine q_iadd hx hb dL_law_557 ?_
  refine va_sld hC.1 hC.2.1 hX hbl hbA hW.2.2.2.1 (in_k (i := iq + 1) (by omega) hLx) dL_law_558 ?_
  refine q_top (v2 := .int (xs (iq + 1))) (congrArg (fun z => Value.int (xs z)) (nI_clamp (by omega))) ?_
  refine q_kL1 (q_rV (As := [.int (xs (iq + 1))]) (rest := [.long (r_550)]) (x := 71) hC hW mw_X6_weighs gw_646 (k_rweighs l G n_550 ad_550 H.size I_550 L_550 R_550 (xs (iq + 1)) w K ro hc hi sv pn ch hB5) (by omega) (ct_o6 kd_71) rfl ⟨rfl, rfl⟩ ⟨Nat.le_of_ble_eq_true rfl, Nat.le_of_ble_eq_true rfl⟩ ⟨(by show _ ≤ 600000; omega), (by show _ ≤ 7302250; omega)⟩ hl.1 rfl rfl (Nat.le_of_ble_eq_true rfl) dL_law_559) hW (fun r_559 I_559 L_559 H locs hp hW => ?_)
  obtain ⟨hz6, hB6, hf6⟩ := hp
  have hA6 : InvA n_550 I_559 L_559 R_550 _ := InvA_fr hA5 hf6
  refine W.lcmp hx hb dL_law_562 ?_
  refine q_Leq (tgt := 855) hx hb dL_law_563 (by decide) (fun c_563 => ?_) (fun c_563 => absurd (hz5.trans hz6.symm) c_563)
  refine q_more (c2 := cells + 3) (s2 := slots + 67) (by omega) (by omega) ?_
  exact kk _ _ _ _ _ _ _ _ ls hW hA6 hB6 hl
set_option maxRecDepth 100000 in
set_option maxHeartbeats 4000000 in
theorem law_c16 {p : Program} {e : Env} {s : State} {m : MethodId} {below : List Frame} {meth : Method} {c : Code} {Q : State → Prop} (l : Launch) {b Lx : Nat} {xs : Nat → Int32} (hC : CallFix p m c cL_law 4 s #[Value.ref b] GW "CoinRowsLaw") (hX : va_X b Lx xs s s.heap) (hbl : b < s.heap.size) (hLx : Lx ≤ 2560) {G : Gx} {n : Nat} {ad : Nat → Nat} {I : Ic} {L : Lc} {R : Rc} {H : Heap} {locs : List Loc} {cells slots iq : Nat} {S : ST} (hcc : cells + 3 ≤ 600000) (hss : slots + 67 ≤ 7302250) (hiq : iq + 5 ≤ Lx) (hW : Wd G n ad I L R (fun q => s.heap.size ≤ q) s.heap H locs s) (hA : InvA n I L R S) (hB : InvB n I R S) (ls : Array Slot) (hl : lv_has ls 4 [(3, .int (nI iq)), (2, .ref (ad 71)), (1, .ref (ad 0)), (0, .ref b)]) (kk : ∀ (n1 : Nat) (ad1 : Nat → Nat) (I1 : Ic) (L1 : Lc) (R1 : Rc) (S1 : ST) (H1 : Heap) (locs1 : List Loc) (ls1 : Array Slot), Wd G n1 ad1 I1 L1 R1 (fun q => s.heap.size ≤ q) s.heap H1 locs1 s → InvA n1 I1 L1 R1 S1 → InvB n1 I1 R1 S1 → lv_has ls1 4 [(3, .int (nI iq)), (2, .ref (ad1 71)), (1, .ref (ad1 0)), (0, .ref b)] → W p l e room_1 s m #[Value.ref b] below meth c H1 locs1 (cells + 3) (slots + 67) Q (F0 m 855 ls1 [])) : W p l e room_1 s m #[Value.ref b] below meth c H locs cells slots Q (F0 m 568 ls []) := by
  obtain ⟨⟨w, K, ro⟩, hc, hi, sv, pn, ch⟩ := S
  have hx := hC.1
  have hb := hC.2.1
  have hbA : ¬ (fun q : Nat => s.heap.size ≤ q) b := Nat.not_le.mpr hbl
  have hn : 83 ≤ n := hA.1
  refine lv_aload_n hx hb dL_law_568 rfl (lv_at hl 2 rfl) ?_
  refine lv_aload_n hx hb dL_law_569 rfl (lv_at hl 3 rfl) ?_
  refine lv_iload_n hx hb dL_law_570 rfl (lv_at hl 0 rfl) ?_
  refine q_ic 1 hx hb dL_law_571 (by decide) ?_
  refine q_iadd hx hb dL_law_572 ?_
  refine va_sld hC.1 hC.2.1 hX hbl hbA hW.2.2.2.1 (in_k (i := iq + 1) (by omega) hLx) dL_law_573 ?_
  refine q_top (v2 := .int (xs (iq + 1))) (congrArg (fun z => Value.int (xs z)) (nI_clamp (by omega))) ?_
  refine q_kI2 (q_rV (As := [.int (xs (iq + 1))]) (rest := []) (x := 0) hC hW mw_X5_likeliest gw_390 (k_likeliest l G n ad H.size I L R (xs (iq + 1)) w K ro hc hi sv pn ch hA) (by omega) (ct_o5 kd_0) rfl ⟨rfl, rfl⟩ ⟨Nat.le_of_ble_eq_true rfl, Nat.le_of_ble_eq_true rfl⟩ ⟨(by show _ ≤ 600000; omega), (by show _ ≤ 7302250; omega)⟩ hl.1 rfl rfl (Nat.le_of_ble_eq_true rfl) dL_law_574) hW (fun r_574 n_574 ad_574 I_574 L_574 R_574 H locs hp hW => ?_)
  obtain ⟨hz5, hA5, ⟨hn5, hag5⟩, hf5⟩ := hp
  have hA5 : InvA n_574 I_574 L_574 R_574 _ := hA5
  have hn5 : n ≤ n_574 := hn5
  have hag5 : ∀ k, k < n → ad_574 k = ad k := hag5
  have hf5 : ∀ a, 71 ≤ a → a < 83 → I_574 a = I a ∧ L_574 a = L a := hf5
  have hB5 : InvB n_574 I_574 R_574 ((w, K, ro), hc, hi, sv, pn, ch) := InvB_fr hB hA5.1 hA5.2.1 (fun a h1 h2 => (hf5 a h1 h2).1)
  have hn : 83 ≤ n_574 := hA5.1
  have hl : lv_has ls 4 [(3, .int (nI (iq))), (2, .ref (ad_574 71)), (1, .ref (ad_574 0)), (0, .ref b)] := by rw [hag5 0 (by omega), hag5 71 (by omega)]; exact hl
  refine lv_aload_n hx hb dL_law_577 rfl (lv_at hl 1 rfl) ?_
  refine lv_aload_n hx hb dL_law_578 rfl (lv_at hl 3 rfl) ?_
  refine lv_iload_n hx hb dL_law_579 rfl (lv_at hl 0 rfl) ?_
  refine q_ic 1 hx hb dL_law_580 (by decide) ?_
  refine q_iadd hx hb dL_law_581 ?_
  refine va_sld hC.1 hC.2.1 hX hbl hbA hW.2.2.2.1 (in_k (i := iq + 1) (by omega) hLx) dL_law_582 ?_
  refine q_top (v2 := .int (xs (iq + 1))) (congrArg (fun z => Value.int (xs z)) (nI_clamp (by omega))) ?_
  refine q_kI1 (q_rV (As := [.int (xs (iq + 1))]) (rest := [.int (r_574)]) (x := 71) hC hW mw_X6_likeliest gw_650 (k_rlikeliest l G n_574 ad_574 H.size I_574 L_574 R_574 (xs (iq + 1)) w K ro hc hi sv pn ch hB5) (by omega) (ct_o6 kd_71) rfl ⟨rfl, rfl⟩ ⟨Nat.le_of_ble_eq_true rfl, Nat.le_of_ble_eq_true rfl⟩ ⟨(by show _ ≤ 600000; omega), (by show _ ≤ 7302250; omega)⟩ hl.1 rfl rfl (Nat.le_of_ble_eq_true rfl) dL_law_583) hW (fun r_583 I_583 L_583 H locs hp hW => ?_)
  obtain ⟨hz6, hB6, hf6⟩ := hp
  have hA6 : InvA n_574 I_583 L_583 R_574 _ := InvA_fr hA5 hf6
  refine lv_icmp_eq (tgt := 855) hx hb dL_law_586 (by decide) (fun c_586 => ?_) (fun c_586 => absurd (hz5.trans hz6.symm) c_586)
  refine q_more (c2 := cells + 3) (s2 := slots + 67) (by omega) (by omega) ?_
  exact kk _ _ _ _ _ _ _ _ ls hW hA6 hB6 hl
set_option maxRecDepth 100000 in
set_option maxHeartbeats 4000000 in
theorem law_c17 {p : Program} {e : Env} {s : State} {m : MethodId} {below : List Frame} {meth : Method} {c : Code} {Q : State → Prop} (l : Launch) {b Lx : Nat} {xs : Nat → Int32} (hC : CallFix p m c cL_law 4 s #[Value.ref b] GW "CoinRowsLaw") (hX : va_X b Lx xs s s.heap) (hbl : b < s.heap.size) (hLx : Lx ≤ 2560) {G : Gx} {n : Nat} {ad : Nat → Nat} {I : Ic} {L : Lc} {R : Rc} {H : Heap} {locs : List Loc} {cells slots iq : Nat} {S : ST} (hcc : cells + 3 ≤ 600000) (hss : slots + 67 ≤ 7302250) (hiq : iq + 5 ≤ Lx) (hW : Wd G n ad I L R (fun q => s.heap.size ≤ q) s.heap H locs s) (hA : InvA n I L R S) (hB : InvB n I R S) (ls : Array Slot) (hl : lv_has ls 4 [(3, .int (nI iq)), (2, .ref (ad 71)), (1, .ref (ad 0)), (0, .ref b)]) (kk : ∀ (n1 : Nat) (ad1 : Nat → Nat) (I1 : Ic) (L1 : Lc) (R1 : Rc) (S1 : ST) (H1 : Heap) (locs1 : List Loc) (ls1 : Array Slot), Wd G n1 ad1 I1 L1 R1 (fun q => s.heap.size ≤ q) s.heap H1 locs1 s → InvA n1 I1 L1 R1 S1 → InvB n1 I1 R1 S1 → lv_has ls1 4 [(3, .int (nI iq)), (2, .ref (ad1 71)), (1, .ref (ad1 0)), (0, .ref b)] → W p l e room_1 s m #[Value.ref b] below meth c H1 locs1 (cells + 3) (slots + 67) Q (F0 m 855 ls1 [])) : W p l e room_1 s m #[Value.ref b] below meth c H locs cells slots Q (F0 m 591 ls []) := by
  obtain ⟨⟨w, K, ro⟩, hc, hi, sv, pn, ch⟩ := S
  have hx := hC.1
  have hb := hC.2.1
  have hbA : ¬ (fun q : Nat => s.heap.size ≤ q) b := Nat.not_le.mpr hbl
  have hn : 83 ≤ n := hA.1
  refine lv_aload_n hx hb dL_law_591 rfl (lv_at hl 2 rfl) ?_
  refine lv_aload_n hx hb dL_law_592 rfl (lv_at hl 3 rfl) ?_
  refine lv_iload_n hx hb dL_law_593 rfl (lv_at hl 0 rfl) ?_
  refine q_ic 1 hx hb dL_law_594 (by decide) ?_
  refine q_iadd hx hb dL_law_595 ?_
  refine va_sld hC.1 hC.2.1 hX hbl hbA hW.2.2.2.1 (in_k (i := iq + 1) (by omega) hLx) dL_law_596 ?_
  refine q_top (v2 := .int (xs (iq + 1))) (congrArg (fun z => Value.int (xs z)) (nI_clamp (by omega))) ?_
  refine lv_aload_n hx hb dL_law_597 rfl (lv_at hl 3 rfl) ?_
  refine lv_iload_n hx hb dL_law_598 rfl (lv_at hl 0 rfl) ?_
  refine q_ic 2 hx hb dL_law_599 (by decide) ?_
  refine q_iadd hx hb dL_law_600 ?_
  refine va_sld hC.1 hC.2.1 hX hbl hbA hW.2.2.2.1 (in_k (i := iq + 2) (by omega) hLx) dL_law_601 ?_
  refine q_top (v2 := .int (xs (iq + 2))) (congrArg (fun z => Value.int (xs z)) (nI_clamp (by omega))) ?_
  refine lv_aload_n hx hb dL_law_602 rfl (lv_at hl 3 rfl) ?_
  refine lv_iload_n hx hb dL_law_603 rfl (lv_at hl 0 rfl) ?_
  refine q_ic 3 hx hb dL_law_604 (by decide) ?_
  refine q_iadd hx hb dL_law_605 ?_
  refine va_sld hC.1 hC.2.1 hX hbl hbA hW.2.2.2.1 (in_k (i := iq + 3) (by omega) hLx) dL_law_606 ?_
  refine q_top (v2 := .int (xs (iq + 3))) (congrArg (fun z => Value.int (xs z)) (nI_clamp (by omega))) ?_
  refine q_kL2 (q_rV (As := [.int (xs (iq + 1)), .int (xs (iq + 2)), .int (xs (iq + 3))]) (rest := []) (x := 0) hC hW mw_X5_odds gw_402 (k_odds l G n ad H.size I L R (xs (iq + 1)) (xs (iq + 2)) (xs (iq + 3)) w K ro hc hi sv pn ch hA) (by omega) (ct_o5 kd_0) rfl ⟨rfl, rfl⟩ ⟨Nat.le_of_ble_eq_true rfl, Nat.le_of_ble_eq_true rfl⟩ ⟨(by show _ ≤ 600000; omega), (by show _ ≤ 7302250; omega)⟩ hl.1 rfl rfl (Nat.le_of_ble_eq_true rfl) dL_law_607) hW (fun r_607 n_607 ad_607 I_607 L_607 R_607 H locs hp hW => ?_)
  obtain ⟨hz5, hA5, ⟨hn5, hag5⟩, hf5⟩ := hp
  have hA5 : InvA n_607 I_607 L_607 R_607 _ := hA5
  have hn5 : n ≤ n_607 := hn5
  have hag5 : ∀ k, k < n → ad_607 k = ad k := hag5
  have hf5 : ∀ a, 71 ≤ a → a < 83 → I_607 a = I a ∧ L_607 a = L a := hf5
  have hB5 : InvB n_607 I_607 R_607 ((w, K, ro), hc, hi, sv, pn, ch) := InvB_fr hB hA5.1 hA5.2.1 (fun a h1 h2 => (hf5 a h1 h2).1)
  have hn : 83 ≤ n_607 := hA5.1
  have hl : lv_has ls 4 [(3, .int (nI (iq))), (2, .ref (ad_607 71)), (1, .ref (ad_607 0)), (0, .ref b)] := by rw [hag5 0 (by omega), hag5 71 (by omega)]; exact hl
  refine lv_aload_n hx hb dL_law_610 rfl (lv_at hl 1 rfl) ?_
  refine lv_aload_n hx hb dL_law_611 rfl (lv_at hl 3 rfl) ?_
  refine lv_iload_n hx hb dL_law_612 rfl (lv_at hl 0 rfl) ?_
  refine q_ic 1 hx hb dL_law_613 (by decide) ?_
  refine q_iadd hx hb dL_law_614 ?_
  refine va_sld hC.1 hC.2.1 hX hbl hbA hW.2.2.2.1 (in_k (i := iq + 1) (by omega) hLx) dL_law_615 ?_
  refine q_top (v2 := .int (xs (iq + 1))) (congrArg (fun z => Value.int (xs z)) (nI_clamp (by omega))) ?_
  refine lv_aload_n hx hb dL_law_616 rfl (lv_at hl 3 rfl) ?_
  refine lv_iload_n hx hb dL_law_617 rfl (lv_at hl 0 rfl) ?_
  refine q_ic 2 hx hb dL_law_618 (by decide) ?_
  refine q_iadd hx hb dL_law_619 ?_
  refine va_sld hC.1 hC.2.1 hX hbl hbA hW.2.2.2.1 (in_k (i := iq + 2) (by omega) hLx) dL_law_620 ?_
  refine q_top (v2 := .int (xs (iq + 2))) (congrArg (fun z => Value.int (xs z)) (nI_clamp (by omega))) ?_
  refine lv_aload_n hx hb dL_law_621 rfl (lv_at hl 3 rfl) ?_
  refine lv_iload_n hx hb dL_law_622 rfl (lv_at hl 0 rfl) ?_
  refine q_ic 3 hx hb dL_law_623 (by decide) ?_
  refine q_iadd hx hb dL_law_624 ?_
  refine va_sld hC.1 hC.2.1 hX hbl hbA hW.2.2.2.1 (in_k (i := iq + 3) (by omega) hLx) dL_law_625 ?_
  refine q_top (v2 := .int (xs (iq + 3))) (congrArg (fun z => Value.int (xs z)) (nI_clamp (by omega))) ?_
  refine q_kL1 (q_rV (As := [.int (xs (iq + 1)), .int (xs (iq + 2)), .int (xs (iq + 3))]) (rest := [.long (r_607)]) (x := 71) hC hW mw_X6_odds gw_654 (k_rodds l G n_607 ad_607 H.size I_607 L_607 R_607 (xs (iq + 1)) (xs (iq + 2)) (xs (iq + 3)) w K ro hc hi sv pn ch hB5) (by omega) (ct_o6 kd_71) rfl ⟨rfl, rfl⟩ ⟨Nat.le_of_ble_eq_true rfl, Nat.le_of_ble_eq_true rfl⟩ ⟨(by show _ ≤ 600000; omega), (by show _ ≤ 7302250; omega)⟩ hl.1 rfl rfl (Nat.le_of_ble_eq_true rfl) dL_law_626) hW (fun r_626 I_626 L_626 H locs hp hW => ?_)
  obtain ⟨hz6, hB6, hf6⟩ := hp
  have hA6 : InvA n_607 I_626 L_626 R_607 _ := InvA_fr hA5 hf6
  refine W.lcmp hx hb dL_law_629 ?_
  refine q_Leq (tgt := 855) hx hb dL_law_630 (by decide) (fun c_630 => ?_) (fun c_630 => absurd (hz5.trans hz6.symm) c_630)
  refine q_more (c2 := cells + 3) (s2 := slots + 67) (by omega) (by omega) ?_
  exact kk _ _ _ _ _ _ _ _ ls hW hA6 hB6 hl
