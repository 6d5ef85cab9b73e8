set_option maxRecDepth 100000 in
set_option maxHeartbeats 4000000 in
theorem law_c0 {p : Program} {e : Env} {s : State} {m : MethodId} {below : List Frame} {meth : Method} {c : Code} {Q : State → Prop} (l : Launch) {b Lx : Nat} {xs : Nat → Int32} (hC : CallFix p m c cL_law 4 s #[Value.ref b] GW "CoinRowsLaw") (hX : va_X b Lx xs s s.heap) (hbl : b < s.heap.size) (hLx : Lx ≤ 2560) {G : Gx} {n : Nat} {ad : Nat → Nat} {I : Ic} {L : Lc} {R : Rc} {H : Heap} {locs : List Loc} {cells slots iq : Nat} {S : ST} (hcc : cells + 3 ≤ 600000) (hss : slots + 67 ≤ 7302250) (hiq : iq + 5 ≤ Lx) (hW : Wd G n ad I L R (fun q => s.heap.size ≤ q) s.heap H locs s) (hA : InvA n I L R S) (hB : InvB n I R S) (ls : Array Slot) (hl : lv_has ls 4 [(3, .int (nI iq)), (2, .ref (ad 71)), (1, .ref (ad 0)), (0, .ref b)]) (kk : ∀ (n1 : Nat) (ad1 : Nat → Nat) (I1 : Ic) (L1 : Lc) (R1 : Rc) (S1 : ST) (H1 : Heap) (locs1 : List Loc) (ls1 : Array Slot), Wd G n1 ad1 I1 L1 R1 (fun q => s.heap.size ≤ q) s.heap H1 locs1 s → InvA n1 I1 L1 R1 S1 → InvB n1 I1 R1 S1 → lv_has ls1 4 [(3, .int (nI iq)), (2, .ref (ad1 71)), (1, .ref (ad1 0)), (0, .ref b)] → W p l e room_1 s m #[Value.ref b] below meth c H1 locs1 (cells + 3) (slots + 67) Q (F0 m 855 ls1 [])) : W p l e room_1 s m #[Value.ref b] below meth c H locs cells slots Q (F0 m 156 ls []) := by
  obtain ⟨⟨w, K, ro⟩, hc, hi, sv, pn, ch⟩ := S
  have hx := hC.1
  have hb := hC.2.1
  have hbA : ¬ (fun q : Nat => s.heap.size ≤ q) b := Nat.not_le.mpr hbl
  have hn : 83 ≤ n := hA.1
  refine lv_aload_n hx hb dL_law_156 rfl (lv_at hl 2 rfl) ?_
  refine lv_aload_n hx hb dL_law_157 rfl (lv_at hl 3 rfl) ?_
  refine lv_iload_n hx hb dL_law_158 rfl (lv_at hl 0 rfl) ?_
  refine q_ic 1 hx hb dL_law_159 (by decide) ?_
  refine q_iadd hx hb dL_law_160 ?_
  refine va_sld hC.1 hC.2.1 hX hbl hbA hW.2.2.2.1 (in_k (i := iq + 1) (by omega) hLx) dL_law_161 ?_
  refine q_top (v2 := .int (xs (iq + 1))) (congrArg (fun z => Value.int (xs z)) (nI_clamp (by omega))) ?_
  refine lv_aload_n hx hb dL_law_162 rfl (lv_at hl 3 rfl) ?_
  refine lv_iload_n hx hb dL_law_163 rfl (lv_at hl 0 rfl) ?_
  refine q_ic 2 hx hb dL_law_164 (by decide) ?_
  refine q_iadd hx hb dL_law_165 ?_
  refine va_sld hC.1 hC.2.1 hX hbl hbA hW.2.2.2.1 (in_k (i := iq + 2) (by omega) hLx) dL_law_166 ?_
  refine q_top (v2 := .int (xs (iq + 2))) (congrArg (fun z => Value.int (xs z)) (nI_clamp (by omega))) ?_
  refine lv_aload_n hx hb dL_law_167 rfl (lv_at hl 3 rfl) ?_
  refine lv_iload_n hx hb dL_law_168 rfl (lv_at hl 0 rfl) ?_
  refine q_ic 3 hx hb dL_law_169 (by decide) ?_
  refine q_iadd hx hb dL_law_170 ?_
  refine va_sld hC.1 hC.2.1 hX hbl hbA hW.2.2.2.1 (in_k (i := iq + 3) (by omega) hLx) dL_law_171 ?_
  refine q_top (v2 := .int (xs (iq + 3))) (congrArg (fun z => Value.int (xs z)) (nI_clamp (by omega))) ?_
  refine lv_aload_n hx hb dL_law_172 rfl (lv_at hl 3 rfl) ?_
  refine lv_iload_n hx hb dL_law_173 rfl (lv_at hl 0 rfl) ?_
  refine q_ic 4 hx hb dL_law_174 (by decide) ?_
  refine q_iadd hx hb dL_law_175 ?_
  refine va_sld hC.1 hC.2.1 hX hbl hbA hW.2.2.2.1 (in_k (i := iq + 4) (by omega) hLx) dL_law_176 ?_
  refine q_top (v2 := .int (xs (iq + 4))) (congrArg (fun z => Value.int (xs z)) (nI_clamp (by omega))) ?_
  refine q_kI2 (q_rV (As := [.int (xs (iq + 1)), .int (xs (iq + 2)), .int (xs (iq + 3)), .int (xs (iq + 4))]) (rest := []) (x := 0) hC hW mw_X5_give gw_155 (k_give l G n ad H.size I L R (xs (iq + 1)) (xs (iq + 2)) (xs (iq + 3)) (xs (iq + 4)) w K ro hc hi sv pn ch hA) (by omega) (ct_o5 kd_0) rfl ⟨rfl, rfl⟩ ⟨Nat.le_of_ble_eq_true rfl, Nat.le_of_ble_eq_true rfl⟩ ⟨(by show _ ≤ 600000; omega), (by show _ ≤ 7302250; omega)⟩ hl.1 rfl rfl (Nat.le_of_ble_eq_true rfl) dL_law_177) hW (fun r_177 n_177 ad_177 I_177 L_177 R_177 H locs hp hW => ?_)
  obtain ⟨hz5, hA5, ⟨hn5, hag5⟩, hf5⟩ := hp
  have hA5 : InvA n_177 I_177 L_177 R_177 _ := hA5
  have hn5 : n ≤ n_177 := hn5
  have hag5 : ∀ k, k < n → ad_177 k = ad k := hag5
  have hf5 : ∀ a, 71 ≤ a → a < 83 → I_177 a = I a ∧ L_177 a = L a := hf5
  have hB5 : InvB n_177 I_177 R_177 ((w, K, ro), hc, hi, sv, pn, ch) := InvB_fr hB hA5.1 hA5.2.1 (fun a h1 h2 => (hf5 a h1 h2).1)
  have hn : 83 ≤ n_177 := hA5.1
  have hl : lv_has ls 4 [(3, .int (nI (iq))), (2, .ref (ad_177 71)), (1, .ref (ad_177 0)), (0, .ref b)] := by rw [hag5 0 (by omega), hag5 71 (by omega)]; exact hl
  refine lv_aload_n hx hb dL_law_180 rfl (lv_at hl 1 rfl) ?_
  refine lv_aload_n hx hb dL_law_181 rfl (lv_at hl 3 rfl) ?_
  refine lv_iload_n hx hb dL_law_182 rfl (lv_at hl 0 rfl) ?_
  refine q_ic 1 hx hb dL_law_183 (by decide) ?_
  refine q_iadd hx hb dL_law_184 ?_
  refine va_sld hC.1 hC.2.1 hX hbl hbA hW.2.2.2.1 (in_k (i := iq + 1) (by omega) hLx) dL_law_185 ?_
  refine q_top (v2 := .int (xs (iq + 1))) (congrArg (fun z => Value.int (xs z)) (nI_clamp (by omega))) ?_
  refine lv_aload_n hx hb dL_law_186 rfl (lv_at hl 3 rfl) ?_
  refine lv_iload_n hx hb dL_law_187 rfl (lv_at hl 0 rfl) ?_
  refine q_ic 2 hx hb dL_law_188 (by decide) ?_
  refine q_iadd hx hb dL_law_189 ?_
  refine va_sld hC.1 hC.2.1 hX hbl hbA hW.2.2.2.1 (in_k (i := iq + 2) (by omega) hLx) dL_law_190 ?_
  refine q_top (v2 := .int (xs (iq + 2))) (congrArg (fun z => Value.int (xs z)) (nI_clamp (by omega))) ?_
  refine lv_aload_n hx hb dL_law_191 rfl (lv_at hl 3 rfl) ?_
  refine lv_iload_n hx hb dL_law_192 rfl (lv_at hl 0 rfl) ?_
  refine q_ic 3 hx hb dL_law_193 (by decide) ?_
  refine q_iadd hx hb dL_law_194 ?_
  refine va_sld hC.1 hC.2.1 hX hbl hbA hW.2.2.2.1 (in_k (i := iq + 3) (by omega) hLx) dL_law_195 ?_
  refine q_top (v2 := .int (xs (iq + 3))) (congrArg (fun z => Value.int (xs z)) (nI_clamp (by omega))) ?_
  refine lv_aload_n hx hb dL_law_196 rfl (lv_at hl 3 rfl) ?_
  refine lv_iload_n hx hb dL_law_197 rfl (lv_at hl 0 rfl) ?_
  refine q_ic 4 hx hb dL_law_198 (by decide) ?_
  refine q_iadd hx hb dL_law_199 ?_
  refine va_sld hC.1 hC.2.1 hX hbl hbA hW.2.2.2.1 (in_k (i := iq + 4) (by omega) hLx) dL_law_200 ?_
  refine q_top (v2 := .int (xs (iq + 4))) (congrArg (fun z => Value.int (xs z)) (nI_clamp (by omega))) ?_
  refine q_kI1 (q_rV (As := [.int (xs (iq + 1)), .int (xs (iq + 2)), .int (xs (iq + 3)), .int (xs (iq + 4))]) (rest := [.int (r_177)]) (x := 71) hC hW mw_X6_give gw_533 (k_rgive l G n_177 ad_177 H.size I_177 L_177 R_177 (xs (iq + 1)) (xs (iq + 2)) (xs (iq + 3)) (xs (iq + 4)) w K ro hc hi sv pn ch hB5) (by omega) (ct_o6 kd_71) rfl ⟨rfl, rfl⟩ ⟨Nat.le_of_ble_eq_true rfl, Nat.le_of_ble_eq_true rfl⟩ ⟨(by show _ ≤ 600000; omega), (by show _ ≤ 7302250; omega)⟩ hl.1 rfl rfl (Nat.le_of_ble_eq_true rfl) dL_law_201) hW (fun r_201 I_201 L_201 H locs hp hW => ?_)
  obtain ⟨hz6, hB6, hf6⟩ := hp
  have hA6 : InvA n_177 I_201 L_201 R_177 _ := InvA_fr hA5 hf6
  refine lv_icmp_eq (tgt := 855) hx hb dL_law_204 (by decide) (fun c_204 => ?_) (fun c_204 => absurd (hz5.trans hz6.symm) c_204)
  refine q_more (c2 := cells + 3) (s2 := slots + 67) (by omega) (by omega) ?_
  exact kk _ _ _ _ _ _ _ _ ls hW hA6 hB6 hl
set_option maxRecDepth 100000 in
set_option maxHeartbeats 4000000 in
theorem law_c1 {p : Program} {e : Env} {s : State} {m : MethodId} {below : List Frame} {meth : Method} {c : Code} {Q : State → Prop} (l : Launch) {b Lx : Nat} {xs : Nat → Int32} (hC : CallFix p m c cL_law 4 s #[Value.ref b] GW "CoinRowsLaw") (hX : va_X b Lx xs s s.heap) (hbl : b < s.heap.size) (hLx : Lx ≤ 2560) {G : Gx} {n : Nat} {ad : Nat → Nat} {I : Ic} {L : Lc} {R : Rc} {H : Heap} {locs : List Loc} {cells slots iq : Nat} {S : ST} (hcc : cells + 3 ≤ 600000) (hss : slots + 67 ≤ 7302250) (hiq : iq + 5 ≤ Lx) (hW : Wd G n ad I L R (fun q => s.heap.size ≤ q) s.heap H locs s) (hA : InvA n I L R S) (hB : InvB n I R S) (ls : Array Slot) (hl : lv_has ls 4 [(3, .int (nI iq)), (2, .ref (ad 71)), (1, .ref (ad 0)), (0, .ref b)]) (kk : ∀ (n1 : Nat) (ad1 : Nat → Nat) (I1 : Ic) (L1 : Lc) (R1 : Rc) (S1 : ST) (H1 : Heap) (locs1 : List Loc) (ls1 : Array Slot), Wd G n1 ad1 I1 L1 R1 (fun q => s.heap.size ≤ q) s.heap H1 locs1 s → InvA n1 I1 L1 R1 S1 → InvB n1 I1 R1 S1 → lv_has ls1 4 [(3, .int (nI iq)), (2, .ref (ad1 71)), (1, .ref (ad1 0)), (0, .ref b)] → W p l e room_1 s m #[Value.ref b] below meth c H1 locs1 (cells + 3) (slots + 67) Q (F0 m 855 ls1 [])) : W p l e room_1 s m #[Value.ref b] below meth c H locs cells slots Q (F0 m 209 ls []) := by
  obtain ⟨⟨w, K, ro⟩, hc, hi, sv, pn, ch⟩ := S
  have hx := hC.1
  have hb := hC.2.1
  have hbA : ¬ (fun q : Nat => s.heap.size ≤ q) b := Nat.not_le.mpr hbl
  have hn : 83 ≤ n := hA.1
  refine lv_aload_n hx hb dL_law_209 rfl (lv_at hl 2 rfl) ?_
  refine lv_aload_n hx hb dL_law_210 rfl (lv_at hl 3 rfl) ?_
  refine lv_iload_n hx hb dL_law_211 rfl (lv_at hl 0 rfl) ?_
  refine q_ic 1 hx hb dL_law_212 (by decide) ?_
  refine q_iadd hx hb dL_law_213 ?_
  refine va_sld hC.1 hC.2.1 hX hbl hbA hW.2.2.2.1 (in_k (i := iq + 1) (by omega) hLx) dL_law_214 ?_
  refine q_top (v2 := .int (xs (iq + 1))) (congrArg (fun z => Value.int (xs z)) (nI_clamp (by omega))) ?_
  refine lv_aload_n hx hb dL_law_215 rfl (lv_at hl 3 rfl) ?_
  refine lv_iload_n hx hb dL_law_216 rfl (lv_at hl 0 rfl) ?_
  refine q_ic 2 hx hb dL_law_217 (by decide) ?_
  refine q_iadd hx hb dL_law_218 ?_
  refine va_sld hC.1 hC.2.1 hX hbl hbA hW.2.2.2.1 (in_k (i := iq + 2) (by omega) hLx) dL_law_219 ?_
  refine q_top (v2 := .int (xs (iq + 2))) (congrArg (fun z => Value.int (xs z)) (nI_clamp (by omega))) ?_
  refine lv_aload_n hx hb dL_law_220 rfl (lv_at hl 3 rfl) ?_
  refine lv_iload_n hx hb dL_law_221 rfl (lv_at hl 0 rfl) ?_
  refine q_ic 3 hx hb dL_law_222 (by decide) ?_
  refine q_iadd hx hb dL_law_223 ?_
  refine va_sld hC.1 hC.2.1 hX hbl hbA hW.2.2.2.1 (in_k (i := iq + 3) (by omega) hLx) dL_law_224 ?_
  refine q_top (v2 := .int (xs (iq + 3))) (congrArg (fun z => Value.int (xs z)) (nI_clamp (by omega))) ?_
  refine q_kI2 (q_rV (As := [.int (xs (iq + 1)), .int (xs (iq + 2)), .int (xs (iq + 3))]) (rest := []) (x := 0) hC hW mw_X5_weight gw_185 (k_weight l G n ad H.size I L R (xs (iq + 1)) (xs (iq + 2)) (xs (iq + 3)) w K ro hc hi sv pn ch hA) (by omega) (ct_o5 kd_0) rfl ⟨rfl, rfl⟩ ⟨Nat.le_of_ble_eq_true rfl, Nat.le_of_ble_eq_true rfl⟩ ⟨(by show _ ≤ 600000; omega), (by show _ ≤ 7302250; omega)⟩ hl.1 rfl rfl (Nat.le_of_ble_eq_true rfl) dL_law_225) hW (fun r_225 n_225 ad_225 I_225 L_225 R_225 H locs hp hW => ?_)
  obtain ⟨hz5, hA5, ⟨hn5, hag5⟩, hf5⟩ := hp
  have hA5 : InvA n_225 I_225 L_225 R_225 _ := hA5
  have hn5 : n ≤ n_225 := hn5
  have hag5 : ∀ k, k < n → ad_225 k = ad k := hag5
  have hf5 : ∀ a, 71 ≤ a → a < 83 → I_225 a = I a ∧ L_225 a = L a := hf5
  have hB5 : InvB n_225 I_225 R_225 ((w, K, ro), hc, hi, sv, pn, ch) := InvB_fr hB hA5.1 hA5.2.1 (fun a h1 h2 => (hf5 a h1 h2).1)
  have hn : 83 ≤ n_225 := hA5.1
  have hl : lv_has ls 4 [(3, .int (nI (iq))), (2, .ref (ad_225 71)), (1, .ref (ad_225 0)), (0, .ref b)] := by rw [hag5 0 (by omega), hag5 71 (by omega)]; exact hl
  refine lv_aload_n hx hb dL_law_228 rfl (lv_at hl 1 rfl) ?_
  refine lv_aload_n hx hb dL_law_229 rfl (lv_at hl 3 rfl) ?_
  refine lv_iload_n hx hb dL_law_230 rfl (lv_at hl 0 rfl) ?_
  refine q_ic 1 hx hb dL_law_231 (by decide) ?_
  refine q_iadd hx hb dL_law_232 ?_
  refine va_sld hC.1 hC.2.1 hX hbl hbA hW.2.2.2.1 (in_k (i := iq + 1) (by omega) hLx) dL_law_233 ?_
  refine q_top (v2 := .int (xs (iq + 1))) (congrArg (fun z => Value.int (xs z)) (nI_clamp (by omega))) ?_
  refine lv_aload_n hx hb dL_law_234 rfl (lv_at hl 3 rfl) ?_
  refine lv_iload_n hx hb dL_law_235 rfl (lv_at hl 0 rfl) ?_
  refine q_ic 2 hx hb dL_law_236 (by decide) ?_
  refine q_iadd hx hb dL_law_237 ?_
  refine va_sld hC.1 hC.2.1 hX hbl hbA hW.2.2.2.1 (in_k (i := iq + 2) (by omega) hLx) dL_law_238 ?_
  refine q_top (v2 := .int (xs (iq + 2))) (congrArg (fun z => Value.int (xs z)) (nI_clamp (by omega))) ?_
  refine lv_aload_n hx hb dL_law_239 rfl (lv_at hl 3 rfl) ?_
  refine lv_iload_n hx hb dL_law_240 rfl (lv_at hl 0 rfl) ?_
  refine q_ic 3 hx hb dL_law_241 (by decide) ?_
  refine q_iadd hx hb dL_law_242 ?_
  refine va_sld hC.1 hC.2.1 hX hbl hbA hW.2.2.2.1 (in_k (i := iq + 3) (by omega) hLx) dL_law_243 ?_
  refine q_top (v2 := .int (xs (iq + 3))) (congrArg (fun z => Value.int (xs z)) (nI_clamp (by omega))) ?_
  refine q_kI1 (q_rV (As := [.int (xs (iq + 1)), .int (xs (iq + 2)), .int (xs (iq + 3))]) (rest := [.int (r_225)]) (x := 71) hC hW mw_X6_weight gw_550 (k_rweight l G n_225 ad_225 H.size I_225 L_225 R_225 (xs (iq + 1)) (xs (iq + 2)) (xs (iq + 3)) w K ro hc hi sv pn ch hB5) (by omega) (ct_o6 kd_71) rfl ⟨rfl, rfl⟩ ⟨Nat.le_of_ble_eq_true rfl, Nat.le_of_ble_eq_true rfl⟩ ⟨(by show _ ≤ 600000; omega), (by show _ ≤ 7302250; omega)⟩ hl.1 rfl rfl (Nat.le_of_ble_eq_true rfl) dL_law_244) hW (fun r_244 I_244 L_244 H locs hp hW => ?_)
  obtain ⟨hz6, hB6, hf6⟩ := hp
  have hA6 : InvA n_225 I_244 L_244 R_225 _ := InvA_fr hA5 hf6
  refine lv_icmp_eq (tgt := 855) hx hb dL_law_247 (by decide) (fun c_247 => ?_) (fun c_247 => absurd (hz5.trans hz6.symm) c_247)
  refine q_more (c2 := cells + 3) (s2 := slots + 67) (by omega) (by omega) ?_
  exact kk _ _ _ _ _ _ _ _ ls hW hA6 hB6 hl
set_option maxRecDepth 100000 in
set_option maxHeartbeats 4000000 in
theorem law_c2 {p : Program} {e : Env} {s : State} {m : MethodId} {below : List Frame} {meth : Method} {c : Code} {Q : State → Prop} (l : Launch) {b Lx : Nat} {xs : Nat → Int32} (hC : CallFix p m c cL_law 4 s #[Value.ref b] GW "CoinRowsLaw") (hX : va_X b Lx xs s s.heap) (hbl : b < s.heap.size) (hLx : Lx ≤ 2560) {G : Gx} {n : Nat} {ad : Nat → Nat} {I : Ic} {L : Lc} {R : Rc} {H : Heap} {locs : List Loc} {cells slots iq : Nat} {S : ST} (hcc : cells + 3 ≤ 600000) (hss : slots + 67 ≤ 7302250) (hiq : iq + 5 ≤ Lx) (hW : Wd G n ad I L R (fun q => s.heap.size ≤ q) s.heap H locs s) (hA : InvA n I L R S) (hB : InvB n I R S) (ls : Array Slot) (hl : lv_has ls 4 [(3, .int (nI iq)), (2, .ref (ad 71)), (1, .ref (ad 0)), (0, .ref b)]) (kk : ∀ (n1 : Nat) (ad1 : Nat → Nat) (I1 : Ic) (L1 : Lc) (R1 : Rc) (S1 : ST) (H1 : Heap) (locs1 : List Loc) (ls1 : Array Slot), Wd G n1 ad1 I1 L1 R1 (fun q => s.heap.size ≤ q) s.heap H1 locs1 s → InvA n1 I1 L1 R1 S1 → InvB n1 I1 R1 S1 → lv_has ls1 4 [(3, .int (nI iq)), (2, .ref (ad1 71)), (1, .ref (ad1 0)), (0, .ref b)] → W p l e room_1 s m #[Value.ref b] below meth c H1 locs1 (cells + 3) (slots + 67) Q (F0 m 855 ls1 [])) : W p l e room_1 s m #[Value.ref b] below meth c H locs cells slots Q (F0 m 252 ls []) := by
  obtain ⟨⟨w, K, ro⟩, hc, hi, sv, pn, ch⟩ := S
  have hx := hC.1
  have hb := hC.2.1
  have hbA : ¬ (fun q : Nat => s.heap.size ≤ q) b := Nat.not_le.mpr hbl
  have hn : 83 ≤ n := hA.1
  refine lv_aload_n hx hb dL_law_252 rfl (lv_at hl 2 rfl) ?_
  refine lv_aload_n hx hb dL_law_253 rfl (lv_at hl 3 rfl) ?_
  refine lv_iload_n hx hb dL_law_254 rfl (lv_at hl 0 rfl) ?_
  refine q_ic 1 hx hb dL_law_255 (by decide) ?_
  refine q_iadd hx hb dL_law_256 ?_
  refine va_sld hC.1 hC.2.1 hX hbl hbA hW.2.2.2.1 (in_k (i := iq + 1) (by omega) hLx) dL_law_257 ?_
  refine q_top (v2 := .int (xs (iq + 1))) (congrArg (fun z => Value.int (xs z)) (nI_clamp (by omega))) ?_
  refine q_kI2 (q_rV (As := [.int (xs (iq + 1))]) (rest := []) (x := 0) hC hW mw_X5_add gw_189 (k_add l G n ad H.size I L R (xs (iq + 1)) w K ro hc hi sv pn ch hA) (by omega) (ct_o5 kd_0) rfl ⟨rfl, rfl⟩ ⟨Nat.le_of_ble_eq_true rfl, Nat.le_of_ble_eq_true rfl⟩ ⟨(by show _ ≤ 600000; omega), (by show _ ≤ 7302250; omega)⟩ hl.1 rfl rfl (Nat.le_of_ble_eq_true rfl) dL_law_258) hW (fun r_258 n_258 ad_258 I_258 L_258 R_258 H locs hp hW => ?_)
  obtain ⟨hz5, hA5, ⟨hn5, hag5⟩, hf5⟩ := hp
  have hA5 : InvA n_258 I_258 L_258 R_258 _ := hA5
  have hn5 : n ≤ n_258 := hn5
  have hag5 : ∀ k, k < n → ad_258 k = ad k := hag5
  have hf5 : ∀ a, 71 ≤ a → a < 83 → I_258 a = I a ∧ L_258 a = L a := hf5
  have hB5 : InvB n_258 I_258 R_258 ((w, K, ro), hc, hi, sv, pn, ch) := InvB_fr hB hA5.1 hA5.2.1 (fun a h1 h2 => (hf5 a h1 h2).1)
  have hn : 83 ≤ n_258 := hA5.1
  have hl : lv_has ls 4 [(3, .int (nI (iq))), (2, .ref (ad_258 71)), (1, .ref (ad_258 0)), (0, .ref b)] := by rw [hag5 0 (by omega), hag5 71 (by omega)]; exact hl
  refine lv_aload_n hx hb dL_law_261 rfl (lv_at hl 1 rfl) ?_
  refine lv_aload_n hx hb dL_law_262 rfl (lv_at hl 3 rfl) ?_
  refine lv_iload_n hx hb dL_law_263 rfl (lv_at hl 0 rfl) ?_
  refine q_ic 1 hx hb dL_law_264 (by decide) ?_
  refine q_iadd hx hb dL_law_265 ?_
  refine va_sld hC.1 hC.2.1 hX hbl hbA hW.2.2.2.1 (in_k (i := iq + 1) (by omega) hLx) dL_law_266 ?_
  refine q_top (v2 := .int (xs (iq + 1))) (congrArg (fun z => Value.int (xs z)) (nI_clamp (by omega))) ?_
  refine q_kI1 (q_rV (As := [.int (xs (iq + 1))]) (rest := [.int (r_258)]) (x := 71) hC hW mw_X6_add gw_554 (k_radd l G n_258 ad_258 H.size I_258 L_258 R_258 (xs (iq + 1)) w K ro hc hi sv pn ch hB5) (by omega) (ct_o6 kd_71) rfl ⟨rfl, rfl⟩ ⟨Nat.le_of_ble_eq_true rfl, Nat.le_of_ble_eq_true rfl⟩ ⟨(by show _ ≤ 600000; omega), (by show _ ≤ 7302250; omega)⟩ hl.1 rfl rfl (Nat.le_of_ble_eq_true rfl) dL_law_267) hW (fun r_267 I_267 L_267 H locs hp hW => ?_)
  obtain ⟨hz6, hB6, hf6⟩ := hp
  have hA6 : InvA n_258 I_267 L_267 R_258 _ := InvA_fr hA5 hf6
  refine lv_icmp_eq (tgt := 855) hx hb dL_law_270 (by decide) (fun c_270 => ?_) (fun c_270 => absurd (hz5.trans hz6.symm) c_270)
  refine q_more (c2 := cells + 3) (s2 := slots + 67) (by omega) (by omega) ?_
  exact kk _ _ _ _ _ _ _ _ ls hW hA6 hB6 hl
set_option maxRecDepth 100000 in
set_option maxHeartbeats 4000000 in
theorem law_c3 {p : Program} {e : Env} {s : State} {m : MethodId} {below : List Frame} {meth : Method} {c : Code} {Q : State → Prop} (l : Launch) {b Lx : Nat} {xs : Nat → Int32} (hC : CallFix p m c cL_law 4 s #[Value.ref b] GW "CoinRowsLaw") (hX : va_X b Lx xs s s.heap) (hbl : b < s.heap.size) (hLx : Lx ≤ 2560) {G : Gx} {n : Nat} {ad : Nat → Nat} {I : Ic} {L : Lc} {R : Rc} {H : Heap} {locs : List Loc} {cells slots iq : Nat} {S : ST} (hcc : cells + 3 ≤ 600000) (hss : slots + 67 ≤ 7302250) (hiq : iq + 5 ≤ Lx) (hW : Wd G n ad I L R (fun q => s.heap.size ≤ q) s.heap H locs s) (hA : InvA n I L R S) (hB : InvB n I R S) (ls : Array Slot) (hl : lv_has ls 4 [(3, .int (nI iq)), (2, .ref (ad 71)), (1, .ref (ad 0)), (0, .ref b)]) (kk : ∀ (n1 : Nat) (ad1 : Nat → Nat) (I1 : Ic) (L1 : Lc) (R1 : Rc) (S1 : ST) (H1 : Heap) (locs1 : List Loc) (ls1 : Array Slot), Wd G n1 ad1 I1 L1 R1 (fun q => s.heap.size ≤ q) s.heap H1 locs1 s → InvA n1 I1 L1 R1 S1 → InvB n1 I1 R1 S1 → lv_has ls1 4 [(3, .int (nI iq)), (2, .ref (ad1 71)), (1, .ref (ad1 0)), (0, .ref b)] → W p l e room_1 s m #[Value.ref b] below meth c H1 locs1 (cells + 3) (slots + 67) Q (F0 m 855 ls1 [])) : W p l e room_1 s m #[Value.ref b] below meth c H locs cells slots Q (F0 m 275 ls []) := by
  obtain ⟨⟨w, K, ro⟩, hc, hi, sv, pn, ch⟩ := S
  have hx := hC.1
  have hb := hC.2.1
  have hbA : ¬ (fun q : Nat => s.heap.size ≤ q) b := Nat.not_le.mpr hbl
  have hn : 83 ≤ n := hA.1
  refine lv_aload_n hx hb dL_law_275 rfl (lv_at hl 2 rfl) ?_
  refine q_kI2 (q_rV (As := []) (rest := []) (x := 0) hC hW mw_X5_cut gw_197 (k_cut l G n ad H.size I L R  w K ro hc hi sv pn ch hA) (by omega) (ct_o5 kd_0) rfl ⟨rfl, rfl⟩ ⟨Nat.le_of_ble_eq_true rfl, Nat.le_of_ble_eq_true rfl⟩ ⟨(by show _ ≤ 600000; omega), (by show _ ≤ 7302250; omega)⟩ hl.1 rfl rfl (Nat.le_of_ble_eq_true rfl) dL_law_276) hW (fun r_276 n_276 ad_276 I_276 L_276 R_276 H locs hp hW => ?_)
  obtain ⟨hz5, hA5, ⟨hn5, hag5⟩, hf5⟩ := hp
  have hA5 : InvA n_276 I_276 L_276 R_276 _ := hA5
  have hn5 : n ≤ n_276 := hn5
  have hag5 : ∀ k, k < n → ad_276 k = ad k := hag5
  have hf5 : ∀ a, 71 ≤ a → a < 83 → I_276 a = I a ∧ L_276 a = L a := hf5
  have hB5 : InvB n_276 I_276 R_276 ((w, K, ro), hc, hi, sv, pn, ch) := InvB_fr hB hA5.1 hA5.2.1 (fun a h1 h2 => (hf5 a h1 h2).1)
  have hn : 83 ≤ n_276 := hA5.1
  have hl : lv_has ls 4 [(3, .int (nI (iq))), (2, .ref (ad_276 71)), (1, .ref (ad_276 0)), (0, .ref b)] := by rw [hag5 0 (by omega), hag5 71 (by omega)]; exact hl
  refine lv_aload_n hx hb dL_law_279 rfl (lv_at hl 1 rfl) ?_
  refine q_kI1 (q_rV (As := []) (rest := [.int (r_276)]) (x := 71) hC hW mw_X6_cut gw_558 (k_rcut l G n_276 ad_276 H.size I_276 L_276 R_276  w K ro hc hi sv pn ch hB5) (by omega) (ct_o6 kd_71) rfl ⟨rfl, rfl⟩ ⟨Nat.le_of_ble_eq_true rfl, Nat.le_of_ble_eq_true rfl⟩ ⟨(by show _ ≤ 600000; omega), (by show _ ≤ 7302250; omega)⟩ hl.1 rfl rfl (Nat.le_of_ble_eq_true rfl) dL_law_280) hW (fun r_280 I_280 L_280 H locs hp hW => ?_)
  obtain ⟨hz6, hB6, hf6⟩ := hp
  have hA6 : InvA n_276 I_280 L_280 R_276 _ := InvA_fr hA5 hf6
  refine lv_icmp_eq (tgt := 855) hx hb dL_law_283 (by decide) (fun c_283 => ?_) (fun c_283 => absurd (hz5.trans hz6.symm) c_283)
  refine q_more (c2 := cells + 3) (s2 := slots + 67) (by omega) (by omega) ?_
  exact kk _ _ _ _ _ _ _ _ ls hW hA6 hB6 hl
set_option maxRecDepth 100000 in
set_option maxHeartbeats 4000000 in
theorem law_c4 {p : Program} {e : Env} {s : State} {m : MethodId} {below : List Frame} {meth : Method} {c : Code} {Q : State → Prop} (l : Launch) {b Lx : Nat} {xs : Nat → Int32} (hC : CallFix p m c cL_law 4 s #[Value.ref b] GW "CoinRowsLaw") (hX : va_X b Lx xs s s.heap) (hbl : b < s.heap.size) (hLx : Lx ≤ 2560) {G : Gx} {n : Nat} {ad : Nat → Nat} {I : Ic} {L : Lc} {R : Rc} {H : Heap} {locs : List Loc} {cells slots iq : Nat} {S : ST} (hcc : cells + 3 ≤ 600000) (hss : slots + 67 ≤ 7302250) (hiq : iq + 5 ≤ Lx) (hW : Wd G n ad I L R (fun q => s.heap.size ≤ q) s.heap H locs s) (hA : InvA n I L R S) (hB : InvB n I R S) (ls : Array Slot) (hl : lv_has ls 4 [(3, .int (nI iq)), (2, .ref (ad 71)), (1, .ref (ad 0)), (0, .ref b)]) (kk : ∀ (n1 : Nat) (ad1 : Nat → Nat) (I1 : Ic) (L1 : Lc) (R1 : Rc) (S1 : ST) (H1 : Heap) (locs1 : List Loc) (ls1 : Array Slot), Wd G n1 ad1 I1 L1 R1 (fun q => s.heap.size ≤ q) s.heap H1 locs1 s → InvA n1 I1 L1 R1 S1 → InvB n1 I1 R1 S1 → lv_has ls1 4 [(3, .int (nI iq)), (2, .ref (ad1 71)), (1, .ref (ad1 0)), (0, .ref b)] → W p l e room_1 s m #[Value.ref b] below meth c H1 locs1 (cells + 3) (slots + 67) Q (F0 m 855 ls1 [])) : W p l e room_1 s m #[Value.ref b] below meth c H locs cells slots Q (F0 m 288 ls []) := by
  obtain ⟨⟨w, K, ro⟩, hc, hi, sv, pn, ch⟩ := S
  have hx := hC.1
  have hb := hC.2.1
  have hbA : ¬ (fun q : Nat => s.heap.size ≤ q) b := Nat.not_le.mpr hbl
  have hn : 83 ≤ n := hA.1
  refine lv_aload_n hx hb dL_law_288 rfl (lv_at hl 2 rfl) ?_
  refine lv_aload_n hx hb dL_law_289 rfl (lv_at hl 3 rfl) ?_
  refine lv_iload_n hx hb dL_law_290 rfl (lv_at hl 0 rfl) ?_
  refine q_ic 1 hx hb dL_law_291 (by decide) ?_
  refine q_iadd hx hb dL_law_292 ?_
  refine va_sld hC.1 hC.2.1 hX hbl hbA hW.2.2.2.1 (in_k (i := iq + 1) (by omega) hLx) dL_law_293 ?_
  refine q_top (v2 := .int (xs (iq + 1))) (congrArg (fun z => Value.int (xs z)) (nI_clamp (by omega))) ?_
  refine q_kI2 (q_rV (As := [.int (xs (iq + 1))]) (rest := []) (x := 0) hC hW mw_X5_letter gw_201 (k_letter l G n ad H.size I L R (xs (iq + 1)) w K ro hc hi sv pn ch hA) (by omega) (ct_o5 kd_0) rfl ⟨rfl, rfl⟩ ⟨Nat.le_of_ble_eq_true rfl, Nat.le_of_ble_eq_true rfl⟩ ⟨(by show _ ≤ 600000; omega), (by show _ ≤ 7302250; omega)⟩ hl.1 rfl rfl (Nat.le_of_ble_eq_true rfl) dL_law_294) hW (fun r_294 n_294 ad_294 I_294 L_294 R_294 H locs hp hW => ?_)
  obtain ⟨hz5, hA5, ⟨hn5, hag5⟩, hf5⟩ := hp
  have hA5 : InvA n_294 I_294 L_294 R_294 _ := hA5
  have hn5 : n ≤ n_294 := hn5
  have hag5 : ∀ k, k < n → ad_294 k = ad k := hag5
  have hf5 : ∀ a, 71 ≤ a → a < 83 → I_294 a = I a ∧ L_294 a = L a := hf5
  have hB5 : InvB n_294 I_294 R_294 ((w, K, ro), hc, hi, sv, pn, ch) := InvB_fr hB hA5.1 hA5.2.1 (fun a h1 h2 => (hf5 a h1 h2).1)
  have hn : 83 ≤ n_294 := hA5.1
  have hl : lv_has ls 4 [(3, .int (nI (iq))), (2, .ref (ad_294 71)), (1, .ref (ad_294 0)), (0, .ref b)] := by rw [hag5 0 (by omega), hag5 71 (by omega)]; exact hl
  refine lv_aload_n hx hb dL_law_297 rfl (lv_at hl 1 rfl) ?_
  refine lv_aload_n hx hb dL_law_298 rfl (lv_at hl 3 rfl) ?_
  refine lv_iload_n hx hb dL_law_299 rfl (lv_at hl 0 rfl) ?_
  refine q_ic 1 hx hb dL_law_300 (by decide) ?_
  refine q_iadd hx hb dL_law_301 ?_
  refine va_sld hC.1 hC.2.1 hX hbl hbA hW.2.2.2.1 (in_k (i := iq + 1) (by omega) hLx) dL_law_302 ?_
  refine q_top (v2 := .int (xs (iq + 1))) (congrArg (fun z => Value.int (xs z)) (nI_clamp (by omega))) ?_
  refine q_kI1 (q_rV (As := [.int (xs (iq + 1))]) (rest := [.int (r_294)]) (x := 71) hC hW mw_X6_letter gw_562 (k_rletter l G n_294 ad_294 H.size I_294 L_294 R_294 (xs (iq + 1)) w K ro hc hi sv pn ch hB5) (by omega) (ct_o6 kd_71) rfl ⟨rfl, rfl⟩ ⟨Nat.le_of_ble_eq_true rfl, Nat.le_of_ble_eq_true rfl⟩ ⟨(by show _ ≤ 600000; omega), (by show _ ≤ 7302250; omega)⟩ hl.1 rfl rfl (Nat.le_of_ble_eq_true rfl) dL_law_303) hW (fun r_303 I_303 L_303 H locs hp hW => ?_)
  obtain ⟨hz6, hB6, hf6⟩ := hp
  have hA6 : InvA n_294 I_303 L_303 R_294 _ := InvA_fr hA5 hf6
  refine lv_icmp_eq (tgt := 855) hx hb dL_law_306 (by decide) (fun c_306 => ?_) (fun c_306 => absurd (hz5.trans hz6.symm) c_306)
  refine q_more (c2 := cells + 3) (s2 := slots + 67) (by omega) (by omega) ?_
  exact kk _ _ _ _ _ _ _ _ ls hW hA6 hB6 hl
set_option maxRecDepth 100000 in
set_option maxHeartbeats 4000000 in
theorem law_c5 {p : Program} {e : Env} {s : State} {m : MethodId} {below : List Frame} {meth : Method} {c : Code} {Q : State → Prop} (l : Launch) {b Lx : Nat} {xs : Nat → Int32} (hC : CallFix p m c cL_law 4 s #[Value.ref b] GW "CoinRowsLaw") (hX : va_X b Lx xs s s.heap) (hbl : b < s.heap.size) (hLx : Lx ≤ 2560) {G : Gx} {n : Nat} {ad : Nat → Nat} {I : Ic} {L : Lc} {R : Rc} {H : Heap} {locs : List Loc} {cells slots iq : Nat} {S : ST} (hcc : cells + 3 ≤ 600000) (hss : slots + 67 ≤ 7302250) (hiq : iq + 5 ≤ Lx) (hW : Wd G n ad I L R (fun q => s.heap.size ≤ q) s.heap H locs s) (hA : InvA n I L R S) (hB : InvB n I R S) (ls : Array Slot) (hl : lv_has ls 4 [(3, .int (nI iq)), (2, .ref (ad 71)), (1, .ref (ad 0)), (0, .ref b)]) (kk : ∀ (n1 : Nat) (ad1 : Nat → Nat) (I1 : Ic) (L1 : Lc) (R1 : Rc) (S1 : ST) (H1 : Heap) (locs1 : List Loc) (ls1 : Array Slot), Wd G n1 ad1 I1 L1 R1 (fun q => s.heap.size ≤ q) s.heap H1 locs1 s → InvA n1 I1 L1 R1 S1 → InvB n1 I1 R1 S1 → lv_has ls1 4 [(3, .int (nI iq)), (2, .ref (ad1 71)), (1, .ref (ad1 0)), (0, .ref b)] → W p l e room_1 s m #[Value.ref b] below meth c H1 locs1 (cells + 3) (slots + 67) Q (F0 m 855 ls1 [])) : W p l e room_1 s m #[Value.ref b] below meth c H locs cells slots Q (F0 m 311 ls []) := by
  obtain ⟨⟨w, K, ro⟩, hc, hi, sv, pn, ch⟩ := S
  have hx := hC.1
  have hb := hC.2.1
  have hbA : ¬ (fun q : Nat => s.heap.size ≤ q) b := Nat.not_le.mpr hbl
  have hn : 83 ≤ n := hA.1
  refine lv_aload_n hx hb dL_law_311 rfl (lv_at hl 2 rfl) ?_
  refine q_kI2 (q_rV (As := []) (rest := []) (x := 0) hC hW mw_X5_train gw_209 (k_train l G n ad H.size I L R  w K ro hc hi sv pn ch hA) (by omega) (ct_o5 kd_0) rfl ⟨rfl, rfl⟩ ⟨Nat.le_of_ble_eq_true rfl, Nat.le_of_ble_eq_true rfl⟩ ⟨(by show _ ≤ 600000; omega), (by show _ ≤ 7302250; omega)⟩ hl.1 rfl rfl (Nat.le_of_ble_eq_true rfl) dL_law_312) hW (fun r_312 n_312 ad_312 I_312 L_312 R_312 H locs hp hW => ?_)
  obtain ⟨hz5, hA5, ⟨hn5, hag5⟩, hf5⟩ := hp
  have hA5 : InvA n_312 I_312 L_312 R_312 _ := hA5
  have hn5 : n ≤ n_312 := hn5
  have hag5 : ∀ k, k < n → ad_312 k = ad k := hag5
  have hf5 : ∀ a, 71 ≤ a → a < 83 → I_312 a = I a ∧ L_312 a = L a := hf5
  have hB5 : InvB n_312 I_312 R_312 ((w, K, ro), hc, hi, sv, pn, ch) := InvB_fr hB hA5.1 hA5.2.1 (fun a h1 h2 => (hf5 a h1 h2).1)
  have hn : 83 ≤ n_312 := hA5.1
  have hl : lv_has ls 4 [(3, .int (nI (iq))), (2, .ref (ad_312 71)), (1, .ref (ad_312 0)), (0, .ref b)] := by rw [hag5 0 (by omega), hag5 71 (by omega)]; exact hl
  refine lv_aload_n hx hb dL_law_315 rfl (lv_at hl 1 rfl) ?_
  refine q_kI1 (q_rV (As := []) (rest := [.int (r_312)]) (x := 71) hC hW mw_X6_train gw_696 (k_rtrain l G n_312 ad_312 H.size I_312 L_312 R_312  w K ro hc hi sv pn ch hB5) (by omega) (ct_o6 kd_71) rfl ⟨rfl, rfl⟩ ⟨Nat.le_of_ble_eq_true rfl, Nat.le_of_ble_eq_true rfl⟩ ⟨(by show _ ≤ 600000; omega), (by show _ ≤ 7302250; omega)⟩ hl.1 rfl rfl (Nat.le_of_ble_eq_true rfl) dL_law_316) hW (fun r_316 I_316 L_316 H locs hp hW => ?_)
  obtain ⟨hz6, hB6, hf6⟩ := hp
  have hA6 : InvA n_312 I_316 L_316 R_312 _ := InvA_fr hA5 hf6
  refine lv_icmp_eq (tgt := 855) hx hb dL_law_319 (by decide) (fun c_319 => ?_) (fun c_319 => absurd (hz5.trans hz6.symm) c_319)
  refine q_more (c2 := cells + 3) (s2 := slots + 67) (by omega) (by omega) ?_
  exact kk _ _ _ _ _ _ _ _ ls hW hA6 hB6 hl
set_option maxRecDepth 100000 in
set_option maxHeartbeats 4000000 in
theorem law_c6 {p : Program} {e : Env} {s : State} {m : MethodId} {below : List Frame} {meth : Method} {c : Code} {Q : State → Prop} (l : Launch) {b Lx : Nat} {xs : Nat → Int32} (hC : CallFix p m c cL_law 4 s #[Value.ref b] GW "CoinRowsLaw") (hX : va_X b Lx xs s s.heap) (hbl : b < s.heap.size) (hLx : Lx ≤ 2560) {G : Gx} {n : Nat} {ad : Nat → Nat} {I : Ic} {L : Lc} {R : Rc} {H : Heap} {locs : List Loc} {cells slots iq : Nat} {S : ST} (hcc : cells + 3 ≤ 600000) (hss : slots + 67 ≤ 7302250) (hiq : iq + 5 ≤ Lx) (hW : Wd G n ad I L R (fun q => s.heap.size ≤ q) s.heap H locs s) (hA : InvA n I L R S) (hB : InvB n I R S) (ls : Array Slot) (hl : lv_has ls 4 [(3, .int (nI iq)), (2, .ref (ad 71)), (1, .ref (ad 0)), (0, .ref b)]) (kk : ∀ (n1 : Nat) (ad1 : Nat → Nat) (I1 : Ic) (L1 : Lc) (R1 : Rc) (S1 : ST) (H1 : Heap) (locs1 : List Loc) (ls1 : Array Slot), Wd G n1 ad1 I1 L1 R1 (fun q => s.heap.size ≤ q) s.heap H1 locs1 s → InvA n1 I1 L1 R1 S1 → InvB n1 I1 R1 S1 → lv_has ls1 4 [(3, .int (nI iq)), (2, .ref (ad1 71)), (1, .ref (ad1 0)), (0, .ref b)] → W p l e room_1 s m #[Value.ref b] below meth c H1 locs1 (cells + 3) (slots + 67) Q (F0 m 855 ls1 [])) : W p l e room_1 s m #[Value.ref b] below meth c H locs cells slots Q (F0 m 324 ls []) := by
  obtain ⟨⟨w, K, ro⟩, hc, hi, sv, pn, ch⟩ := S
  have hx := hC.1
  have hb := hC.2.1
  have hbA : ¬ (fun q : Nat => s.heap.size ≤ q) b := Nat.not_le.mpr hbl
  have hn : 83 ≤ n := hA.1
  refine lv_aload_n hx hb dL_law_324 rfl (lv_at hl 2 rfl) ?_
  refine lv_aload_n hx hb dL_law_325 rfl (lv_at hl 3 rfl) ?_
  refine lv_iload_n hx hb dL_law_326 rfl (lv_at hl 0 rfl) ?_
  refine q_ic 1 hx hb dL_law_327 (by decide) ?_
  refine q_iadd hx hb dL_law_328 ?_
  refine va_sld hC.1 hC.2.1 hX hbl hbA hW.2.2.2.1 (in_k (i := iq + 1) (by omega) hLx) dL_law_329 ?_
  refine q_top (v2 := .int (xs (iq + 1))) (congrArg (fun z => Value.int (xs z)) (nI_clamp (by omega))) ?_
  refine lv_i2l (v := (xs (iq + 1)).toInt64) hx hb dL_law_330 rfl ?_
  refine q_bp 32 hx hb dL_law_331 (by decide) ?_
  refine lv_lshl (v := ((xs (iq + 1)).toInt64) <<< ((nI 32).toInt64 &&& 63)) hx hb dL_law_333 rfl ?_
  refine lv_aload_n hx hb dL_law_334 rfl (lv_at hl 3 rfl) ?_
  refine lv_iload_n hx hb dL_law_335 rfl (lv_at hl 0 rfl) ?_
  refine q_ic 2 hx hb dL_law_336 (by decide) ?_
  refine q_iadd hx hb dL_law_337 ?_
  refine va_sld hC.1 hC.2.1 hX hbl hbA hW.2.2.2.1 (in_k (i := iq + 2) (by omega) hLx) dL_law_338 ?_
  refine q_top (v2 := .int (xs (iq + 2))) (congrArg (fun z => Value.int (xs z)) (nI_clamp (by omega))) ?_
  refine lv_i2l (v := (xs (iq + 2)).toInt64) hx hb dL_law_339 rfl ?_
  refine lv_ldc2 (v := lN 4294967295) hx hb hC.2.2.2.1 (hC.2.2.2.2 _ gw_756) dL_law_340 ?_
  refine lv_land hx hb dL_law_343 ?_
  refine lv_lor hx hb dL_law_344 ?_
  obtain ⟨X, hX64, hE⟩ := wb_of ((((xs (iq + 1)).toInt64) <<< ((nI 32).toInt64 &&& 63)) ||| (((xs (iq + 2)).toInt64) &&& (lN 4294967295)))
  refine q_top (v2 := .long (lN (X))) (congrArg Value.long hE) ?_
  refine q_kI2 (q_rV (As := [.long (lN (X))]) (rest := []) (x := 0) hC hW mw_X5_put gw_277 (k_put l G n ad H.size I L R X hX64 w K ro hc hi sv pn ch hA) (by omega) (ct_o5 kd_0) rfl ⟨rfl, rfl⟩ ⟨Nat.le_of_ble_eq_true rfl, Nat.le_of_ble_eq_true rfl⟩ ⟨(by show _ ≤ 600000; omega), (by show _ ≤ 7302250; omega)⟩ hl.1 rfl rfl (Nat.le_of_ble_eq_true rfl) dL_law_345) hW (fun r_345 n_345 ad_345 I_345 L_345 R_345 H locs hp hW => ?_)
  obtain ⟨hz5, hA5, ⟨hn5, hag5⟩, hf5⟩ := hp
  have hA5 : InvA n_345 I_345 L_345 R_345 _ := hA5
  have hn5 : n ≤ n_345 := hn5
  have hag5 : ∀ k, k < n → ad_345 k = ad k := hag5
  have hf5 : ∀ a, 71 ≤ a → a < 83 → I_345 a = I a ∧ L_345 a = L a := hf5
  have hB5 : InvB n_345 I_345 R_345 ((w, K, ro), hc, hi, sv, pn, ch) := InvB_fr hB hA5.1 hA5.2.1 (fun a h1 h2 => (hf5 a h1 h2).1)
  have hn : 83 ≤ n_345 := hA5.1
  have hl : lv_has ls 4 [(3, .int (nI (iq))), (2, .ref (ad_345 71)), (1, .ref (ad_345 0)), (0, .ref b)] := by rw [hag5 0 (by omega), hag5 71 (by omega)]; exact hl
  refine lv_aload_n hx hb dL_law_348 rfl (lv_at hl 1 rfl) ?_
  refine lv_aload_n hx hb dL_law_349 rfl (lv_at hl 3 rfl) ?_
  refine lv_iload_n hx hb dL_law_350 rfl (lv_at hl 0 rfl) ?_
  refine q_ic 1 hx hb dL_law_351 (by decide) ?_
  refine q_iadd hx hb dL_law_352 ?_
  refine va_sld hC.1 hC.2.1 hX hbl hbA hW.2.2.2.1 (in_k (i := iq + 1) (by omega) hLx) dL_law_353 ?_
  refine q_top (v2 := .int (xs (iq + 1))) (congrArg (fun z => Value.int (xs z)) (nI_clamp (by omega))) ?_
  refine lv_i2l (v := (xs (iq + 1)).toInt64) hx hb dL_law_354 rfl ?_
  refine q_bp 32 hx hb dL_law_355 (by decide) ?_
  refine lv_lshl (v := ((xs (iq + 1)).toInt64) <<< ((nI 32).toInt64 &&& 63)) hx hb dL_law_357 rfl ?_
  refine lv_aload_n hx hb dL_law_358 rfl (lv_at hl 3 rfl) ?_
  refine lv_iload_n hx hb dL_law_359 rfl (lv_at hl 0 rfl) ?_
  refine q_ic 2 hx hb dL_law_360 (by decide) ?_
  refine q_iadd hx hb dL_law_361 ?_
  refine va_sld hC.1 hC.2.1 hX hbl hbA hW.2.2.2.1 (in_k (i := iq + 2) (by omega) hLx) dL_law_362 ?_
  refine q_top (v2 := .int (xs (iq + 2))) (congrArg (fun z => Value.int (xs z)) (nI_clamp (by omega))) ?_
  refine lv_i2l (v := (xs (iq + 2)).toInt64) hx hb dL_law_363 rfl ?_
  refine lv_ldc2 (v := lN 4294967295) hx hb hC.2.2.2.1 (hC.2.2.2.2 _ gw_756) dL_law_364 ?_
  refine lv_land hx hb dL_law_367 ?_
  refine lv_lor hx hb dL_law_368 ?_
  refine q_top (v2 := .long (lN (X))) (congrArg Value.long hE) ?_
  refine q_kI1 (q_rV (As := [.long (lN (X))]) (rest := [.int (r_345)]) (x := 71) hC hW mw_X6_put gw_719 (k_rput l G n_345 ad_345 H.size I_345 L_345 R_345 X hX64 w K ro hc hi sv pn ch hB5) (by omega) (ct_o6 kd_71) rfl ⟨rfl, rfl⟩ ⟨Nat.le_of_ble_eq_true rfl, Nat.le_of_ble_eq_true rfl⟩ ⟨(by show _ ≤ 600000; omega), (by show _ ≤ 7302250; omega)⟩ hl.1 rfl rfl (Nat.le_of_ble_eq_true rfl) dL_law_369) hW (fun r_369 I_369 L_369 H locs hp hW => ?_)
  obtain ⟨hz6, hB6, hf6⟩ := hp
  have hA6 : InvA n_345 I_369 L_369 R_345 _ := InvA_fr hA5 hf6
  refine lv_icmp_eq (tgt := 855) hx hb dL_law_372 (by decide) (fun c_372 => ?_) (fun c_372 => absurd (hz5.trans hz6.symm) c_372)
  refine q_more (c2 := cells + 3) (s2 := slots + 67) (by omega) (by omega) ?_
  exact kk _ _ _ _ _ _ _ _ ls hW hA6 hB6 hl
set_option maxRecDepth 100000 in
set_option maxHeartbeats 4000000 in
theorem law_c7 {p : Program} {e : Env} {s : State} {m : MethodId} {below : List Frame} {meth : Method} {c : Code} {Q : State → Prop} (l : Launch) {b Lx : Nat} {xs : Nat → Int32} (hC : CallFix p m c cL_law 4 s #[Value.ref b] GW "CoinRowsLaw") (hX : va_X b Lx xs s s.heap) (hbl : b < s.heap.size) (hLx : Lx ≤ 2560) {G : Gx} {n : Nat} {ad : Nat → Nat} {I : Ic} {L : Lc} {R : Rc} {H : Heap} {locs : List Loc} {cells slots iq : Nat} {S : ST} (hcc : cells + 3 ≤ 600000) (hss : slots + 67 ≤ 7302250) (hiq : iq + 5 ≤ Lx) (hW : Wd G n ad I L R (fun q => s.heap.size ≤ q) s.heap H locs s) (hA : InvA n I L R S) (hB : InvB n I R S) (ls : Array Slot) (hl : lv_has ls 4 [(3, .int (nI iq)), (2, .ref (ad 71)), (1, .ref (ad 0)), (0, .ref b)]) (kk : ∀ (n1 : Nat) (ad1 : Nat → Nat) (I1 : Ic) (L1 : Lc) (R1 : Rc) (S1 : ST) (H1 : Heap) (locs1 : List Loc) (ls1 : Array Slot), Wd G n1 ad1 I1 L1 R1 (fun q => s.heap.size ≤ q) s.heap H1 locs1 s → InvA n1 I1 L1 R1 S1 → InvB n1 I1 R1 S1 → lv_has ls1 4 [(3, .int (nI iq)), (2, .ref (ad1 71)), (1, .ref (ad1 0)), (0, .ref b)] → W p l e room_1 s m #[Value.ref b] below meth c H1 locs1 (cells + 3) (slots + 67) Q (F0 m 855 ls1 [])) : W p l e room_1 s m #[Value.ref b] below meth c H locs cells slots Q (F0 m 377 ls []) := by
  obtain ⟨⟨w, K, ro⟩, hc, hi, sv, pn, ch⟩ := S
  have hx := hC.1
  have hb := hC.2.1
  have hbA : ¬ (fun q : Nat => s.heap.size ≤ q) b := Nat.not_le.mpr hbl
  have hn : 83 ≤ n := hA.1
  refine lv_aload_n hx hb dL_law_377 rfl (lv_at hl 2 rfl) ?_
  refine q_kI2 (q_rV (As := []) (rest := []) (x := 0) hC hW mw_X5_wipe gw_291 (k_wipe l G n ad H.size I L R  w K ro hc hi sv pn ch hA) (by omega) (ct_o5 kd_0) rfl ⟨rfl, rfl⟩ ⟨Nat.le_of_ble_eq_true rfl, Nat.le_of_ble_eq_true rfl⟩ ⟨(by show _ ≤ 600000; omega), (by show _ ≤ 7302250; omega)⟩ hl.1 rfl rfl (Nat.le_of_ble_eq_true rfl) dL_law_378) hW (fun r_378 n_378 ad_378 I_378 L_378 R_378 H locs hp hW => ?_)
  obtain ⟨hz5, hA5, ⟨hn5, hag5⟩, hf5⟩ := hp
  have hA5 : InvA n_378 I_378 L_378 R_378 _ := hA5
  have hn5 : n ≤ n_378 := hn5
  have hag5 : ∀ k, k < n → ad_378 k = ad k := hag5
  have hf5 : ∀ a, 71 ≤ a → a < 83 → I_378 a = I a ∧ L_378 a = L a := hf5
  have hB5 : InvB n_378 I_378 R_378 ((w, K, ro), hc, hi, sv, pn, ch) := InvB_fr hB hA5.1 hA5.2.1 (fun a h1 h2 => (hf5 a h1 h2).1)
  have hn : 83 ≤ n_378 := hA5.1
  have hl : lv_has ls 4 [(3, .int (nI (iq))), (2, .ref (ad_378 71)), (1, .ref (ad_378 0)), (0, .ref b)] := by rw [hag5 0 (by omega), hag5 71 (by omega)]; exact hl
  refine lv_aload_n hx hb dL_law_381 rfl (lv_at hl 1 rfl) ?_
  refine q_kI1 (q_rV (As := []) (rest := [.int (r_378)]) (x := 71) hC hW mw_X6_wipe gw_724 (k_rwipe l G n_378 ad_378 H.size I_378 L_378 R_378  w K ro hc hi sv pn ch hB5) (by omega) (ct_o6 kd_71) rfl ⟨rfl, rfl⟩ ⟨Nat.le_of_ble_eq_true rfl, Nat.le_of_ble_eq_true rfl⟩ ⟨(by show _ ≤ 600000; omega), (by show _ ≤ 7302250; omega)⟩ hl.1 rfl rfl (Nat.le_of_ble_eq_true rfl) dL_law_382) hW (fun r_382 I_382 L_382 H locs hp hW => ?_)
  obtain ⟨hz6, hB6, hf6⟩ := hp
  have hA6 : InvA n_378 I_382 L_382 R_378 _ := InvA_fr hA5 hf6
  refine lv_icmp_eq (tgt := 855) hx hb dL_law_385 (by decide) (fun c_385 => ?_) (fun c_385 => absurd (hz5.trans hz6.symm) c_385)
  refine q_more (c2 := cells + 3) (s2 := slots + 67) (by omega) (by omega) ?_
  exact kk _ _ _ _ _ _ _ _ ls hW hA6 hB6 hl
set_option maxRecDepth 100000 in
set_option maxHeartbeats 4000000 in
theorem law_c8 {p : Program} {e : Env} {s : State} {m : MethodId} {below : List Frame} {meth : Method} {c : Code} {Q : State → Prop} (l : Launch) {b Lx : Nat} {xs : Nat → Int32} (hC : CallFix p m c cL_law 4 s #[Value.ref b] GW "CoinRowsLaw") (hX : va_X b Lx xs s s.heap) (hbl : b < s.heap.size) (hLx : Lx ≤ 2560) {G : Gx} {n : Nat} {ad : Nat → Nat} {I : Ic} {L : Lc} {R : Rc} {H : Heap} {locs : List Loc} {cells slots iq : Nat} {S : ST} (hcc : cells + 3 ≤ 600000) (hss : slots + 67 ≤ 7302250) (hiq : iq + 5 ≤ Lx) (hW : Wd G n ad I L R (fun q => s.heap.size ≤ q) s.heap H locs s) (hA : InvA n I L R S) (hB : InvB n I R S) (ls : Array Slot) (hl : lv_has ls 4 [(3, .int (nI iq)), (2, .ref (ad 71)), (1, .ref (ad 0)), (0, .ref b)]) (kk : ∀ (n1 : Nat) (ad1 : Nat → Nat) (I1 : Ic) (L1 : Lc) (R1 : Rc) (S1 : ST) (H1 : Heap) (locs1 : List Loc) (ls1 : Array Slot), Wd G n1 ad1 I1 L1 R1 (fun q => s.heap.size ≤ q) s.heap H1 locs1 s → InvA n1 I1 L1 R1 S1 → InvB n1 I1 R1 S1 → lv_has ls1 4 [(3, .int (nI iq)), (2, .ref (ad1 71)), (1, .ref (ad1 0)), (0, .ref b)] → W p l e room_1 s m #[Value.ref b] below meth c H1 locs1 (cells + 3) (slots + 67) Q (F0 m 855 ls1 [])) : W p l e room_1 s m #[Value.ref b] below meth c H locs cells slots Q (F0 m 390 ls []) := by
  obtain ⟨⟨w, K, ro⟩, hc, hi, sv, pn, ch⟩ := S
  have hx := hC.1
  have hb := hC.2.1
  have hbA : ¬ (fun q : Nat => s.heap.size ≤ q) b := Nat.not_le.mpr hbl
  have hn : 83 ≤ n := hA.1
  refine lv_aload_n hx hb dL_law_390 rfl (lv_at hl 2 rfl) ?_
  refine q_kI2 (q_rV (As := []) (rest := []) (x := 0) hC hW mw_X5_fault gw_299 (k_fault l G n ad H.size I L R  w K ro hc hi sv pn ch hA) (by omega) (ct_o5 kd_0) rfl ⟨rfl, rfl⟩ ⟨Nat.le_of_ble_eq_true rfl, Nat.le_of_ble_eq_true rfl⟩ ⟨(by show _ ≤ 600000; omega), (by show _ ≤ 7302250; omega)⟩ hl.1 rfl rfl (Nat.le_of_ble_eq_true rfl) dL_law_391) hW (fun r_391 n_391 ad_391 I_391 L_391 R_391 H locs hp hW => ?_)
  obtain ⟨hz5, hA5, ⟨hn5, hag5⟩, hf5⟩ := hp
  have hA5 : InvA n_391 I_391 L_391 R_391 _ := hA5
  have hn5 : n ≤ n_391 := hn5
  have hag5 : ∀ k, k < n → ad_391 k = ad k := hag5
  have hf5 : ∀ a, 71 ≤ a → a < 83 → I_391 a = I a ∧ L_391 a = L a := hf5
  have hB5 : InvB n_391 I_391 R_391 ((w, K, ro), hc, hi, sv, pn, ch) := InvB_fr hB hA5.1 hA5.2.1 (fun a h1 h2 => (hf5 a h1 h2).1)
  have hn : 83 ≤ n_391 := hA5.1
  have hl : lv_has ls 4 [(3, .int (nI (iq))), (2, .ref (ad_391 71)), (1, .ref (ad_391 0)), (0, .ref b)] := by rw [hag5 0 (by omega), hag5 71 (by omega)]; exact hl
  refine lv_aload_n hx hb dL_law_394 rfl (lv_at hl 1 rfl) ?_
  refine q_kI1 (q_rV (As := []) (rest := [.int (r_391)]) (x := 71) hC hW mw_X6_fault gw_728 (k_rfault l G n_391 ad_391 H.size I_391 L_391 R_391  w K ro hc hi sv pn ch hB5) (by omega) (ct_o6 kd_71) rfl ⟨rfl, rfl⟩ ⟨Nat.le_of_ble_eq_true rfl, Nat.le_of_ble_eq_true rfl⟩ ⟨(by show _ ≤ 600000; omega), (by show _ ≤ 7302250; omega)⟩ hl.1 rfl rfl (Nat.le_of_ble_eq_true rfl) dL_law_395) hW (fun r_395 I_395 L_395 H locs hp hW => ?_)
  obtain ⟨hz6, hB6, hf6⟩ := hp
  have hA6 : InvA n_391 I_395 L_395 R_391 _ := InvA_fr hA5 hf6
  refine lv_icmp_eq (tgt := 855) hx hb dL_law_398 (by decide) (fun c_398 => ?_) (fun c_398 => absurd (hz5.trans hz6.symm) c_398)
  refine q_more (c2 := cells + 3) (s2 := slots + 67) (by omega) (by omega) ?_
  exact kk _ _ _ _ _ _ _ _ ls hW hA6 hB6 hl
