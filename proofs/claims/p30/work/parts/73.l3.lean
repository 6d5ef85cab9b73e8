set_option maxRecDepth 100000 in
set_option maxHeartbeats 4000000 in
theorem k_areAhead (l : Launch) (G : Gx) (ad : Nat → Nat) (sz : Nat) (I : Ic) (L : Lc) (R : Rc)  (w : Nat → Nat) (K : Nat) (ro : Nat → Nat) (hc : Nat) (hi : Nat → CM) (sv : Nat → Option CM) (pn : Nat) (ch : Nat → Nat) (hA : InvA 73 I L R ((w, K, ro), hc, hi, sv, pn, ch)) (hNR : NoR R 71 73) : Met l yL_areAhead (Cond.code yL_areAhead cL_areAhead 12 (some .boolean) :: GW) ({ frames := 8, cells := 1, slots := 24, locals := 288 } : Room) (qPre G 73 ad sz I L R [.ref (ad 0), .ref (ad 71), .ref (ad 72)]) (qI2 G (qA 73 ad sz) (fun z u => z = nI 1 ∧ AhP w ro K ((w, K, ro), hc, hi, sv, pn, ch) ad u)) 1 24 (qA 73 ad sz) := by
  refine q_met (by decide) (Nat.le_of_ble_eq_true rfl) ?_
  intro p_ e_ s m_ below meth c_ hC hr hlk0 hin hsz hW ls hl
  subst hsz
  have hC : CallFix p_ m_ c_ cL_areAhead 12 s ([.ref (ad 0), .ref (ad 71), .ref (ad 72)] : List Value).toArray GW "CoinRowsLaw" := hC
  have hx := hC.1
  have hb := hC.2.1
  have hw : Wok w := hA.2.2.1.2.2.2.2.1
  have hw3 : ∀ i, w i ≤ 3 := hw.1
  have hk6 : K ≤ 6 := hA.2.2.1.2.2.2.1
  have hr4 : ∀ j, ro j < 4 := hA.2.2.1.2.2.2.2.2
  have hn71 := hA.1
  have hT63 : Sx' w K ro K 6 < 2 ^ 63 := Nat.lt_of_le_of_lt (Sx_b hw K K 6 hk6) (by decide)
  have hC31 : Cx' w K ro K 6 < 2 ^ 31 := Nat.lt_of_le_of_lt (Cx_b hw K K 6 hk6) (by decide)
  have hG : Fr7 I I L L R R := fr_0
  have hl : lv_has ls 12 [(0, .ref (ad 0)), (1, .ref (ad 71)), (2, .ref (ad 72))] := hl
  refine lv_aload_n hx hb dL_areAhead_0 rfl (lv_at hl 0 rfl) ?_
  refine q_ic 0 hx hb dL_areAhead_1 (by decide) ?_
  refine q_kI2 (q_rV (As := [.int (nI 0)]) (rest := []) (x := 0) hC hW mw_X5_count gw_172 (k_count l G 73 ad s.heap.size I L R (nI 0) w K ro hc hi sv pn ch hA) (by omega) (ct_o5 kd_0) rfl ⟨rfl, rfl⟩ ⟨Nat.le_of_ble_eq_true rfl, Nat.le_of_ble_eq_true rfl⟩ ⟨(Nat.le_of_ble_eq_true rfl), (Nat.le_of_ble_eq_true rfl)⟩ hl.1 rfl rfl (Nat.le_of_ble_eq_true rfl) dL_areAhead_2) hW (fun r_2 n_2 ad_2 I_2 L_2 R_2 H locs hp hW => ?_)
  obtain ⟨hz, rfl, rfl, hA, hF⟩ := PR_use hp
  have hG := fr_t hF hG
  have hcl : Cl 73 R_2 := Cl_of (InvA_cl hA) (fr_n hG hNR) (by decide)
  have hz : r_2 = nI K := hz.trans (aC0 (S := ((w, K, ro), hc, hi, sv, pn, ch)))
  subst hz
  refine lv_istore_n (lv' := [(3, .int (nI (K))), (0, .ref (ad 0)), (1, .ref (ad 71)), (2, .ref (ad 72))]) hx hb dL_areAhead_5 rfl hl (by decide) rfl (fun ls hl => ?_)
  refine q_bp 24 hx hb dL_areAhead_6 (by decide) ?_
  refine q_nwi hC hW hcl kd_73 (Nat.le_of_ble_eq_true rfl) (Nat.le_of_ble_eq_true rfl) dL_areAhead_8 (fun ad_8 H hag_8 hcl_8 hW => ?_)
  have hl : lv_has ls 12 [(3, .int (nI (K))), (0, .ref (ad_8 0)), (1, .ref (ad_8 71)), (2, .ref (ad_8 72))] := by rw [hag_8 0 (by omega), hag_8 71 (by omega), hag_8 72 (by omega)]; exact hl
  have hA : InvA 74 (zr I_2 73 0) (zr L_2 73 0) (zr R_2 73 none) ((w, K, ro), hc, hi, sv, pn, ch) := InvA_hi (InvA_n hA (by decide)) (fun a ha => zr_ne (by omega)) (fun a ha => zr_ne (by omega)) (fun a ha => zr_ne (by omega))
  have hNR : NoR (zr R_2 73 none) 71 74 := fun a h1 h2 j => by rw [zr_at]; by_cases e : a = 73; (rw [if_pos e]); rw [if_neg e]; exact fr_n hG hNR a h1 (by omega) j
  have hAh := AhC_0 w ro ((zr L_2 73 0) 71)
  have hMa := MaC_0 w ro ((zr I_2 73 0) 73)
  have hG : Fr7 (zr I_2 73 0) (zr I_2 73 0) (zr L_2 73 0) (zr L_2 73 0) (zr R_2 73 none) (zr R_2 73 none) := fr_0
  refine lv_astore (lv' := [(4, .ref (ad_8 73)), (3, .int (nI (K))), (0, .ref (ad_8 0)), (1, .ref (ad_8 71)), (2, .ref (ad_8 72))]) hx hb dL_areAhead_10 hl (by decide) rfl (fun ls hl => ?_)
  refine q_ic 0 hx hb dL_areAhead_12 (by decide) ?_
  refine lv_istore (lv' := [(5, .int (nI 0)), (4, .ref (ad_8 73)), (3, .int (nI (K))), (0, .ref (ad_8 0)), (1, .ref (ad_8 71)), (2, .ref (ad_8 72))]) hx hb dL_areAhead_13 hl (by decide) rfl (fun ls hl => ?_)
  have lp_15 : ∀ (fu_15 : Nat) (p : Nat) (J15 : Ic) (M15 : Lc) (Q15 : Rc), K - p < fu_15 → (p ≤ K) → (InvA 74 J15 M15 Q15 ((w, K, ro), hc, hi, sv, pn, ch)) → (NoR Q15 71 74) → (AhC w ro p 0 (M15 71)) → (MaC w ro p 0 (J15 73)) → ∀ (H : Heap) (locs : List Loc), Wd G 74 ad_8 J15 M15 Q15 (qA 73 ad s.heap.size) s.heap H locs s → ∀ ls : Array Slot, lv_has ls 12 [(0, .ref (ad_8 0)), (1, .ref (ad_8 71)), (2, .ref (ad_8 72)), (3, .int (nI (K))), (4, .ref (ad_8 73)), (5, .int (nI (p)))] → W p_ l e_ ({ frames := 8, cells := 1, slots := 24, locals := 288 } : Room) s m_ ([.ref (ad 0), .ref (ad 71), .ref (ad 72)] : List Value).toArray below meth c_ H locs 1 24 (MQ below (qI2 G (qA 73 ad s.heap.size) (fun z u => z = nI 1 ∧ AhP w ro K ((w, K, ro), hc, hi, sv, pn, ch) ad u)) ([.ref (ad 0), .ref (ad 71), .ref (ad 72)] : List Value).toArray s 1 24 (qA 73 ad s.heap.size)) (F0 m_ 15 ls []) := by
    intro fu_15
    induction fu_15 with
    | zero =>
      intro p J15 M15 Q15 hm; exact absurd hm (Nat.not_lt_zero _)
    | succ fu_15 ih_15 =>
      intro p J15 M15 Q15 hm_15 hpK hA hNR hAh hMa H locs hW ls hl
      have hG : Fr7 J15 J15 M15 M15 Q15 Q15 := fr_0
      refine lv_iload hx hb dL_areAhead_15 (lv_at hl 5 rfl) ?_
      refine lv_iload_n hx hb dL_areAhead_17 rfl (lv_at hl 3 rfl) ?_
      refine q_cge (tgt := 220) hx hb dL_areAhead_18 (by decide) (by first | omega | exact Nat.lt_of_le_of_lt (hw3 _) (by decide) | exact Nat.lt_of_lt_of_le (hr4 _) (by decide) | exact Nat.lt_of_le_of_lt (bp_le _) (by decide) | assumption) (by first | omega | exact Nat.lt_of_le_of_lt (hw3 _) (by decide) | exact Nat.lt_of_lt_of_le (hr4 _) (by decide) | exact Nat.lt_of_le_of_lt (bp_le _) (by decide) | assumption) (fun c_18 => ?_) (fun c_18 => ?_)
      ·
        have epK : p = K := by omega
        have hAh : AhC w ro K 0 (M15 71) := by rw [← epK]; exact hAh
        have hMa : MaC w ro K 0 (J15 73) := by rw [← epK]; exact hMa
        rcases Nat.eq_zero_or_pos K with hK0 | hK0
        ·
          refine lv_iload_n hx hb dL_areAhead_220 rfl (lv_at hl 3 rfl) ?_
          refine q_ic 1 hx hb dL_areAhead_221 (by decide) ?_
          refine lv_isub hx hb dL_areAhead_222 ?_
          refine q_top (v2 := .int (-1)) (congrArg Value.int (show nI K - nI 1 = -1 from by rw [hK0]; decide)) ?_
          have hBe : BeC w ro K 0 0 (M15 72) := by have h := BeC_0 w ro K (M15 72); rw [hK0] at h ⊢; exact h
          refine lv_istore (lv' := [(5, .int (-1)), (0, .ref (ad_8 0)), (1, .ref (ad_8 71)), (2, .ref (ad_8 72)), (3, .int (nI (K))), (4, .ref (ad_8 73))]) hx hb dL_areAhead_223 hl (by decide) rfl (fun ls hl => ?_)
          refine lv_iload hx hb dL_areAhead_225 (lv_at hl 0 rfl) ?_
          refine lv_if_lt (tgt := 358) hx hb dL_areAhead_227 (by decide) (fun c_227 => ?_) (fun c_227 => absurd c_227 (by decide))
          refine lv_iload_n hx hb dL_areAhead_358 rfl (lv_at hl 4 rfl) ?_
          refine q_ine (tgt := 366) hx hb dL_areAhead_359 (by decide) (by first | omega | exact Nat.lt_of_le_of_lt (hw3 _) (by decide) | exact Nat.lt_of_lt_of_le (hr4 _) (by decide) | exact Nat.lt_of_le_of_lt (bp_le _) (by decide) | assumption) (fun c_359 => absurd c_359 (by have := hK0; omega)) (fun c_359 => ?_)
          refine q_lc 1 hx hb dL_areAhead_362 (by decide) ?_
          refine lv_goto (tgt := 367) hx hb dL_areAhead_363 (by decide) ?_
          refine lv_lstore (lv' := [(5, .long (lN 1)), (0, .ref (ad_8 0)), (1, .ref (ad_8 71)), (2, .ref (ad_8 72)), (3, .int (nI (K))), (4, .ref (ad_8 73))]) hx hb dL_areAhead_367 hl (by decide) rfl (fun ls hl => ?_)
          refine lv_iload_n hx hb dL_areAhead_369 rfl (lv_at hl 4 rfl) ?_
          refine q_ine (tgt := 377) hx hb dL_areAhead_370 (by decide) (by first | omega | exact Nat.lt_of_le_of_lt (hw3 _) (by decide) | exact Nat.lt_of_lt_of_le (hr4 _) (by decide) | exact Nat.lt_of_le_of_lt (bp_le _) (by decide) | assumption) (fun c_370 => absurd c_370 (by have := hK0; omega)) (fun c_370 => ?_)
          refine q_ic 1 hx hb dL_areAhead_373 (by decide) ?_
          refine lv_goto (tgt := 378) hx hb dL_areAhead_374 (by decide) ?_
          refine lv_istore (lv' := [(7, .int (nI 1)), (5, .long (lN 1)), (0, .ref (ad_8 0)), (1, .ref (ad_8 71)), (2, .ref (ad_8 72)), (3, .int (nI (K))), (4, .ref (ad_8 73))]) hx hb dL_areAhead_378 hl (by decide) rfl (fun ls hl => ?_)
          refine q_ic 0 hx hb dL_areAhead_380 (by decide) ?_
          refine lv_istore (lv' := [(8, .int (nI 0)), (7, .int (nI 1)), (5, .long (lN 1)), (0, .ref (ad_8 0)), (1, .ref (ad_8 71)), (2, .ref (ad_8 72)), (3, .int (nI (K))), (4, .ref (ad_8 73))]) hx hb dL_areAhead_381 hl (by decide) rfl (fun ls hl => ?_)
          refine lv_iload hx hb dL_areAhead_383 (lv_at hl 0 rfl) ?_
          refine q_ic 4 hx hb dL_areAhead_385 (by decide) ?_
          refine q_cge (tgt := 430) hx hb dL_areAhead_386 (by decide) (by first | omega | exact Nat.lt_of_le_of_lt (hw3 _) (by decide) | exact Nat.lt_of_lt_of_le (hr4 _) (by decide) | exact Nat.lt_of_le_of_lt (bp_le _) (by decide) | assumption) (by first | omega | exact Nat.lt_of_le_of_lt (hw3 _) (by decide) | exact Nat.lt_of_lt_of_le (hr4 _) (by decide) | exact Nat.lt_of_le_of_lt (bp_le _) (by decide) | assumption) (fun c_386 => absurd c_386 (by decide)) (fun c_386 => ?_)
          refine lv_iload_n hx hb dL_areAhead_389 rfl (lv_at hl 6 rfl) ?_
          refine q_ile (tgt := 430) hx hb dL_areAhead_390 (by decide) (by first | omega | exact Nat.lt_of_le_of_lt (hw3 _) (by decide) | exact Nat.lt_of_lt_of_le (hr4 _) (by decide) | exact Nat.lt_of_le_of_lt (bp_le _) (by decide) | assumption) (fun c_390 => ?_) (fun c_390 => absurd c_390 (by have := hK0; omega))
          have hl : lv_has ls 12 [(8, .int (nI 0)), (7, .int (nI (Cx' w K ro K 6))), (5, .long (lN (Sx' w K ro K 6))), (0, .ref (ad_8 0)), (1, .ref (ad_8 71)), (2, .ref (ad_8 72)), (3, .int (nI (K))), (4, .ref (ad_8 73))] := by rw [show Sx' w K ro K 6 = 1 from by rw [hK0]; exact Sx_z w ro, show Cx' w K ro K 6 = 1 from by rw [hK0]; rfl]; exact hl
          refine lv_aload_n hx hb dL_areAhead_430 rfl (lv_at hl 3 rfl) ?_
          refine q_kL2 (q_rV (As := []) (rest := []) (x := 0) hC hW mw_X5_total gw_243 (k_total l G 74 ad_8 H.size J15 M15 Q15 w K ro hc hi sv pn ch hA) (by omega) (ct_o5 kd_0) rfl ⟨rfl, rfl⟩ ⟨Nat.le_of_ble_eq_true rfl, Nat.le_of_ble_eq_true rfl⟩ ⟨(Nat.le_of_ble_eq_true rfl), (Nat.le_of_ble_eq_true rfl)⟩ hl.1 rfl rfl (Nat.le_of_ble_eq_true rfl) dL_areAhead_431) hW (fun r_431 n_431 ad_431 I_431 L_431 R_431 H locs hp hW => ?_)
          obtain ⟨hz, rfl, rfl, hA, hF⟩ := PRl_use hp
          have hG := fr_t hF hG
          have hz : r_431 = lN (Sx' w K ro K 6) := hz
          subst hz
          refine lv_lload hx hb dL_areAhead_434 (lv_at hl 2 rfl) ?_
          refine q_lcmp hx hb dL_areAhead_436 ?_
          refine q_Lne (tgt := 453) hx hb dL_areAhead_437 (by decide) (fun c_437 => absurd rfl c_437) (fun c_437 => ?_)
          refine lv_aload_n hx hb dL_areAhead_440 rfl (lv_at hl 3 rfl) ?_
          refine q_kI2 (q_rV (As := []) (rest := []) (x := 0) hC hW mw_X5_ways gw_251 (k_ways l G 74 ad_8 H.size I_431 L_431 R_431 w K ro hc hi sv pn ch hA) (by omega) (ct_o5 kd_0) rfl ⟨rfl, rfl⟩ ⟨Nat.le_of_ble_eq_true rfl, Nat.le_of_ble_eq_true rfl⟩ ⟨(Nat.le_of_ble_eq_true rfl), (Nat.le_of_ble_eq_true rfl)⟩ hl.1 rfl rfl (Nat.le_of_ble_eq_true rfl) dL_areAhead_441) hW (fun r_441 n_441 ad_441 I_441 L_441 R_441 H locs hp hW => ?_)
          obtain ⟨hz, rfl, rfl, hA, hF⟩ := PR_use hp
          have hG := fr_t hF hG
          have hz : r_441 = nI (Cx' w K ro K 6) := hz
          subst hz
          refine lv_iload hx hb dL_areAhead_444 (lv_at hl 1 rfl) ?_
          refine q_cne (tgt := 453) hx hb dL_areAhead_446 (by decide) (by first | omega | exact Nat.lt_of_le_of_lt (hw3 _) (by decide) | exact Nat.lt_of_lt_of_le (hr4 _) (by decide) | exact Nat.lt_of_le_of_lt (bp_le _) (by decide) | assumption) (by first | omega | exact Nat.lt_of_le_of_lt (hw3 _) (by decide) | exact Nat.lt_of_lt_of_le (hr4 _) (by decide) | exact Nat.lt_of_le_of_lt (bp_le _) (by decide) | assumption) (fun c_446 => absurd rfl c_446) (fun c_446 => ?_)
          refine q_ic 1 hx hb dL_areAhead_449 (by decide) ?_
          refine lv_goto (tgt := 454) hx hb dL_areAhead_450 (by decide) ?_
          have hAh := ahc (hG 71 (by decide)).2.1 hAh
          have hMa := mac (hG 73 (by decide)).1 hMa
          have hBe := bec (hG 72 (by decide)).2.1 hBe
          have hNR := fr_n hG hNR
          have hG : Fr7 I_441 I_441 L_441 L_441 R_441 R_441 := fr_0
          refine q_more (c2 := 1) (s2 := 24) (Nat.le_of_ble_eq_true rfl) (Nat.le_of_ble_eq_true rfl) ?_
          exact q_zret2 hC hW hr hlk0 rfl ⟨rfl, rfl, hag_8, hA, fun p c hp hc => hAh p c (Or.inl hp) hc, fun p c hp hc => hBe p c (Or.inl ⟨Nat.zero_le _, hp⟩) hc, hNR⟩ dL_areAhead_454
        ·
          refine lv_iload_n hx hb dL_areAhead_220 rfl (lv_at hl 3 rfl) ?_
          refine q_ic 1 hx hb dL_areAhead_221 (by decide) ?_
          refine q_isub hx hb dL_areAhead_222 (by omega) ?_
          refine lv_istore (lv' := [(5, .int (nI (K - 1))), (0, .ref (ad_8 0)), (1, .ref (ad_8 71)), (2, .ref (ad_8 72)), (3, .int (nI (K))), (4, .ref (ad_8 73))]) hx hb dL_areAhead_223 hl (by decide) rfl (fun ls hl => ?_)
          have hl : lv_has ls 12 [(5, .int (nI K - nI 1)), (0, .ref (ad_8 0)), (1, .ref (ad_8 71)), (2, .ref (ad_8 72)), (3, .int (nI (K))), (4, .ref (ad_8 73))] := by rw [show nI K - nI 1 = nI (K - 1) from pk_sub (by omega)]; exact hl
          have hBe := BeC_0 w ro K (M15 72)
          have lp_225 : ∀ (fu_225 : Nat) (j : Nat) (J225 : Ic) (M225 : Lc) (Q225 : Rc), j < fu_225 → (j ≤ K) → (InvA 74 J225 M225 Q225 ((w, K, ro), hc, hi, sv, pn, ch)) → (NoR Q225 71 74) → (AhC w ro K 0 (M225 71)) → (MaC w ro K 0 (J225 73)) → (BeC w ro K j 0 (M225 72)) → ∀ (H : Heap) (locs : List Loc), Wd G 74 ad_8 J225 M225 Q225 (qA 73 ad s.heap.size) s.heap H locs s → ∀ ls : Array Slot, lv_has ls 12 [(0, .ref (ad_8 0)), (1, .ref (ad_8 71)), (2, .ref (ad_8 72)), (3, .int (nI (K))), (4, .ref (ad_8 73)), (5, .int (nI j - nI 1))] → W p_ l e_ ({ frames := 8, cells := 1, slots := 24, locals := 288 } : Room) s m_ ([.ref (ad 0), .ref (ad 71), .ref (ad 72)] : List Value).toArray below meth c_ H locs 1 24 (MQ below (qI2 G (qA 73 ad s.heap.size) (fun z u => z = nI 1 ∧ AhP w ro K ((w, K, ro), hc, hi, sv, pn, ch) ad u)) ([.ref (ad 0), .ref (ad 71), .ref (ad 72)] : List Value).toArray s 1 24 (qA 73 ad s.heap.size)) (F0 m_ 225 ls []) := by
            intro fu_225
            induction fu_225 with
            | zero =>
              intro j J225 M225 Q225 hm; exact absurd hm (Nat.not_lt_zero _)
            | succ fu_225 ih_225 =>
              intro j J225 M225 Q225 hm_225 hjK hA hNR hAh hMa hBe H locs hW ls hl
              have hG : Fr7 J225 J225 M225 M225 Q225 Q225 := fr_0
              rcases Nat.eq_zero_or_pos j with hj0 | hj0
              ·
                subst hj0
                have hl : lv_has ls 12 [(0, .ref (ad_8 0)), (1, .ref (ad_8 71)), (2, .ref (ad_8 72)), (3, .int (nI (K))), (4, .ref (ad_8 73)), (5, .int (-1))] := hl
                refine lv_iload hx hb dL_areAhead_225 (lv_at hl 5 rfl) ?_
                refine lv_if_lt (tgt := 358) hx hb dL_areAhead_227 (by decide) (fun c_227 => ?_) (fun c_227 => absurd c_227 (by decide))
                refine lv_iload_n hx hb dL_areAhead_358 rfl (lv_at hl 3 rfl) ?_
                refine q_ine (tgt := 366) hx hb dL_areAhead_359 (by decide) (by first | omega | exact Nat.lt_of_le_of_lt (hw3 _) (by decide) | exact Nat.lt_of_lt_of_le (hr4 _) (by decide) | exact Nat.lt_of_le_of_lt (bp_le _) (by decide) | assumption) (fun c_359 => ?_) (fun c_359 => absurd c_359 (by have := hK0; omega))
                refine q_lc 0 hx hb dL_areAhead_366 (by decide) ?_
                refine lv_lstore (lv' := [(5, .long (lN 0)), (0, .ref (ad_8 0)), (1, .ref (ad_8 71)), (2, .ref (ad_8 72)), (3, .int (nI (K))), (4, .ref (ad_8 73))]) hx hb dL_areAhead_367 hl (by decide) rfl (fun ls hl => ?_)
                refine lv_iload_n hx hb dL_areAhead_369 rfl (lv_at hl 4 rfl) ?_
                refine q_ine (tgt := 377) hx hb dL_areAhead_370 (by decide) (by first | omega | exact Nat.lt_of_le_of_lt (hw3 _) (by decide) | exact Nat.lt_of_lt_of_le (hr4 _) (by decide) | exact Nat.lt_of_le_of_lt (bp_le _) (by decide) | assumption) (fun c_370 => ?_) (fun c_370 => absurd c_370 (by have := hK0; omega))
                refine q_ic 0 hx hb dL_areAhead_377 (by decide) ?_
                refine lv_istore (lv' := [(7, .int (nI 0)), (5, .long (lN 0)), (0, .ref (ad_8 0)), (1, .ref (ad_8 71)), (2, .ref (ad_8 72)), (3, .int (nI (K))), (4, .ref (ad_8 73))]) hx hb dL_areAhead_378 hl (by decide) rfl (fun ls hl => ?_)
                have hl : lv_has ls 12 [(7, .int (nI (fb_sm (fun c => uB (wb w) ro K c) 0))), (5, .long (lN (fb_sm (fun c => uB w ro K c) 0))), (0, .ref (ad_8 0)), (1, .ref (ad_8 71)), (2, .ref (ad_8 72)), (3, .int (nI (K))), (4, .ref (ad_8 73))] := by rw [show fb_sm (fun c => uB w ro K c) 0 = 0 from rfl, show fb_sm (fun c => uB (wb w) ro K c) 0 = 0 from rfl]; exact hl
                refine q_ic 0 hx hb dL_areAhead_380 (by decide) ?_
                refine lv_istore (lv' := [(8, .int (nI 0)), (7, .int (nI (fb_sm (fun c => uB (wb w) ro K c) 0))), (5, .long (lN (fb_sm (fun c => uB w ro K c) 0))), (0, .ref (ad_8 0)), (1, .ref (ad_8 71)), (2, .ref (ad_8 72)), (3, .int (nI (K))), (4, .ref (ad_8 73))]) hx hb dL_areAhead_381 hl (by decide) rfl (fun ls hl => ?_)
                have lp_383 : ∀ (fu_383 : Nat) (c : Nat) (J383 : Ic) (M383 : Lc) (Q383 : Rc), 4 - c < fu_383 → (c ≤ 4) → (InvA 74 J383 M383 Q383 ((w, K, ro), hc, hi, sv, pn, ch)) → (NoR Q383 71 74) → (AhC w ro K 0 (M383 71)) → (MaC w ro K 0 (J383 73)) → (BeC w ro K 0 0 (M383 72)) → ∀ (H : Heap) (locs : List Loc), Wd G 74 ad_8 J383 M383 Q383 (qA 73 ad s.heap.size) s.heap H locs s → ∀ ls : Array Slot, lv_has ls 12 [(0, .ref (ad_8 0)), (1, .ref (ad_8 71)), (2, .ref (ad_8 72)), (3, .int (nI (K))), (4, .ref (ad_8 73)), (5, .long (lN (fb_sm (fun c => uB w ro K c) c))), (7, .int (nI (fb_sm (fun c => uB (wb w) ro K c) c))), (8, .int (nI (c)))] → W p_ l e_ ({ frames := 8, cells := 1, slots := 24, locals := 288 } : Room) s m_ ([.ref (ad 0), .ref (ad 71), .ref (ad 72)] : List Value).toArray below meth c_ H locs 1 24 (MQ below (qI2 G (qA 73 ad s.heap.size) (fun z u => z = nI 1 ∧ AhP w ro K ((w, K, ro), hc, hi, sv, pn, ch) ad u)) ([.ref (ad 0), .ref (ad 71), .ref (ad 72)] : List Value).toArray s 1 24 (qA 73 ad s.heap.size)) (F0 m_ 383 ls []) := by
                  intro fu_383
                  induction fu_383 with
                  | zero =>
                    intro c J383 M383 Q383 hm; exact absurd hm (Nat.not_lt_zero _)
                  | succ fu_383 ih_383 =>
                    intro c J383 M383 Q383 hm_383 hc4 hA hNR hAh hMa hBe H locs hW ls hl
                    have hG : Fr7 J383 J383 M383 M383 Q383 Q383 := fr_0
                    refine lv_iload hx hb dL_areAhead_383 (lv_at hl 7 rfl) ?_
                    refine q_ic 4 hx hb dL_areAhead_385 (by decide) ?_
                    refine q_cge (tgt := 430) hx hb dL_areAhead_386 (by decide) (by first | omega | exact Nat.lt_of_le_of_lt (hw3 _) (by decide) | exact Nat.lt_of_lt_of_le (hr4 _) (by decide) | exact Nat.lt_of_le_of_lt (bp_le _) (by decide) | assumption) (by first | omega | exact Nat.lt_of_le_of_lt (hw3 _) (by decide) | exact Nat.lt_of_lt_of_le (hr4 _) (by decide) | exact Nat.lt_of_le_of_lt (bp_le _) (by decide) | assumption) (fun c_386 => ?_) (fun c_386 => ?_)
                    ·
                      have hl : lv_has ls 12 [(0, .ref (ad_8 0)), (1, .ref (ad_8 71)), (2, .ref (ad_8 72)), (3, .int (nI (K))), (4, .ref (ad_8 73)), (5, .long (lN (Sx' w K ro K 6))), (7, .int (nI (Cx' w K ro K 6))), (8, .int (nI (c)))] := by rw [show Sx' w K ro K 6 = fb_sm (fun c => uB w ro K c) c from (Sx_sum hw hK0).trans (by rw [show c = 4 by omega]), show Cx' w K ro K 6 = fb_sm (fun c => uB (wb w) ro K c) c from (ways_T hw hK0).trans (by rw [show c = 4 by omega])]; exact hl
                      refine lv_aload_n hx hb dL_areAhead_430 rfl (lv_at hl 0 rfl) ?_
                      refine q_kL2 (q_rV (As := []) (rest := []) (x := 0) hC hW mw_X5_total gw_243 (k_total l G 74 ad_8 H.size J383 M383 Q383 w K ro hc hi sv pn ch hA) (by omega) (ct_o5 kd_0) rfl ⟨rfl, rfl⟩ ⟨Nat.le_of_ble_eq_true rfl, Nat.le_of_ble_eq_true rfl⟩ ⟨(Nat.le_of_ble_eq_true rfl), (Nat.le_of_ble_eq_true rfl)⟩ hl.1 rfl rfl (Nat.le_of_ble_eq_true rfl) dL_areAhead_431) hW (fun r_431 n_431 ad_431 I_431 L_431 R_431 H locs hp hW => ?_)
                      obtain ⟨hz, rfl, rfl, hA, hF⟩ := PRl_use hp
                      have hG := fr_t hF hG
                      have hz : r_431 = lN (Sx' w K ro K 6) := hz
                      subst hz
                      refine lv_lload hx hb dL_areAhead_434 (lv_at hl 5 rfl) ?_
                      refine q_lcmp hx hb dL_areAhead_436 ?_
                      refine q_Lne (tgt := 453) hx hb dL_areAhead_437 (by decide) (fun c_437 => absurd rfl c_437) (fun c_437 => ?_)
                      refine lv_aload_n hx hb dL_areAhead_440 rfl (lv_at hl 0 rfl) ?_
                      refine q_kI2 (q_rV (As := []) (rest := []) (x := 0) hC hW mw_X5_ways gw_251 (k_ways l G 74 ad_8 H.size I_431 L_431 R_431 w K ro hc hi sv pn ch hA) (by omega) (ct_o5 kd_0) rfl ⟨rfl, rfl⟩ ⟨Nat.le_of_ble_eq_true rfl, Nat.le_of_ble_eq_true rfl⟩ ⟨(Nat.le_of_ble_eq_true rfl), (Nat.le_of_ble_eq_true rfl)⟩ hl.1 rfl rfl (Nat.le_of_ble_eq_true rfl) dL_areAhead_441) hW (fun r_441 n_441 ad_441 I_441 L_441 R_441 H locs hp hW => ?_)
                      obtain ⟨hz, rfl, rfl, hA, hF⟩ := PR_use hp
                      have hG := fr_t hF hG
                      have hz : r_441 = nI (Cx' w K ro K 6) := hz
                      subst hz
                      refine lv_iload hx hb dL_areAhead_444 (lv_at hl 6 rfl) ?_
                      refine q_cne (tgt := 453) hx hb dL_areAhead_446 (by decide) (by first | omega | exact Nat.lt_of_le_of_lt (hw3 _) (by decide) | exact Nat.lt_of_lt_of_le (hr4 _) (by decide) | exact Nat.lt_of_le_of_lt (bp_le _) (by decide) | assumption) (by first | omega | exact Nat.lt_of_le_of_lt (hw3 _) (by decide) | exact Nat.lt_of_lt_of_le (hr4 _) (by decide) | exact Nat.lt_of_le_of_lt (bp_le _) (by decide) | assumption) (fun c_446 => absurd rfl c_446) (fun c_446 => ?_)
                      refine q_ic 1 hx hb dL_areAhead_449 (by decide) ?_
                      refine lv_goto (tgt := 454) hx hb dL_areAhead_450 (by decide) ?_
                      have hAh := ahc (hG 71 (by decide)).2.1 hAh
                      have hMa := mac (hG 73 (by decide)).1 hMa
                      have hBe := bec (hG 72 (by decide)).2.1 hBe
                      have hNR := fr_n hG hNR
                      have hG : Fr7 I_441 I_441 L_441 L_441 R_441 R_441 := fr_0
                      refine q_more (c2 := 1) (s2 := 24) (Nat.le_of_ble_eq_true rfl) (Nat.le_of_ble_eq_true rfl) ?_
                      exact q_zret2 hC hW hr hlk0 rfl ⟨rfl, rfl, hag_8, hA, fun p c hp hc => hAh p c (Or.inl hp) hc, fun p c hp hc => hBe p c (Or.inl ⟨Nat.zero_le _, hp⟩) hc, hNR⟩ dL_areAhead_454
                    ·
                      refine lv_iload_n hx hb dL_areAhead_389 rfl (lv_at hl 3 rfl) ?_
                      refine q_ile (tgt := 430) hx hb dL_areAhead_390 (by decide) (by first | omega | exact Nat.lt_of_le_of_lt (hw3 _) (by decide) | exact Nat.lt_of_lt_of_le (hr4 _) (by decide) | exact Nat.lt_of_le_of_lt (bp_le _) (by decide) | assumption) (fun c_390 => absurd c_390 (by have := hK0; omega)) (fun c_390 => ?_)
                      refine lv_lload hx hb dL_areAhead_393 (lv_at hl 5 rfl) ?_
                      refine lv_aload_n hx hb dL_areAhead_395 rfl (lv_at hl 1 rfl) ?_
                      refine q_ic 4 hx hb dL_areAhead_396 (by decide) ?_
                      refine lv_iload_n hx hb dL_areAhead_397 rfl (lv_at hl 3 rfl) ?_
                      refine q_imul hx hb dL_areAhead_398 ?_
                      refine q_ic 4 hx hb dL_areAhead_399 (by decide) ?_
                      refine q_isub hx hb dL_areAhead_400 (by omega) ?_
                      refine lv_iload hx hb dL_areAhead_401 (lv_at hl 7 rfl) ?_
                      refine q_iadd hx hb dL_areAhead_403 ?_
                      refine q_lald (x := 71) (i := ((4 * K) - 4) + c) hC hW (by omega) kd_71 (by omega) dL_areAhead_404 ?_
                      refine q_top (v2 := .long (lN (uB w ro K c))) (congrArg _ ((congrFun (hG 71 (by decide)).2.1 _).trans ((congrArg _ (show ((4 * K) - 4) + c = 4 * (K - 1) + c from by omega)).trans ((hAh (K - 1) c (by omega) (by omega)).trans (congrArg lN (show uB w ro (K - 1 + 1) c = uB w ro K c from by rw [show K - 1 + 1 = K by omega])))))) ?_
                      refine q_ladd hx hb dL_areAhead_405 ?_
                      refine lv_lstore (lv' := [(5, .long (lN ((fb_sm (fun c => uB w ro K c) c) + (uB w ro K c)))), (0, .ref (ad_8 0)), (1, .ref (ad_8 71)), (2, .ref (ad_8 72)), (3, .int (nI (K))), (4, .ref (ad_8 73)), (7, .int (nI (fb_sm (fun c => uB (wb w) ro K c) c))), (8, .int (nI (c)))]) hx hb dL_areAhead_406 hl (by decide) rfl (fun ls hl => ?_)
                      refine lv_iload hx hb dL_areAhead_408 (lv_at hl 6 rfl) ?_
                      refine lv_aload hx hb dL_areAhead_410 (lv_at hl 5 rfl) ?_
                      refine q_ic 4 hx hb dL_areAhead_412 (by decide) ?_
                      refine lv_iload_n hx hb dL_areAhead_413 rfl (lv_at hl 4 rfl) ?_
                      refine q_imul hx hb dL_areAhead_414 ?_
                      refine q_ic 4 hx hb dL_areAhead_415 (by decide) ?_
                      refine q_isub hx hb dL_areAhead_416 (by omega) ?_
                      refine lv_iload hx hb dL_areAhead_417 (lv_at hl 7 rfl) ?_
                      refine q_iadd hx hb dL_areAhead_419 ?_
                      refine q_iald (x := 73) (i := ((4 * K) - 4) + c) hC hW (by omega) kd_73 (by omega) dL_areAhead_420 ?_
                      refine q_top (v2 := .int (nI (uB (wb w) ro K c))) (congrArg _ ((congrFun (hG 73 (by decide)).1 _).trans ((congrArg _ (show ((4 * K) - 4) + c = 4 * (K - 1) + c from by omega)).trans ((hMa (K - 1) c (by omega) (by omega)).trans (congrArg nI (show uB (wb w) ro (K - 1 + 1) c = uB (wb w) ro K c from by rw [show K - 1 + 1 = K by omega])))))) ?_
                      refine q_iadd hx hb dL_areAhead_421 ?_
                      refine lv_istore (lv' := [(7, .int (nI ((fb_sm (fun c => uB (wb w) ro K c) c) + (uB (wb w) ro K c)))), (5, .long (lN ((fb_sm (fun c => uB w ro K c) c) + (uB w ro K c)))), (0, .ref (ad_8 0)), (1, .ref (ad_8 71)), (2, .ref (ad_8 72)), (3, .int (nI (K))), (4, .ref (ad_8 73)), (8, .int (nI (c)))]) hx hb dL_areAhead_422 hl (by decide) rfl (fun ls hl => ?_)
                      refine q_iinc (z2 := c + 1) (lv' := [(8, .int (nI (c + 1))), (7, .int (nI ((fb_sm (fun c => uB (wb w) ro K c) c) + (uB (wb w) ro K c)))), (5, .long (lN ((fb_sm (fun c => uB w ro K c) c) + (uB w ro K c)))), (0, .ref (ad_8 0)), (1, .ref (ad_8 71)), (2, .ref (ad_8 72)), (3, .int (nI (K))), (4, .ref (ad_8 73))]) hx hb dL_areAhead_424 hl (k := 7) rfl (inc_up _ 1 (by decide)) (by decide) rfl (fun ls hl => ?_)
                      refine lv_goto (tgt := 383) hx hb dL_areAhead_427 (by decide) ?_
                      exact ih_383 (c + 1) J383 M383 Q383 (by omega) (by omega) hA (fr_n hG hNR) (ahc (hG 71 (by decide)).2.1 hAh) (mac (hG 73 (by decide)).1 hMa) (bec (hG 72 (by decide)).2.1 hBe) _ _ hW _ (lv_sub hl [3, 4, 5, 6, 7, 2, 1, 0] rfl)
                exact lp_383 (4 + 1) 0 J225 M225 Q225 (by omega) (by omega) hA (fr_n hG hNR) (ahc (hG 71 (by decide)).2.1 hAh) (mac (hG 73 (by decide)).1 hMa) (bec (hG 72 (by decide)).2.1 hBe) _ _ hW _ (lv_sub hl [3, 4, 5, 6, 7, 2, 1, 0] rfl)
              ·
                have hl : lv_has ls 12 [(0, .ref (ad_8 0)), (1, .ref (ad_8 71)), (2, .ref (ad_8 72)), (3, .int (nI (K))), (4, .ref (ad_8 73)), (5, .int (nI (j - 1)))] := by rw [← show nI j - nI 1 = nI (j - 1) from pk_sub (by omega)]; exact hl
                refine lv_iload hx hb dL_areAhead_225 (lv_at hl 5 rfl) ?_
                refine lv_if_lt (tgt := 358) hx hb dL_areAhead_227 (by decide) (fun c_227 => absurd c_227 (nI_pos (by first | omega | assumption))) (fun c_227 => ?_)
                refine q_ic 0 hx hb dL_areAhead_230 (by decide) ?_
                refine lv_istore (lv' := [(6, .int (nI 0)), (0, .ref (ad_8 0)), (1, .ref (ad_8 71)), (2, .ref (ad_8 72)), (3, .int (nI (K))), (4, .ref (ad_8 73)), (5, .int (nI (j - 1)))]) hx hb dL_areAhead_231 hl (by decide) rfl (fun ls hl => ?_)
                have lp_233 : ∀ (fu_233 : Nat) (c : Nat) (J233 : Ic) (M233 : Lc) (Q233 : Rc), 4 - c < fu_233 → (c ≤ 4) → (InvA 74 J233 M233 Q233 ((w, K, ro), hc, hi, sv, pn, ch)) → (NoR Q233 71 74) → (AhC w ro K 0 (M233 71)) → (MaC w ro K 0 (J233 73)) → (BeC w ro K j c (M233 72)) → ∀ (H : Heap) (locs : List Loc), Wd G 74 ad_8 J233 M233 Q233 (qA 73 ad s.heap.size) s.heap H locs s → ∀ ls : Array Slot, lv_has ls 12 [(0, .ref (ad_8 0)), (1, .ref (ad_8 71)), (2, .ref (ad_8 72)), (3, .int (nI (K))), (4, .ref (ad_8 73)), (5, .int (nI (j - 1))), (6, .int (nI (c)))] → W p_ l e_ ({ frames := 8, cells := 1, slots := 24, locals := 288 } : Room) s m_ ([.ref (ad 0), .ref (ad 71), .ref (ad 72)] : List Value).toArray below meth c_ H locs 1 24 (MQ below (qI2 G (qA 73 ad s.heap.size) (fun z u => z = nI 1 ∧ AhP w ro K ((w, K, ro), hc, hi, sv, pn, ch) ad u)) ([.ref (ad 0), .ref (ad 71), .ref (ad 72)] : List Value).toArray s 1 24 (qA 73 ad s.heap.size)) (F0 m_ 233 ls []) := by
                  intro fu_233
                  induction fu_233 with
                  | zero =>
                    intro c J233 M233 Q233 hm; exact absurd hm (Nat.not_lt_zero _)
                  | succ fu_233 ih_233 =>
                    intro c J233 M233 Q233 hm_233 hc4 hA hNR hAh hMa hBe H locs hW ls hl
                    have hG : Fr7 J233 J233 M233 M233 Q233 Q233 := fr_0
                    refine lv_iload hx hb dL_areAhead_233 (lv_at hl 6 rfl) ?_
                    refine q_ic 4 hx hb dL_areAhead_235 (by decide) ?_
                    refine q_cge (tgt := 352) hx hb dL_areAhead_236 (by decide) (by first | omega | exact Nat.lt_of_le_of_lt (hw3 _) (by decide) | exact Nat.lt_of_lt_of_le (hr4 _) (by decide) | exact Nat.lt_of_le_of_lt (bp_le _) (by decide) | assumption) (by first | omega | exact Nat.lt_of_le_of_lt (hw3 _) (by decide) | exact Nat.lt_of_lt_of_le (hr4 _) (by decide) | exact Nat.lt_of_le_of_lt (bp_le _) (by decide) | assumption) (fun c_236 => ?_) (fun c_236 => ?_)
                    ·
                      refine lv_iinc (v := nI (j - 1) - nI 1) (lv' := [(5, .int (nI (j - 1) - nI 1)), (0, .ref (ad_8 0)), (1, .ref (ad_8 71)), (2, .ref (ad_8 72)), (3, .int (nI (K))), (4, .ref (ad_8 73)), (6, .int (nI (c)))]) hx hb dL_areAhead_352 hl (k := 5) rfl (nm1 _) (by decide) rfl (fun ls hl => ?_)
                      refine lv_goto (tgt := 225) hx hb dL_areAhead_355 (by decide) ?_
                      exact ih_225 (j - 1) J233 M233 Q233 (by omega) (by omega) hA (fr_n hG hNR) (ahc (hG 71 (by decide)).2.1 hAh) (mac (hG 73 (by decide)).1 hMa) (BeC_n (bec (hG 72 (by decide)).2.1 hBe) hj0 (by omega)) _ _ hW _ (lv_sub hl [1, 2, 3, 4, 5, 0] rfl)
                    ·
                      refine lv_iload hx hb dL_areAhead_239 (lv_at hl 5 rfl) ?_
                      refine lv_iload_n hx hb dL_areAhead_241 rfl (lv_at hl 3 rfl) ?_
                      refine q_ic 1 hx hb dL_areAhead_242 (by decide) ?_
                      refine q_isub hx hb dL_areAhead_243 (by omega) ?_
                      refine q_cne (tgt := 251) hx hb dL_areAhead_244 (by decide) (by first | omega | exact Nat.lt_of_le_of_lt (hw3 _) (by decide) | exact Nat.lt_of_lt_of_le (hr4 _) (by decide) | exact Nat.lt_of_le_of_lt (bp_le _) (by decide) | assumption) (by first | omega | exact Nat.lt_of_le_of_lt (hw3 _) (by decide) | exact Nat.lt_of_lt_of_le (hr4 _) (by decide) | exact Nat.lt_of_le_of_lt (bp_le _) (by decide) | assumption) (fun c_244 => ?_) (fun c_244 => ?_)
                      ·
                        refine q_lc 0 hx hb dL_areAhead_251 (by decide) ?_
                        refine lv_lstore (lv' := [(7, .long (lN 0)), (0, .ref (ad_8 0)), (1, .ref (ad_8 71)), (2, .ref (ad_8 72)), (3, .int (nI (K))), (4, .ref (ad_8 73)), (5, .int (nI (j - 1))), (6, .int (nI (c)))]) hx hb dL_areAhead_252 hl (by decide) rfl (fun ls hl => ?_)
                        refine q_ic 0 hx hb dL_areAhead_254 (by decide) ?_
                        have hl : lv_has ls 12 [(7, .long (lN (fb_sm (fun b => ov w c b * w (42 + b * 4 + ro (j - 1 + 1)) * Sx' w K ro (K - (j - 1 + 1 + 1)) b) 0))), (0, .ref (ad_8 0)), (1, .ref (ad_8 71)), (2, .ref (ad_8 72)), (3, .int (nI (K))), (4, .ref (ad_8 73)), (5, .int (nI (j - 1))), (6, .int (nI (c)))] := by rw [show fb_sm (fun b => ov w c b * w (42 + b * 4 + ro (j - 1 + 1)) * Sx' w K ro (K - (j - 1 + 1 + 1)) b) 0 = 0 from rfl]; exact hl
                        refine lv_istore (lv' := [(9, .int (nI 0)), (7, .long (lN (fb_sm (fun b => ov w c b * w (42 + b * 4 + ro (j - 1 + 1)) * Sx' w K ro (K - (j - 1 + 1 + 1)) b) 0))), (0, .ref (ad_8 0)), (1, .ref (ad_8 71)), (2, .ref (ad_8 72)), (3, .int (nI (K))), (4, .ref (ad_8 73)), (5, .int (nI (j - 1))), (6, .int (nI (c)))]) hx hb dL_areAhead_255 hl (by decide) rfl (fun ls hl => ?_)
                        have lp_257 : ∀ (fu_257 : Nat) (b : Nat) (J257 : Ic) (M257 : Lc) (Q257 : Rc), 4 - b < fu_257 → (b ≤ 4) → (InvA 74 J257 M257 Q257 ((w, K, ro), hc, hi, sv, pn, ch)) → (NoR Q257 71 74) → (AhC w ro K 0 (M257 71)) → (MaC w ro K 0 (J257 73)) → (BeC w ro K j c (M257 72)) → ∀ (H : Heap) (locs : List Loc), Wd G 74 ad_8 J257 M257 Q257 (qA 73 ad s.heap.size) s.heap H locs s → ∀ ls : Array Slot, lv_has ls 12 [(0, .ref (ad_8 0)), (1, .ref (ad_8 71)), (2, .ref (ad_8 72)), (3, .int (nI (K))), (4, .ref (ad_8 73)), (5, .int (nI (j - 1))), (6, .int (nI (c))), (7, .long (lN (fb_sm (fun b => ov w c b * w (42 + b * 4 + ro (j - 1 + 1)) * Sx' w K ro (K - (j - 1 + 1 + 1)) b) b))), (9, .int (nI (b)))] → W p_ l e_ ({ frames := 8, cells := 1, slots := 24, locals := 288 } : Room) s m_ ([.ref (ad 0), .ref (ad 71), .ref (ad 72)] : List Value).toArray below meth c_ H locs 1 24 (MQ below (qI2 G (qA 73 ad s.heap.size) (fun z u => z = nI 1 ∧ AhP w ro K ((w, K, ro), hc, hi, sv, pn, ch) ad u)) ([.ref (ad 0), .ref (ad 71), .ref (ad 72)] : List Value).toArray s 1 24 (qA 73 ad s.heap.size)) (F0 m_ 257 ls []) := by
                          intro fu_257
                          induction fu_257 with
                          | zero =>
                            intro b J257 M257 Q257 hm; exact absurd hm (Nat.not_lt_zero _)
                          | succ fu_257 ih_257 =>
                            intro b J257 M257 Q257 hm_257 hb4 hA hNR hAh hMa hBe H locs hW ls hl
                            have hG : Fr7 J257 J257 M257 M257 Q257 Q257 := fr_0
                            refine lv_iload hx hb dL_areAhead_257 (lv_at hl 8 rfl) ?_
                            refine q_ic 4 hx hb dL_areAhead_259 (by decide) ?_
                            refine q_cge (tgt := 319) hx hb dL_areAhead_260 (by decide) (by first | omega | exact Nat.lt_of_le_of_lt (hw3 _) (by decide) | exact Nat.lt_of_lt_of_le (hr4 _) (by decide) | exact Nat.lt_of_le_of_lt (bp_le _) (by decide) | assumption) (by first | omega | exact Nat.lt_of_le_of_lt (hw3 _) (by decide) | exact Nat.lt_of_lt_of_le (hr4 _) (by decide) | exact Nat.lt_of_le_of_lt (bp_le _) (by decide) | assumption) (fun c_260 => ?_) (fun c_260 => ?_)
                            ·
                              have hl : lv_has ls 12 [(0, .ref (ad_8 0)), (1, .ref (ad_8 71)), (2, .ref (ad_8 72)), (3, .int (nI (K))), (4, .ref (ad_8 73)), (5, .int (nI (j - 1))), (6, .int (nI (c))), (7, .long (lN (Sx' w K ro (K - (j - 1 + 1)) c))), (9, .int (nI (b)))] := by rw [show Sx' w K ro (K - (j - 1 + 1)) c = fb_sm (fun b => ov w c b * w (42 + b * 4 + ro (j - 1 + 1)) * Sx' w K ro (K - (j - 1 + 1 + 1)) b) b from (Sx_ov hw (show j - 1 + 1 < K by omega) c).trans (by rw [show b = 4 by omega])]; exact hl
                              have hAh := ahc (hG 71 (by decide)).2.1 hAh
                              have hMa := mac (hG 73 (by decide)).1 hMa
                              have hBe := bec (hG 72 (by decide)).2.1 hBe
                              have hNR := fr_n hG hNR
                              have hG : Fr7 J257 J257 M257 M257 Q257 Q257 := fr_0
                              refine lv_aload_n hx hb dL_areAhead_319 rfl (lv_at hl 2 rfl) ?_
                              refine q_ic 4 hx hb dL_areAhead_320 (by decide) ?_
                              refine lv_iload hx hb dL_areAhead_321 (lv_at hl 5 rfl) ?_
                              refine q_imul hx hb dL_areAhead_323 ?_
                              refine lv_iload hx hb dL_areAhead_324 (lv_at hl 6 rfl) ?_
                              refine q_iadd hx hb dL_areAhead_326 ?_
                              refine lv_lload hx hb dL_areAhead_327 (lv_at hl 7 rfl) ?_
                              refine q_last (x := 72) (i := (4 * (j - 1)) + c) (v := lN (Sx' w K ro (K - (j - 1 + 1)) c)) hC hW (by omega) kd_72 (by omega) dL_areAhead_329 (fun H locs hW => ?_)
                              have hAh : AhC w ro K 0 ((up2 M257 72 ((4 * (j - 1)) + c) (lN (Sx' w K ro (K - (j - 1 + 1)) c))) 71) := ahc (up2_ne (by decide)) hAh
                              have hBe := BeC_s hBe hj0 (show c < 4 by omega)
                              have hA := InvA_hi hA (fun _ _ => rfl) (fun a ha => up2_ne (j := 4 * (j - 1) + c) (x := lN (Sx' w K ro (K - (j - 1 + 1)) c)) (show a ≠ 72 by omega)) (fun _ _ => rfl)
                              have hG : Fr7 J257 J257 (up2 M257 72 ((4 * (j - 1)) + c) (lN (Sx' w K ro (K - (j - 1 + 1)) c))) (up2 M257 72 ((4 * (j - 1)) + c) (lN (Sx' w K ro (K - (j - 1 + 1)) c))) Q257 Q257 := fr_0
                              refine lv_aload_n hx hb dL_areAhead_330 rfl (lv_at hl 0 rfl) ?_
                              refine lv_iload hx hb dL_areAhead_331 (lv_at hl 5 rfl) ?_
                              refine lv_iload hx hb dL_areAhead_333 (lv_at hl 6 rfl) ?_
                              refine q_kL2 (q_rV (As := [.int (nI (j - 1)), .int (nI (c))]) (rest := []) (x := 0) hC hW mw_X5_backward gw_239 (k_backward l G 74 ad_8 H.size J257 (up2 M257 72 ((4 * (j - 1)) + c) (lN (Sx' w K ro (K - (j - 1 + 1)) c))) Q257 (nI (j - 1)) (nI c) w K ro hc hi sv pn ch hA) (by omega) (ct_o5 kd_0) rfl ⟨rfl, rfl⟩ ⟨Nat.le_of_ble_eq_true rfl, Nat.le_of_ble_eq_true rfl⟩ ⟨(Nat.le_of_ble_eq_true rfl), (Nat.le_of_ble_eq_true rfl)⟩ hl.1 rfl rfl (Nat.le_of_ble_eq_true rfl) dL_areAhead_335) hW (fun r_335 n_335 ad_335 I_335 L_335 R_335 H locs hp hW => ?_)
                              obtain ⟨hz, rfl, rfl, hA, hF⟩ := PRl_use hp
                              have hG := fr_t hF hG
                              have hz : r_335 = lN (Sx' w K ro (K - (j - 1 + 1)) c) := hz.trans (aB1 (m := (w, K, ro)) (p := j - 1) (c := c) (show j - 1 < K by omega) hk6 (by first | omega | assumption))
                              subst hz
                              refine lv_lload hx hb dL_areAhead_338 (lv_at hl 7 rfl) ?_
                              refine q_lcmp hx hb dL_areAhead_340 ?_
                              refine q_Leq (tgt := 346) hx hb dL_areAhead_341 (by decide) (fun c_341 => ?_) (fun c_341 => absurd rfl c_341)
                              refine q_iinc (z2 := c + 1) (lv' := [(6, .int (nI (c + 1))), (0, .ref (ad_8 0)), (1, .ref (ad_8 71)), (2, .ref (ad_8 72)), (3, .int (nI (K))), (4, .ref (ad_8 73)), (5, .int (nI (j - 1))), (7, .long (lN (Sx' w K ro (K - (j - 1 + 1)) c))), (9, .int (nI (b)))]) hx hb dL_areAhead_346 hl (k := 6) rfl (inc_up _ 1 (by decide)) (by decide) rfl (fun ls hl => ?_)
                              refine lv_goto (tgt := 233) hx hb dL_areAhead_349 (by decide) ?_
                              exact ih_233 (c + 1) I_335 L_335 R_335 (by omega) (by omega) hA (fr_n hG hNR) (ahc (hG 71 (by decide)).2.1 hAh) (mac (hG 73 (by decide)).1 hMa) (bec (hG 72 (by decide)).2.1 hBe) _ _ hW _ (lv_sub hl [1, 2, 3, 4, 5, 6, 0] rfl)
                            ·
                              refine lv_iload hx hb dL_areAhead_263 (lv_at hl 5 rfl) ?_
                              refine lv_iload_n hx hb dL_areAhead_265 rfl (lv_at hl 3 rfl) ?_
                              refine q_ic 1 hx hb dL_areAhead_266 (by decide) ?_
                              refine q_isub hx hb dL_areAhead_267 (by omega) ?_
                              refine q_cge (tgt := 319) hx hb dL_areAhead_268 (by decide) (by first | omega | exact Nat.lt_of_le_of_lt (hw3 _) (by decide) | exact Nat.lt_of_lt_of_le (hr4 _) (by decide) | exact Nat.lt_of_le_of_lt (bp_le _) (by decide) | assumption) (by first | omega | exact Nat.lt_of_le_of_lt (hw3 _) (by decide) | exact Nat.lt_of_lt_of_le (hr4 _) (by decide) | exact Nat.lt_of_le_of_lt (bp_le _) (by decide) | assumption) (fun c_268 => absurd c_268 (by omega)) (fun c_268 => ?_)
                              refine lv_lload hx hb dL_areAhead_271 (lv_at hl 7 rfl) ?_
                              refine lv_aload_n hx hb dL_areAhead_273 rfl (lv_at hl 0 rfl) ?_
                              refine lv_iload hx hb dL_areAhead_274 (lv_at hl 6 rfl) ?_
                              refine lv_iload hx hb dL_areAhead_276 (lv_at hl 8 rfl) ?_
                              refine q_kL2 (q_rS (As := [.ref (ad_8 0), .int (nI (c)), .int (nI (b))]) (rest := [.long (lN (fb_sm (fun b => ov w c b * w (42 + b * 4 + ro (j - 1 + 1)) * Sx' w K ro (K - (j - 1 + 1 + 1)) b) b))]) hC hW mw_L_over gw_191 (k_over l G 74 ad_8 H.size J257 M257 Q257 c b w K ro hc hi sv pn ch hA (by first | omega | assumption) (by first | omega | assumption)) ⟨rfl, rfl⟩ ⟨Nat.le_of_ble_eq_true rfl, Nat.le_of_ble_eq_true rfl⟩ ⟨(Nat.le_of_ble_eq_true rfl), (Nat.le_of_ble_eq_true rfl)⟩ hl.1 rfl rfl (Nat.le_of_ble_eq_true rfl) dL_areAhead_278) hW (fun r_278 n_278 ad_278 I_278 L_278 R_278 H locs hp hW => ?_)
                              obtain ⟨hz, rfl, rfl, hA, hF⟩ := PRl_use hp
                              have hG := fr_t hF hG
                              have hz : r_278 = lN (ov w c b) := hz
                              subst hz
                              refine lv_aload_n hx hb dL_areAhead_281 rfl (lv_at hl 0 rfl) ?_
                              refine q_ic 2 hx hb dL_areAhead_282 (by decide) ?_
                              refine lv_iload hx hb dL_areAhead_283 (lv_at hl 8 rfl) ?_
                              refine lv_aload_n hx hb dL_areAhead_285 rfl (lv_at hl 0 rfl) ?_
                              refine lv_iload hx hb dL_areAhead_286 (lv_at hl 5 rfl) ?_
                              refine q_ic 1 hx hb dL_areAhead_288 (by decide) ?_
                              refine q_iadd hx hb dL_areAhead_289 ?_
                              refine q_kI2 (q_rV (As := [.int (nI ((j - 1) + 1))]) (rest := [.int (nI (b)), .int (nI 2), .ref (ad_8 0), .long (lN (ov w c b)), .long (lN (fb_sm (fun b => ov w c b * w (42 + b * 4 + ro (j - 1 + 1)) * Sx' w K ro (K - (j - 1 + 1 + 1)) b) b))]) (x := 0) hC hW mw_X5_letter gw_183 (k_letter l G 74 ad_8 H.size I_278 L_278 R_278 (nI ((j - 1) + 1)) w K ro hc hi sv pn ch hA) (by omega) (ct_o5 kd_0) rfl ⟨rfl, rfl⟩ ⟨Nat.le_of_ble_eq_true rfl, Nat.le_of_ble_eq_true rfl⟩ ⟨(Nat.le_of_ble_eq_true rfl), (Nat.le_of_ble_eq_true rfl)⟩ hl.1 rfl rfl (Nat.le_of_ble_eq_true rfl) dL_areAhead_290) hW (fun r_290 n_290 ad_290 I_290 L_290 R_290 H locs hp hW => ?_)
                              obtain ⟨hz, rfl, rfl, hA, hF⟩ := PR_use hp
                              have hG := fr_t hF hG
                              have hz : r_290 = nI (ro ((j - 1) + 1)) := hz.trans (aL1 (S := ((w, K, ro), hc, hi, sv, pn, ch)) (p := (j - 1) + 1) (show (j - 1) + 1 < K by omega) hk6)
                              subst hz
                              refine q_kI2 (q_rV (As := [.int (nI 2), .int (nI (b)), .int (nI (ro ((j - 1) + 1)))]) (rest := [.long (lN (ov w c b)), .long (lN (fb_sm (fun b => ov w c b * w (42 + b * 4 + ro (j - 1 + 1)) * Sx' w K ro (K - (j - 1 + 1 + 1)) b) b))]) (x := 0) hC hW mw_X5_weight gw_156 (k_weight l G 74 ad_8 H.size I_290 L_290 R_290 (nI 2) (nI b) (nI (ro ((j - 1) + 1))) w K ro hc hi sv pn ch hA) (by omega) (ct_o5 kd_0) rfl ⟨rfl, rfl⟩ ⟨Nat.le_of_ble_eq_true rfl, Nat.le_of_ble_eq_true rfl⟩ ⟨(Nat.le_of_ble_eq_true rfl), (Nat.le_of_ble_eq_true rfl)⟩ hl.1 rfl rfl (Nat.le_of_ble_eq_true rfl) dL_areAhead_293) hW (fun r_293 n_293 ad_293 I_293 L_293 R_293 H locs hp hW => ?_)
                              obtain ⟨hz, rfl, rfl, hA, hF⟩ := PR_use hp
                              have hG := fr_t hF hG
                              have hz : r_293 = nI (w (42 + b * 4 + (ro ((j - 1) + 1)))) := hz.trans (aW2 (S := ((w, K, ro), hc, hi, sv, pn, ch)) (c := b) (t := ro ((j - 1) + 1)) (by first | omega | assumption) (hr4 _))
                              subst hz
                              refine q_i2l hx hb dL_areAhead_296 (by first | omega | exact Nat.lt_of_le_of_lt (hw3 _) (by decide) | exact Nat.lt_of_lt_of_le (hr4 _) (by decide) | exact Nat.lt_of_le_of_lt (bp_le _) (by decide) | assumption) ?_
                              refine q_lmul hx hb dL_areAhead_297 ?_
                              refine lv_aload_n hx hb dL_areAhead_298 rfl (lv_at hl 2 rfl) ?_
                              refine q_ic 4 hx hb dL_areAhead_299 (by decide) ?_
                              refine lv_iload hx hb dL_areAhead_300 (lv_at hl 5 rfl) ?_
                              refine q_imul hx hb dL_areAhead_302 ?_
                              refine q_ic 4 hx hb dL_areAhead_303 (by decide) ?_
                              refine q_iadd hx hb dL_areAhead_304 ?_
                              refine lv_iload hx hb dL_areAhead_305 (lv_at hl 8 rfl) ?_
                              refine q_iadd hx hb dL_areAhead_307 ?_
                              refine q_lald (x := 72) (i := ((4 * (j - 1)) + 4) + b) hC hW (by omega) kd_72 (by omega) dL_areAhead_308 ?_
                              refine q_top (v2 := .long (lN (Sx' w K ro (K - (j - 1 + 1 + 1)) b))) (congrArg _ ((congrFun (hG 72 (by decide)).2.1 _).trans ((congrArg _ (show ((4 * (j - 1)) + 4) + b = 4 * (j - 1 + 1) + b from by omega)).trans (hBe (j - 1 + 1) b (by omega) (by omega))))) ?_
                              refine q_lmul hx hb dL_areAhead_309 ?_
                              refine q_ladd hx hb dL_areAhead_310 ?_
                              refine lv_lstore (lv' := [(7, .long (lN ((fb_sm (fun b => ov w c b * w (42 + b * 4 + ro (j - 1 + 1)) * Sx' w K ro (K - (j - 1 + 1 + 1)) b) b) + (((ov w c b) * (w (42 + b * 4 + (ro ((j - 1) + 1))))) * (Sx' w K ro (K - (j - 1 + 1 + 1)) b))))), (0, .ref (ad_8 0)), (1, .ref (ad_8 71)), (2, .ref (ad_8 72)), (3, .int (nI (K))), (4, .ref (ad_8 73)), (5, .int (nI (j - 1))), (6, .int (nI (c))), (9, .int (nI (b)))]) hx hb dL_areAhead_311 hl (by decide) rfl (fun ls hl => ?_)
                              refine q_iinc (z2 := b + 1) (lv' := [(9, .int (nI (b + 1))), (7, .long (lN ((fb_sm (fun b => ov w c b * w (42 + b * 4 + ro (j - 1 + 1)) * Sx' w K ro (K - (j - 1 + 1 + 1)) b) b) + (((ov w c b) * (w (42 + b * 4 + (ro ((j - 1) + 1))))) * (Sx' w K ro (K - (j - 1 + 1 + 1)) b))))), (0, .ref (ad_8 0)), (1, .ref (ad_8 71)), (2, .ref (ad_8 72)), (3, .int (nI (K))), (4, .ref (ad_8 73)), (5, .int (nI (j - 1))), (6, .int (nI (c)))]) hx hb dL_areAhead_313 hl (k := 8) rfl (inc_up _ 1 (by decide)) (by decide) rfl (fun ls hl => ?_)
                              refine lv_goto (tgt := 257) hx hb dL_areAhead_316 (by decide) ?_
                              exact ih_257 (b + 1) I_293 L_293 R_293 (by omega) (by omega) hA (fr_n hG hNR) (ahc (hG 71 (by decide)).2.1 hAh) (mac (hG 73 (by decide)).1 hMa) (bec (hG 72 (by decide)).2.1 hBe) _ _ hW _ (lv_sub hl [2, 3, 4, 5, 6, 7, 8, 1, 0] rfl)
                        exact lp_257 (4 + 1) 0 J233 M233 Q233 (by omega) (by omega) hA (fr_n hG hNR) (ahc (hG 71 (by decide)).2.1 hAh) (mac (hG 73 (by decide)).1 hMa) (bec (hG 72 (by decide)).2.1 hBe) _ _ hW _ (lv_sub hl [2, 3, 4, 5, 6, 7, 8, 1, 0] rfl)
                      ·
                        refine q_lc 1 hx hb dL_areAhead_247 (by decide) ?_
                        refine lv_goto (tgt := 252) hx hb dL_areAhead_248 (by decide) ?_
                        refine lv_lstore (lv' := [(7, .long (lN 1)), (0, .ref (ad_8 0)), (1, .ref (ad_8 71)), (2, .ref (ad_8 72)), (3, .int (nI (K))), (4, .ref (ad_8 73)), (5, .int (nI (j - 1))), (6, .int (nI (c)))]) hx hb dL_areAhead_252 hl (by decide) rfl (fun ls hl => ?_)
                        refine q_ic 0 hx hb dL_areAhead_254 (by decide) ?_
                        refine lv_istore (lv' := [(9, .int (nI 0)), (7, .long (lN 1)), (0, .ref (ad_8 0)), (1, .ref (ad_8 71)), (2, .ref (ad_8 72)), (3, .int (nI (K))), (4, .ref (ad_8 73)), (5, .int (nI (j - 1))), (6, .int (nI (c)))]) hx hb dL_areAhead_255 hl (by decide) rfl (fun ls hl => ?_)
                        refine lv_iload hx hb dL_areAhead_257 (lv_at hl 0 rfl) ?_
                        refine q_ic 4 hx hb dL_areAhead_259 (by decide) ?_
                        refine q_cge (tgt := 319) hx hb dL_areAhead_260 (by decide) (by first | omega | exact Nat.lt_of_le_of_lt (hw3 _) (by decide) | exact Nat.lt_of_lt_of_le (hr4 _) (by decide) | exact Nat.lt_of_le_of_lt (bp_le _) (by decide) | assumption) (by first | omega | exact Nat.lt_of_le_of_lt (hw3 _) (by decide) | exact Nat.lt_of_lt_of_le (hr4 _) (by decide) | exact Nat.lt_of_le_of_lt (bp_le _) (by decide) | assumption) (fun c_260 => absurd c_260 (by decide)) (fun c_260 => ?_)
                        refine lv_iload hx hb dL_areAhead_263 (lv_at hl 7 rfl) ?_
                        refine lv_iload_n hx hb dL_areAhead_265 rfl (lv_at hl 5 rfl) ?_
                        refine q_ic 1 hx hb dL_areAhead_266 (by decide) ?_
                        refine q_isub hx hb dL_areAhead_267 (by omega) ?_
                        refine q_cge (tgt := 319) hx hb dL_areAhead_268 (by decide) (by first | omega | exact Nat.lt_of_le_of_lt (hw3 _) (by decide) | exact Nat.lt_of_lt_of_le (hr4 _) (by decide) | exact Nat.lt_of_le_of_lt (bp_le _) (by decide) | assumption) (by first | omega | exact Nat.lt_of_le_of_lt (hw3 _) (by decide) | exact Nat.lt_of_lt_of_le (hr4 _) (by decide) | exact Nat.lt_of_le_of_lt (bp_le _) (by decide) | assumption) (fun c_268 => ?_) (fun c_268 => absurd c_268 (by omega))
                        have hl : lv_has ls 12 [(9, .int (nI 0)), (7, .long (lN (Sx' w K ro (K - (j - 1 + 1)) c))), (0, .ref (ad_8 0)), (1, .ref (ad_8 71)), (2, .ref (ad_8 72)), (3, .int (nI (K))), (4, .ref (ad_8 73)), (5, .int (nI (j - 1))), (6, .int (nI (c)))] := by rw [show Sx' w K ro (K - (j - 1 + 1)) c = 1 from by rw [show j - 1 + 1 = K by omega]; exact Sx_last (by omega)]; exact hl
                        have hAh := ahc (hG 71 (by decide)).2.1 hAh
                        have hMa := mac (hG 73 (by decide)).1 hMa
                        have hBe := bec (hG 72 (by decide)).2.1 hBe
                        have hNR := fr_n hG hNR
                        have hG : Fr7 J233 J233 M233 M233 Q233 Q233 := fr_0
                        refine lv_aload_n hx hb dL_areAhead_319 rfl (lv_at hl 4 rfl) ?_
                        refine q_ic 4 hx hb dL_areAhead_320 (by decide) ?_
                        refine lv_iload hx hb dL_areAhead_321 (lv_at hl 7 rfl) ?_
                        refine q_imul hx hb dL_areAhead_323 ?_
                        refine lv_iload hx hb dL_areAhead_324 (lv_at hl 8 rfl) ?_
                        refine q_iadd hx hb dL_areAhead_326 ?_
                        refine lv_lload hx hb dL_areAhead_327 (lv_at hl 1 rfl) ?_
                        refine q_last (x := 72) (i := (4 * (j - 1)) + c) (v := lN (Sx' w K ro (K - (j - 1 + 1)) c)) hC hW (by omega) kd_72 (by omega) dL_areAhead_329 (fun H locs hW => ?_)
                        have hAh : AhC w ro K 0 ((up2 M233 72 ((4 * (j - 1)) + c) (lN (Sx' w K ro (K - (j - 1 + 1)) c))) 71) := ahc (up2_ne (by decide)) hAh
                        have hBe := BeC_s hBe hj0 (show c < 4 by omega)
                        have hA := InvA_hi hA (fun _ _ => rfl) (fun a ha => up2_ne (j := 4 * (j - 1) + c) (x := lN (Sx' w K ro (K - (j - 1 + 1)) c)) (show a ≠ 72 by omega)) (fun _ _ => rfl)
                        have hG : Fr7 J233 J233 (up2 M233 72 ((4 * (j - 1)) + c) (lN (Sx' w K ro (K - (j - 1 + 1)) c))) (up2 M233 72 ((4 * (j - 1)) + c) (lN (Sx' w K ro (K - (j - 1 + 1)) c))) Q233 Q233 := fr_0
                        refine lv_aload_n hx hb dL_areAhead_330 rfl (lv_at hl 2 rfl) ?_
                        refine lv_iload hx hb dL_areAhead_331 (lv_at hl 7 rfl) ?_
                        refine lv_iload hx hb dL_areAhead_333 (lv_at hl 8 rfl) ?_
                        refine q_kL2 (q_rV (As := [.int (nI (j - 1)), .int (nI (c))]) (rest := []) (x := 0) hC hW mw_X5_backward gw_239 (k_backward l G 74 ad_8 H.size J233 (up2 M233 72 ((4 * (j - 1)) + c) (lN (Sx' w K ro (K - (j - 1 + 1)) c))) Q233 (nI (j - 1)) (nI c) w K ro hc hi sv pn ch hA) (by omega) (ct_o5 kd_0) rfl ⟨rfl, rfl⟩ ⟨Nat.le_of_ble_eq_true rfl, Nat.le_of_ble_eq_true rfl⟩ ⟨(Nat.le_of_ble_eq_true rfl), (Nat.le_of_ble_eq_true rfl)⟩ hl.1 rfl rfl (Nat.le_of_ble_eq_true rfl) dL_areAhead_335) hW (fun r_335 n_335 ad_335 I_335 L_335 R_335 H locs hp hW => ?_)
                        obtain ⟨hz, rfl, rfl, hA, hF⟩ := PRl_use hp
                        have hG := fr_t hF hG
                        have hz : r_335 = lN (Sx' w K ro (K - (j - 1 + 1)) c) := hz.trans (aB1 (m := (w, K, ro)) (p := j - 1) (c := c) (show j - 1 < K by omega) hk6 (by first | omega | assumption))
                        subst hz
                        refine lv_lload hx hb dL_areAhead_338 (lv_at hl 1 rfl) ?_
                        refine q_lcmp hx hb dL_areAhead_340 ?_
                        refine q_Leq (tgt := 346) hx hb dL_areAhead_341 (by decide) (fun c_341 => ?_) (fun c_341 => absurd rfl c_341)
                        refine q_iinc (z2 := c + 1) (lv' := [(6, .int (nI (c + 1))), (9, .int (nI 0)), (7, .long (lN (Sx' w K ro (K - (j - 1 + 1)) c))), (0, .ref (ad_8 0)), (1, .ref (ad_8 71)), (2, .ref (ad_8 72)), (3, .int (nI (K))), (4, .ref (ad_8 73)), (5, .int (nI (j - 1)))]) hx hb dL_areAhead_346 hl (k := 8) rfl (inc_up _ 1 (by decide)) (by decide) rfl (fun ls hl => ?_)
                        refine lv_goto (tgt := 233) hx hb dL_areAhead_349 (by decide) ?_
                        exact ih_233 (c + 1) I_335 L_335 R_335 (by omega) (by omega) hA (fr_n hG hNR) (ahc (hG 71 (by decide)).2.1 hAh) (mac (hG 73 (by decide)).1 hMa) (bec (hG 72 (by decide)).2.1 hBe) _ _ hW _ (lv_sub hl [3, 4, 5, 6, 7, 8, 0] rfl)
                exact lp_233 (4 + 1) 0 J225 M225 Q225 (by omega) (by omega) hA (fr_n hG hNR) (ahc (hG 71 (by decide)).2.1 hAh) (mac (hG 73 (by decide)).1 hMa) (bec (hG 72 (by decide)).2.1 hBe) _ _ hW _ (lv_sub hl [1, 2, 3, 4, 5, 6, 0] rfl)
          exact lp_225 (K + 1) K J15 M15 Q15 (by omega) (by omega) hA (fr_n hG hNR) (ahc (hG 71 (by decide)).2.1 hAh) (mac (hG 73 (by decide)).1 hMa) (bec (hG 72 (by decide)).2.1 hBe) _ _ hW _ (lv_sub hl [1, 2, 3, 4, 5, 0] rfl)
      ·
        refine q_ic 0 hx hb dL_areAhead_21 (by decide) ?_
        refine lv_istore (lv' := [(6, .int (nI 0)), (0, .ref (ad_8 0)), (1, .ref (ad_8 71)), (2, .ref (ad_8 72)), (3, .int (nI (K))), (4, .ref (ad_8 73)), (5, .int (nI (p)))]) hx hb dL_areAhead_22 hl (by decide) rfl (fun ls hl => ?_)
        have lp_24 : ∀ (fu_24 : Nat) (c : Nat) (J24 : Ic) (M24 : Lc) (Q24 : Rc), 4 - c < fu_24 → (c ≤ 4) → (InvA 74 J24 M24 Q24 ((w, K, ro), hc, hi, sv, pn, ch)) → (NoR Q24 71 74) → (AhC w ro p c (M24 71)) → (MaC w ro p c (J24 73)) → ∀ (H : Heap) (locs : List Loc), Wd G 74 ad_8 J24 M24 Q24 (qA 73 ad s.heap.size) s.heap H locs s → ∀ ls : Array Slot, lv_has ls 12 [(0, .ref (ad_8 0)), (1, .ref (ad_8 71)), (2, .ref (ad_8 72)), (3, .int (nI (K))), (4, .ref (ad_8 73)), (5, .int (nI (p))), (6, .int (nI (c)))] → W p_ l e_ ({ frames := 8, cells := 1, slots := 24, locals := 288 } : Room) s m_ ([.ref (ad 0), .ref (ad 71), .ref (ad 72)] : List Value).toArray below meth c_ H locs 1 24 (MQ below (qI2 G (qA 73 ad s.heap.size) (fun z u => z = nI 1 ∧ AhP w ro K ((w, K, ro), hc, hi, sv, pn, ch) ad u)) ([.ref (ad 0), .ref (ad 71), .ref (ad 72)] : List Value).toArray s 1 24 (qA 73 ad s.heap.size)) (F0 m_ 24 ls []) := by
          intro fu_24
          induction fu_24 with
          | zero =>
            intro c J24 M24 Q24 hm; exact absurd hm (Nat.not_lt_zero _)
          | succ fu_24 ih_24 =>
            intro c J24 M24 Q24 hm_24 hc4 hA hNR hAh hMa H locs hW ls hl
            have hG : Fr7 J24 J24 M24 M24 Q24 Q24 := fr_0
            refine lv_iload hx hb dL_areAhead_24 (lv_at hl 6 rfl) ?_
            refine q_ic 4 hx hb dL_areAhead_26 (by decide) ?_
            refine q_cge (tgt := 214) hx hb dL_areAhead_27 (by decide) (by first | omega | exact Nat.lt_of_le_of_lt (hw3 _) (by decide) | exact Nat.lt_of_lt_of_le (hr4 _) (by decide) | exact Nat.lt_of_le_of_lt (bp_le _) (by decide) | assumption) (by first | omega | exact Nat.lt_of_le_of_lt (hw3 _) (by decide) | exact Nat.lt_of_lt_of_le (hr4 _) (by decide) | exact Nat.lt_of_le_of_lt (bp_le _) (by decide) | assumption) (fun c_27 => ?_) (fun c_27 => ?_)
            ·
              refine q_iinc (z2 := p + 1) (lv' := [(5, .int (nI (p + 1))), (0, .ref (ad_8 0)), (1, .ref (ad_8 71)), (2, .ref (ad_8 72)), (3, .int (nI (K))), (4, .ref (ad_8 73)), (6, .int (nI (c)))]) hx hb dL_areAhead_214 hl (k := 5) rfl (inc_up _ 1 (by decide)) (by decide) rfl (fun ls hl => ?_)
              refine lv_goto (tgt := 15) hx hb dL_areAhead_217 (by decide) ?_
              exact ih_15 (p + 1) J24 M24 Q24 (by omega) (by omega) hA (fr_n hG hNR) (AhC_n (ahc (hG 71 (by decide)).2.1 hAh) (by omega)) (MaC_n (mac (hG 73 (by decide)).1 hMa) (by omega)) _ _ hW _ (lv_sub hl [1, 2, 3, 4, 5, 0] rfl)
            ·
              refine lv_aload_n hx hb dL_areAhead_30 rfl (lv_at hl 0 rfl) ?_
              refine q_ic 2 hx hb dL_areAhead_31 (by decide) ?_
              refine lv_iload hx hb dL_areAhead_32 (lv_at hl 6 rfl) ?_
              refine lv_aload_n hx hb dL_areAhead_34 rfl (lv_at hl 0 rfl) ?_
              refine lv_iload hx hb dL_areAhead_35 (lv_at hl 5 rfl) ?_
              refine q_kI2 (q_rV (As := [.int (nI (p))]) (rest := [.int (nI (c)), .int (nI 2), .ref (ad_8 0)]) (x := 0) hC hW mw_X5_letter gw_183 (k_letter l G 74 ad_8 H.size J24 M24 Q24 (nI p) w K ro hc hi sv pn ch hA) (by omega) (ct_o5 kd_0) rfl ⟨rfl, rfl⟩ ⟨Nat.le_of_ble_eq_true rfl, Nat.le_of_ble_eq_true rfl⟩ ⟨(Nat.le_of_ble_eq_true rfl), (Nat.le_of_ble_eq_true rfl)⟩ hl.1 rfl rfl (Nat.le_of_ble_eq_true rfl) dL_areAhead_37) hW (fun r_37 n_37 ad_37 I_37 L_37 R_37 H locs hp hW => ?_)
              obtain ⟨hz, rfl, rfl, hA, hF⟩ := PR_use hp
              have hG := fr_t hF hG
              have hz : r_37 = nI (ro p) := hz.trans (aL1 (S := ((w, K, ro), hc, hi, sv, pn, ch)) (p := p) (show p < K by omega) hk6)
              subst hz
              refine q_kI2 (q_rV (As := [.int (nI 2), .int (nI (c)), .int (nI (ro p))]) (rest := []) (x := 0) hC hW mw_X5_weight gw_156 (k_weight l G 74 ad_8 H.size I_37 L_37 R_37 (nI 2) (nI c) (nI (ro p)) w K ro hc hi sv pn ch hA) (by omega) (ct_o5 kd_0) rfl ⟨rfl, rfl⟩ ⟨Nat.le_of_ble_eq_true rfl, Nat.le_of_ble_eq_true rfl⟩ ⟨(Nat.le_of_ble_eq_true rfl), (Nat.le_of_ble_eq_true rfl)⟩ hl.1 rfl rfl (Nat.le_of_ble_eq_true rfl) dL_areAhead_40) hW (fun r_40 n_40 ad_40 I_40 L_40 R_40 H locs hp hW => ?_)
              obtain ⟨hz, rfl, rfl, hA, hF⟩ := PR_use hp
              have hG := fr_t hF hG
              have hz : r_40 = nI (w (42 + c * 4 + (ro p))) := hz.trans (aW2 (S := ((w, K, ro), hc, hi, sv, pn, ch)) (c := c) (t := ro p) (by first | omega | assumption) (hr4 _))
              subst hz
              refine lv_istore (lv' := [(7, .int (nI (w (42 + c * 4 + (ro p))))), (0, .ref (ad_8 0)), (1, .ref (ad_8 71)), (2, .ref (ad_8 72)), (3, .int (nI (K))), (4, .ref (ad_8 73)), (5, .int (nI (p))), (6, .int (nI (c)))]) hx hb dL_areAhead_43 hl (by decide) rfl (fun ls hl => ?_)
              refine lv_iload hx hb dL_areAhead_45 (lv_at hl 6 rfl) ?_
              refine q_ine (tgt := 60) hx hb dL_areAhead_47 (by decide) (by first | omega | exact Nat.lt_of_le_of_lt (hw3 _) (by decide) | exact Nat.lt_of_lt_of_le (hr4 _) (by decide) | exact Nat.lt_of_le_of_lt (bp_le _) (by decide) | assumption) (fun c_47 => ?_) (fun c_47 => ?_)
              ·
                refine q_lc 0 hx hb dL_areAhead_60 (by decide) ?_
                refine lv_lstore (lv' := [(8, .long (lN 0)), (7, .int (nI (w (42 + c * 4 + (ro p))))), (0, .ref (ad_8 0)), (1, .ref (ad_8 71)), (2, .ref (ad_8 72)), (3, .int (nI (K))), (4, .ref (ad_8 73)), (5, .int (nI (p))), (6, .int (nI (c)))]) hx hb dL_areAhead_61 hl (by decide) rfl (fun ls hl => ?_)
                refine lv_iload hx hb dL_areAhead_63 (lv_at hl 7 rfl) ?_
                refine q_ine (tgt := 78) hx hb dL_areAhead_65 (by decide) (by first | omega | exact Nat.lt_of_le_of_lt (hw3 _) (by decide) | exact Nat.lt_of_lt_of_le (hr4 _) (by decide) | exact Nat.lt_of_le_of_lt (bp_le _) (by decide) | assumption) (fun c_65 => ?_) (fun c_65 => absurd c_65 (by have := c_47; omega))
                refine q_ic 0 hx hb dL_areAhead_78 (by decide) ?_
                refine lv_istore (lv' := [(10, .int (nI 0)), (8, .long (lN 0)), (7, .int (nI (w (42 + c * 4 + (ro p))))), (0, .ref (ad_8 0)), (1, .ref (ad_8 71)), (2, .ref (ad_8 72)), (3, .int (nI (K))), (4, .ref (ad_8 73)), (5, .int (nI (p))), (6, .int (nI (c)))]) hx hb dL_areAhead_79 hl (by decide) rfl (fun ls hl => ?_)
                refine q_ic 0 hx hb dL_areAhead_81 (by decide) ?_
                have hl : lv_has ls 12 [(10, .int (nI (fb_sm (fun b => uB (wb w) ro p b * ov (wb w) b c) 0))), (8, .long (lN (fb_sm (fun b => uB w ro p b * ov w b c) 0))), (7, .int (nI (w (42 + c * 4 + (ro p))))), (0, .ref (ad_8 0)), (1, .ref (ad_8 71)), (2, .ref (ad_8 72)), (3, .int (nI (K))), (4, .ref (ad_8 73)), (5, .int (nI (p))), (6, .int (nI (c)))] := by rw [show fb_sm (fun b => uB w ro p b * ov w b c) 0 = 0 from rfl, show fb_sm (fun b => uB (wb w) ro p b * ov (wb w) b c) 0 = 0 from rfl]; exact hl
                refine lv_istore (lv' := [(11, .int (nI 0)), (10, .int (nI (fb_sm (fun b => uB (wb w) ro p b * ov (wb w) b c) 0))), (8, .long (lN (fb_sm (fun b => uB w ro p b * ov w b c) 0))), (7, .int (nI (w (42 + c * 4 + (ro p))))), (0, .ref (ad_8 0)), (1, .ref (ad_8 71)), (2, .ref (ad_8 72)), (3, .int (nI (K))), (4, .ref (ad_8 73)), (5, .int (nI (p))), (6, .int (nI (c)))]) hx hb dL_areAhead_82 hl (by decide) rfl (fun ls hl => ?_)
                have lp_84 : ∀ (fu_84 : Nat) (b : Nat) (J84 : Ic) (M84 : Lc) (Q84 : Rc), 4 - b < fu_84 → (b ≤ 4) → (InvA 74 J84 M84 Q84 ((w, K, ro), hc, hi, sv, pn, ch)) → (NoR Q84 71 74) → (AhC w ro p c (M84 71)) → (MaC w ro p c (J84 73)) → ∀ (H : Heap) (locs : List Loc), Wd G 74 ad_8 J84 M84 Q84 (qA 73 ad s.heap.size) s.heap H locs s → ∀ ls : Array Slot, lv_has ls 12 [(0, .ref (ad_8 0)), (1, .ref (ad_8 71)), (2, .ref (ad_8 72)), (3, .int (nI (K))), (4, .ref (ad_8 73)), (5, .int (nI (p))), (6, .int (nI (c))), (7, .int (nI (w (42 + c * 4 + ro p)))), (8, .long (lN (fb_sm (fun b => uB w ro p b * ov w b c) b))), (10, .int (nI (fb_sm (fun b => uB (wb w) ro p b * ov (wb w) b c) b))), (11, .int (nI (b)))] → W p_ l e_ ({ frames := 8, cells := 1, slots := 24, locals := 288 } : Room) s m_ ([.ref (ad 0), .ref (ad 71), .ref (ad 72)] : List Value).toArray below meth c_ H locs 1 24 (MQ below (qI2 G (qA 73 ad s.heap.size) (fun z u => z = nI 1 ∧ AhP w ro K ((w, K, ro), hc, hi, sv, pn, ch) ad u)) ([.ref (ad 0), .ref (ad 71), .ref (ad 72)] : List Value).toArray s 1 24 (qA 73 ad s.heap.size)) (F0 m_ 84 ls []) := by
                  intro fu_84
                  induction fu_84 with
                  | zero =>
                    intro b J84 M84 Q84 hm; exact absurd hm (Nat.not_lt_zero _)
                  | succ fu_84 ih_84 =>
                    intro b J84 M84 Q84 hm_84 hb4 hA hNR hAh hMa H locs hW ls hl
                    have hG : Fr7 J84 J84 M84 M84 Q84 Q84 := fr_0
                    refine lv_iload hx hb dL_areAhead_84 (lv_at hl 10 rfl) ?_
                    refine q_ic 4 hx hb dL_areAhead_86 (by decide) ?_
                    refine q_cge (tgt := 152) hx hb dL_areAhead_87 (by decide) (by first | omega | exact Nat.lt_of_le_of_lt (hw3 _) (by decide) | exact Nat.lt_of_lt_of_le (hr4 _) (by decide) | exact Nat.lt_of_le_of_lt (bp_le _) (by decide) | assumption) (by first | omega | exact Nat.lt_of_le_of_lt (hw3 _) (by decide) | exact Nat.lt_of_lt_of_le (hr4 _) (by decide) | exact Nat.lt_of_le_of_lt (bp_le _) (by decide) | assumption) (fun c_87 => ?_) (fun c_87 => ?_)
                    ·
                      have hl : lv_has ls 12 [(0, .ref (ad_8 0)), (1, .ref (ad_8 71)), (2, .ref (ad_8 72)), (3, .int (nI (K))), (4, .ref (ad_8 73)), (5, .int (nI (p))), (6, .int (nI (c))), (7, .int (nI (w (42 + c * 4 + ro p)))), (8, .long (lN (rchu w (uB w ro p) c))), (10, .int (nI (rchu (wb w) (uB (wb w) ro p) c))), (11, .int (nI (b)))] := by rw [show rchu w (uB w ro p) c = fb_sm (fun b => uB w ro p b * ov w b c) b from (rc_s w ro p c (by omega)).trans (by rw [show b = 4 by omega]), show rchu (wb w) (uB (wb w) ro p) c = fb_sm (fun b => uB (wb w) ro p b * ov (wb w) b c) b from (rc_s (wb w) ro p c (by omega)).trans (by rw [show b = 4 by omega])]; exact hl
                      have hAh := ahc (hG 71 (by decide)).2.1 hAh
                      have hMa := mac (hG 73 (by decide)).1 hMa
                      have hNR := fr_n hG hNR
                      have hG : Fr7 J84 J84 M84 M84 Q84 Q84 := fr_0
                      refine lv_aload_n hx hb dL_areAhead_152 rfl (lv_at hl 1 rfl) ?_
                      refine q_ic 4 hx hb dL_areAhead_153 (by decide) ?_
                      refine lv_iload hx hb dL_areAhead_154 (lv_at hl 5 rfl) ?_
                      refine q_imul hx hb dL_areAhead_156 ?_
                      refine lv_iload hx hb dL_areAhead_157 (lv_at hl 6 rfl) ?_
                      refine q_iadd hx hb dL_areAhead_159 ?_
                      refine lv_lload hx hb dL_areAhead_160 (lv_at hl 8 rfl) ?_
                      refine lv_iload hx hb dL_areAhead_162 (lv_at hl 7 rfl) ?_
                      refine q_i2l hx hb dL_areAhead_164 (by first | omega | exact Nat.lt_of_le_of_lt (hw3 _) (by decide) | exact Nat.lt_of_lt_of_le (hr4 _) (by decide) | exact Nat.lt_of_le_of_lt (bp_le _) (by decide) | assumption) ?_
                      refine q_lmul hx hb dL_areAhead_165 ?_
                      refine q_top (v2 := .long (lN (uB w ro (p + 1) c))) (congrArg (fun z => Value.long (lN z)) (uB_st w ro p c (by omega)).symm) ?_
                      refine q_last (x := 71) (i := (4 * p) + c) (v := lN (uB w ro (p + 1) c)) hC hW (by omega) kd_71 (by omega) dL_areAhead_166 (fun H locs hW => ?_)
                      have hAh := AhC_s hAh (show c < 4 by omega)
                      have hA := InvA_hi hA (fun _ _ => rfl) (fun a ha => up2_ne (j := 4 * p + c) (x := lN (uB w ro (p + 1) c)) (show a ≠ 71 by omega)) (fun _ _ => rfl)
                      have hG : Fr7 J84 J84 (up2 M84 71 ((4 * p) + c) (lN (uB w ro (p + 1) c))) (up2 M84 71 ((4 * p) + c) (lN (uB w ro (p + 1) c))) Q84 Q84 := fr_0
                      refine lv_aload hx hb dL_areAhead_167 (lv_at hl 4 rfl) ?_
                      refine q_ic 4 hx hb dL_areAhead_169 (by decide) ?_
                      refine lv_iload hx hb dL_areAhead_170 (lv_at hl 5 rfl) ?_
                      refine q_imul hx hb dL_areAhead_172 ?_
                      refine lv_iload hx hb dL_areAhead_173 (lv_at hl 6 rfl) ?_
                      refine q_iadd hx hb dL_areAhead_175 ?_
                      refine lv_iload hx hb dL_areAhead_176 (lv_at hl 7 rfl) ?_
                      refine q_ile (tgt := 186) hx hb dL_areAhead_178 (by decide) (by first | omega | exact Nat.lt_of_le_of_lt (hw3 _) (by decide) | exact Nat.lt_of_lt_of_le (hr4 _) (by decide) | exact Nat.lt_of_le_of_lt (bp_le _) (by decide) | assumption) (fun c_178 => ?_) (fun c_178 => ?_)
                      ·
                        refine q_ic 0 hx hb dL_areAhead_186 (by decide) ?_
                        refine q_top (v2 := .int (nI (uB (wb w) ro (p + 1) c))) (congrArg (fun z => Value.int (nI z)) (show 0 = uB (wb w) ro (p + 1) c from by rw [uB_st (wb w) ro p c (by omega)]; show _ = _ * bp (w (42 + c * 4 + ro p)); rw [bp_n c_178, Nat.mul_zero])) ?_
                        refine q_iast (x := 73) (i := (4 * p) + c) (v := nI (uB (wb w) ro (p + 1) c)) hC hW (by omega) kd_73 (by omega) dL_areAhead_187 (fun H locs hW => ?_)
                        have hMa := MaC_s hMa (show c < 4 by omega)
                        have hA := InvA_hi hA (fun a ha => up2_ne (j := 4 * p + c) (x := nI (uB (wb w) ro (p + 1) c)) (show a ≠ 73 by omega)) (fun _ _ => rfl) (fun _ _ => rfl)
                        have hG : Fr7 (up2 J84 73 ((4 * p) + c) (nI (uB (wb w) ro (p + 1) c))) (up2 J84 73 ((4 * p) + c) (nI (uB (wb w) ro (p + 1) c))) (up2 M84 71 ((4 * p) + c) (lN (uB w ro (p + 1) c))) (up2 M84 71 ((4 * p) + c) (lN (uB w ro (p + 1) c))) Q84 Q84 := fr_0
                        refine lv_aload_n hx hb dL_areAhead_188 rfl (lv_at hl 0 rfl) ?_
                        refine lv_iload hx hb dL_areAhead_189 (lv_at hl 5 rfl) ?_
                        refine lv_iload hx hb dL_areAhead_191 (lv_at hl 6 rfl) ?_
                        refine q_kL2 (q_rV (As := [.int (nI (p)), .int (nI (c))]) (rest := []) (x := 0) hC hW mw_X5_forward gw_197 (k_forward l G 74 ad_8 H.size (up2 J84 73 ((4 * p) + c) (nI (uB (wb w) ro (p + 1) c))) (up2 M84 71 ((4 * p) + c) (lN (uB w ro (p + 1) c))) Q84 (nI p) (nI c) w K ro hc hi sv pn ch hA) (by omega) (ct_o5 kd_0) rfl ⟨rfl, rfl⟩ ⟨Nat.le_of_ble_eq_true rfl, Nat.le_of_ble_eq_true rfl⟩ ⟨(Nat.le_of_ble_eq_true rfl), (Nat.le_of_ble_eq_true rfl)⟩ hl.1 rfl rfl (Nat.le_of_ble_eq_true rfl) dL_areAhead_193) hW (fun r_193 n_193 ad_193 I_193 L_193 R_193 H locs hp hW => ?_)
                        obtain ⟨hz, rfl, rfl, hA, hF⟩ := PRl_use hp
                        have hG := fr_t hF hG
                        have hz : r_193 = lN (uB w ro (p + 1) c) := hz.trans (aF1 (m := (w, K, ro)) (p := p) (c := c) (show p < K by omega) hk6 (by first | omega | assumption))
                        subst hz
                        refine lv_lload hx hb dL_areAhead_196 (lv_at hl 8 rfl) ?_
                        refine lv_iload hx hb dL_areAhead_198 (lv_at hl 7 rfl) ?_
                        refine q_i2l hx hb dL_areAhead_200 (by first | omega | exact Nat.lt_of_le_of_lt (hw3 _) (by decide) | exact Nat.lt_of_lt_of_le (hr4 _) (by decide) | exact Nat.lt_of_le_of_lt (bp_le _) (by decide) | assumption) ?_
                        refine q_lmul hx hb dL_areAhead_201 ?_
                        refine q_lcmp hx hb dL_areAhead_202 ?_
                        refine q_Leq (tgt := 208) hx hb dL_areAhead_203 (by decide) (fun c_203 => ?_) (fun c_203 => absurd (congrArg lN (uB_st w ro p c (by omega))) c_203)
                        refine q_iinc (z2 := c + 1) (lv' := [(6, .int (nI (c + 1))), (0, .ref (ad_8 0)), (1, .ref (ad_8 71)), (2, .ref (ad_8 72)), (3, .int (nI (K))), (4, .ref (ad_8 73)), (5, .int (nI (p))), (7, .int (nI (w (42 + c * 4 + ro p)))), (8, .long (lN (rchu w (uB w ro p) c))), (10, .int (nI (rchu (wb w) (uB (wb w) ro p) c))), (11, .int (nI (b)))]) hx hb dL_areAhead_208 hl (k := 6) rfl (inc_up _ 1 (by decide)) (by decide) rfl (fun ls hl => ?_)
                        refine lv_goto (tgt := 24) hx hb dL_areAhead_211 (by decide) ?_
                        exact ih_24 (c + 1) I_193 L_193 R_193 (by omega) (by omega) hA (fr_n hG hNR) (ahc (hG 71 (by decide)).2.1 hAh) (mac (hG 73 (by decide)).1 hMa) _ _ hW _ (lv_sub hl [1, 2, 3, 4, 5, 6, 0] rfl)
                      ·
                        refine lv_iload hx hb dL_areAhead_181 (lv_at hl 9 rfl) ?_
                        refine lv_goto (tgt := 187) hx hb dL_areAhead_183 (by decide) ?_
                        refine q_top (v2 := .int (nI (uB (wb w) ro (p + 1) c))) (congrArg (fun z => Value.int (nI z)) (show rchu (wb w) (uB (wb w) ro p) c = uB (wb w) ro (p + 1) c from by rw [uB_st (wb w) ro p c (by omega)]; show _ = _ * bp (w (42 + c * 4 + ro p)); rw [bp_p c_178, Nat.mul_one])) ?_
                        refine q_iast (x := 73) (i := (4 * p) + c) (v := nI (uB (wb w) ro (p + 1) c)) hC hW (by omega) kd_73 (by omega) dL_areAhead_187 (fun H locs hW => ?_)
                        have hMa := MaC_s hMa (show c < 4 by omega)
                        have hA := InvA_hi hA (fun a ha => up2_ne (j := 4 * p + c) (x := nI (uB (wb w) ro (p + 1) c)) (show a ≠ 73 by omega)) (fun _ _ => rfl) (fun _ _ => rfl)
                        have hG : Fr7 (up2 J84 73 ((4 * p) + c) (nI (uB (wb w) ro (p + 1) c))) (up2 J84 73 ((4 * p) + c) (nI (uB (wb w) ro (p + 1) c))) (up2 M84 71 ((4 * p) + c) (lN (uB w ro (p + 1) c))) (up2 M84 71 ((4 * p) + c) (lN (uB w ro (p + 1) c))) Q84 Q84 := fr_0
                        refine lv_aload_n hx hb dL_areAhead_188 rfl (lv_at hl 0 rfl) ?_
                        refine lv_iload hx hb dL_areAhead_189 (lv_at hl 5 rfl) ?_
                        refine lv_iload hx hb dL_areAhead_191 (lv_at hl 6 rfl) ?_
                        refine q_kL2 (q_rV (As := [.int (nI (p)), .int (nI (c))]) (rest := []) (x := 0) hC hW mw_X5_forward gw_197 (k_forward l G 74 ad_8 H.size (up2 J84 73 ((4 * p) + c) (nI (uB (wb w) ro (p + 1) c))) (up2 M84 71 ((4 * p) + c) (lN (uB w ro (p + 1) c))) Q84 (nI p) (nI c) w K ro hc hi sv pn ch hA) (by omega) (ct_o5 kd_0) rfl ⟨rfl, rfl⟩ ⟨Nat.le_of_ble_eq_true rfl, Nat.le_of_ble_eq_true rfl⟩ ⟨(Nat.le_of_ble_eq_true rfl), (Nat.le_of_ble_eq_true rfl)⟩ hl.1 rfl rfl (Nat.le_of_ble_eq_true rfl) dL_areAhead_193) hW (fun r_193 n_193 ad_193 I_193 L_193 R_193 H locs hp hW => ?_)
                        obtain ⟨hz, rfl, rfl, hA, hF⟩ := PRl_use hp
                        have hG := fr_t hF hG
                        have hz : r_193 = lN (uB w ro (p + 1) c) := hz.trans (aF1 (m := (w, K, ro)) (p := p) (c := c) (show p < K by omega) hk6 (by first | omega | assumption))
                        subst hz
                        refine lv_lload hx hb dL_areAhead_196 (lv_at hl 8 rfl) ?_
                        refine lv_iload hx hb dL_areAhead_198 (lv_at hl 7 rfl) ?_
                        refine q_i2l hx hb dL_areAhead_200 (by first | omega | exact Nat.lt_of_le_of_lt (hw3 _) (by decide) | exact Nat.lt_of_lt_of_le (hr4 _) (by decide) | exact Nat.lt_of_le_of_lt (bp_le _) (by decide) | assumption) ?_
                        refine q_lmul hx hb dL_areAhead_201 ?_
                        refine q_lcmp hx hb dL_areAhead_202 ?_
                        refine q_Leq (tgt := 208) hx hb dL_areAhead_203 (by decide) (fun c_203 => ?_) (fun c_203 => absurd (congrArg lN (uB_st w ro p c (by omega))) c_203)
                        refine q_iinc (z2 := c + 1) (lv' := [(6, .int (nI (c + 1))), (0, .ref (ad_8 0)), (1, .ref (ad_8 71)), (2, .ref (ad_8 72)), (3, .int (nI (K))), (4, .ref (ad_8 73)), (5, .int (nI (p))), (7, .int (nI (w (42 + c * 4 + ro p)))), (8, .long (lN (rchu w (uB w ro p) c))), (10, .int (nI (rchu (wb w) (uB (wb w) ro p) c))), (11, .int (nI (b)))]) hx hb dL_areAhead_208 hl (k := 6) rfl (inc_up _ 1 (by decide)) (by decide) rfl (fun ls hl => ?_)
                        refine lv_goto (tgt := 24) hx hb dL_areAhead_211 (by decide) ?_
                        exact ih_24 (c + 1) I_193 L_193 R_193 (by omega) (by omega) hA (fr_n hG hNR) (ahc (hG 71 (by decide)).2.1 hAh) (mac (hG 73 (by decide)).1 hMa) _ _ hW _ (lv_sub hl [1, 2, 3, 4, 5, 6, 0] rfl)
                    ·
                      refine lv_iload hx hb dL_areAhead_90 (lv_at hl 5 rfl) ?_
                      refine q_ile (tgt := 152) hx hb dL_areAhead_92 (by decide) (by first | omega | exact Nat.lt_of_le_of_lt (hw3 _) (by decide) | exact Nat.lt_of_lt_of_le (hr4 _) (by decide) | exact Nat.lt_of_le_of_lt (bp_le _) (by decide) | assumption) (fun c_92 => absurd c_92 (by have := c_47; omega)) (fun c_92 => ?_)
                      refine lv_lload hx hb dL_areAhead_95 (lv_at hl 8 rfl) ?_
                      refine lv_aload_n hx hb dL_areAhead_97 rfl (lv_at hl 1 rfl) ?_
                      refine q_ic 4 hx hb dL_areAhead_98 (by decide) ?_
                      refine lv_iload hx hb dL_areAhead_99 (lv_at hl 5 rfl) ?_
                      refine q_imul hx hb dL_areAhead_101 ?_
                      refine q_ic 4 hx hb dL_areAhead_102 (by decide) ?_
                      refine q_isub hx hb dL_areAhead_103 (by omega) ?_
                      refine lv_iload hx hb dL_areAhead_104 (lv_at hl 10 rfl) ?_
                      refine q_iadd hx hb dL_areAhead_106 ?_
                      refine q_lald (x := 71) (i := ((4 * p) - 4) + b) hC hW (by omega) kd_71 (by omega) dL_areAhead_107 ?_
                      refine q_top (v2 := .long (lN (uB w ro p b))) (congrArg _ ((congrFun (hG 71 (by decide)).2.1 _).trans ((congrArg _ (show ((4 * p) - 4) + b = 4 * (p - 1) + b from by omega)).trans ((hAh (p - 1) b (by omega) (by omega)).trans (congrArg lN (show uB w ro (p - 1 + 1) b = uB w ro p b from by rw [show p - 1 + 1 = p by omega])))))) ?_
                      refine lv_aload_n hx hb dL_areAhead_108 rfl (lv_at hl 0 rfl) ?_
                      refine lv_iload hx hb dL_areAhead_109 (lv_at hl 10 rfl) ?_
                      refine lv_iload hx hb dL_areAhead_111 (lv_at hl 6 rfl) ?_
                      refine q_kL2 (q_rS (As := [.ref (ad_8 0), .int (nI (b)), .int (nI (c))]) (rest := [.long (lN (uB w ro p b)), .long (lN (fb_sm (fun b => uB w ro p b * ov w b c) b))]) hC hW mw_L_over gw_191 (k_over l G 74 ad_8 H.size J84 M84 Q84 b c w K ro hc hi sv pn ch hA (by first | omega | assumption) (by first | omega | assumption)) ⟨rfl, rfl⟩ ⟨Nat.le_of_ble_eq_true rfl, Nat.le_of_ble_eq_true rfl⟩ ⟨(Nat.le_of_ble_eq_true rfl), (Nat.le_of_ble_eq_true rfl)⟩ hl.1 rfl rfl (Nat.le_of_ble_eq_true rfl) dL_areAhead_113) hW (fun r_113 n_113 ad_113 I_113 L_113 R_113 H locs hp hW => ?_)
                      obtain ⟨hz, rfl, rfl, hA, hF⟩ := PRl_use hp
                      have hG := fr_t hF hG
                      have hz : r_113 = lN (ov w b c) := hz
                      subst hz
                      refine q_lmul hx hb dL_areAhead_116 ?_
                      refine q_ladd hx hb dL_areAhead_117 ?_
                      refine lv_lstore (lv' := [(8, .long (lN ((fb_sm (fun b => uB w ro p b * ov w b c) b) + ((uB w ro p b) * (ov w b c))))), (0, .ref (ad_8 0)), (1, .ref (ad_8 71)), (2, .ref (ad_8 72)), (3, .int (nI (K))), (4, .ref (ad_8 73)), (5, .int (nI (p))), (6, .int (nI (c))), (7, .int (nI (w (42 + c * 4 + ro p)))), (10, .int (nI (fb_sm (fun b => uB (wb w) ro p b * ov (wb w) b c) b))), (11, .int (nI (b)))]) hx hb dL_areAhead_118 hl (by decide) rfl (fun ls hl => ?_)
                      refine lv_iload hx hb dL_areAhead_120 (lv_at hl 9 rfl) ?_
                      refine lv_aload hx hb dL_areAhead_122 (lv_at hl 5 rfl) ?_
                      refine q_ic 4 hx hb dL_areAhead_124 (by decide) ?_
                      refine lv_iload hx hb dL_areAhead_125 (lv_at hl 6 rfl) ?_
                      refine q_imul hx hb dL_areAhead_127 ?_
                      refine q_ic 4 hx hb dL_areAhead_128 (by decide) ?_
                      refine q_isub hx hb dL_areAhead_129 (by omega) ?_
                      refine lv_iload hx hb dL_areAhead_130 (lv_at hl 10 rfl) ?_
                      refine q_iadd hx hb dL_areAhead_132 ?_
                      refine q_iald (x := 73) (i := ((4 * p) - 4) + b) hC hW (by omega) kd_73 (by omega) dL_areAhead_133 ?_
                      refine q_top (v2 := .int (nI (uB (wb w) ro p b))) (congrArg _ ((congrFun (hG 73 (by decide)).1 _).trans ((congrArg _ (show ((4 * p) - 4) + b = 4 * (p - 1) + b from by omega)).trans ((hMa (p - 1) b (by omega) (by omega)).trans (congrArg nI (show uB (wb w) ro (p - 1 + 1) b = uB (wb w) ro p b from by rw [show p - 1 + 1 = p by omega])))))) ?_
                      refine lv_aload_n hx hb dL_areAhead_134 rfl (lv_at hl 1 rfl) ?_
                      refine lv_iload hx hb dL_areAhead_135 (lv_at hl 10 rfl) ?_
                      refine lv_iload hx hb dL_areAhead_137 (lv_at hl 7 rfl) ?_
                      refine q_kI2 (q_rS (As := [.ref (ad_8 0), .int (nI (b)), .int (nI (c))]) (rest := [.int (nI (uB (wb w) ro p b)), .int (nI (fb_sm (fun b => uB (wb w) ro p b * ov (wb w) b c) b))]) hC hW mw_L_manners gw_194 (k_manners l G 74 ad_8 H.size I_113 L_113 R_113 b c w K ro hc hi sv pn ch hA (by first | omega | assumption) (by first | omega | assumption)) ⟨rfl, rfl⟩ ⟨Nat.le_of_ble_eq_true rfl, Nat.le_of_ble_eq_true rfl⟩ ⟨(Nat.le_of_ble_eq_true rfl), (Nat.le_of_ble_eq_true rfl)⟩ hl.1 rfl rfl (Nat.le_of_ble_eq_true rfl) dL_areAhead_139) hW (fun r_139 n_139 ad_139 I_139 L_139 R_139 H locs hp hW => ?_)
                      obtain ⟨hz, rfl, rfl, hA, hF⟩ := PR_use hp
                      have hG := fr_t hF hG
                      have hz : r_139 = nI (ov (wb w) b c) := hz
                      subst hz
                      refine q_imul hx hb dL_areAhead_142 ?_
                      refine q_iadd hx hb dL_areAhead_143 ?_
                      refine lv_istore (lv' := [(10, .int (nI ((fb_sm (fun b => uB (wb w) ro p b * ov (wb w) b c) b) + ((uB (wb w) ro p b) * (ov (wb w) b c))))), (8, .long (lN ((fb_sm (fun b => uB w ro p b * ov w b c) b) + ((uB w ro p b) * (ov w b c))))), (0, .ref (ad_8 0)), (1, .ref (ad_8 71)), (2, .ref (ad_8 72)), (3, .int (nI (K))), (4, .ref (ad_8 73)), (5, .int (nI (p))), (6, .int (nI (c))), (7, .int (nI (w (42 + c * 4 + ro p)))), (11, .int (nI (b)))]) hx hb dL_areAhead_144 hl (by decide) rfl (fun ls hl => ?_)
                      refine q_iinc (z2 := b + 1) (lv' := [(11, .int (nI (b + 1))), (10, .int (nI ((fb_sm (fun b => uB (wb w) ro p b * ov (wb w) b c) b) + ((uB (wb w) ro p b) * (ov (wb w) b c))))), (8, .long (lN ((fb_sm (fun b => uB w ro p b * ov w b c) b) + ((uB w ro p b) * (ov w b c))))), (0, .ref (ad_8 0)), (1, .ref (ad_8 71)), (2, .ref (ad_8 72)), (3, .int (nI (K))), (4, .ref (ad_8 73)), (5, .int (nI (p))), (6, .int (nI (c))), (7, .int (nI (w (42 + c * 4 + ro p))))]) hx hb dL_areAhead_146 hl (k := 10) rfl (inc_up _ 1 (by decide)) (by decide) rfl (fun ls hl => ?_)
                      refine lv_goto (tgt := 84) hx hb dL_areAhead_149 (by decide) ?_
                      exact ih_84 (b + 1) I_139 L_139 R_139 (by omega) (by omega) hA (fr_n hG hNR) (ahc (hG 71 (by decide)).2.1 hAh) (mac (hG 73 (by decide)).1 hMa) _ _ hW _ (lv_sub hl [3, 4, 5, 6, 7, 8, 9, 10, 2, 1, 0] rfl)
                exact lp_84 (4 + 1) 0 I_40 L_40 R_40 (by omega) (by omega) hA (fr_n hG hNR) (ahc (hG 71 (by decide)).2.1 hAh) (mac (hG 73 (by decide)).1 hMa) _ _ hW _ (lv_sub hl [4, 5, 6, 7, 8, 9, 10, 3, 2, 1, 0] rfl)
              ·
                refine lv_aload_n hx hb dL_areAhead_50 rfl (lv_at hl 1 rfl) ?_
                refine lv_iconst (v := -1) hx hb dL_areAhead_51 (by decide) ?_
                refine lv_iload hx hb dL_areAhead_52 (lv_at hl 7 rfl) ?_
                refine q_kL2 (q_rS (As := [.ref (ad_8 0), .int (-1), .int (nI (c))]) (rest := []) hC hW mw_L_over gw_191 (k_over6 l G 74 ad_8 H.size I_40 L_40 R_40  c w K ro hc hi sv pn ch hA  (by first | omega | assumption)) ⟨rfl, rfl⟩ ⟨Nat.le_of_ble_eq_true rfl, Nat.le_of_ble_eq_true rfl⟩ ⟨(Nat.le_of_ble_eq_true rfl), (Nat.le_of_ble_eq_true rfl)⟩ hl.1 rfl rfl (Nat.le_of_ble_eq_true rfl) dL_areAhead_54) hW (fun r_54 n_54 ad_54 I_54 L_54 R_54 H locs hp hW => ?_)
                obtain ⟨hz, rfl, rfl, hA, hF⟩ := PRl_use hp
                have hG := fr_t hF hG
                have hz : r_54 = lN (ov w 6 c) := hz
                subst hz
                refine lv_goto (tgt := 61) hx hb dL_areAhead_57 (by decide) ?_
                refine lv_lstore (lv' := [(8, .long (lN (ov w 6 c))), (7, .int (nI (w (42 + c * 4 + (ro p))))), (0, .ref (ad_8 0)), (1, .ref (ad_8 71)), (2, .ref (ad_8 72)), (3, .int (nI (K))), (4, .ref (ad_8 73)), (5, .int (nI (p))), (6, .int (nI (c)))]) hx hb dL_areAhead_61 hl (by decide) rfl (fun ls hl => ?_)
                refine lv_iload hx hb dL_areAhead_63 (lv_at hl 7 rfl) ?_
                refine q_ine (tgt := 78) hx hb dL_areAhead_65 (by decide) (by first | omega | exact Nat.lt_of_le_of_lt (hw3 _) (by decide) | exact Nat.lt_of_lt_of_le (hr4 _) (by decide) | exact Nat.lt_of_le_of_lt (bp_le _) (by decide) | assumption) (fun c_65 => absurd c_65 (by have := c_47; omega)) (fun c_65 => ?_)
                refine lv_aload_n hx hb dL_areAhead_68 rfl (lv_at hl 2 rfl) ?_
                refine lv_iconst (v := -1) hx hb dL_areAhead_69 (by decide) ?_
                refine lv_iload hx hb dL_areAhead_70 (lv_at hl 8 rfl) ?_
                refine q_kI2 (q_rS (As := [.ref (ad_8 0), .int (-1), .int (nI (c))]) (rest := []) hC hW mw_L_manners gw_194 (k_manners6 l G 74 ad_8 H.size I_54 L_54 R_54  c w K ro hc hi sv pn ch hA  (by first | omega | assumption)) ⟨rfl, rfl⟩ ⟨Nat.le_of_ble_eq_true rfl, Nat.le_of_ble_eq_true rfl⟩ ⟨(Nat.le_of_ble_eq_true rfl), (Nat.le_of_ble_eq_true rfl)⟩ hl.1 rfl rfl (Nat.le_of_ble_eq_true rfl) dL_areAhead_72) hW (fun r_72 n_72 ad_72 I_72 L_72 R_72 H locs hp hW => ?_)
                obtain ⟨hz, rfl, rfl, hA, hF⟩ := PR_use hp
                have hG := fr_t hF hG
                have hz : r_72 = nI (ov (wb w) 6 c) := hz
                subst hz
                refine lv_goto (tgt := 79) hx hb dL_areAhead_75 (by decide) ?_
                refine lv_istore (lv' := [(10, .int (nI (ov (wb w) 6 c))), (8, .long (lN (ov w 6 c))), (7, .int (nI (w (42 + c * 4 + (ro p))))), (0, .ref (ad_8 0)), (1, .ref (ad_8 71)), (2, .ref (ad_8 72)), (3, .int (nI (K))), (4, .ref (ad_8 73)), (5, .int (nI (p))), (6, .int (nI (c)))]) hx hb dL_areAhead_79 hl (by decide) rfl (fun ls hl => ?_)
                refine q_ic 0 hx hb dL_areAhead_81 (by decide) ?_
                refine lv_istore (lv' := [(11, .int (nI 0)), (10, .int (nI (ov (wb w) 6 c))), (8, .long (lN (ov w 6 c))), (7, .int (nI (w (42 + c * 4 + (ro p))))), (0, .ref (ad_8 0)), (1, .ref (ad_8 71)), (2, .ref (ad_8 72)), (3, .int (nI (K))), (4, .ref (ad_8 73)), (5, .int (nI (p))), (6, .int (nI (c)))]) hx hb dL_areAhead_82 hl (by decide) rfl (fun ls hl => ?_)
                refine lv_iload hx hb dL_areAhead_84 (lv_at hl 0 rfl) ?_
                refine q_ic 4 hx hb dL_areAhead_86 (by decide) ?_
                refine q_cge (tgt := 152) hx hb dL_areAhead_87 (by decide) (by first | omega | exact Nat.lt_of_le_of_lt (hw3 _) (by decide) | exact Nat.lt_of_lt_of_le (hr4 _) (by decide) | exact Nat.lt_of_le_of_lt (bp_le _) (by decide) | assumption) (by first | omega | exact Nat.lt_of_le_of_lt (hw3 _) (by decide) | exact Nat.lt_of_lt_of_le (hr4 _) (by decide) | exact Nat.lt_of_le_of_lt (bp_le _) (by decide) | assumption) (fun c_87 => absurd c_87 (by decide)) (fun c_87 => ?_)
                refine lv_iload hx hb dL_areAhead_90 (lv_at hl 9 rfl) ?_
                refine q_ile (tgt := 152) hx hb dL_areAhead_92 (by decide) (by first | omega | exact Nat.lt_of_le_of_lt (hw3 _) (by decide) | exact Nat.lt_of_lt_of_le (hr4 _) (by decide) | exact Nat.lt_of_le_of_lt (bp_le _) (by decide) | assumption) (fun c_92 => ?_) (fun c_92 => absurd c_92 (by have := c_47; omega))
                have hl : lv_has ls 12 [(11, .int (nI 0)), (10, .int (nI (rchu (wb w) (uB (wb w) ro p) c))), (8, .long (lN (rchu w (uB w ro p) c))), (7, .int (nI (w (42 + c * 4 + (ro p))))), (0, .ref (ad_8 0)), (1, .ref (ad_8 71)), (2, .ref (ad_8 72)), (3, .int (nI (K))), (4, .ref (ad_8 73)), (5, .int (nI (p))), (6, .int (nI (c)))] := by rw [show rchu w (uB w ro p) c = ov w 6 c from by rw [show p = 0 by omega]; exact rc_0 w ro c, show rchu (wb w) (uB (wb w) ro p) c = ov (wb w) 6 c from by rw [show p = 0 by omega]; exact rc_0 (wb w) ro c]; exact hl
                have hAh := ahc (hG 71 (by decide)).2.1 hAh
                have hMa := mac (hG 73 (by decide)).1 hMa
                have hNR := fr_n hG hNR
                have hG : Fr7 I_72 I_72 L_72 L_72 R_72 R_72 := fr_0
                refine lv_aload_n hx hb dL_areAhead_152 rfl (lv_at hl 5 rfl) ?_
                refine q_ic 4 hx hb dL_areAhead_153 (by decide) ?_
                refine lv_iload hx hb dL_areAhead_154 (lv_at hl 9 rfl) ?_
                refine q_imul hx hb dL_areAhead_156 ?_
                refine lv_iload hx hb dL_areAhead_157 (lv_at hl 10 rfl) ?_
                refine q_iadd hx hb dL_areAhead_159 ?_
                refine lv_lload hx hb dL_areAhead_160 (lv_at hl 2 rfl) ?_
                refine lv_iload hx hb dL_areAhead_162 (lv_at hl 3 rfl) ?_
                refine q_i2l hx hb dL_areAhead_164 (by first | omega | exact Nat.lt_of_le_of_lt (hw3 _) (by decide) | exact Nat.lt_of_lt_of_le (hr4 _) (by decide) | exact Nat.lt_of_le_of_lt (bp_le _) (by decide) | assumption) ?_
                refine q_lmul hx hb dL_areAhead_165 ?_
                refine q_top (v2 := .long (lN (uB w ro (p + 1) c))) (congrArg (fun z => Value.long (lN z)) (uB_st w ro p c (by omega)).symm) ?_
                refine q_last (x := 71) (i := (4 * p) + c) (v := lN (uB w ro (p + 1) c)) hC hW (by omega) kd_71 (by omega) dL_areAhead_166 (fun H locs hW => ?_)
                have hAh := AhC_s hAh (show c < 4 by omega)
                have hA := InvA_hi hA (fun _ _ => rfl) (fun a ha => up2_ne (j := 4 * p + c) (x := lN (uB w ro (p + 1) c)) (show a ≠ 71 by omega)) (fun _ _ => rfl)
                have hG : Fr7 I_72 I_72 (up2 L_72 71 ((4 * p) + c) (lN (uB w ro (p + 1) c))) (up2 L_72 71 ((4 * p) + c) (lN (uB w ro (p + 1) c))) R_72 R_72 := fr_0
                refine lv_aload hx hb dL_areAhead_167 (lv_at hl 8 rfl) ?_
                refine q_ic 4 hx hb dL_areAhead_169 (by decide) ?_
                refine lv_iload hx hb dL_areAhead_170 (lv_at hl 9 rfl) ?_
                refine q_imul hx hb dL_areAhead_172 ?_
                refine lv_iload hx hb dL_areAhead_173 (lv_at hl 10 rfl) ?_
                refine q_iadd hx hb dL_areAhead_175 ?_
                refine lv_iload hx hb dL_areAhead_176 (lv_at hl 3 rfl) ?_
                refine q_ile (tgt := 186) hx hb dL_areAhead_178 (by decide) (by first | omega | exact Nat.lt_of_le_of_lt (hw3 _) (by decide) | exact Nat.lt_of_lt_of_le (hr4 _) (by decide) | exact Nat.lt_of_le_of_lt (bp_le _) (by decide) | assumption) (fun c_178 => ?_) (fun c_178 => ?_)
                ·
                  refine q_ic 0 hx hb dL_areAhead_186 (by decide) ?_
                  refine q_top (v2 := .int (nI (uB (wb w) ro (p + 1) c))) (congrArg (fun z => Value.int (nI z)) (show 0 = uB (wb w) ro (p + 1) c from by rw [uB_st (wb w) ro p c (by omega)]; show _ = _ * bp (w (42 + c * 4 + ro p)); rw [bp_n c_178, Nat.mul_zero])) ?_
                  refine q_iast (x := 73) (i := (4 * p) + c) (v := nI (uB (wb w) ro (p + 1) c)) hC hW (by omega) kd_73 (by omega) dL_areAhead_187 (fun H locs hW => ?_)
                  have hMa := MaC_s hMa (show c < 4 by omega)
                  have hA := InvA_hi hA (fun a ha => up2_ne (j := 4 * p + c) (x := nI (uB (wb w) ro (p + 1) c)) (show a ≠ 73 by omega)) (fun _ _ => rfl) (fun _ _ => rfl)
                  have hG : Fr7 (up2 I_72 73 ((4 * p) + c) (nI (uB (wb w) ro (p + 1) c))) (up2 I_72 73 ((4 * p) + c) (nI (uB (wb w) ro (p + 1) c))) (up2 L_72 71 ((4 * p) + c) (lN (uB w ro (p + 1) c))) (up2 L_72 71 ((4 * p) + c) (lN (uB w ro (p + 1) c))) R_72 R_72 := fr_0
                  refine lv_aload_n hx hb dL_areAhead_188 rfl (lv_at hl 4 rfl) ?_
                  refine lv_iload hx hb dL_areAhead_189 (lv_at hl 9 rfl) ?_
                  refine lv_iload hx hb dL_areAhead_191 (lv_at hl 10 rfl) ?_
                  refine q_kL2 (q_rV (As := [.int (nI (p)), .int (nI (c))]) (rest := []) (x := 0) hC hW mw_X5_forward gw_197 (k_forward l G 74 ad_8 H.size (up2 I_72 73 ((4 * p) + c) (nI (uB (wb w) ro (p + 1) c))) (up2 L_72 71 ((4 * p) + c) (lN (uB w ro (p + 1) c))) R_72 (nI p) (nI c) w K ro hc hi sv pn ch hA) (by omega) (ct_o5 kd_0) rfl ⟨rfl, rfl⟩ ⟨Nat.le_of_ble_eq_true rfl, Nat.le_of_ble_eq_true rfl⟩ ⟨(Nat.le_of_ble_eq_true rfl), (Nat.le_of_ble_eq_true rfl)⟩ hl.1 rfl rfl (Nat.le_of_ble_eq_true rfl) dL_areAhead_193) hW (fun r_193 n_193 ad_193 I_193 L_193 R_193 H locs hp hW => ?_)
                  obtain ⟨hz, rfl, rfl, hA, hF⟩ := PRl_use hp
                  have hG := fr_t hF hG
                  have hz : r_193 = lN (uB w ro (p + 1) c) := hz.trans (aF1 (m := (w, K, ro)) (p := p) (c := c) (show p < K by omega) hk6 (by first | omega | assumption))
                  subst hz
                  refine lv_lload hx hb dL_areAhead_196 (lv_at hl 2 rfl) ?_
                  refine lv_iload hx hb dL_areAhead_198 (lv_at hl 3 rfl) ?_
                  refine q_i2l hx hb dL_areAhead_200 (by first | omega | exact Nat.lt_of_le_of_lt (hw3 _) (by decide) | exact Nat.lt_of_lt_of_le (hr4 _) (by decide) | exact Nat.lt_of_le_of_lt (bp_le _) (by decide) | assumption) ?_
                  refine q_lmul hx hb dL_areAhead_201 ?_
                  refine q_lcmp hx hb dL_areAhead_202 ?_
                  refine q_Leq (tgt := 208) hx hb dL_areAhead_203 (by decide) (fun c_203 => ?_) (fun c_203 => absurd (congrArg lN (uB_st w ro p c (by omega))) c_203)
                  refine q_iinc (z2 := c + 1) (lv' := [(6, .int (nI (c + 1))), (11, .int (nI 0)), (10, .int (nI (rchu (wb w) (uB (wb w) ro p) c))), (8, .long (lN (rchu w (uB w ro p) c))), (7, .int (nI (w (42 + c * 4 + (ro p))))), (0, .ref (ad_8 0)), (1, .ref (ad_8 71)), (2, .ref (ad_8 72)), (3, .int (nI (K))), (4, .ref (ad_8 73)), (5, .int (nI (p)))]) hx hb dL_areAhead_208 hl (k := 10) rfl (inc_up _ 1 (by decide)) (by decide) rfl (fun ls hl => ?_)
                  refine lv_goto (tgt := 24) hx hb dL_areAhead_211 (by decide) ?_
                  exact ih_24 (c + 1) I_193 L_193 R_193 (by omega) (by omega) hA (fr_n hG hNR) (ahc (hG 71 (by decide)).2.1 hAh) (mac (hG 73 (by decide)).1 hMa) _ _ hW _ (lv_sub hl [5, 6, 7, 8, 9, 10, 0] rfl)
                ·
                  refine lv_iload hx hb dL_areAhead_181 (lv_at hl 1 rfl) ?_
                  refine lv_goto (tgt := 187) hx hb dL_areAhead_183 (by decide) ?_
                  refine q_top (v2 := .int (nI (uB (wb w) ro (p + 1) c))) (congrArg (fun z => Value.int (nI z)) (show rchu (wb w) (uB (wb w) ro p) c = uB (wb w) ro (p + 1) c from by rw [uB_st (wb w) ro p c (by omega)]; show _ = _ * bp (w (42 + c * 4 + ro p)); rw [bp_p c_178, Nat.mul_one])) ?_
                  refine q_iast (x := 73) (i := (4 * p) + c) (v := nI (uB (wb w) ro (p + 1) c)) hC hW (by omega) kd_73 (by omega) dL_areAhead_187 (fun H locs hW => ?_)
                  have hMa := MaC_s hMa (show c < 4 by omega)
                  have hA := InvA_hi hA (fun a ha => up2_ne (j := 4 * p + c) (x := nI (uB (wb w) ro (p + 1) c)) (show a ≠ 73 by omega)) (fun _ _ => rfl) (fun _ _ => rfl)
                  have hG : Fr7 (up2 I_72 73 ((4 * p) + c) (nI (uB (wb w) ro (p + 1) c))) (up2 I_72 73 ((4 * p) + c) (nI (uB (wb w) ro (p + 1) c))) (up2 L_72 71 ((4 * p) + c) (lN (uB w ro (p + 1) c))) (up2 L_72 71 ((4 * p) + c) (lN (uB w ro (p + 1) c))) R_72 R_72 := fr_0
                  refine lv_aload_n hx hb dL_areAhead_188 rfl (lv_at hl 4 rfl) ?_
                  refine lv_iload hx hb dL_areAhead_189 (lv_at hl 9 rfl) ?_
                  refine lv_iload hx hb dL_areAhead_191 (lv_at hl 10 rfl) ?_
                  refine q_kL2 (q_rV (As := [.int (nI (p)), .int (nI (c))]) (rest := []) (x := 0) hC hW mw_X5_forward gw_197 (k_forward l G 74 ad_8 H.size (up2 I_72 73 ((4 * p) + c) (nI (uB (wb w) ro (p + 1) c))) (up2 L_72 71 ((4 * p) + c) (lN (uB w ro (p + 1) c))) R_72 (nI p) (nI c) w K ro hc hi sv pn ch hA) (by omega) (ct_o5 kd_0) rfl ⟨rfl, rfl⟩ ⟨Nat.le_of_ble_eq_true rfl, Nat.le_of_ble_eq_true rfl⟩ ⟨(Nat.le_of_ble_eq_true rfl), (Nat.le_of_ble_eq_true rfl)⟩ hl.1 rfl rfl (Nat.le_of_ble_eq_true rfl) dL_areAhead_193) hW (fun r_193 n_193 ad_193 I_193 L_193 R_193 H locs hp hW => ?_)
                  obtain ⟨hz, rfl, rfl, hA, hF⟩ := PRl_use hp
                  have hG := fr_t hF hG
                  have hz : r_193 = lN (uB w ro (p + 1) c) := hz.trans (aF1 (m := (w, K, ro)) (p := p) (c := c) (show p < K by omega) hk6 (by first | omega | assumption))
                  subst hz
                  refine lv_lload hx hb dL_areAhead_196 (lv_at hl 2 rfl) ?_
                  refine lv_iload hx hb dL_areAhead_198 (lv_at hl 3 rfl) ?_
                  refine q_i2l hx hb dL_areAhead_200 (by first | omega | exact Nat.lt_of_le_of_lt (hw3 _) (by decide) | exact Nat.lt_of_lt_of_le (hr4 _) (by decide) | exact Nat.lt_of_le_of_lt (bp_le _) (by decide) | assumption) ?_
                  refine q_lmul hx hb dL_areAhead_201 ?_
                  refine q_lcmp hx hb dL_areAhead_202 ?_
                  refine q_Leq (tgt := 208) hx hb dL_areAhead_203 (by decide) (fun c_203 => ?_) (fun c_203 => absurd (congrArg lN (uB_st w ro p c (by omega))) c_203)
                  refine q_iinc (z2 := c + 1) (lv' := [(6, .int (nI (c + 1))), (11, .int (nI 0)), (10, .int (nI (rchu (wb w) (uB (wb w) ro p) c))), (8, .long (lN (rchu w (uB w ro p) c))), (7, .int (nI (w (42 + c * 4 + (ro p))))), (0, .ref (ad_8 0)), (1, .ref (ad_8 71)), (2, .ref (ad_8 72)), (3, .int (nI (K))), (4, .ref (ad_8 73)), (5, .int (nI (p)))]) hx hb dL_areAhead_208 hl (k := 10) rfl (inc_up _ 1 (by decide)) (by decide) rfl (fun ls hl => ?_)
                  refine lv_goto (tgt := 24) hx hb dL_areAhead_211 (by decide) ?_
                  exact ih_24 (c + 1) I_193 L_193 R_193 (by omega) (by omega) hA (fr_n hG hNR) (ahc (hG 71 (by decide)).2.1 hAh) (mac (hG 73 (by decide)).1 hMa) _ _ hW _ (lv_sub hl [5, 6, 7, 8, 9, 10, 0] rfl)
        exact lp_24 (4 + 1) 0 J15 M15 Q15 (by omega) (by omega) hA (fr_n hG hNR) (ahc (hG 71 (by decide)).2.1 hAh) (mac (hG 73 (by decide)).1 hMa) _ _ hW _ (lv_sub hl [1, 2, 3, 4, 5, 6, 0] rfl)
  exact lp_15 (K + 1) 0 (zr I_2 73 0) (zr L_2 73 0) (zr R_2 73 none) (by omega) (by omega) hA (fr_n hG hNR) (ahc (hG 71 (by decide)).2.1 hAh) (mac (hG 73 (by decide)).1 hMa) _ _ hW _ (lv_sub hl [3, 4, 5, 2, 1, 0] rfl)
