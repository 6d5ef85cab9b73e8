theorem Bh_77 {w r : Nat → Nat} {K : Nat} {I : Ic} {L L1 : Lc} (h : BhI w r K I L 0) (hL : ∀ a, a ≠ 77 → L1 a = L a) : BhI w r K I L1 0 := fun d t h1 h2 h3 => by
  have := h d t h1 h2 h3
  unfold Bq at this ⊢
  rw [hL 78 (by decide), hL 80 (by decide)]
  exact this
set_option maxRecDepth 100000 in
set_option maxHeartbeats 4000000 in
theorem k_rodds (l : Launch) (G : Gx) (n : Nat) (ad : Nat → Nat) (sz : Nat) (I : Ic) (L : Lc) (R : Rc) (place coin part : Int32) (w : Nat → Nat) (K : Nat) (ro : Nat → Nat) (hc : Nat) (hi : Nat → CM) (sv : Nat → Option CM) (pn : Nat) (ch : Nat → Nat) (hI0 : InvB n I R ((w, K, ro), hc, hi, sv, pn, ch)) : Met l yX6_odds (Cond.code yX6_odds cX6_odds 6 (some .long) :: GW) ({ frames := 6, cells := 0, slots := 0, locals := 216 } : Room) (qPre G n ad sz I L R [.ref (ad 71), .int (place), .int (coin), .int (part)]) (qL1 G (qA n ad sz) n ad R (fun z I1 L1 => RRl n I L R (aOdds (w, K, ro) place coin part, ((w, K, ro), hc, hi, sv, pn, ch)) z I1 L1)) 0 0 (qA n ad sz) := by
  refine q_met (by decide) (Nat.le_of_ble_eq_true rfl) ?_
  intro p_ e_ s m_ below meth c_ hC hr hlk0 hin hsz hW ls hl
  subst hsz
  have hC : CallFix p_ m_ c_ cX6_odds 6 s ([.ref (ad 71), .int (place), .int (coin), .int (part)] : List Value).toArray GW "CoinRowsModel" := hC
  have hx := hC.1
  have hb := hC.2.1
  have hn : 83 ≤ n := hI0.1
  have hlk : LkOK n R := hI0.2.1
  have hN : NwI (I 72) w K ro := hI0.2.2.1
  have hH : HwB I hc hi := hI0.2.2.2.1
  have hSw : SwB I sv := hI0.2.2.2.2.1
  have hPd : PdB I pn ch := hI0.2.2.2.2.2
  have hh1 := hH.1
  have hh6 := hH.2.1
  have hp80 := hPd.2.1
  have hk6 : K ≤ 6 := hN.2.2.2.1
  have hw : Wok w := hN.2.2.2.2.1
  have hw3 : ∀ i, w i ≤ 3 := hw.1
  have hr4 : ∀ j, ro j < 4 := hN.2.2.2.2.2
  have hT63 : Sx' w K ro K 6 < 2 ^ 63 := Nat.lt_of_le_of_lt (Sx_b hw K K 6 hk6) (by decide)
  have hl : lv_has ls 6 [(0, .ref (ad 71)), (1, .int (place)), (2, .int (coin)), (3, .int (part))] := hl
  refine lv_aload_n hx hb dX6_odds_0 rfl (lv_at hl 0 rfl) ?_
  refine lv_iload_n hx hb dX6_odds_1 rfl (lv_at hl 1 rfl) ?_
  refine q_kI0 (q_rV (As := [.int (place)]) (rest := []) (x := 71) hC hW mw_X6_isPlace gw_566 (k_isPlace l G n ad s.heap.size I L R _ w K ro hn hlk hN) (by omega) (ct_o6 kd_71) rfl ⟨rfl, rfl⟩ ⟨Nat.le_of_ble_eq_true rfl, Nat.le_of_ble_eq_true rfl⟩ ⟨(Nat.le_of_ble_eq_true rfl), (Nat.le_of_ble_eq_true rfl)⟩ hl.1 rfl rfl (Nat.le_of_ble_eq_true rfl) dX6_odds_2) hW (fun r_2 H locs hp hW => ?_)
  rcases hp with ⟨k_2, hk_2, rfl, rfl⟩ | ⟨hk_2, rfl⟩
  ·
    refine q_ieq (tgt := 17) hx hb dX6_odds_5 (by decide) (by first | omega | exact Nat.lt_of_le_of_lt (hw3 _) (by decide)) (fun c_5 => absurd c_5 (by decide)) (fun c_5 => ?_)
    refine lv_iload_n hx hb dX6_odds_8 rfl (lv_at hl 2 rfl) ?_
    refine q_ic 0 hx hb dX6_odds_9 (by decide) ?_
    refine q_ic 3 hx hb dX6_odds_10 (by decide) ?_
    refine q_kI0 (q_rS (As := [.int (coin), .int (nI 0), .int (nI 3)]) (rest := []) hC hW mw_X6_in gw_537 (k_in l G n ad H.size I L R _ _ _) ⟨rfl, rfl⟩ ⟨Nat.le_of_ble_eq_true rfl, Nat.le_of_ble_eq_true rfl⟩ ⟨(Nat.le_of_ble_eq_true rfl), (Nat.le_of_ble_eq_true rfl)⟩ hl.1 rfl rfl (Nat.le_of_ble_eq_true rfl) dX6_odds_11) hW (fun r_11 H locs hp hW => ?_)
    rw [show (nI 0).toInt = 0 by decide, (show (nI 3).toInt = 3 by decide)] at hp
    rcases hp with ⟨rfl, hx_11, hy_11⟩ | ⟨rfl, hx_11⟩
    ·
      obtain ⟨k_11, hk_11, rfl⟩ := rng_ex2 (N := 4) (x := coin) (by omega) (by omega) (by omega)
      refine q_ine (tgt := 21) hx hb dX6_odds_14 (by decide) (by first | omega | exact Nat.lt_of_le_of_lt (hw3 _) (by decide)) (fun c_14 => ?_) (fun c_14 => absurd c_14 (by decide))
      refine lv_iload_n hx hb dX6_odds_21 rfl (lv_at hl 3 rfl) ?_
      refine q_ic 0 hx hb dX6_odds_22 (by decide) ?_
      refine q_ic 1 hx hb dX6_odds_23 (by decide) ?_
      refine q_kI0 (q_rS (As := [.int (part), .int (nI 0), .int (nI 1)]) (rest := []) hC hW mw_X6_in gw_537 (k_in l G n ad H.size I L R _ _ _) ⟨rfl, rfl⟩ ⟨Nat.le_of_ble_eq_true rfl, Nat.le_of_ble_eq_true rfl⟩ ⟨(Nat.le_of_ble_eq_true rfl), (Nat.le_of_ble_eq_true rfl)⟩ hl.1 rfl rfl (Nat.le_of_ble_eq_true rfl) dX6_odds_24) hW (fun r_24 H locs hp hW => ?_)
      rw [show (nI 0).toInt = 0 by decide, (show (nI 1).toInt = 1 by decide)] at hp
      rcases hp with ⟨rfl, hx_24, hy_24⟩ | ⟨rfl, hx_24⟩
      ·
        obtain ⟨k_24, hk_24, rfl⟩ := rng_ex2 (N := 2) (x := part) (by omega) (by omega) (by omega)
        refine q_ine (tgt := 34) hx hb dX6_odds_27 (by decide) (by first | omega | exact Nat.lt_of_le_of_lt (hw3 _) (by decide)) (fun c_27 => ?_) (fun c_27 => absurd c_27 (by decide))
        refine lv_aload_n hx hb dX6_odds_34 rfl (lv_at hl 0 rfl) ?_
        refine q_kL1 (q_rV (As := []) (rest := []) (x := 71) hC hW mw_X6_totalNow gw_574 (k_totalNow l G n ad H.size I L R w K ro hn hlk hN) (by omega) (ct_o6 kd_71) rfl ⟨rfl, rfl⟩ ⟨Nat.le_of_ble_eq_true rfl, Nat.le_of_ble_eq_true rfl⟩ ⟨(Nat.le_of_ble_eq_true rfl), (Nat.le_of_ble_eq_true rfl)⟩ hl.1 rfl rfl (Nat.le_of_ble_eq_true rfl) dX6_odds_35) hW (fun r_35 I_35 L_35 H locs hp hW => ?_)
        obtain ⟨rfl, hB_35, hFr_35⟩ := hp
        have hN_35 : NwI (I_35 72) w K ro := by rw [hFr_35.1 72 (by decide)]; exact hN
        refine lv_lstore (lv' := [(4, .long (lN (Sx' w K ro K 6))), (0, .ref (ad 71)), (1, .int (nI (k_2))), (2, .int (nI (k_11))), (3, .int (nI (k_24)))]) hx hb dX6_odds_38 hl (by decide) rfl (fun ls hl => ?_)
        refine lv_lload hx hb dX6_odds_40 (lv_at hl 0 rfl) ?_
        refine q_lc 0 hx hb dX6_odds_42 (by decide) ?_
        refine q_lcmp hx hb dX6_odds_43 ?_
        refine q_lne (tgt := 51) hx hb dX6_odds_44 (by decide) hT63 (by decide) (fun c_44 => ?_) (fun c_44 => ?_)
        ·
          refine lv_aload_n hx hb dX6_odds_51 rfl (lv_at hl 1 rfl) ?_
          refine q_kV1 (q_rV (As := []) (rest := []) (x := 71) hC hW mw_X6_layAhead gw_606 (k_layAh l G n ad H.size I_35 L_35 R w K ro hn hlk hN_35) (by omega) (ct_o6 kd_71) rfl ⟨rfl, rfl⟩ ⟨Nat.le_of_ble_eq_true rfl, Nat.le_of_ble_eq_true rfl⟩ ⟨(Nat.le_of_ble_eq_true rfl), (Nat.le_of_ble_eq_true rfl)⟩ hl.1 rfl rfl (Nat.le_of_ble_eq_true rfl) dX6_odds_52) hW (fun I_52 L_52 H locs hp hW => ?_)
          obtain ⟨rfl, hAh_52, hAf_52⟩ := hp
          have hB2 := Bh_77 hB_35 hAf_52
          refine lv_aload_n hx hb dX6_odds_55 rfl (lv_at hl 1 rfl) ?_
          refine lv_iload_n hx hb dX6_odds_56 rfl (lv_at hl 2 rfl) ?_
          refine lv_iload_n hx hb dX6_odds_57 rfl (lv_at hl 3 rfl) ?_
          refine q_kL0 (q_rV (As := [.int (nI (k_2)), .int (nI (k_11))]) (rest := []) (x := 71) hC hW mw_X6_through gw_660 (k_rthrough l G n ad H.size I_35 L_52 R _ _ (by omega) w K ro hn hlk hN_35 hB2 hAh_52 (by omega)) (by omega) (ct_o6 kd_71) rfl ⟨rfl, rfl⟩ ⟨Nat.le_of_ble_eq_true rfl, Nat.le_of_ble_eq_true rfl⟩ ⟨(Nat.le_of_ble_eq_true rfl), (Nat.le_of_ble_eq_true rfl)⟩ hl.1 rfl rfl (Nat.le_of_ble_eq_true rfl) dX6_odds_58) hW (fun r_58 H locs hp hW => ?_)
          subst hp
          refine lv_lload hx hb dX6_odds_61 (lv_at hl 0 rfl) ?_
          refine lv_iload_n hx hb dX6_odds_63 rfl (lv_at hl 4 rfl) ?_
          refine q_kL0 (q_rS (As := [.long (lN (thr w ro K k_2 k_11)), .long (lN (Sx' w K ro K 6)), .int (nI (k_24))]) (rest := []) hC hW mw_X6_lowest gw_664 (k_rlowest l G n ad H.size I_35 L_52 R _ _ _ (Nat.lt_of_le_of_lt (thr_b hw hk_2 hk_11) hT63) hT63 (Nat.pos_of_ne_zero c_44) hk_24) ⟨rfl, rfl⟩ ⟨Nat.le_of_ble_eq_true rfl, Nat.le_of_ble_eq_true rfl⟩ ⟨(Nat.le_of_ble_eq_true rfl), (Nat.le_of_ble_eq_true rfl)⟩ hl.1 rfl rfl (Nat.le_of_ble_eq_true rfl) dX6_odds_64) hW (fun r_64 H locs hp hW => ?_)
          subst hp
          exact q_lret1 hC hW hr hlk0 (RR_l (a' := (lowT (thr w ro K k_2 k_11) (aTot (w, K, ro)) k_24, ((w, K, ro), hc, hi, sv, pn, ch))) (by simp only [aOdds, rng_nI hk_2 (show K ≤ 1000 by omega), rng_nI hk_11 (by decide), rng_nI hk_24 (by decide), if_neg (show ¬ aTot (w, K, ro) = 0 from c_44)]) ⟨rfl, PB_q hI0 (fun a ha => hFr_35.1 a (by omega)) (fun j _ => by rw [hFr_35.1 71 (by decide)]) (fun a ha => (hAf_52 a (by omega)).trans (hFr_35.2 a (by omega) (by omega)))⟩) dX6_odds_67
        ·
          refine lv_ldc2 (v := -5) hx hb hC.2.2.2.1 (hC.2.2.2.2 _ gw_659) dX6_odds_47 ?_
          exact q_lret1 hC hW hr hlk0 (RR_l (a' := (-5, ((w, K, ro), hc, hi, sv, pn, ch))) (by simp only [aOdds, rng_nI hk_2 (show K ≤ 1000 by omega), rng_nI hk_11 (by decide), rng_nI hk_24 (by decide), if_pos (show aTot (w, K, ro) = 0 from c_44)]) ⟨rfl, PB_q hI0 (fun a ha => hFr_35.1 a (by omega)) (fun j _ => by rw [hFr_35.1 71 (by decide)]) (fun a ha => hFr_35.2 a (by omega) (by omega))⟩) dX6_odds_50
      ·
        have hk_24 : rng part 2 = none := rng_none.mpr (by omega)
        refine q_ine (tgt := 34) hx hb dX6_odds_27 (by decide) (by first | omega | exact Nat.lt_of_le_of_lt (hw3 _) (by decide)) (fun c_27 => absurd c_27 (by decide)) (fun c_27 => ?_)
        refine lv_ldc2 (v := -2) hx hb hC.2.2.2.1 (hC.2.2.2.2 _ gw_658) dX6_odds_30 ?_
        exact q_lret1 hC hW hr hlk0 (RR_l (a' := (-2, ((w, K, ro), hc, hi, sv, pn, ch))) (by simp only [aOdds, rng_nI hk_2 (show K ≤ 1000 by omega), rng_nI hk_11 (by decide), hk_24]) ⟨rfl, PB_0 hI0⟩) dX6_odds_33
    ·
      have hk_11 : rng coin 4 = none := rng_none.mpr (by omega)
      refine q_ine (tgt := 21) hx hb dX6_odds_14 (by decide) (by first | omega | exact Nat.lt_of_le_of_lt (hw3 _) (by decide)) (fun c_14 => absurd c_14 (by decide)) (fun c_14 => ?_)
      refine lv_ldc2 (v := -1) hx hb hC.2.2.2.1 (hC.2.2.2.2 _ gw_605) dX6_odds_17 ?_
      exact q_lret1 hC hW hr hlk0 (RR_l (a' := (-1, ((w, K, ro), hc, hi, sv, pn, ch))) (by simp only [aOdds, rng_nI hk_2 (show K ≤ 1000 by omega), hk_11]) ⟨rfl, PB_0 hI0⟩) dX6_odds_20
  ·
    refine q_ieq (tgt := 17) hx hb dX6_odds_5 (by decide) (by first | omega | exact Nat.lt_of_le_of_lt (hw3 _) (by decide)) (fun c_5 => ?_) (fun c_5 => absurd c_5 (by decide))
    refine lv_ldc2 (v := -1) hx hb hC.2.2.2.1 (hC.2.2.2.2 _ gw_605) dX6_odds_17 ?_
    exact q_lret1 hC hW hr hlk0 (RR_l (a' := (-1, ((w, K, ro), hc, hi, sv, pn, ch))) (by simp only [aOdds, hk_2]) ⟨rfl, PB_0 hI0⟩) dX6_odds_20
set_option maxRecDepth 100000 in
set_option maxHeartbeats 4000000 in
theorem k_rlikelyAt (l : Launch) (G : Gx) (n : Nat) (ad : Nat → Nat) (sz : Nat) (I : Ic) (L : Lc) (R : Rc) (place : Int32) (w : Nat → Nat) (K : Nat) (ro : Nat → Nat) (hc : Nat) (hi : Nat → CM) (sv : Nat → Option CM) (pn : Nat) (ch : Nat → Nat) (hI0 : InvB n I R ((w, K, ro), hc, hi, sv, pn, ch)) : Met l yX6_likelyAt (Cond.code yX6_likelyAt cX6_likelyAt 4 (some .int) :: GW) ({ frames := 6, cells := 0, slots := 0, locals := 216 } : Room) (qPre G n ad sz I L R [.ref (ad 71), .int (place)]) (qI1 G (qA n ad sz) n ad R (fun z I1 L1 => RR n I L R (aLikely (w, K, ro) place, ((w, K, ro), hc, hi, sv, pn, ch)) z I1 L1)) 0 0 (qA n ad sz) := by
  refine q_met (by decide) (Nat.le_of_ble_eq_true rfl) ?_
  intro p_ e_ s m_ below meth c_ hC hr hlk0 hin hsz hW ls hl
  subst hsz
  have hC : CallFix p_ m_ c_ cX6_likelyAt 4 s ([.ref (ad 71), .int (place)] : List Value).toArray GW "CoinRowsModel" := hC
  have hx := hC.1
  have hb := hC.2.1
  have hn : 83 ≤ n := hI0.1
  have hlk : LkOK n R := hI0.2.1
  have hN : NwI (I 72) w K ro := hI0.2.2.1
  have hH : HwB I hc hi := hI0.2.2.2.1
  have hSw : SwB I sv := hI0.2.2.2.2.1
  have hPd : PdB I pn ch := hI0.2.2.2.2.2
  have hh1 := hH.1
  have hh6 := hH.2.1
  have hp80 := hPd.2.1
  have hk6 : K ≤ 6 := hN.2.2.2.1
  have hw : Wok w := hN.2.2.2.2.1
  have hw3 : ∀ i, w i ≤ 3 := hw.1
  have hr4 : ∀ j, ro j < 4 := hN.2.2.2.2.2
  have hT63 : Sx' w K ro K 6 < 2 ^ 63 := Nat.lt_of_le_of_lt (Sx_b hw K K 6 hk6) (by decide)
  have hl : lv_has ls 4 [(0, .ref (ad 71)), (1, .int (place))] := hl
  refine lv_aload_n hx hb dX6_likelyAt_0 rfl (lv_at hl 0 rfl) ?_
  refine lv_iload_n hx hb dX6_likelyAt_1 rfl (lv_at hl 1 rfl) ?_
  refine q_kI0 (q_rV (As := [.int (place)]) (rest := []) (x := 71) hC hW mw_X6_isPlace gw_566 (k_isPlace l G n ad s.heap.size I L R _ w K ro hn hlk hN) (by omega) (ct_o6 kd_71) rfl ⟨rfl, rfl⟩ ⟨Nat.le_of_ble_eq_true rfl, Nat.le_of_ble_eq_true rfl⟩ ⟨(Nat.le_of_ble_eq_true rfl), (Nat.le_of_ble_eq_true rfl)⟩ hl.1 rfl rfl (Nat.le_of_ble_eq_true rfl) dX6_likelyAt_2) hW (fun r_2 H locs hp hW => ?_)
  rcases hp with ⟨k_2, hk_2, rfl, rfl⟩ | ⟨hk_2, rfl⟩
  ·
    refine q_ine (tgt := 10) hx hb dX6_likelyAt_5 (by decide) (by first | omega | exact Nat.lt_of_le_of_lt (hw3 _) (by decide)) (fun c_5 => ?_) (fun c_5 => absurd c_5 (by decide))
    refine lv_aload_n hx hb dX6_likelyAt_10 rfl (lv_at hl 0 rfl) ?_
    refine q_kL1 (q_rV (As := []) (rest := []) (x := 71) hC hW mw_X6_totalNow gw_574 (k_totalNow l G n ad H.size I L R w K ro hn hlk hN) (by omega) (ct_o6 kd_71) rfl ⟨rfl, rfl⟩ ⟨Nat.le_of_ble_eq_true rfl, Nat.le_of_ble_eq_true rfl⟩ ⟨(Nat.le_of_ble_eq_true rfl), (Nat.le_of_ble_eq_true rfl)⟩ hl.1 rfl rfl (Nat.le_of_ble_eq_true rfl) dX6_likelyAt_11) hW (fun r_11 I_11 L_11 H locs hp hW => ?_)
    obtain ⟨rfl, hB_11, hFr_11⟩ := hp
    have hN_11 : NwI (I_11 72) w K ro := by rw [hFr_11.1 72 (by decide)]; exact hN
    refine q_lc 0 hx hb dX6_likelyAt_14 (by decide) ?_
    refine q_lcmp hx hb dX6_likelyAt_15 ?_
    refine q_lne (tgt := 22) hx hb dX6_likelyAt_16 (by decide) hT63 (by decide) (fun c_16 => ?_) (fun c_16 => ?_)
    ·
      refine lv_aload_n hx hb dX6_likelyAt_22 rfl (lv_at hl 0 rfl) ?_
      refine q_kV1 (q_rV (As := []) (rest := []) (x := 71) hC hW mw_X6_layAhead gw_606 (k_layAh l G n ad H.size I_11 L_11 R w K ro hn hlk hN_11) (by omega) (ct_o6 kd_71) rfl ⟨rfl, rfl⟩ ⟨Nat.le_of_ble_eq_true rfl, Nat.le_of_ble_eq_true rfl⟩ ⟨(Nat.le_of_ble_eq_true rfl), (Nat.le_of_ble_eq_true rfl)⟩ hl.1 rfl rfl (Nat.le_of_ble_eq_true rfl) dX6_likelyAt_23) hW (fun I_23 L_23 H locs hp hW => ?_)
      obtain ⟨rfl, hAh_23, hAf_23⟩ := hp
      have hB2 := Bh_77 hB_11 hAf_23
      refine q_ic 0 hx hb dX6_likelyAt_26 (by decide) ?_
      refine lv_istore_n (lv' := [(2, .int (nI 0)), (0, .ref (ad 71)), (1, .int (nI (k_2)))]) hx hb dX6_likelyAt_27 rfl hl (by decide) rfl (fun ls hl => ?_)
      refine q_ic 1 hx hb dX6_likelyAt_28 (by decide) ?_
      have hl : lv_has ls 4 [(2, .int (nI (bestT (fun f => thr w ro K k_2 f) 1))), (0, .ref (ad 71)), (1, .int (nI (k_2)))] := by rw [show bestT (fun f => thr w ro K k_2 f) 1 = 0 from Nat.le_zero.mp (bestT_le (fun f => thr w ro K k_2 f) 0)]; exact hl
      refine lv_istore_n (lv' := [(3, .int (nI 1)), (2, .int (nI (bestT (fun f => thr w ro K k_2 f) 1))), (0, .ref (ad 71)), (1, .int (nI (k_2)))]) hx hb dX6_likelyAt_29 rfl hl (by decide) rfl (fun ls hl => ?_)
      have lp_30 : ∀ (fu_30 : Nat) (c1 : Nat), 4 - c1 < fu_30 → (1 ≤ c1) → (c1 ≤ 4) → ∀ (H : Heap) (locs : List Loc), Wd G n ad I_11 L_23 R (qA n ad s.heap.size) s.heap H locs s → ∀ ls : Array Slot, lv_has ls 4 [(0, .ref (ad 71)), (1, .int (nI (k_2))), (2, .int (nI (bestT (fun f => thr w ro K k_2 f) c1))), (3, .int (nI (c1)))] → W p_ l e_ ({ frames := 6, cells := 0, slots := 0, locals := 216 } : Room) s m_ ([.ref (ad 71), .int (nI (k_2))] : List Value).toArray below meth c_ H locs 0 0 (MQ below (qI1 G (qA n ad s.heap.size) n ad R (fun z I1 L1 => RR n I L R (aLikely (w, K, ro) (nI k_2), ((w, K, ro), hc, hi, sv, pn, ch)) z I1 L1)) ([.ref (ad 71), .int (nI (k_2))] : List Value).toArray s 0 0 (qA n ad s.heap.size)) (F0 m_ 30 ls []) := by
        intro fu_30
        induction fu_30 with
        | zero =>
          intro c1 hm; exact absurd hm (Nat.not_lt_zero _)
        | succ fu_30 ih_30 =>
          intro c1 hm_30 hc1 hc4 H locs hW ls hl
          have hbl : bestT (fun f => thr w ro K k_2 f) c1 < c1 := by obtain ⟨c2, rfl⟩ : ∃ c2, c1 = c2 + 1 := ⟨c1 - 1, by omega⟩; exact Nat.lt_succ_of_le (bestT_le _ c2)
          refine lv_iload_n hx hb dX6_likelyAt_30 rfl (lv_at hl 3 rfl) ?_
          refine q_ic 4 hx hb dX6_likelyAt_31 (by decide) ?_
          refine q_cge (tgt := 63) hx hb dX6_likelyAt_32 (by decide) (by first | omega | exact Nat.lt_of_le_of_lt (hw3 _) (by decide)) (by first | omega | exact Nat.lt_of_le_of_lt (hw3 _) (by decide)) (fun c_32 => ?_) (fun c_32 => ?_)
          ·
            refine lv_iload_n hx hb dX6_likelyAt_63 rfl (lv_at hl 2 rfl) ?_
            have e4 : c1 = 4 := by omega
            subst e4
            exact q_iret1 hC hW hr hlk0 (RR_i (a' := (nI (bestT (fun f => thr w ro K k_2 f) 4), ((w, K, ro), hc, hi, sv, pn, ch))) (by simp only [aLikely, rng_nI hk_2 (show K ≤ 1000 by omega), if_neg (show ¬ aTot (w, K, ro) = 0 from c_16)]) ⟨rfl, PB_q hI0 (fun a ha => hFr_11.1 a (by omega)) (fun j _ => by rw [hFr_11.1 71 (by decide)]) (fun a ha => (hAf_23 a (by omega)).trans (hFr_11.2 a (by omega) (by omega)))⟩) dX6_likelyAt_64
          ·
            refine lv_aload_n hx hb dX6_likelyAt_35 rfl (lv_at hl 0 rfl) ?_
            refine lv_iload_n hx hb dX6_likelyAt_36 rfl (lv_at hl 1 rfl) ?_
            refine lv_iload_n hx hb dX6_likelyAt_37 rfl (lv_at hl 3 rfl) ?_
            refine q_kL0 (q_rV (As := [.int (nI (k_2)), .int (nI (c1))]) (rest := []) (x := 71) hC hW mw_X6_through gw_660 (k_rthrough l G n ad H.size I_11 L_23 R _ _ (by omega) w K ro hn hlk hN_11 hB2 hAh_23 (by omega)) (by omega) (ct_o6 kd_71) rfl ⟨rfl, rfl⟩ ⟨Nat.le_of_ble_eq_true rfl, Nat.le_of_ble_eq_true rfl⟩ ⟨(Nat.le_of_ble_eq_true rfl), (Nat.le_of_ble_eq_true rfl)⟩ hl.1 rfl rfl (Nat.le_of_ble_eq_true rfl) dX6_likelyAt_38) hW (fun r_38 H locs hp hW => ?_)
            subst hp
            refine lv_aload_n hx hb dX6_likelyAt_41 rfl (lv_at hl 0 rfl) ?_
            refine lv_iload_n hx hb dX6_likelyAt_42 rfl (lv_at hl 1 rfl) ?_
            refine lv_iload_n hx hb dX6_likelyAt_43 rfl (lv_at hl 2 rfl) ?_
            refine q_kL0 (q_rV (As := [.int (nI (k_2)), .int (nI (bestT (fun f => thr w ro K k_2 f) c1))]) (rest := [.long (lN (thr w ro K k_2 c1))]) (x := 71) hC hW mw_X6_through gw_660 (k_rthrough l G n ad H.size I_11 L_23 R _ _ (by omega) w K ro hn hlk hN_11 hB2 hAh_23 (by omega)) (by omega) (ct_o6 kd_71) rfl ⟨rfl, rfl⟩ ⟨Nat.le_of_ble_eq_true rfl, Nat.le_of_ble_eq_true rfl⟩ ⟨(Nat.le_of_ble_eq_true rfl), (Nat.le_of_ble_eq_true rfl)⟩ hl.1 rfl rfl (Nat.le_of_ble_eq_true rfl) dX6_likelyAt_44) hW (fun r_44 H locs hp hW => ?_)
            subst hp
            have hta : thr w ro K k_2 c1 < 2 ^ 63 := Nat.lt_of_le_of_lt (thr_b hw hk_2 (by omega)) hT63
            have htb : thr w ro K k_2 (bestT (fun f => thr w ro K k_2 f) c1) < 2 ^ 63 := Nat.lt_of_le_of_lt (thr_b hw hk_2 (by omega)) hT63
            refine q_lcmp hx hb dX6_likelyAt_47 ?_
            refine q_lle (tgt := 55) hx hb dX6_likelyAt_48 (by decide) hta htb (fun c_48 => ?_) (fun c_48 => ?_)
            ·
              refine lv_iload_n hx hb dX6_likelyAt_55 rfl (lv_at hl 2 rfl) ?_
              refine lv_istore_n (lv' := [(2, .int (nI (bestT (fun f => thr w ro K k_2 f) c1))), (0, .ref (ad 71)), (1, .int (nI (k_2))), (3, .int (nI (c1)))]) hx hb dX6_likelyAt_56 rfl hl (by decide) rfl (fun ls hl => ?_)
              have hl : lv_has ls 4 [(2, .int (nI (bestT (fun f => thr w ro K k_2 f) (c1 + 1)))), (0, .ref (ad 71)), (1, .int (nI (k_2))), (3, .int (nI (c1)))] := by rw [show bestT (fun f => thr w ro K k_2 f) (c1 + 1) = bestT (fun f => thr w ro K k_2 f) c1 from bestT_n (Nat.not_lt.mpr c_48)]; exact hl
              refine q_iinc (z2 := c1 + 1) (lv' := [(3, .int (nI (c1 + 1))), (2, .int (nI (bestT (fun f => thr w ro K k_2 f) (c1 + 1)))), (0, .ref (ad 71)), (1, .int (nI (k_2)))]) hx hb dX6_likelyAt_57 hl (k := 3) rfl (inc_up _ 1 (by decide)) (by decide) rfl (fun ls hl => ?_)
              refine lv_goto (tgt := 30) hx hb dX6_likelyAt_60 (by decide) ?_
              exact ih_30 (c1 + 1) (by omega) (by omega) (by omega) _ _ hW _ (lv_sub hl [2, 3, 1, 0] rfl)
            ·
              refine lv_iload_n hx hb dX6_likelyAt_51 rfl (lv_at hl 3 rfl) ?_
              refine lv_goto (tgt := 56) hx hb dX6_likelyAt_52 (by decide) ?_
              refine lv_istore_n (lv' := [(2, .int (nI (c1))), (0, .ref (ad 71)), (1, .int (nI (k_2))), (3, .int (nI (c1)))]) hx hb dX6_likelyAt_56 rfl hl (by decide) rfl (fun ls hl => ?_)
              have hl : lv_has ls 4 [(2, .int (nI (bestT (fun f => thr w ro K k_2 f) (c1 + 1)))), (0, .ref (ad 71)), (1, .int (nI (k_2))), (3, .int (nI (c1)))] := by rw [show bestT (fun f => thr w ro K k_2 f) (c1 + 1) = c1 from bestT_y c_48]; exact hl
              refine q_iinc (z2 := c1 + 1) (lv' := [(3, .int (nI (c1 + 1))), (2, .int (nI (bestT (fun f => thr w ro K k_2 f) (c1 + 1)))), (0, .ref (ad 71)), (1, .int (nI (k_2)))]) hx hb dX6_likelyAt_57 hl (k := 3) rfl (inc_up _ 1 (by decide)) (by decide) rfl (fun ls hl => ?_)
              refine lv_goto (tgt := 30) hx hb dX6_likelyAt_60 (by decide) ?_
              exact ih_30 (c1 + 1) (by omega) (by omega) (by omega) _ _ hW _ (lv_sub hl [2, 3, 1, 0] rfl)
      exact lp_30 (4 + 1) 1 (by omega) (by omega) (by omega) _ _ hW _ (lv_sub hl [2, 3, 1, 0] rfl)
    ·
      refine lv_bipush (v := -5) hx hb dX6_likelyAt_19 (by decide) ?_
      exact q_iret1 hC hW hr hlk0 (RR_i (a' := (-5, ((w, K, ro), hc, hi, sv, pn, ch))) (by simp only [aLikely, rng_nI hk_2 (show K ≤ 1000 by omega), if_pos (show aTot (w, K, ro) = 0 from c_16)]) ⟨rfl, PB_q hI0 (fun a ha => hFr_11.1 a (by omega)) (fun j _ => by rw [hFr_11.1 71 (by decide)]) (fun a ha => hFr_11.2 a (by omega) (by omega))⟩) dX6_likelyAt_21
  ·
    refine q_ine (tgt := 10) hx hb dX6_likelyAt_5 (by decide) (by first | omega | exact Nat.lt_of_le_of_lt (hw3 _) (by decide)) (fun c_5 => absurd c_5 (by decide)) (fun c_5 => ?_)
    refine lv_iconst (v := -1) hx hb dX6_likelyAt_8 (by decide) ?_
    exact q_iret1 hC hW hr hlk0 (RR_i (a' := (-1, ((w, K, ro), hc, hi, sv, pn, ch))) (by simp only [aLikely, hk_2]) ⟨rfl, PB_0 hI0⟩) dX6_likelyAt_9
