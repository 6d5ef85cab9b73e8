set_option maxRecDepth 100000 in
set_option maxHeartbeats 4000000 in
theorem k_rtotal (l : Launch) (G : Gx) (n : Nat) (ad : Nat → Nat) (sz : Nat) (I : Ic) (L : Lc) (R : Rc)  (w : Nat → Nat) (K : Nat) (ro : Nat → Nat) (hc : Nat) (hi : Nat → CM) (sv : Nat → Option CM) (pn : Nat) (ch : Nat → Nat) (hI0 : InvB n I R ((w, K, ro), hc, hi, sv, pn, ch)) : Met l yX6_total (Cond.code yX6_total cX6_total 1 (some .long) :: GW) ({ frames := 6, cells := 0, slots := 0, locals := 216 } : Room) (qPre G n ad sz I L R [.ref (ad 71)]) (qL1 G (qA n ad sz) n ad R (fun z I1 L1 => RRl n I L R (lN (aTot (w, K, ro)), ((w, K, ro), hc, hi, sv, pn, ch)) z I1 L1)) 0 0 (qA n ad sz) := by
  refine q_met (by decide) (Nat.le_of_ble_eq_true rfl) ?_
  intro p_ e_ s m_ below meth c_ hC hr hlk0 hin hsz hW ls hl
  subst hsz
  have hC : CallFix p_ m_ c_ cX6_total 1 s ([.ref (ad 71)] : List Value).toArray GW "CoinRowsModel" := hC
  have hx := hC.1
  have hb := hC.2.1
  have hn : 83 ≤ n := hI0.1
  have hlk : LkOK n R := hI0.2.1
  have hN : NwI (I 72) w K ro := hI0.2.2.1
  have hH : HwB I hc hi := hI0.2.2.2.1
  have hSw : SwB I sv := hI0.2.2.2.2.1
  have hPd : PdB I pn ch := hI0.2.2.2.2.2
  have hh1 := hH.1
  have hh6 := hH.2.1
  have hp80 := hPd.2.1
  have hk6 : K ≤ 6 := hN.2.2.2.1
  have hw : Wok w := hN.2.2.2.2.1
  have hw3 : ∀ i, w i ≤ 3 := hw.1
  have hr4 : ∀ j, ro j < 4 := hN.2.2.2.2.2
  have hl : lv_has ls 1 [(0, .ref (ad 71))] := hl
  refine lv_aload_n hx hb dX6_total_0 rfl (lv_at hl 0 rfl) ?_
  refine q_kL1 (q_rV (As := []) (rest := []) (x := 71) hC hW mw_X6_totalNow gw_574 (k_totalNow l G n ad s.heap.size I L R w K ro hn hlk hN) (by omega) (ct_o6 kd_71) rfl ⟨rfl, rfl⟩ ⟨Nat.le_of_ble_eq_true rfl, Nat.le_of_ble_eq_true rfl⟩ ⟨(Nat.le_of_ble_eq_true rfl), (Nat.le_of_ble_eq_true rfl)⟩ hl.1 rfl rfl (Nat.le_of_ble_eq_true rfl) dX6_total_1) hW (fun r_1 I_1 L_1 H locs hp hW => ?_)
  obtain ⟨rfl, hB_1, hFr_1⟩ := hp
  have hN_1 : NwI (I_1 72) w K ro := by rw [hFr_1.1 72 (by decide)]; exact hN
  exact q_lret1 hC hW hr hlk0 (RR_l rfl ⟨rfl, PB_q hI0 (fun a ha => hFr_1.1 a (by omega)) (fun j _ => by rw [hFr_1.1 71 (by decide)]) (fun a ha => hFr_1.2 a (by omega) (by omega))⟩) dX6_total_4
set_option maxRecDepth 100000 in
set_option maxHeartbeats 4000000 in
theorem k_rways (l : Launch) (G : Gx) (n : Nat) (ad : Nat → Nat) (sz : Nat) (I : Ic) (L : Lc) (R : Rc)  (w : Nat → Nat) (K : Nat) (ro : Nat → Nat) (hc : Nat) (hi : Nat → CM) (sv : Nat → Option CM) (pn : Nat) (ch : Nat → Nat) (hI0 : InvB n I R ((w, K, ro), hc, hi, sv, pn, ch)) : Met l yX6_ways (Cond.code yX6_ways cX6_ways 1 (some .int) :: GW) ({ frames := 6, cells := 0, slots := 0, locals := 216 } : Room) (qPre G n ad sz I L R [.ref (ad 71)]) (qI1 G (qA n ad sz) n ad R (fun z I1 L1 => RR n I L R (nI (aCnt (w, K, ro)), ((w, K, ro), hc, hi, sv, pn, ch)) z I1 L1)) 0 0 (qA n ad sz) := by
  refine q_met (by decide) (Nat.le_of_ble_eq_true rfl) ?_
  intro p_ e_ s m_ below meth c_ hC hr hlk0 hin hsz hW ls hl
  subst hsz
  have hC : CallFix p_ m_ c_ cX6_ways 1 s ([.ref (ad 71)] : List Value).toArray GW "CoinRowsModel" := hC
  have hx := hC.1
  have hb := hC.2.1
  have hn : 83 ≤ n := hI0.1
  have hlk : LkOK n R := hI0.2.1
  have hN : NwI (I 72) w K ro := hI0.2.2.1
  have hH : HwB I hc hi := hI0.2.2.2.1
  have hSw : SwB I sv := hI0.2.2.2.2.1
  have hPd : PdB I pn ch := hI0.2.2.2.2.2
  have hh1 := hH.1
  have hh6 := hH.2.1
  have hp80 := hPd.2.1
  have hk6 : K ≤ 6 := hN.2.2.2.1
  have hw : Wok w := hN.2.2.2.2.1
  have hw3 : ∀ i, w i ≤ 3 := hw.1
  have hr4 : ∀ j, ro j < 4 := hN.2.2.2.2.2
  have hl : lv_has ls 1 [(0, .ref (ad 71))] := hl
  refine lv_aload_n hx hb dX6_ways_0 rfl (lv_at hl 0 rfl) ?_
  refine q_kI1 (q_rV (As := []) (rest := []) (x := 71) hC hW mw_X6_waysNow gw_626 (k_waysNow l G n ad s.heap.size I L R w K ro hn hlk hN) (by omega) (ct_o6 kd_71) rfl ⟨rfl, rfl⟩ ⟨Nat.le_of_ble_eq_true rfl, Nat.le_of_ble_eq_true rfl⟩ ⟨(Nat.le_of_ble_eq_true rfl), (Nat.le_of_ble_eq_true rfl)⟩ hl.1 rfl rfl (Nat.le_of_ble_eq_true rfl) dX6_ways_1) hW (fun r_1 I_1 L_1 H locs hp hW => ?_)
  obtain ⟨rfl, hB_1, hFr_1⟩ := hp
  have hN_1 : NwI (I_1 72) w K ro := by rw [hFr_1.1 72 (by decide)]; exact hN
  exact q_iret1 hC hW hr hlk0 (RR_i rfl ⟨rfl, PB_q hI0 (fun a ha => hFr_1.1 a (by omega)) (fun j _ => by rw [hFr_1.1 71 (by decide)]) (fun a ha => hFr_1.2 a (by omega) (by omega))⟩) dX6_ways_4
set_option maxRecDepth 100000 in
set_option maxHeartbeats 4000000 in
theorem k_rforward (l : Launch) (G : Gx) (n : Nat) (ad : Nat → Nat) (sz : Nat) (I : Ic) (L : Lc) (R : Rc) (place coin : Int32) (w : Nat → Nat) (K : Nat) (ro : Nat → Nat) (hc : Nat) (hi : Nat → CM) (sv : Nat → Option CM) (pn : Nat) (ch : Nat → Nat) (hI0 : InvB n I R ((w, K, ro), hc, hi, sv, pn, ch)) : Met l yX6_forward (Cond.code yX6_forward cX6_forward 3 (some .long) :: GW) ({ frames := 6, cells := 0, slots := 0, locals := 216 } : Room) (qPre G n ad sz I L R [.ref (ad 71), .int (place), .int (coin)]) (qL1 G (qA n ad sz) n ad R (fun z I1 L1 => RRl n I L R (aFwd (w, K, ro) place coin, ((w, K, ro), hc, hi, sv, pn, ch)) z I1 L1)) 0 0 (qA n ad sz) := by
  refine q_met (by decide) (Nat.le_of_ble_eq_true rfl) ?_
  intro p_ e_ s m_ below meth c_ hC hr hlk0 hin hsz hW ls hl
  subst hsz
  have hC : CallFix p_ m_ c_ cX6_forward 3 s ([.ref (ad 71), .int (place), .int (coin)] : List Value).toArray GW "CoinRowsModel" := hC
  have hx := hC.1
  have hb := hC.2.1
  have hn : 83 ≤ n := hI0.1
  have hlk : LkOK n R := hI0.2.1
  have hN : NwI (I 72) w K ro := hI0.2.2.1
  have hH : HwB I hc hi := hI0.2.2.2.1
  have hSw : SwB I sv := hI0.2.2.2.2.1
  have hPd : PdB I pn ch := hI0.2.2.2.2.2
  have hh1 := hH.1
  have hh6 := hH.2.1
  have hp80 := hPd.2.1
  have hk6 : K ≤ 6 := hN.2.2.2.1
  have hw : Wok w := hN.2.2.2.2.1
  have hw3 : ∀ i, w i ≤ 3 := hw.1
  have hr4 : ∀ j, ro j < 4 := hN.2.2.2.2.2
  have hl : lv_has ls 3 [(0, .ref (ad 71)), (1, .int (place)), (2, .int (coin))] := hl
  refine lv_aload_n hx hb dX6_forward_0 rfl (lv_at hl 0 rfl) ?_
  refine lv_iload_n hx hb dX6_forward_1 rfl (lv_at hl 1 rfl) ?_
  refine q_kI0 (q_rV (As := [.int (place)]) (rest := []) (x := 71) hC hW mw_X6_isPlace gw_566 (k_isPlace l G n ad s.heap.size I L R _ w K ro hn hlk hN) (by omega) (ct_o6 kd_71) rfl ⟨rfl, rfl⟩ ⟨Nat.le_of_ble_eq_true rfl, Nat.le_of_ble_eq_true rfl⟩ ⟨(Nat.le_of_ble_eq_true rfl), (Nat.le_of_ble_eq_true rfl)⟩ hl.1 rfl rfl (Nat.le_of_ble_eq_true rfl) dX6_forward_2) hW (fun r_2 H locs hp hW => ?_)
  rcases hp with ⟨k_2, hk_2, rfl, rfl⟩ | ⟨hk_2, rfl⟩
  ·
    refine q_ieq (tgt := 17) hx hb dX6_forward_5 (by decide) (by first | omega | exact Nat.lt_of_le_of_lt (hw3 _) (by decide)) (fun c_5 => absurd c_5 (by decide)) (fun c_5 => ?_)
    refine lv_iload_n hx hb dX6_forward_8 rfl (lv_at hl 2 rfl) ?_
    refine q_ic 0 hx hb dX6_forward_9 (by decide) ?_
    refine q_ic 3 hx hb dX6_forward_10 (by decide) ?_
    refine q_kI0 (q_rS (As := [.int (coin), .int (nI 0), .int (nI 3)]) (rest := []) hC hW mw_X6_in gw_537 (k_in l G n ad H.size I L R _ _ _) ⟨rfl, rfl⟩ ⟨Nat.le_of_ble_eq_true rfl, Nat.le_of_ble_eq_true rfl⟩ ⟨(Nat.le_of_ble_eq_true rfl), (Nat.le_of_ble_eq_true rfl)⟩ hl.1 rfl rfl (Nat.le_of_ble_eq_true rfl) dX6_forward_11) hW (fun r_11 H locs hp hW => ?_)
    rw [show (nI 0).toInt = 0 by decide, (show (nI 3).toInt = 3 by decide)] at hp
    rcases hp with ⟨rfl, hx_11, hy_11⟩ | ⟨rfl, hx_11⟩
    ·
      obtain ⟨k_11, hk_11, rfl⟩ := rng_ex2 (N := 4) (x := coin) (by omega) (by omega) (by omega)
      refine q_ine (tgt := 21) hx hb dX6_forward_14 (by decide) (by first | omega | exact Nat.lt_of_le_of_lt (hw3 _) (by decide)) (fun c_14 => ?_) (fun c_14 => absurd c_14 (by decide))
      refine lv_aload_n hx hb dX6_forward_21 rfl (lv_at hl 0 rfl) ?_
      refine q_kV1 (q_rV (As := []) (rest := []) (x := 71) hC hW mw_X6_layAhead gw_606 (k_layAh l G n ad H.size I L R w K ro hn hlk hN) (by omega) (ct_o6 kd_71) rfl ⟨rfl, rfl⟩ ⟨Nat.le_of_ble_eq_true rfl, Nat.le_of_ble_eq_true rfl⟩ ⟨(Nat.le_of_ble_eq_true rfl), (Nat.le_of_ble_eq_true rfl)⟩ hl.1 rfl rfl (Nat.le_of_ble_eq_true rfl) dX6_forward_22) hW (fun I_22 L_22 H locs hp hW => ?_)
      obtain ⟨rfl, hAh_22, hAf_22⟩ := hp
      refine lv_aload_n hx hb dX6_forward_25 rfl (lv_at hl 0 rfl) ?_
      refine g_6_7 (x := 71) (y := 77) hC hW (by omega) kd_71 gw_490 (hlk 71 7 77 (by omega) rfl) dX6_forward_26 ?_
      refine q_bp 7 hx hb dX6_forward_29 (by decide) ?_
      refine lv_iload_n hx hb dX6_forward_31 rfl (lv_at hl 2 rfl) ?_
      refine q_imul hx hb dX6_forward_32 ?_
      refine lv_iload_n hx hb dX6_forward_33 rfl (lv_at hl 1 rfl) ?_
      refine q_iadd hx hb dX6_forward_34 ?_
      refine q_ic 1 hx hb dX6_forward_35 (by decide) ?_
      refine q_iadd hx hb dX6_forward_36 ?_
      refine q_lald (x := 77) (i := ((7 * k_11) + k_2) + 1) hC hW (by omega) kd_77 (by omega) dX6_forward_37 ?_
      refine q_top (v2 := .long (lN (uB w ro (k_2 + 1) k_11))) (congrArg _ ((hAh_22 k_11 (k_2 + 1) (by omega) (by omega)).trans (congrArg lN (bF_lo (by omega))))) ?_
      exact q_lret1 hC hW hr hlk0 (RR_l (a' := (lN (uB w ro (k_2 + 1) k_11), ((w, K, ro), hc, hi, sv, pn, ch))) (by simp only [aFwd, rng_nI hk_2 (show K ≤ 1000 by omega), rng_nI hk_11 (by decide)]) ⟨rfl, PB_q hI0 (fun _ _ => rfl) (fun _ _ => rfl) (fun a ha => hAf_22 a (by omega))⟩) dX6_forward_38
    ·
      have hk_11 : rng coin 4 = none := rng_none.mpr (by omega)
      refine q_ine (tgt := 21) hx hb dX6_forward_14 (by decide) (by first | omega | exact Nat.lt_of_le_of_lt (hw3 _) (by decide)) (fun c_14 => absurd c_14 (by decide)) (fun c_14 => ?_)
      refine lv_ldc2 (v := -1) hx hb hC.2.2.2.1 (hC.2.2.2.2 _ gw_605) dX6_forward_17 ?_
      exact q_lret1 hC hW hr hlk0 (RR_l (a' := (-1, ((w, K, ro), hc, hi, sv, pn, ch))) (by simp only [aFwd, rng_nI hk_2 (show K ≤ 1000 by omega), hk_11]) ⟨rfl, PB_0 hI0⟩) dX6_forward_20
  ·
    refine q_ieq (tgt := 17) hx hb dX6_forward_5 (by decide) (by first | omega | exact Nat.lt_of_le_of_lt (hw3 _) (by decide)) (fun c_5 => ?_) (fun c_5 => absurd c_5 (by decide))
    refine lv_ldc2 (v := -1) hx hb hC.2.2.2.1 (hC.2.2.2.2 _ gw_605) dX6_forward_17 ?_
    exact q_lret1 hC hW hr hlk0 (RR_l (a' := (-1, ((w, K, ro), hc, hi, sv, pn, ch))) (by simp only [aFwd, hk_2]) ⟨rfl, PB_0 hI0⟩) dX6_forward_20
set_option maxRecDepth 100000 in
set_option maxHeartbeats 4000000 in
theorem k_rbackward (l : Launch) (G : Gx) (n : Nat) (ad : Nat → Nat) (sz : Nat) (I : Ic) (L : Lc) (R : Rc) (place coin : Int32) (w : Nat → Nat) (K : Nat) (ro : Nat → Nat) (hc : Nat) (hi : Nat → CM) (sv : Nat → Option CM) (pn : Nat) (ch : Nat → Nat) (hI0 : InvB n I R ((w, K, ro), hc, hi, sv, pn, ch)) : Met l yX6_backward (Cond.code yX6_backward cX6_backward 3 (some .long) :: GW) ({ frames := 6, cells := 0, slots := 0, locals := 216 } : Room) (qPre G n ad sz I L R [.ref (ad 71), .int (place), .int (coin)]) (qL1 G (qA n ad sz) n ad R (fun z I1 L1 => RRl n I L R (aBwd (w, K, ro) place coin, ((w, K, ro), hc, hi, sv, pn, ch)) z I1 L1)) 0 0 (qA n ad sz) := by
  refine q_met (by decide) (Nat.le_of_ble_eq_true rfl) ?_
  intro p_ e_ s m_ below meth c_ hC hr hlk0 hin hsz hW ls hl
  subst hsz
  have hC : CallFix p_ m_ c_ cX6_backward 3 s ([.ref (ad 71), .int (place), .int (coin)] : List Value).toArray GW "CoinRowsModel" := hC
  have hx := hC.1
  have hb := hC.2.1
  have hn : 83 ≤ n := hI0.1
  have hlk : LkOK n R := hI0.2.1
  have hN : NwI (I 72) w K ro := hI0.2.2.1
  have hH : HwB I hc hi := hI0.2.2.2.1
  have hSw : SwB I sv := hI0.2.2.2.2.1
  have hPd : PdB I pn ch := hI0.2.2.2.2.2
  have hh1 := hH.1
  have hh6 := hH.2.1
  have hp80 := hPd.2.1
  have hk6 : K ≤ 6 := hN.2.2.2.1
  have hw : Wok w := hN.2.2.2.2.1
  have hw3 : ∀ i, w i ≤ 3 := hw.1
  have hr4 : ∀ j, ro j < 4 := hN.2.2.2.2.2
  have hl : lv_has ls 3 [(0, .ref (ad 71)), (1, .int (place)), (2, .int (coin))] := hl
  refine lv_aload_n hx hb dX6_backward_0 rfl (lv_at hl 0 rfl) ?_
  refine lv_iload_n hx hb dX6_backward_1 rfl (lv_at hl 1 rfl) ?_
  refine q_kI0 (q_rV (As := [.int (place)]) (rest := []) (x := 71) hC hW mw_X6_isPlace gw_566 (k_isPlace l G n ad s.heap.size I L R _ w K ro hn hlk hN) (by omega) (ct_o6 kd_71) rfl ⟨rfl, rfl⟩ ⟨Nat.le_of_ble_eq_true rfl, Nat.le_of_ble_eq_true rfl⟩ ⟨(Nat.le_of_ble_eq_true rfl), (Nat.le_of_ble_eq_true rfl)⟩ hl.1 rfl rfl (Nat.le_of_ble_eq_true rfl) dX6_backward_2) hW (fun r_2 H locs hp hW => ?_)
  rcases hp with ⟨k_2, hk_2, rfl, rfl⟩ | ⟨hk_2, rfl⟩
  ·
    refine q_ieq (tgt := 17) hx hb dX6_backward_5 (by decide) (by first | omega | exact Nat.lt_of_le_of_lt (hw3 _) (by decide)) (fun c_5 => absurd c_5 (by decide)) (fun c_5 => ?_)
    refine lv_iload_n hx hb dX6_backward_8 rfl (lv_at hl 2 rfl) ?_
    refine q_ic 0 hx hb dX6_backward_9 (by decide) ?_
    refine q_ic 3 hx hb dX6_backward_10 (by decide) ?_
    refine q_kI0 (q_rS (As := [.int (coin), .int (nI 0), .int (nI 3)]) (rest := []) hC hW mw_X6_in gw_537 (k_in l G n ad H.size I L R _ _ _) ⟨rfl, rfl⟩ ⟨Nat.le_of_ble_eq_true rfl, Nat.le_of_ble_eq_true rfl⟩ ⟨(Nat.le_of_ble_eq_true rfl), (Nat.le_of_ble_eq_true rfl)⟩ hl.1 rfl rfl (Nat.le_of_ble_eq_true rfl) dX6_backward_11) hW (fun r_11 H locs hp hW => ?_)
    rw [show (nI 0).toInt = 0 by decide, (show (nI 3).toInt = 3 by decide)] at hp
    rcases hp with ⟨rfl, hx_11, hy_11⟩ | ⟨rfl, hx_11⟩
    ·
      obtain ⟨k_11, hk_11, rfl⟩ := rng_ex2 (N := 4) (x := coin) (by omega) (by omega) (by omega)
      refine q_ine (tgt := 21) hx hb dX6_backward_14 (by decide) (by first | omega | exact Nat.lt_of_le_of_lt (hw3 _) (by decide)) (fun c_14 => ?_) (fun c_14 => absurd c_14 (by decide))
      refine lv_aload_n hx hb dX6_backward_21 rfl (lv_at hl 0 rfl) ?_
      refine q_kV1 (q_rV (As := []) (rest := []) (x := 71) hC hW mw_X6_layBehind gw_578 (k_layBh l G n ad H.size I L R w K ro hn hlk hN) (by omega) (ct_o6 kd_71) rfl ⟨rfl, rfl⟩ ⟨Nat.le_of_ble_eq_true rfl, Nat.le_of_ble_eq_true rfl⟩ ⟨(Nat.le_of_ble_eq_true rfl), (Nat.le_of_ble_eq_true rfl)⟩ hl.1 rfl rfl (Nat.le_of_ble_eq_true rfl) dX6_backward_22) hW (fun I_22 L_22 H locs hp hW => ?_)
      obtain ⟨hB_22, hFr_22⟩ := hp
      have hN_22 : NwI (I_22 72) w K ro := by rw [hFr_22.1 72 (by decide)]; exact hN
      refine lv_aload_n hx hb dX6_backward_25 rfl (lv_at hl 0 rfl) ?_
      refine g_6_8 (x := 71) (y := 78) hC hW (by omega) kd_71 gw_491 (hlk 71 8 78 (by omega) rfl) dX6_backward_26 ?_
      refine q_bp 7 hx hb dX6_backward_29 (by decide) ?_
      refine lv_iload_n hx hb dX6_backward_31 rfl (lv_at hl 2 rfl) ?_
      refine q_imul hx hb dX6_backward_32 ?_
      refine lv_iload_n hx hb dX6_backward_33 rfl (lv_at hl 1 rfl) ?_
      refine q_iadd hx hb dX6_backward_34 ?_
      refine q_ic 1 hx hb dX6_backward_35 (by decide) ?_
      refine q_iadd hx hb dX6_backward_36 ?_
      refine q_lald (x := 78) (i := ((7 * k_11) + k_2) + 1) hC hW (by omega) kd_78 (by omega) dX6_backward_37 ?_
      refine q_top (v2 := .long (lN (Sx' w K ro (K - (k_2 + 1)) k_11))) (congrArg _ (hB_22 (k_2 + 1) k_11 (by omega) (by omega) (by omega)).1) ?_
      exact q_lret1 hC hW hr hlk0 (RR_l (a' := (lN (Sx' w K ro (K - (k_2 + 1)) k_11), ((w, K, ro), hc, hi, sv, pn, ch))) (by simp only [aBwd, rng_nI hk_2 (show K ≤ 1000 by omega), rng_nI hk_11 (by decide)]) ⟨rfl, PB_q hI0 (fun a ha => hFr_22.1 a (by omega)) (fun j _ => by rw [hFr_22.1 71 (by decide)]) (fun a ha => hFr_22.2 a (by omega) (by omega))⟩) dX6_backward_38
    ·
      have hk_11 : rng coin 4 = none := rng_none.mpr (by omega)
      refine q_ine (tgt := 21) hx hb dX6_backward_14 (by decide) (by first | omega | exact Nat.lt_of_le_of_lt (hw3 _) (by decide)) (fun c_14 => absurd c_14 (by decide)) (fun c_14 => ?_)
      refine lv_ldc2 (v := -1) hx hb hC.2.2.2.1 (hC.2.2.2.2 _ gw_605) dX6_backward_17 ?_
      exact q_lret1 hC hW hr hlk0 (RR_l (a' := (-1, ((w, K, ro), hc, hi, sv, pn, ch))) (by simp only [aBwd, rng_nI hk_2 (show K ≤ 1000 by omega), hk_11]) ⟨rfl, PB_0 hI0⟩) dX6_backward_20
  ·
    refine q_ieq (tgt := 17) hx hb dX6_backward_5 (by decide) (by first | omega | exact Nat.lt_of_le_of_lt (hw3 _) (by decide)) (fun c_5 => ?_) (fun c_5 => absurd c_5 (by decide))
    refine lv_ldc2 (v := -1) hx hb hC.2.2.2.1 (hC.2.2.2.2 _ gw_605) dX6_backward_17 ?_
    exact q_lret1 hC hW hr hlk0 (RR_l (a' := (-1, ((w, K, ro), hc, hi, sv, pn, ch))) (by simp only [aBwd, hk_2]) ⟨rfl, PB_0 hI0⟩) dX6_backward_20
