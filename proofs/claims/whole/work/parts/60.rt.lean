set_option maxRecDepth 100000 in
set_option maxHeartbeats 4000000 in
theorem k_ofLaid (l : Launch) (G : Gx) (n : Nat) (ad : Nat → Nat) (sz : Nat) (I : Ic) (L : Lc) (R : Rc) (x : Int32) (q : List Nat) (P : Nat) (hn : 83 ≤ n) (hlk : LkOK n R) (hF : FoB q P I L) (hx1 : -1 ≤ x.toInt) : Met l yX6_ofLaid (Cond.code yX6_ofLaid cX6_ofLaid 2 (some .int) :: GW) ({ frames := 0, cells := 0, slots := 0, locals := 0 } : Room) (qPre G n ad sz I L R [.ref (ad 71), .int (x)]) (qI0 G (qA n ad sz) (n, ad, I, L, R) (fun z => z = tellS q x)) 0 0 (qA n ad sz) := by
  refine q_met (by decide) (Nat.le_of_ble_eq_true rfl) ?_
  intro p_ e_ s m_ below meth c_ hC hr hlk0 hin hsz hW ls hl
  subst hsz
  have hC : CallFix p_ m_ c_ cX6_ofLaid 2 s ([.ref (ad 71), .int (x)] : List Value).toArray GW "CoinRowsModel" := hC
  have hx := hC.1
  have hb := hC.2.1
  have h18 := hF.2.2.2
  have hT : (nI q.length).toInt = (q.length : Int) := nI_toInt (by omega)
  have hl : lv_has ls 2 [(0, .ref (ad 71)), (1, .int (x))] := hl
  refine lv_iload_n hx hb dX6_ofLaid_0 rfl (lv_at hl 1 rfl) ?_
  refine lv_iconst (v := -1) hx hb dX6_ofLaid_1 (by decide) ?_
  refine lv_icmp_ne (tgt := 12) hx hb dX6_ofLaid_2 (by decide) (fun c_2 => ?_) (fun c_2 => ?_)
  ·
    refine lv_iload_n hx hb dX6_ofLaid_12 rfl (lv_at hl 1 rfl) ?_
    refine lv_aload_n hx hb dX6_ofLaid_13 rfl (lv_at hl 0 rfl) ?_
    refine g_6_12 (x := 71) hC hW (by omega) kd_71 gw_495 dX6_ofLaid_14 ?_
    refine q_top (v2 := .int (nI (q.length))) (congrArg _ hF.1) ?_
    refine lv_icmp_ge (tgt := 29) hx hb dX6_ofLaid_17 (by decide) (fun c_17 => ?_) (fun c_17 => ?_)
    ·
      refine lv_bipush (v := -6) hx hb dX6_ofLaid_29 (by decide) ?_
      have hfin : rng x q.length = none := rng_none.mpr (by simp only [hT, Int32.lt_iff_toInt_lt, Int32.le_iff_toInt_le, ← Int32.toInt_inj, nT0, nT1, nT2, nT3, nT4, nT5, nT6, nT7, nT8, nT9, nT10, nT33, nT36, nT42, nT58, nT80, nT126, nT255, i_m1, i_m2, Int32.toInt_zero, Int32.toInt_one] at c_17; omega)
      exact q_iret0 hC hW hr hlk0 (tell_n (fun h => c_2 h) hfin).symm dX6_ofLaid_31
    ·
      have hx0 : x.toInt ≠ -1 := fun q9 => c_2 (Int32.toInt_inj.mp (by rw [q9]; decide))
      obtain ⟨j1, hj1, rfl⟩ := rng_ex (N := q.length) (x := x) (by omega) (by omega) (by simp only [hT, Int32.lt_iff_toInt_lt, Int32.le_iff_toInt_le, ← Int32.toInt_inj, nT0, nT1, nT2, nT3, nT4, nT5, nT6, nT7, nT8, nT9, nT10, nT33, nT36, nT42, nT58, nT80, nT126, nT255, i_m1, i_m2, Int32.toInt_zero, Int32.toInt_one] at c_17; omega)
      refine lv_aload_n hx hb dX6_ofLaid_20 rfl (lv_at hl 0 rfl) ?_
      refine g_6_11 (x := 71) (y := 81) hC hW (by omega) kd_71 gw_494 (hlk 71 11 81 (by omega) rfl) dX6_ofLaid_21 ?_
      refine lv_iload_n hx hb dX6_ofLaid_24 rfl (lv_at hl 1 rfl) ?_
      refine q_iald (x := 81) (i := j1) hC hW (by omega) kd_81 (by omega) dX6_ofLaid_25 ?_
      refine q_top (v2 := .int (nI (q.getD j1 0))) (congrArg _ (hF.2.1 _ hj1)) ?_
      refine lv_goto (tgt := 31) hx hb dX6_ofLaid_26 (by decide) ?_
      exact q_iret0 hC hW hr hlk0 (tell_s hj1 hF.2.2.2 rfl).symm dX6_ofLaid_31
  ·
    refine lv_aload_n hx hb dX6_ofLaid_5 rfl (lv_at hl 0 rfl) ?_
    refine g_6_12 (x := 71) hC hW (by omega) kd_71 gw_495 dX6_ofLaid_6 ?_
    refine q_top (v2 := .int (nI (q.length))) (congrArg _ hF.1) ?_
    refine lv_goto (tgt := 31) hx hb dX6_ofLaid_9 (by decide) ?_
    exact q_iret0 hC hW hr hlk0 (by rw [c_2, tell_m]) dX6_ofLaid_31
set_option maxRecDepth 100000 in
set_option maxHeartbeats 4000000 in
theorem k_rway (l : Launch) (G : Gx) (n : Nat) (ad : Nat → Nat) (sz : Nat) (I : Ic) (L : Lc) (R : Rc) (way what : Int32) (w : Nat → Nat) (K : Nat) (ro : Nat → Nat) (hc : Nat) (hi : Nat → CM) (sv : Nat → Option CM) (pn : Nat) (ch : Nat → Nat) (hI0 : InvB n I R ((w, K, ro), hc, hi, sv, pn, ch)) : Met l yX6_way (Cond.code yX6_way cX6_way 3 (some .int) :: GW) ({ frames := 6, cells := 0, slots := 0, locals := 216 } : Room) (qPre G n ad sz I L R [.ref (ad 71), .int (way), .int (what)]) (qI1 G (qA n ad sz) n ad R (fun z I1 L1 => RR n I L R (aWay (w, K, ro) way what, ((w, K, ro), hc, hi, sv, pn, ch)) z I1 L1)) 0 0 (qA n ad sz) := by
  refine q_met (by decide) (Nat.le_of_ble_eq_true rfl) ?_
  intro p_ e_ s m_ below meth c_ hC hr hlk0 hin hsz hW ls hl
  subst hsz
  have hC : CallFix p_ m_ c_ cX6_way 3 s ([.ref (ad 71), .int (way), .int (what)] : List Value).toArray GW "CoinRowsModel" := hC
  have hx := hC.1
  have hb := hC.2.1
  have hn : 83 ≤ n := hI0.1
  have hlk : LkOK n R := hI0.2.1
  have hN : NwI (I 72) w K ro := hI0.2.2.1
  have hH : HwB I hc hi := hI0.2.2.2.1
  have hSw : SwB I sv := hI0.2.2.2.2.1
  have hPd : PdB I pn ch := hI0.2.2.2.2.2
  have hh1 := hH.1
  have hh6 := hH.2.1
  have hp80 := hPd.2.1
  have hk6 : K ≤ 6 := hN.2.2.2.1
  have hw : Wok w := hN.2.2.2.2.1
  have hw3 : ∀ i, w i ≤ 3 := hw.1
  have hr4 : ∀ j, ro j < 4 := hN.2.2.2.2.2
  have hC24 := Cx_b (r := ro) hw K K 6 hk6
  have hl : lv_has ls 3 [(0, .ref (ad 71)), (1, .int (way)), (2, .int (what))] := hl
  refine lv_aload_n hx hb dX6_way_0 rfl (lv_at hl 0 rfl) ?_
  refine lv_iload_n hx hb dX6_way_1 rfl (lv_at hl 1 rfl) ?_
  refine q_kI1 (q_rV (As := [.int (way)]) (rest := []) (x := 71) hC hW mw_X6_isWay gw_634 (k_isWay l G n ad s.heap.size I L R _ w K ro hn hlk hN) (by omega) (ct_o6 kd_71) rfl ⟨rfl, rfl⟩ ⟨Nat.le_of_ble_eq_true rfl, Nat.le_of_ble_eq_true rfl⟩ ⟨(Nat.le_of_ble_eq_true rfl), (Nat.le_of_ble_eq_true rfl)⟩ hl.1 rfl rfl (Nat.le_of_ble_eq_true rfl) dX6_way_2) hW (fun r_2 I_2 L_2 H locs hp hW => ?_)
  obtain ⟨hp, hB_2, hFr_2⟩ := hp
  have hN_2 : NwI (I_2 72) w K ro := by rw [hFr_2.1 72 (by decide)]; exact hN
  rcases hp with ⟨k_2, hk_2, rfl, rfl⟩ | ⟨hk_2, rfl⟩
  ·
    refine q_ine (tgt := 10) hx hb dX6_way_5 (by decide) (by first | omega | exact Nat.lt_of_le_of_lt (hw3 _) (by decide)) (fun c_5 => ?_) (fun c_5 => absurd c_5 (by decide))
    refine lv_iload_n hx hb dX6_way_10 rfl (lv_at hl 2 rfl) ?_
    refine lv_iconst (v := -1) hx hb dX6_way_11 (by decide) ?_
    refine lv_icmp_ge (tgt := 18) hx hb dX6_way_12 (by decide) (fun c_12 => ?_) (fun c_12 => ?_)
    ·
      have hx1 : -1 ≤ what.toInt := by simp only [Int32.lt_iff_toInt_lt, Int32.le_iff_toInt_le, ← Int32.toInt_inj, nT0, nT1, nT2, nT3, nT4, nT5, nT6, nT7, nT8, nT9, nT10, nT33, nT36, nT42, nT58, nT80, nT126, nT255, i_m1, i_m2, Int32.toInt_zero, Int32.toInt_one] at c_12; omega
      refine lv_aload_n hx hb dX6_way_18 rfl (lv_at hl 0 rfl) ?_
      refine lv_iload_n hx hb dX6_way_19 rfl (lv_at hl 1 rfl) ?_
      refine q_kI1 (q_rV (As := [.int (nI (k_2))]) (rest := []) (x := 71) hC hW mw_X6_layWay gw_638 (k_layWayQ l G n ad H.size I_2 L_2 R _ w K ro hn hlk hN_2 hB_2 hk_2) (by omega) (ct_o6 kd_71) rfl ⟨rfl, rfl⟩ ⟨Nat.le_of_ble_eq_true rfl, Nat.le_of_ble_eq_true rfl⟩ ⟨(Nat.le_of_ble_eq_true rfl), (Nat.le_of_ble_eq_true rfl)⟩ hl.1 rfl rfl (Nat.le_of_ble_eq_true rfl) dX6_way_20) hW (fun r_20 I_20 L_20 H locs hp hW => ?_)
      obtain ⟨hFo_20, hG_20, hg_20, hL_20⟩ := hp
      refine lv_pop hx hb dX6_way_23 rfl ?_
      refine lv_aload_n hx hb dX6_way_24 rfl (lv_at hl 0 rfl) ?_
      refine lv_iload_n hx hb dX6_way_25 rfl (lv_at hl 2 rfl) ?_
      refine q_kI0 (q_rV (As := [.int (what)]) (rest := []) (x := 71) hC hW mw_X6_ofLaid gw_642 (k_ofLaid l G n ad H.size I_20 L_20 R _ _ _ hn hlk hFo_20 hx1) (by omega) (ct_o6 kd_71) rfl ⟨rfl, rfl⟩ ⟨Nat.le_of_ble_eq_true rfl, Nat.le_of_ble_eq_true rfl⟩ ⟨(Nat.le_of_ble_eq_true rfl), (Nat.le_of_ble_eq_true rfl)⟩ hl.1 rfl rfl (Nat.le_of_ble_eq_true rfl) dX6_way_26) hW (fun r_26 H locs hp hW => ?_)
      subst hp
      exact q_iret1 hC hW hr hlk0 (RR_i (a' := (tellS (wayN w ro K k_2) what, ((w, K, ro), hc, hi, sv, pn, ch))) (by simp only [aWay, aCnt, rng_nI2 hk_2 (show Cx' w K ro K 6 < 2 ^ 31 by omega), if_neg (show ¬ what.toInt < -1 by omega)]) ⟨rfl, PB_q hI0 (fun a ha => (hG_20 a (by omega) (by omega)).trans (hFr_2.1 a (by omega))) (fun j hj => (hg_20 j (by omega)).trans (congrFun (hFr_2.1 71 (by decide)) j)) (fun a ha => (hL_20 a (by omega)).trans (hFr_2.2 a (by omega) (by omega)))⟩) dX6_way_29
    ·
      refine lv_bipush (v := -2) hx hb dX6_way_15 (by decide) ?_
      have hx1 : what.toInt < -1 := by simp only [Int32.lt_iff_toInt_lt, Int32.le_iff_toInt_le, ← Int32.toInt_inj, nT0, nT1, nT2, nT3, nT4, nT5, nT6, nT7, nT8, nT9, nT10, nT33, nT36, nT42, nT58, nT80, nT126, nT255, i_m1, i_m2, Int32.toInt_zero, Int32.toInt_one] at c_12; omega
      exact q_iret1 hC hW hr hlk0 (RR_i (a' := (-2, ((w, K, ro), hc, hi, sv, pn, ch))) (by simp only [aWay, aCnt, rng_nI2 hk_2 (show Cx' w K ro K 6 < 2 ^ 31 by omega), if_pos hx1]) ⟨rfl, PB_q hI0 (fun a ha => hFr_2.1 a (by omega)) (fun j _ => by rw [hFr_2.1 71 (by decide)]) (fun a ha => hFr_2.2 a (by omega) (by omega))⟩) dX6_way_17
  ·
    refine q_ine (tgt := 10) hx hb dX6_way_5 (by decide) (by first | omega | exact Nat.lt_of_le_of_lt (hw3 _) (by decide)) (fun c_5 => absurd c_5 (by decide)) (fun c_5 => ?_)
    refine lv_iconst (v := -1) hx hb dX6_way_8 (by decide) ?_
    exact q_iret1 hC hW hr hlk0 (RR_i (a' := (-1, ((w, K, ro), hc, hi, sv, pn, ch))) (by simp only [aWay, aCnt, hk_2]) ⟨rfl, PB_q hI0 (fun a ha => hFr_2.1 a (by omega)) (fun j _ => by rw [hFr_2.1 71 (by decide)]) (fun a ha => hFr_2.2 a (by omega) (by omega))⟩) dX6_way_9
set_option maxRecDepth 100000 in
set_option maxHeartbeats 4000000 in
theorem k_rweighs (l : Launch) (G : Gx) (n : Nat) (ad : Nat → Nat) (sz : Nat) (I : Ic) (L : Lc) (R : Rc) (way : Int32) (w : Nat → Nat) (K : Nat) (ro : Nat → Nat) (hc : Nat) (hi : Nat → CM) (sv : Nat → Option CM) (pn : Nat) (ch : Nat → Nat) (hI0 : InvB n I R ((w, K, ro), hc, hi, sv, pn, ch)) : Met l yX6_weighs (Cond.code yX6_weighs cX6_weighs 2 (some .long) :: GW) ({ frames := 6, cells := 0, slots := 0, locals := 216 } : Room) (qPre G n ad sz I L R [.ref (ad 71), .int (way)]) (qL1 G (qA n ad sz) n ad R (fun z I1 L1 => RRl n I L R (aWei (w, K, ro) way, ((w, K, ro), hc, hi, sv, pn, ch)) z I1 L1)) 0 0 (qA n ad sz) := by
  refine q_met (by decide) (Nat.le_of_ble_eq_true rfl) ?_
  intro p_ e_ s m_ below meth c_ hC hr hlk0 hin hsz hW ls hl
  subst hsz
  have hC : CallFix p_ m_ c_ cX6_weighs 2 s ([.ref (ad 71), .int (way)] : List Value).toArray GW "CoinRowsModel" := hC
  have hx := hC.1
  have hb := hC.2.1
  have hn : 83 ≤ n := hI0.1
  have hlk : LkOK n R := hI0.2.1
  have hN : NwI (I 72) w K ro := hI0.2.2.1
  have hH : HwB I hc hi := hI0.2.2.2.1
  have hSw : SwB I sv := hI0.2.2.2.2.1
  have hPd : PdB I pn ch := hI0.2.2.2.2.2
  have hh1 := hH.1
  have hh6 := hH.2.1
  have hp80 := hPd.2.1
  have hk6 : K ≤ 6 := hN.2.2.2.1
  have hw : Wok w := hN.2.2.2.2.1
  have hw3 : ∀ i, w i ≤ 3 := hw.1
  have hr4 : ∀ j, ro j < 4 := hN.2.2.2.2.2
  have hC24 := Cx_b (r := ro) hw K K 6 hk6
  have hl : lv_has ls 2 [(0, .ref (ad 71)), (1, .int (way))] := hl
  refine lv_aload_n hx hb dX6_weighs_0 rfl (lv_at hl 0 rfl) ?_
  refine lv_iload_n hx hb dX6_weighs_1 rfl (lv_at hl 1 rfl) ?_
  refine q_kI1 (q_rV (As := [.int (way)]) (rest := []) (x := 71) hC hW mw_X6_isWay gw_634 (k_isWay l G n ad s.heap.size I L R _ w K ro hn hlk hN) (by omega) (ct_o6 kd_71) rfl ⟨rfl, rfl⟩ ⟨Nat.le_of_ble_eq_true rfl, Nat.le_of_ble_eq_true rfl⟩ ⟨(Nat.le_of_ble_eq_true rfl), (Nat.le_of_ble_eq_true rfl)⟩ hl.1 rfl rfl (Nat.le_of_ble_eq_true rfl) dX6_weighs_2) hW (fun r_2 I_2 L_2 H locs hp hW => ?_)
  obtain ⟨hp, hB_2, hFr_2⟩ := hp
  have hN_2 : NwI (I_2 72) w K ro := by rw [hFr_2.1 72 (by decide)]; exact hN
  rcases hp with ⟨k_2, hk_2, rfl, rfl⟩ | ⟨hk_2, rfl⟩
  ·
    refine q_ine (tgt := 12) hx hb dX6_weighs_5 (by decide) (by first | omega | exact Nat.lt_of_le_of_lt (hw3 _) (by decide)) (fun c_5 => ?_) (fun c_5 => absurd c_5 (by decide))
    refine lv_aload_n hx hb dX6_weighs_12 rfl (lv_at hl 0 rfl) ?_
    refine lv_iload_n hx hb dX6_weighs_13 rfl (lv_at hl 1 rfl) ?_
    refine q_kI1 (q_rV (As := [.int (nI (k_2))]) (rest := []) (x := 71) hC hW mw_X6_layWay gw_638 (k_layWayQ l G n ad H.size I_2 L_2 R _ w K ro hn hlk hN_2 hB_2 hk_2) (by omega) (ct_o6 kd_71) rfl ⟨rfl, rfl⟩ ⟨Nat.le_of_ble_eq_true rfl, Nat.le_of_ble_eq_true rfl⟩ ⟨(Nat.le_of_ble_eq_true rfl), (Nat.le_of_ble_eq_true rfl)⟩ hl.1 rfl rfl (Nat.le_of_ble_eq_true rfl) dX6_weighs_14) hW (fun r_14 I_14 L_14 H locs hp hW => ?_)
    obtain ⟨hFo_14, hG_14, hg_14, hL_14⟩ := hp
    refine lv_pop hx hb dX6_weighs_17 rfl ?_
    refine lv_aload_n hx hb dX6_weighs_18 rfl (lv_at hl 0 rfl) ?_
    refine g_6_13 (x := 71) hC hW (by omega) kd_71 gw_496 dX6_weighs_19 ?_
    refine q_top (v2 := .long (lN (prN w ro K 0 6 (wayN w ro K k_2)))) (congrArg _ hFo_14.2.2.1) ?_
    exact q_lret1 hC hW hr hlk0 (RR_l (a' := (lN (prN w ro K 0 6 (wayN w ro K k_2)), ((w, K, ro), hc, hi, sv, pn, ch))) (by simp only [aWei, aCnt, rng_nI2 hk_2 (show Cx' w K ro K 6 < 2 ^ 31 by omega)]) ⟨rfl, PB_q hI0 (fun a ha => (hG_14 a (by omega) (by omega)).trans (hFr_2.1 a (by omega))) (fun j hj => (hg_14 j (by omega)).trans (congrFun (hFr_2.1 71 (by decide)) j)) (fun a ha => (hL_14 a (by omega)).trans (hFr_2.2 a (by omega) (by omega)))⟩) dX6_weighs_22
  ·
    refine q_ine (tgt := 12) hx hb dX6_weighs_5 (by decide) (by first | omega | exact Nat.lt_of_le_of_lt (hw3 _) (by decide)) (fun c_5 => absurd c_5 (by decide)) (fun c_5 => ?_)
    refine lv_ldc2 (v := -1) hx hb hC.2.2.2.1 (hC.2.2.2.2 _ gw_605) dX6_weighs_8 ?_
    exact q_lret1 hC hW hr hlk0 (RR_l (a' := (-1, ((w, K, ro), hc, hi, sv, pn, ch))) (by simp only [aWei, aCnt, hk_2]) ⟨rfl, PB_q hI0 (fun a ha => hFr_2.1 a (by omega)) (fun j _ => by rw [hFr_2.1 71 (by decide)]) (fun a ha => hFr_2.2 a (by omega) (by omega))⟩) dX6_weighs_11
set_option maxRecDepth 100000 in
set_option maxHeartbeats 4000000 in
theorem k_rlikeliest (l : Launch) (G : Gx) (n : Nat) (ad : Nat → Nat) (sz : Nat) (I : Ic) (L : Lc) (R : Rc) (what : Int32) (w : Nat → Nat) (K : Nat) (ro : Nat → Nat) (hc : Nat) (hi : Nat → CM) (sv : Nat → Option CM) (pn : Nat) (ch : Nat → Nat) (hI0 : InvB n I R ((w, K, ro), hc, hi, sv, pn, ch)) : Met l yX6_likeliest (Cond.code yX6_likeliest cX6_likeliest 3 (some .int) :: GW) ({ frames := 6, cells := 0, slots := 0, locals := 216 } : Room) (qPre G n ad sz I L R [.ref (ad 71), .int (what)]) (qI1 G (qA n ad sz) n ad R (fun z I1 L1 => RR n I L R (aLik (w, K, ro) what, ((w, K, ro), hc, hi, sv, pn, ch)) z I1 L1)) 0 0 (qA n ad sz) := by
  refine q_met (by decide) (Nat.le_of_ble_eq_true rfl) ?_
  intro p_ e_ s m_ below meth c_ hC hr hlk0 hin hsz hW ls hl
  subst hsz
  have hC : CallFix p_ m_ c_ cX6_likeliest 3 s ([.ref (ad 71), .int (what)] : List Value).toArray GW "CoinRowsModel" := hC
  have hx := hC.1
  have hb := hC.2.1
  have hn : 83 ≤ n := hI0.1
  have hlk : LkOK n R := hI0.2.1
  have hN : NwI (I 72) w K ro := hI0.2.2.1
  have hH : HwB I hc hi := hI0.2.2.2.1
  have hSw : SwB I sv := hI0.2.2.2.2.1
  have hPd : PdB I pn ch := hI0.2.2.2.2.2
  have hh1 := hH.1
  have hh6 := hH.2.1
  have hp80 := hPd.2.1
  have hk6 : K ≤ 6 := hN.2.2.2.1
  have hw : Wok w := hN.2.2.2.2.1
  have hw3 : ∀ i, w i ≤ 3 := hw.1
  have hr4 : ∀ j, ro j < 4 := hN.2.2.2.2.2
  have hC24 := Cx_b (r := ro) hw K K 6 hk6
  have hl : lv_has ls 3 [(0, .ref (ad 71)), (1, .int (what))] := hl
  refine lv_iload_n hx hb dX6_likeliest_0 rfl (lv_at hl 1 rfl) ?_
  refine lv_bipush (v := -2) hx hb dX6_likeliest_1 (by decide) ?_
  refine lv_icmp_ge (tgt := 9) hx hb dX6_likeliest_3 (by decide) (fun c_3 => ?_) (fun c_3 => ?_)
  ·
    refine lv_aload_n hx hb dX6_likeliest_9 rfl (lv_at hl 0 rfl) ?_
    refine q_kI1 (q_rV (As := []) (rest := []) (x := 71) hC hW mw_X6_waysNow gw_626 (k_waysNow l G n ad s.heap.size I L R w K ro hn hlk hN) (by omega) (ct_o6 kd_71) rfl ⟨rfl, rfl⟩ ⟨Nat.le_of_ble_eq_true rfl, Nat.le_of_ble_eq_true rfl⟩ ⟨(Nat.le_of_ble_eq_true rfl), (Nat.le_of_ble_eq_true rfl)⟩ hl.1 rfl rfl (Nat.le_of_ble_eq_true rfl) dX6_likeliest_10) hW (fun r_10 I_10 L_10 H locs hp hW => ?_)
    obtain ⟨rfl, hB_10, hFr_10⟩ := hp
    have hN_10 : NwI (I_10 72) w K ro := by rw [hFr_10.1 72 (by decide)]; exact hN
    refine q_ine (tgt := 19) hx hb dX6_likeliest_13 (by decide) (by first | omega | exact Nat.lt_of_le_of_lt (hw3 _) (by decide)) (fun c_13 => ?_) (fun c_13 => ?_)
    ·
      have hC0 : 0 < Cx' w K ro K 6 := by omega
      have hT0 : ¬ Sx' w K ro K 6 = 0 := fun q9 => by have h9 := (SC_pos w K ro K 6).mpr hC0; omega
      refine lv_aload_n hx hb dX6_likeliest_19 rfl (lv_at hl 0 rfl) ?_
      refine lv_bipush (v := -6) hx hb dX6_likeliest_20 (by decide) ?_
      refine q_kI1 (q_rV (As := [.int (-6)]) (rest := []) (x := 71) hC hW mw_X6_layWay gw_638 (k_layWayM l G n ad H.size I_10 L_10 R w K ro hn hlk hN_10 hB_10 hC0) (by omega) (ct_o6 kd_71) rfl ⟨rfl, rfl⟩ ⟨Nat.le_of_ble_eq_true rfl, Nat.le_of_ble_eq_true rfl⟩ ⟨(Nat.le_of_ble_eq_true rfl), (Nat.le_of_ble_eq_true rfl)⟩ hl.1 rfl rfl (Nat.le_of_ble_eq_true rfl) dX6_likeliest_22) hW (fun r_22 I_22 L_22 H locs hp hW => ?_)
      obtain ⟨rfl, hFo_22, hG_22, hg_22, hL_22⟩ := hp
      refine lv_istore_n (lv' := [(2, .int (nI (rkN w ro K 0 6 (wayM w ro K)))), (0, .ref (ad 71)), (1, .int (what))]) hx hb dX6_likeliest_25 rfl hl (by decide) rfl (fun ls hl => ?_)
      refine lv_iload_n hx hb dX6_likeliest_26 rfl (lv_at hl 2 rfl) ?_
      refine lv_bipush (v := -2) hx hb dX6_likeliest_27 (by decide) ?_
      refine lv_icmp_ne (tgt := 36) hx hb dX6_likeliest_29 (by decide) (fun c_29 => ?_) (fun c_29 => ?_)
      ·
        have hx3 : ¬ what.toInt < -2 := by simp only [Int32.lt_iff_toInt_lt, Int32.le_iff_toInt_le, ← Int32.toInt_inj, nT0, nT1, nT2, nT3, nT4, nT5, nT6, nT7, nT8, nT9, nT10, nT33, nT36, nT42, nT58, nT80, nT126, nT255, i_m1, i_m2, Int32.toInt_zero, Int32.toInt_one] at c_3; omega
        have hx4 : what.toInt ≠ -2 := fun q9 => c_29 (Int32.toInt_inj.mp (by rw [q9]; decide))
        refine lv_aload_n hx hb dX6_likeliest_36 rfl (lv_at hl 1 rfl) ?_
        refine lv_iload_n hx hb dX6_likeliest_37 rfl (lv_at hl 2 rfl) ?_
        refine q_kI0 (q_rV (As := [.int (what)]) (rest := []) (x := 71) hC hW mw_X6_ofLaid gw_642 (k_ofLaid l G n ad H.size I_22 L_22 R _ _ _ hn hlk hFo_22 (by omega)) (by omega) (ct_o6 kd_71) rfl ⟨rfl, rfl⟩ ⟨Nat.le_of_ble_eq_true rfl, Nat.le_of_ble_eq_true rfl⟩ ⟨(Nat.le_of_ble_eq_true rfl), (Nat.le_of_ble_eq_true rfl)⟩ hl.1 rfl rfl (Nat.le_of_ble_eq_true rfl) dX6_likeliest_38) hW (fun r_38 H locs hp hW => ?_)
        subst hp
        have hx2 : ¬ what.toInt < -2 := by simp only [Int32.lt_iff_toInt_lt, Int32.le_iff_toInt_le, ← Int32.toInt_inj, nT0, nT1, nT2, nT3, nT4, nT5, nT6, nT7, nT8, nT9, nT10, nT33, nT36, nT42, nT58, nT80, nT126, nT255, i_m1, i_m2, Int32.toInt_zero, Int32.toInt_one] at c_3; omega
        exact q_iret1 hC hW hr hlk0 (RR_i (a' := (tellS (wayM w ro K) what, ((w, K, ro), hc, hi, sv, pn, ch))) (by simp only [aLik, if_neg hx2, aTot, if_neg hT0, if_neg c_29, bstN, way_bst hw hk6 hC0]) ⟨rfl, PB_q hI0 (fun a ha => (hG_22 a (by omega) (by omega)).trans (hFr_10.1 a (by omega))) (fun j hj => (hg_22 j (by omega)).trans (congrFun (hFr_10.1 71 (by decide)) j)) (fun a ha => (hL_22 a (by omega)).trans (hFr_10.2 a (by omega) (by omega)))⟩) dX6_likeliest_41
      ·
        refine lv_iload_n hx hb dX6_likeliest_32 rfl (lv_at hl 0 rfl) ?_
        refine lv_goto (tgt := 41) hx hb dX6_likeliest_33 (by decide) ?_
        have hx2 : ¬ what.toInt < -2 := by simp only [Int32.lt_iff_toInt_lt, Int32.le_iff_toInt_le, ← Int32.toInt_inj, nT0, nT1, nT2, nT3, nT4, nT5, nT6, nT7, nT8, nT9, nT10, nT33, nT36, nT42, nT58, nT80, nT126, nT255, i_m1, i_m2, Int32.toInt_zero, Int32.toInt_one] at c_3; omega
        exact q_iret1 hC hW hr hlk0 (RR_i (a' := (nI (rkN w ro K 0 6 (wayM w ro K)), ((w, K, ro), hc, hi, sv, pn, ch))) (by simp only [aLik, if_neg hx2, aTot, if_neg hT0, if_pos c_29, bstN]) ⟨rfl, PB_q hI0 (fun a ha => (hG_22 a (by omega) (by omega)).trans (hFr_10.1 a (by omega))) (fun j hj => (hg_22 j (by omega)).trans (congrFun (hFr_10.1 71 (by decide)) j)) (fun a ha => (hL_22 a (by omega)).trans (hFr_10.2 a (by omega) (by omega)))⟩) dX6_likeliest_41
    ·
      refine lv_bipush (v := -5) hx hb dX6_likeliest_16 (by decide) ?_
      have hx2 : ¬ what.toInt < -2 := by simp only [Int32.lt_iff_toInt_lt, Int32.le_iff_toInt_le, ← Int32.toInt_inj, nT0, nT1, nT2, nT3, nT4, nT5, nT6, nT7, nT8, nT9, nT10, nT33, nT36, nT42, nT58, nT80, nT126, nT255, i_m1, i_m2, Int32.toInt_zero, Int32.toInt_one] at c_3; omega
      have hT0 : Sx' w K ro K 6 = 0 := Nat.le_zero.mp (Nat.not_lt.mp (fun q9 => by have h9 := (SC_pos w K ro K 6).mp q9; omega))
      exact q_iret1 hC hW hr hlk0 (RR_i (a' := (-5, ((w, K, ro), hc, hi, sv, pn, ch))) (by simp only [aLik, if_neg hx2, aTot, if_pos hT0]) ⟨rfl, PB_q hI0 (fun a ha => hFr_10.1 a (by omega)) (fun j _ => by rw [hFr_10.1 71 (by decide)]) (fun a ha => hFr_10.2 a (by omega) (by omega))⟩) dX6_likeliest_18
  ·
    refine lv_bipush (v := -2) hx hb dX6_likeliest_6 (by decide) ?_
    have hx2 : what.toInt < -2 := by simp only [Int32.lt_iff_toInt_lt, Int32.le_iff_toInt_le, ← Int32.toInt_inj, nT0, nT1, nT2, nT3, nT4, nT5, nT6, nT7, nT8, nT9, nT10, nT33, nT36, nT42, nT58, nT80, nT126, nT255, i_m1, i_m2, Int32.toInt_zero, Int32.toInt_one] at c_3; omega
    exact q_iret1 hC hW hr hlk0 (RR_i (a' := (-2, ((w, K, ro), hc, hi, sv, pn, ch))) (by simp only [aLik, if_pos hx2]) ⟨rfl, PB_0 hI0⟩) dX6_likeliest_8
