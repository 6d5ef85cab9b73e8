theorem exN_0 (w r : Nat → Nat) (j : Nat) : exN w r 0 j = 0 := by
  unfold exN
  split
  · rfl
  · split <;> rfl
theorem idx_z {c t : Int32} {i : Nat} (h : idx 0 c t = some i) : t = nI 0 := by
  unfold idx at h
  rw [if_pos rfl] at h
  split at h
  · rename_i a b ha hb
    have h2 := rng_some hb (by decide)
    rw [h2.2, show b = 0 by omega]
  · cases h
set_option maxRecDepth 100000 in
set_option maxHeartbeats 4000000 in
theorem k_rexpected (l : Launch) (G : Gx) (n : Nat) (ad : Nat → Nat) (sz : Nat) (I : Ic) (L : Lc) (R : Rc) (kind coin to part : Int32) (w : Nat → Nat) (K : Nat) (ro : Nat → Nat) (hc : Nat) (hi : Nat → CM) (sv : Nat → Option CM) (pn : Nat) (ch : Nat → Nat) (hI0 : InvB n I R ((w, K, ro), hc, hi, sv, pn, ch)) : Met l yX6_expected (Cond.code yX6_expected cX6_expected 7 (some .long) :: GW) ({ frames := 6, cells := 0, slots := 0, locals := 216 } : Room) (qPre G n ad sz I L R [.ref (ad 71), .int (kind), .int (coin), .int (to), .int (part)]) (qL1 G (qA n ad sz) n ad R (fun z I1 L1 => RRl n I L R (aExp (w, K, ro) kind coin to part, ((w, K, ro), hc, hi, sv, pn, ch)) z I1 L1)) 0 0 (qA n ad sz) := by
  refine q_met (by decide) (Nat.le_of_ble_eq_true rfl) ?_
  intro p_ e_ s m_ below meth c_ hC hr hlk0 hin hsz hW ls hl
  subst hsz
  have hC : CallFix p_ m_ c_ cX6_expected 7 s ([.ref (ad 71), .int (kind), .int (coin), .int (to), .int (part)] : List Value).toArray GW "CoinRowsModel" := hC
  have hx := hC.1
  have hb := hC.2.1
  have hn : 83 ≤ n := hI0.1
  have hlk : LkOK n R := hI0.2.1
  have hN : NwI (I 72) w K ro := hI0.2.2.1
  have hH : HwB I hc hi := hI0.2.2.2.1
  have hSw : SwB I sv := hI0.2.2.2.2.1
  have hPd : PdB I pn ch := hI0.2.2.2.2.2
  have hh1 := hH.1
  have hh6 := hH.2.1
  have hp80 := hPd.2.1
  have hk6 : K ≤ 6 := hN.2.2.2.1
  have hw : Wok w := hN.2.2.2.2.1
  have hw3 : ∀ i, w i ≤ 3 := hw.1
  have hr4 : ∀ j, ro j < 4 := hN.2.2.2.2.2
  have hT63 : Sx' w K ro K 6 < 2 ^ 63 := Nat.lt_of_le_of_lt (Sx_b hw K K 6 hk6) (by decide)
  have hl : lv_has ls 7 [(0, .ref (ad 71)), (1, .int (kind)), (2, .int (coin)), (3, .int (to)), (4, .int (part))] := hl
  refine lv_iload_n hx hb dX6_expected_0 rfl (lv_at hl 1 rfl) ?_
  refine q_ic 0 hx hb dX6_expected_1 (by decide) ?_
  refine q_ic 2 hx hb dX6_expected_2 (by decide) ?_
  refine q_kI0 (q_rS (As := [.int (kind), .int (nI 0), .int (nI 2)]) (rest := []) hC hW mw_X6_in gw_537 (k_in l G n ad s.heap.size I L R _ _ _) ⟨rfl, rfl⟩ ⟨Nat.le_of_ble_eq_true rfl, Nat.le_of_ble_eq_true rfl⟩ ⟨(Nat.le_of_ble_eq_true rfl), (Nat.le_of_ble_eq_true rfl)⟩ hl.1 rfl rfl (Nat.le_of_ble_eq_true rfl) dX6_expected_3) hW (fun r_3 H locs hp hW => ?_)
  rw [show (nI 0).toInt = 0 by decide, (show (nI 2).toInt = 2 by decide)] at hp
  rcases hp with ⟨rfl, hx_3, hy_3⟩ | ⟨rfl, hx_3⟩
  ·
    obtain ⟨k_3, hk_3, rfl⟩ := rng_ex2 (N := 3) (x := kind) (by omega) (by omega) (by omega)
    refine q_ieq (tgt := 19) hx hb dX6_expected_6 (by decide) (by first | omega | exact Nat.lt_of_le_of_lt (hw3 _) (by decide)) (fun c_6 => absurd c_6 (by decide)) (fun c_6 => ?_)
    refine lv_iload hx hb dX6_expected_9 (lv_at hl 4 rfl) ?_
    refine q_ic 0 hx hb dX6_expected_11 (by decide) ?_
    refine q_ic 1 hx hb dX6_expected_12 (by decide) ?_
    refine q_kI0 (q_rS (As := [.int (part), .int (nI 0), .int (nI 1)]) (rest := []) hC hW mw_X6_in gw_537 (k_in l G n ad H.size I L R _ _ _) ⟨rfl, rfl⟩ ⟨Nat.le_of_ble_eq_true rfl, Nat.le_of_ble_eq_true rfl⟩ ⟨(Nat.le_of_ble_eq_true rfl), (Nat.le_of_ble_eq_true rfl)⟩ hl.1 rfl rfl (Nat.le_of_ble_eq_true rfl) dX6_expected_13) hW (fun r_13 H locs hp hW => ?_)
    rw [show (nI 0).toInt = 0 by decide, (show (nI 1).toInt = 1 by decide)] at hp
    rcases hp with ⟨rfl, hx_13, hy_13⟩ | ⟨rfl, hx_13⟩
    ·
      obtain ⟨k_13, hk_13, rfl⟩ := rng_ex2 (N := 2) (x := part) (by omega) (by omega) (by omega)
      refine q_ine (tgt := 23) hx hb dX6_expected_16 (by decide) (by first | omega | exact Nat.lt_of_le_of_lt (hw3 _) (by decide)) (fun c_16 => ?_) (fun c_16 => absurd c_16 (by decide))
      refine lv_iload_n hx hb dX6_expected_23 rfl (lv_at hl 1 rfl) ?_
      refine lv_iload_n hx hb dX6_expected_24 rfl (lv_at hl 2 rfl) ?_
      refine lv_iload_n hx hb dX6_expected_25 rfl (lv_at hl 3 rfl) ?_
      refine q_kI0 (q_rS (As := [.int (nI (k_3)), .int (coin), .int (to)]) (rest := []) hC hW mw_X6_placeOf gw_540 (k_placeOf l G n ad H.size I L R _ (by omega) _ _) ⟨rfl, rfl⟩ ⟨Nat.le_of_ble_eq_true rfl, Nat.le_of_ble_eq_true rfl⟩ ⟨(Nat.le_of_ble_eq_true rfl), (Nat.le_of_ble_eq_true rfl)⟩ hl.1 rfl rfl (Nat.le_of_ble_eq_true rfl) dX6_expected_26) hW (fun r_26 H locs hp hW => ?_)
      rcases hp with ⟨i_26, hi_26, hj_26, rfl⟩ | ⟨hi_26, rfl⟩
      ·
        have hrj_26 := rj_lt hj_26
        refine lv_if_ge (tgt := 36) hx hb dX6_expected_29 (by decide) (fun c_29 => ?_) (fun c_29 => absurd (Int32.not_lt.mp (nI_pos (by omega))) c_29)
        refine lv_aload_n hx hb dX6_expected_36 rfl (lv_at hl 0 rfl) ?_
        refine q_kL1 (q_rV (As := []) (rest := []) (x := 71) hC hW mw_X6_totalNow gw_574 (k_totalNow l G n ad H.size I L R w K ro hn hlk hN) (by omega) (ct_o6 kd_71) rfl ⟨rfl, rfl⟩ ⟨Nat.le_of_ble_eq_true rfl, Nat.le_of_ble_eq_true rfl⟩ ⟨(Nat.le_of_ble_eq_true rfl), (Nat.le_of_ble_eq_true rfl)⟩ hl.1 rfl rfl (Nat.le_of_ble_eq_true rfl) dX6_expected_37) hW (fun r_37 I_37 L_37 H locs hp hW => ?_)
        obtain ⟨rfl, hB_37, hFr_37⟩ := hp
        have hN_37 : NwI (I_37 72) w K ro := by rw [hFr_37.1 72 (by decide)]; exact hN
        refine lv_lstore (lv' := [(5, .long (lN (Sx' w K ro K 6))), (0, .ref (ad 71)), (1, .int (nI (k_3))), (2, .int (coin)), (3, .int (to)), (4, .int (nI (k_13)))]) hx hb dX6_expected_40 hl (by decide) rfl (fun ls hl => ?_)
        refine lv_lload hx hb dX6_expected_42 (lv_at hl 0 rfl) ?_
        refine q_lc 0 hx hb dX6_expected_44 (by decide) ?_
        refine q_lcmp hx hb dX6_expected_45 ?_
        refine q_lne (tgt := 53) hx hb dX6_expected_46 (by decide) hT63 (by decide) (fun c_46 => ?_) (fun c_46 => ?_)
        ·
          refine lv_aload_n hx hb dX6_expected_53 rfl (lv_at hl 1 rfl) ?_
          refine q_kV1 (q_rV (As := []) (rest := []) (x := 71) hC hW mw_X6_layAhead gw_606 (k_layAh l G n ad H.size I_37 L_37 R w K ro hn hlk hN_37) (by omega) (ct_o6 kd_71) rfl ⟨rfl, rfl⟩ ⟨Nat.le_of_ble_eq_true rfl, Nat.le_of_ble_eq_true rfl⟩ ⟨(Nat.le_of_ble_eq_true rfl), (Nat.le_of_ble_eq_true rfl)⟩ hl.1 rfl rfl (Nat.le_of_ble_eq_true rfl) dX6_expected_54) hW (fun I_54 L_54 H locs hp hW => ?_)
          obtain ⟨rfl, hAh_54, hAf_54⟩ := hp
          have hB2 := Bh_77 hB_37 hAf_54
          refine lv_aload_n hx hb dX6_expected_57 rfl (lv_at hl 1 rfl) ?_
          refine g_6_0 (x := 71) (y := 72) hC hW (by omega) kd_71 gw_483 (hlk 71 0 72 (by omega) rfl) dX6_expected_58 ?_
          refine q_bp 58 hx hb dX6_expected_61 (by decide) ?_
          refine q_iald (x := 72) (i := 58) hC hW (by omega) kd_72 (by omega) dX6_expected_63 ?_
          refine q_top (v2 := .int (nI (K))) (congrArg _ hN_37.2.1) ?_
          refine q_ine (tgt := 71) hx hb dX6_expected_64 (by decide) (by first | omega | exact Nat.lt_of_le_of_lt (hw3 _) (by decide)) (fun c_64 => ?_) (fun c_64 => ?_)
          ·
            have hq9 : k_3 = 0 ∨ k_3 = 1 ∨ k_3 = 2 := by omega
            rcases hq9 with hq9 | hq9 | hq9
            ·
              obtain ⟨a_, ha_, rfl, he5⟩ := idx_s hi_26 hq9
              have hto : to = nI 0 := by rw [hq9] at hi_26; exact idx_z hi_26
              subst hto
              have hup : exN w ro K i_26 = stN w ro K 6 a_ K := by rw [he5]; exact exN_st (by omega) ha_
              subst hq9
              refine lv_aload_n hx hb dX6_expected_71 rfl (lv_at hl 1 rfl) ?_
              refine lv_iload_n hx hb dX6_expected_72 rfl (lv_at hl 2 rfl) ?_
              refine lv_iload_n hx hb dX6_expected_73 rfl (lv_at hl 3 rfl) ?_
              refine lv_iload_n hx hb dX6_expected_74 rfl (lv_at hl 4 rfl) ?_
              refine q_kL0 (q_rV (As := [.int (nI 0), .int (nI (a_)), .int (nI 0)]) (rest := []) (x := 71) hC hW mw_X6_numberOf gw_678 (k_num0 l G n ad H.size I_37 L_54 R _ (by omega) w K ro hn hlk hN_37 hB2 hAh_54 (by omega)) (by omega) (ct_o6 kd_71) rfl ⟨rfl, rfl⟩ ⟨Nat.le_of_ble_eq_true rfl, Nat.le_of_ble_eq_true rfl⟩ ⟨(Nat.le_of_ble_eq_true rfl), (Nat.le_of_ble_eq_true rfl)⟩ hl.1 rfl rfl (Nat.le_of_ble_eq_true rfl) dX6_expected_75) hW (fun r_75 H locs hp hW => ?_)
              subst hp
              refine lv_lload hx hb dX6_expected_78 (lv_at hl 0 rfl) ?_
              refine lv_iload hx hb dX6_expected_80 (lv_at hl 5 rfl) ?_
              refine q_kL0 (q_rS (As := [.long (lN (stN w ro K 6 a_ K)), .long (lN (Sx' w K ro K 6)), .int (nI (k_13))]) (rest := []) hC hW mw_X6_lowest gw_664 (k_rlowest l G n ad H.size I_37 L_54 R _ _ _ (by rw [← hup]; exact Nat.lt_of_le_of_lt (exN_BB hw hk6 _) (by decide)) hT63 (Nat.pos_of_ne_zero c_46) hk_13) ⟨rfl, rfl⟩ ⟨Nat.le_of_ble_eq_true rfl, Nat.le_of_ble_eq_true rfl⟩ ⟨(Nat.le_of_ble_eq_true rfl), (Nat.le_of_ble_eq_true rfl)⟩ hl.1 rfl rfl (Nat.le_of_ble_eq_true rfl) dX6_expected_82) hW (fun r_82 H locs hp hW => ?_)
              subst hp
              exact q_lret1 hC hW hr hlk0 (RR_l (a' := (lowT (stN w ro K 6 a_ K) (aTot (w, K, ro)) k_13, ((w, K, ro), hc, hi, sv, pn, ch))) (by simp only [aExp, rng_nI hk_3 (by decide), rng_nI hk_13 (by decide), hi_26, if_neg (show ¬ aTot (w, K, ro) = 0 from c_46), hup]) ⟨rfl, PB_q hI0 (fun a ha => hFr_37.1 a (by omega)) (fun j _ => by rw [hFr_37.1 71 (by decide)]) (fun a ha => (hAf_54 a (by omega)).trans (hFr_37.2 a (by omega) (by omega)))⟩) dX6_expected_85
            ·
              obtain ⟨a_, b_, ha_, hb_, rfl, rfl, he5⟩ := idx_b hi_26 hq9
              have hup : exN w ro K i_26 = stN w ro K a_ b_ K := by rw [he5]; exact exN_st (by omega) hb_
              subst hq9
              refine lv_aload_n hx hb dX6_expected_71 rfl (lv_at hl 1 rfl) ?_
              refine lv_iload_n hx hb dX6_expected_72 rfl (lv_at hl 2 rfl) ?_
              refine lv_iload_n hx hb dX6_expected_73 rfl (lv_at hl 3 rfl) ?_
              refine lv_iload_n hx hb dX6_expected_74 rfl (lv_at hl 4 rfl) ?_
              refine q_kL0 (q_rV (As := [.int (nI 1), .int (nI (a_)), .int (nI (b_))]) (rest := []) (x := 71) hC hW mw_X6_numberOf gw_678 (k_num1 l G n ad H.size I_37 L_54 R _ _ (by omega) (by omega) w K ro hn hlk hN_37 hB2 hAh_54 (by omega)) (by omega) (ct_o6 kd_71) rfl ⟨rfl, rfl⟩ ⟨Nat.le_of_ble_eq_true rfl, Nat.le_of_ble_eq_true rfl⟩ ⟨(Nat.le_of_ble_eq_true rfl), (Nat.le_of_ble_eq_true rfl)⟩ hl.1 rfl rfl (Nat.le_of_ble_eq_true rfl) dX6_expected_75) hW (fun r_75 H locs hp hW => ?_)
              subst hp
              refine lv_lload hx hb dX6_expected_78 (lv_at hl 0 rfl) ?_
              refine lv_iload hx hb dX6_expected_80 (lv_at hl 5 rfl) ?_
              refine q_kL0 (q_rS (As := [.long (lN (stN w ro K a_ b_ K)), .long (lN (Sx' w K ro K 6)), .int (nI (k_13))]) (rest := []) hC hW mw_X6_lowest gw_664 (k_rlowest l G n ad H.size I_37 L_54 R _ _ _ (by rw [← hup]; exact Nat.lt_of_le_of_lt (exN_BB hw hk6 _) (by decide)) hT63 (Nat.pos_of_ne_zero c_46) hk_13) ⟨rfl, rfl⟩ ⟨Nat.le_of_ble_eq_true rfl, Nat.le_of_ble_eq_true rfl⟩ ⟨(Nat.le_of_ble_eq_true rfl), (Nat.le_of_ble_eq_true rfl)⟩ hl.1 rfl rfl (Nat.le_of_ble_eq_true rfl) dX6_expected_82) hW (fun r_82 H locs hp hW => ?_)
              subst hp
              exact q_lret1 hC hW hr hlk0 (RR_l (a' := (lowT (stN w ro K a_ b_ K) (aTot (w, K, ro)) k_13, ((w, K, ro), hc, hi, sv, pn, ch))) (by simp only [aExp, rng_nI hk_3 (by decide), rng_nI hk_13 (by decide), hi_26, if_neg (show ¬ aTot (w, K, ro) = 0 from c_46), hup]) ⟨rfl, PB_q hI0 (fun a ha => hFr_37.1 a (by omega)) (fun j _ => by rw [hFr_37.1 71 (by decide)]) (fun a ha => (hAf_54 a (by omega)).trans (hFr_37.2 a (by omega) (by omega)))⟩) dX6_expected_85
            ·
              obtain ⟨a_, b_, ha_, hb_, rfl, rfl, he5⟩ := idx_l hi_26 hq9
              have hup : exN w ro K i_26 = leN w ro K a_ b_ K := by rw [he5]; exact exN_le ha_ hb_
              subst hq9
              refine lv_aload_n hx hb dX6_expected_71 rfl (lv_at hl 1 rfl) ?_
              refine lv_iload_n hx hb dX6_expected_72 rfl (lv_at hl 2 rfl) ?_
              refine lv_iload_n hx hb dX6_expected_73 rfl (lv_at hl 3 rfl) ?_
              refine lv_iload_n hx hb dX6_expected_74 rfl (lv_at hl 4 rfl) ?_
              refine q_kL0 (q_rV (As := [.int (nI 2), .int (nI (a_)), .int (nI (b_))]) (rest := []) (x := 71) hC hW mw_X6_numberOf gw_678 (k_num2 l G n ad H.size I_37 L_54 R _ _ (by omega) (by omega) w K ro hn hlk hN_37 hB2 hAh_54 (by omega)) (by omega) (ct_o6 kd_71) rfl ⟨rfl, rfl⟩ ⟨Nat.le_of_ble_eq_true rfl, Nat.le_of_ble_eq_true rfl⟩ ⟨(Nat.le_of_ble_eq_true rfl), (Nat.le_of_ble_eq_true rfl)⟩ hl.1 rfl rfl (Nat.le_of_ble_eq_true rfl) dX6_expected_75) hW (fun r_75 H locs hp hW => ?_)
              subst hp
              refine lv_lload hx hb dX6_expected_78 (lv_at hl 0 rfl) ?_
              refine lv_iload hx hb dX6_expected_80 (lv_at hl 5 rfl) ?_
              refine q_kL0 (q_rS (As := [.long (lN (leN w ro K a_ b_ K)), .long (lN (Sx' w K ro K 6)), .int (nI (k_13))]) (rest := []) hC hW mw_X6_lowest gw_664 (k_rlowest l G n ad H.size I_37 L_54 R _ _ _ (by rw [← hup]; exact Nat.lt_of_le_of_lt (exN_BB hw hk6 _) (by decide)) hT63 (Nat.pos_of_ne_zero c_46) hk_13) ⟨rfl, rfl⟩ ⟨Nat.le_of_ble_eq_true rfl, Nat.le_of_ble_eq_true rfl⟩ ⟨(Nat.le_of_ble_eq_true rfl), (Nat.le_of_ble_eq_true rfl)⟩ hl.1 rfl rfl (Nat.le_of_ble_eq_true rfl) dX6_expected_82) hW (fun r_82 H locs hp hW => ?_)
              subst hp
              exact q_lret1 hC hW hr hlk0 (RR_l (a' := (lowT (leN w ro K a_ b_ K) (aTot (w, K, ro)) k_13, ((w, K, ro), hc, hi, sv, pn, ch))) (by simp only [aExp, rng_nI hk_3 (by decide), rng_nI hk_13 (by decide), hi_26, if_neg (show ¬ aTot (w, K, ro) = 0 from c_46), hup]) ⟨rfl, PB_q hI0 (fun a ha => hFr_37.1 a (by omega)) (fun j _ => by rw [hFr_37.1 71 (by decide)]) (fun a ha => (hAf_54 a (by omega)).trans (hFr_37.2 a (by omega) (by omega)))⟩) dX6_expected_85
          ·
            have hup : exN w ro K i_26 = 0 := by rw [show K = 0 from c_64]; exact exN_0 w ro i_26
            refine q_lc 0 hx hb dX6_expected_67 (by decide) ?_
            refine lv_goto (tgt := 78) hx hb dX6_expected_68 (by decide) ?_
            refine lv_lload hx hb dX6_expected_78 (lv_at hl 0 rfl) ?_
            refine lv_iload hx hb dX6_expected_80 (lv_at hl 5 rfl) ?_
            refine q_kL0 (q_rS (As := [.long (lN 0), .long (lN (Sx' w K ro K 6)), .int (nI (k_13))]) (rest := []) hC hW mw_X6_lowest gw_664 (k_rlowest l G n ad H.size I_37 L_54 R _ _ _ (by rw [← hup]; exact Nat.lt_of_le_of_lt (exN_BB hw hk6 _) (by decide)) hT63 (Nat.pos_of_ne_zero c_46) hk_13) ⟨rfl, rfl⟩ ⟨Nat.le_of_ble_eq_true rfl, Nat.le_of_ble_eq_true rfl⟩ ⟨(Nat.le_of_ble_eq_true rfl), (Nat.le_of_ble_eq_true rfl)⟩ hl.1 rfl rfl (Nat.le_of_ble_eq_true rfl) dX6_expected_82) hW (fun r_82 H locs hp hW => ?_)
            subst hp
            exact q_lret1 hC hW hr hlk0 (RR_l (a' := (lowT 0 (aTot (w, K, ro)) k_13, ((w, K, ro), hc, hi, sv, pn, ch))) (by simp only [aExp, rng_nI hk_3 (by decide), rng_nI hk_13 (by decide), hi_26, if_neg (show ¬ aTot (w, K, ro) = 0 from c_46), hup]) ⟨rfl, PB_q hI0 (fun a ha => hFr_37.1 a (by omega)) (fun j _ => by rw [hFr_37.1 71 (by decide)]) (fun a ha => (hAf_54 a (by omega)).trans (hFr_37.2 a (by omega) (by omega)))⟩) dX6_expected_85
        ·
          refine lv_ldc2 (v := -5) hx hb hC.2.2.2.1 (hC.2.2.2.2 _ gw_659) dX6_expected_49 ?_
          exact q_lret1 hC hW hr hlk0 (RR_l (a' := (-5, ((w, K, ro), hc, hi, sv, pn, ch))) (by simp only [aExp, rng_nI hk_3 (by decide), rng_nI hk_13 (by decide), hi_26, if_pos (show aTot (w, K, ro) = 0 from c_46)]) ⟨rfl, PB_q hI0 (fun a ha => hFr_37.1 a (by omega)) (fun j _ => by rw [hFr_37.1 71 (by decide)]) (fun a ha => hFr_37.2 a (by omega) (by omega))⟩) dX6_expected_52
      ·
        refine lv_if_ge (tgt := 36) hx hb dX6_expected_29 (by decide) (fun c_29 => absurd c_29 (by decide)) (fun c_29 => ?_)
        refine lv_ldc2 (v := -1) hx hb hC.2.2.2.1 (hC.2.2.2.2 _ gw_605) dX6_expected_32 ?_
        exact q_lret1 hC hW hr hlk0 (RR_l (a' := (-1, ((w, K, ro), hc, hi, sv, pn, ch))) (by simp only [aExp, rng_nI hk_3 (by decide), rng_nI hk_13 (by decide), hi_26]) ⟨rfl, PB_0 hI0⟩) dX6_expected_35
    ·
      have hk_13 : rng part 2 = none := rng_none.mpr (by omega)
      refine q_ine (tgt := 23) hx hb dX6_expected_16 (by decide) (by first | omega | exact Nat.lt_of_le_of_lt (hw3 _) (by decide)) (fun c_16 => absurd c_16 (by decide)) (fun c_16 => ?_)
      refine lv_ldc2 (v := -2) hx hb hC.2.2.2.1 (hC.2.2.2.2 _ gw_658) dX6_expected_19 ?_
      exact q_lret1 hC hW hr hlk0 (RR_l (a' := (-2, ((w, K, ro), hc, hi, sv, pn, ch))) (by simp only [aExp, rng_nI hk_3 (by decide), hk_13]) ⟨rfl, PB_0 hI0⟩) dX6_expected_22
  ·
    have hk_3 : rng kind 3 = none := rng_none.mpr (by omega)
    refine q_ieq (tgt := 19) hx hb dX6_expected_6 (by decide) (by first | omega | exact Nat.lt_of_le_of_lt (hw3 _) (by decide)) (fun c_6 => ?_) (fun c_6 => absurd c_6 (by decide))
    refine lv_ldc2 (v := -2) hx hb hC.2.2.2.1 (hC.2.2.2.2 _ gw_658) dX6_expected_19 ?_
    exact q_lret1 hC hW hr hlk0 (RR_l (a' := (-2, ((w, K, ro), hc, hi, sv, pn, ch))) (by simp only [aExp, hk_3]) ⟨rfl, PB_0 hI0⟩) dX6_expected_22
