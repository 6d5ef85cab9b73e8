theorem up2_nr {f : Ic} {a b i : Nat} {x : Int32} (h : b ≠ a) (j : Nat) : up2 f a i x b j = f b j := by rw [up2_ne h]
theorem up2_now {I : Ic} {i : Nat} {x : Int32} {w : Nat → Nat} {K : Nat} {ro : Nat → Nat} (h : NwI (fun k => if k = i then x else I 72 k) w K ro) : NwI (up2 I 72 i x 72) w K ro := NwI_c h (fun k _ => by show up2 I 72 i x 72 k = (if k = i then x else I 72 k); rw [up2_at]; by_cases e : k = i; (rw [if_pos ⟨rfl, e⟩, if_pos e]); rw [if_neg (fun q => e q.2), if_neg e])
set_option maxRecDepth 100000 in
set_option maxHeartbeats 4000000 in
theorem k_rgive (l : Launch) (G : Gx) (n : Nat) (ad : Nat → Nat) (sz : Nat) (I : Ic) (L : Lc) (R : Rc) (kind coin to weight : Int32) (w : Nat → Nat) (K : Nat) (ro : Nat → Nat) (hc : Nat) (hi : Nat → CM) (sv : Nat → Option CM) (pn : Nat) (ch : Nat → Nat) (hI0 : InvB n I R ((w, K, ro), hc, hi, sv, pn, ch)) : Met l yX6_give (Cond.code yX6_give cX6_give 7 (some .int) :: GW) ({ frames := 6, cells := 0, slots := 0, locals := 216 } : Room) (qPre G n ad sz I L R [.ref (ad 71), .int (kind), .int (coin), .int (to), .int (weight)]) (qI1 G (qA n ad sz) n ad R (fun z I1 L1 => RR n I L R (aGive ((w, K, ro), hc, hi, sv, pn, ch) kind coin to weight) z I1 L1)) 0 0 (qA n ad sz) := by
  refine q_met (by decide) (Nat.le_of_ble_eq_true rfl) ?_
  intro p_ e_ s m_ below meth c_ hC hr hlk0 hin hsz hW ls hl
  subst hsz
  have hC : CallFix p_ m_ c_ cX6_give 7 s ([.ref (ad 71), .int (kind), .int (coin), .int (to), .int (weight)] : List Value).toArray GW "CoinRowsModel" := hC
  have hx := hC.1
  have hb := hC.2.1
  have hn : 83 ≤ n := hI0.1
  have hlk : LkOK n R := hI0.2.1
  have hN : NwI (I 72) w K ro := hI0.2.2.1
  have hH : HwB I hc hi := hI0.2.2.2.1
  have hSw : SwB I sv := hI0.2.2.2.2.1
  have hPd : PdB I pn ch := hI0.2.2.2.2.2
  have hh1 := hH.1
  have hh6 := hH.2.1
  have hp80 := hPd.2.1
  have hk6 : K ≤ 6 := hN.2.2.2.1
  have hw : Wok w := hN.2.2.2.2.1
  have hw3 : ∀ i, w i ≤ 3 := hw.1
  have hr4 : ∀ j, ro j < 4 := hN.2.2.2.2.2
  have hl : lv_has ls 7 [(0, .ref (ad 71)), (1, .int (kind)), (2, .int (coin)), (3, .int (to)), (4, .int (weight))] := hl
  refine lv_iload_n hx hb dX6_give_0 rfl (lv_at hl 1 rfl) ?_
  refine q_ic 0 hx hb dX6_give_1 (by decide) ?_
  refine q_ic 2 hx hb dX6_give_2 (by decide) ?_
  refine q_kI0 (q_rS (As := [.int (kind), .int (nI 0), .int (nI 2)]) (rest := []) hC hW mw_X6_in gw_537 (k_in l G n ad s.heap.size I L R _ _ _) ⟨rfl, rfl⟩ ⟨Nat.le_of_ble_eq_true rfl, Nat.le_of_ble_eq_true rfl⟩ ⟨(Nat.le_of_ble_eq_true rfl), (Nat.le_of_ble_eq_true rfl)⟩ hl.1 rfl rfl (Nat.le_of_ble_eq_true rfl) dX6_give_3) hW (fun r_3 H locs hp hW => ?_)
  rw [show (nI 0).toInt = 0 by decide, (show (nI 2).toInt = 2 by decide)] at hp
  rcases hp with ⟨rfl, hx_3, hy_3⟩ | ⟨rfl, hx_3⟩
  ·
    obtain ⟨k_3, hk_3, rfl⟩ := rng_ex2 (N := 3) (x := kind) (by omega) (by omega) (by omega)
    refine q_ieq (tgt := 19) hx hb dX6_give_6 (by decide) (by first | omega | exact Nat.lt_of_le_of_lt (hw3 _) (by decide)) (fun c_6 => absurd c_6 (by decide)) (fun c_6 => ?_)
    refine lv_iload hx hb dX6_give_9 (lv_at hl 4 rfl) ?_
    refine q_ic 0 hx hb dX6_give_11 (by decide) ?_
    refine q_ic 3 hx hb dX6_give_12 (by decide) ?_
    refine q_kI0 (q_rS (As := [.int (weight), .int (nI 0), .int (nI 3)]) (rest := []) hC hW mw_X6_in gw_537 (k_in l G n ad H.size I L R _ _ _) ⟨rfl, rfl⟩ ⟨Nat.le_of_ble_eq_true rfl, Nat.le_of_ble_eq_true rfl⟩ ⟨(Nat.le_of_ble_eq_true rfl), (Nat.le_of_ble_eq_true rfl)⟩ hl.1 rfl rfl (Nat.le_of_ble_eq_true rfl) dX6_give_13) hW (fun r_13 H locs hp hW => ?_)
    rw [show (nI 0).toInt = 0 by decide, (show (nI 3).toInt = 3 by decide)] at hp
    rcases hp with ⟨rfl, hx_13, hy_13⟩ | ⟨rfl, hx_13⟩
    ·
      obtain ⟨k_13, hk_13, rfl⟩ := rng_ex2 (N := 4) (x := weight) (by omega) (by omega) (by omega)
      refine q_ine (tgt := 22) hx hb dX6_give_16 (by decide) (by first | omega | exact Nat.lt_of_le_of_lt (hw3 _) (by decide)) (fun c_16 => ?_) (fun c_16 => absurd c_16 (by decide))
      refine lv_iload_n hx hb dX6_give_22 rfl (lv_at hl 1 rfl) ?_
      refine lv_iload_n hx hb dX6_give_23 rfl (lv_at hl 2 rfl) ?_
      refine lv_iload_n hx hb dX6_give_24 rfl (lv_at hl 3 rfl) ?_
      refine q_kI0 (q_rS (As := [.int (nI (k_3)), .int (coin), .int (to)]) (rest := []) hC hW mw_X6_placeOf gw_540 (k_placeOf l G n ad H.size I L R _ (by omega) _ _) ⟨rfl, rfl⟩ ⟨Nat.le_of_ble_eq_true rfl, Nat.le_of_ble_eq_true rfl⟩ ⟨(Nat.le_of_ble_eq_true rfl), (Nat.le_of_ble_eq_true rfl)⟩ hl.1 rfl rfl (Nat.le_of_ble_eq_true rfl) dX6_give_25) hW (fun r_25 H locs hp hW => ?_)
      rcases hp with ⟨i_25, hi_25, hj_25, rfl⟩ | ⟨hi_25, rfl⟩
      ·
        have hrj_25 := rj_lt hj_25
        refine lv_istore (lv' := [(5, .int (nI (rj i_25))), (0, .ref (ad 71)), (1, .int (nI (k_3))), (2, .int (coin)), (3, .int (to)), (4, .int (nI (k_13)))]) hx hb dX6_give_28 hl (by decide) rfl (fun ls hl => ?_)
        refine lv_iload hx hb dX6_give_30 (lv_at hl 0 rfl) ?_
        refine lv_if_ge (tgt := 37) hx hb dX6_give_32 (by decide) (fun c_32 => ?_) (fun c_32 => absurd (Int32.not_lt.mp (nI_pos (by omega))) c_32)
        refine lv_iload_n hx hb dX6_give_37 rfl (lv_at hl 2 rfl) ?_
        refine q_ic 1 hx hb dX6_give_38 (by decide) ?_
        refine q_cne (tgt := 58) hx hb dX6_give_39 (by decide) (by first | omega | exact Nat.lt_of_le_of_lt (hw3 _) (by decide)) (by first | omega | exact Nat.lt_of_le_of_lt (hw3 _) (by decide)) (fun c_39 => ?_) (fun c_39 => ?_)
        ·
          have hbr : ¬ (0 < k_13 ∧ (i_25 = 28 ∨ i_25 = 34 ∨ i_25 = 35)) := bar_n hi_25 hk_3 c_39
          refine lv_aload_n hx hb dX6_give_58 rfl (lv_at hl 1 rfl) ?_
          refine q_kV1 (q_rV (As := []) (rest := []) (x := 71) hC hW mw_X6_record gw_546 (k_record l G n ad H.size I L R w K ro hc hi hn hlk hN hH) (by omega) (ct_o6 kd_71) rfl ⟨rfl, rfl⟩ ⟨Nat.le_of_ble_eq_true rfl, Nat.le_of_ble_eq_true rfl⟩ ⟨(Nat.le_of_ble_eq_true rfl), (Nat.le_of_ble_eq_true rfl)⟩ hl.1 rfl rfl (Nat.le_of_ble_eq_true rfl) dX6_give_59) hW (fun I_59 L_59 H locs hp hW => ?_)
          obtain ⟨hHr_59, hf_59, hj_59, rfl⟩ := hp
          have hN_59 : NwI (I_59 72) w K ro := by rw [hf_59 72 (by decide) (by decide)]; exact hN
          refine lv_aload_n hx hb dX6_give_62 rfl (lv_at hl 1 rfl) ?_
          refine g_6_0 (x := 71) (y := 72) hC hW (by omega) kd_71 gw_483 (hlk 71 0 72 (by omega) rfl) dX6_give_63 ?_
          refine lv_iload hx hb dX6_give_66 (lv_at hl 0 rfl) ?_
          refine q_iald (x := 72) (i := rj i_25) hC hW (by omega) kd_72 (by omega) dX6_give_68 ?_
          refine q_top (v2 := .int (nI (w i_25))) (congrArg _ ((hN_59.1 _ (by omega)).trans (congrArg nI (rwt_rj w)))) ?_
          refine lv_istore (lv' := [(6, .int (nI (w i_25))), (5, .int (nI (rj i_25))), (0, .ref (ad 71)), (1, .int (nI (k_3))), (2, .int (coin)), (3, .int (to)), (4, .int (nI (k_13)))]) hx hb dX6_give_69 hl (by decide) rfl (fun ls hl => ?_)
          refine lv_aload_n hx hb dX6_give_71 rfl (lv_at hl 2 rfl) ?_
          refine g_6_0 (x := 71) (y := 72) hC hW (by omega) kd_71 gw_483 (hlk 71 0 72 (by omega) rfl) dX6_give_72 ?_
          refine lv_iload hx hb dX6_give_75 (lv_at hl 1 rfl) ?_
          refine lv_iload hx hb dX6_give_77 (lv_at hl 6 rfl) ?_
          refine q_iast (x := 72) (i := rj i_25) (v := nI k_13) hC hW (by omega) kd_72 (by omega) dX6_give_79 (fun H locs hW => ?_)
          refine lv_iload hx hb dX6_give_80 (lv_at hl 0 rfl) ?_
          exact q_iret1 hC hW hr hlk0 (RR_i (a' := (nI (w i_25), ((upN w i_25 k_13, K, ro), hcN hc, hiN hc hi (w, K, ro), sv, pn, ch))) (by simp only [aGive, rng_nI hk_3 (by decide), rng_nI hk_13 (by decide), hi_25, if_neg hbr, remS]) ⟨rfl, PB_rec hI0 hHr_59 hf_59 (up2_nr (by decide) _) (up2_ne (by decide)) (up2_ne (by decide)) (up2_ne (by decide)) (up2_now (NwI_w hN_59 hj_25 (Wok_u2 hw (by omega) hbr))) (PdB_fr hPd ((up2_nr (by decide) _).trans (hj_59 6 (by decide))) ((up2_ne (by decide)).trans (hf_59 76 (by decide) (by decide)))) (fun a ha => up2_ne (by omega)) (fun _ _ => rfl)⟩) dX6_give_82
        ·
          refine lv_iload hx hb dX6_give_42 (lv_at hl 5 rfl) ?_
          refine q_ile (tgt := 58) hx hb dX6_give_44 (by decide) (by first | omega | exact Nat.lt_of_le_of_lt (hw3 _) (by decide)) (fun c_44 => ?_) (fun c_44 => ?_)
          ·
            have hbr : ¬ (0 < k_13 ∧ (i_25 = 28 ∨ i_25 = 34 ∨ i_25 = 35)) := by omega
            refine lv_aload_n hx hb dX6_give_58 rfl (lv_at hl 1 rfl) ?_
            refine q_kV1 (q_rV (As := []) (rest := []) (x := 71) hC hW mw_X6_record gw_546 (k_record l G n ad H.size I L R w K ro hc hi hn hlk hN hH) (by omega) (ct_o6 kd_71) rfl ⟨rfl, rfl⟩ ⟨Nat.le_of_ble_eq_true rfl, Nat.le_of_ble_eq_true rfl⟩ ⟨(Nat.le_of_ble_eq_true rfl), (Nat.le_of_ble_eq_true rfl)⟩ hl.1 rfl rfl (Nat.le_of_ble_eq_true rfl) dX6_give_59) hW (fun I_59 L_59 H locs hp hW => ?_)
            obtain ⟨hHr_59, hf_59, hj_59, rfl⟩ := hp
            have hN_59 : NwI (I_59 72) w K ro := by rw [hf_59 72 (by decide) (by decide)]; exact hN
            refine lv_aload_n hx hb dX6_give_62 rfl (lv_at hl 1 rfl) ?_
            refine g_6_0 (x := 71) (y := 72) hC hW (by omega) kd_71 gw_483 (hlk 71 0 72 (by omega) rfl) dX6_give_63 ?_
            refine lv_iload hx hb dX6_give_66 (lv_at hl 0 rfl) ?_
            refine q_iald (x := 72) (i := rj i_25) hC hW (by omega) kd_72 (by omega) dX6_give_68 ?_
            refine q_top (v2 := .int (nI (w i_25))) (congrArg _ ((hN_59.1 _ (by omega)).trans (congrArg nI (rwt_rj w)))) ?_
            refine lv_istore (lv' := [(6, .int (nI (w i_25))), (5, .int (nI (rj i_25))), (0, .ref (ad 71)), (1, .int (nI (k_3))), (2, .int (coin)), (3, .int (to)), (4, .int (nI (k_13)))]) hx hb dX6_give_69 hl (by decide) rfl (fun ls hl => ?_)
            refine lv_aload_n hx hb dX6_give_71 rfl (lv_at hl 2 rfl) ?_
            refine g_6_0 (x := 71) (y := 72) hC hW (by omega) kd_71 gw_483 (hlk 71 0 72 (by omega) rfl) dX6_give_72 ?_
            refine lv_iload hx hb dX6_give_75 (lv_at hl 1 rfl) ?_
            refine lv_iload hx hb dX6_give_77 (lv_at hl 6 rfl) ?_
            refine q_iast (x := 72) (i := rj i_25) (v := nI k_13) hC hW (by omega) kd_72 (by omega) dX6_give_79 (fun H locs hW => ?_)
            refine lv_iload hx hb dX6_give_80 (lv_at hl 0 rfl) ?_
            exact q_iret1 hC hW hr hlk0 (RR_i (a' := (nI (w i_25), ((upN w i_25 k_13, K, ro), hcN hc, hiN hc hi (w, K, ro), sv, pn, ch))) (by simp only [aGive, rng_nI hk_3 (by decide), rng_nI hk_13 (by decide), hi_25, if_neg hbr, remS]) ⟨rfl, PB_rec hI0 hHr_59 hf_59 (up2_nr (by decide) _) (up2_ne (by decide)) (up2_ne (by decide)) (up2_ne (by decide)) (up2_now (NwI_w hN_59 hj_25 (Wok_u2 hw (by omega) hbr))) (PdB_fr hPd ((up2_nr (by decide) _).trans (hj_59 6 (by decide))) ((up2_ne (by decide)).trans (hf_59 76 (by decide) (by decide)))) (fun a ha => up2_ne (by omega)) (fun _ _ => rfl)⟩) dX6_give_82
          ·
            obtain ⟨a_, b_, ha_, hb_, rfl, rfl, he5⟩ := idx_b hi_25 c_39
            refine lv_iload_n hx hb dX6_give_47 rfl (lv_at hl 3 rfl) ?_
            refine lv_iload_n hx hb dX6_give_48 rfl (lv_at hl 4 rfl) ?_
            refine q_kI0 (q_rS (As := [.int (nI (a_)), .int (nI (b_))]) (rest := []) hC hW mw_X6_isNought gw_543 (k_isNought l G n ad H.size I L R _ _ (by omega) (by omega)) ⟨rfl, rfl⟩ ⟨Nat.le_of_ble_eq_true rfl, Nat.le_of_ble_eq_true rfl⟩ ⟨(Nat.le_of_ble_eq_true rfl), (Nat.le_of_ble_eq_true rfl)⟩ hl.1 rfl rfl (Nat.le_of_ble_eq_true rfl) dX6_give_49) hW (fun r_49 H locs hp hW => ?_)
            rcases hp with ⟨hb_49, rfl⟩ | ⟨hb_49, rfl⟩
            ·
              have hbr : 0 < k_13 ∧ (i_25 = 28 ∨ i_25 = 34 ∨ i_25 = 35) := by have h9 := (bar_i ha_ hb_).mp hb_49; omega
              refine q_ieq (tgt := 58) hx hb dX6_give_52 (by decide) (by first | omega | exact Nat.lt_of_le_of_lt (hw3 _) (by decide)) (fun c_52 => absurd c_52 (by decide)) (fun c_52 => ?_)
              refine lv_bipush (v := -5) hx hb dX6_give_55 (by decide) ?_
              exact q_iret1 hC hW hr hlk0 (RR_i (a' := (-5, ((w, K, ro), hc, hi, sv, pn, ch))) (by simp only [aGive, rng_nI hk_3 (by decide), rng_nI hk_13 (by decide), hi_25, if_pos hbr]) ⟨rfl, PB_0 hI0⟩) dX6_give_57
            ·
              have hbr : ¬ (0 < k_13 ∧ (i_25 = 28 ∨ i_25 = 34 ∨ i_25 = 35)) := by have h9 := (not_congr (bar_i ha_ hb_)).mp hb_49; omega
              refine q_ieq (tgt := 58) hx hb dX6_give_52 (by decide) (by first | omega | exact Nat.lt_of_le_of_lt (hw3 _) (by decide)) (fun c_52 => ?_) (fun c_52 => absurd c_52 (by decide))
              refine lv_aload_n hx hb dX6_give_58 rfl (lv_at hl 1 rfl) ?_
              refine q_kV1 (q_rV (As := []) (rest := []) (x := 71) hC hW mw_X6_record gw_546 (k_record l G n ad H.size I L R w K ro hc hi hn hlk hN hH) (by omega) (ct_o6 kd_71) rfl ⟨rfl, rfl⟩ ⟨Nat.le_of_ble_eq_true rfl, Nat.le_of_ble_eq_true rfl⟩ ⟨(Nat.le_of_ble_eq_true rfl), (Nat.le_of_ble_eq_true rfl)⟩ hl.1 rfl rfl (Nat.le_of_ble_eq_true rfl) dX6_give_59) hW (fun I_59 L_59 H locs hp hW => ?_)
              obtain ⟨hHr_59, hf_59, hj_59, rfl⟩ := hp
              have hN_59 : NwI (I_59 72) w K ro := by rw [hf_59 72 (by decide) (by decide)]; exact hN
              refine lv_aload_n hx hb dX6_give_62 rfl (lv_at hl 1 rfl) ?_
              refine g_6_0 (x := 71) (y := 72) hC hW (by omega) kd_71 gw_483 (hlk 71 0 72 (by omega) rfl) dX6_give_63 ?_
              refine lv_iload hx hb dX6_give_66 (lv_at hl 0 rfl) ?_
              refine q_iald (x := 72) (i := rj i_25) hC hW (by omega) kd_72 (by omega) dX6_give_68 ?_
              refine q_top (v2 := .int (nI (w i_25))) (congrArg _ ((hN_59.1 _ (by omega)).trans (congrArg nI (rwt_rj w)))) ?_
              refine lv_istore (lv' := [(6, .int (nI (w i_25))), (5, .int (nI (rj i_25))), (0, .ref (ad 71)), (1, .int (nI (k_3))), (2, .int (nI (a_))), (3, .int (nI (b_))), (4, .int (nI (k_13)))]) hx hb dX6_give_69 hl (by decide) rfl (fun ls hl => ?_)
              refine lv_aload_n hx hb dX6_give_71 rfl (lv_at hl 2 rfl) ?_
              refine g_6_0 (x := 71) (y := 72) hC hW (by omega) kd_71 gw_483 (hlk 71 0 72 (by omega) rfl) dX6_give_72 ?_
              refine lv_iload hx hb dX6_give_75 (lv_at hl 1 rfl) ?_
              refine lv_iload hx hb dX6_give_77 (lv_at hl 6 rfl) ?_
              refine q_iast (x := 72) (i := rj i_25) (v := nI k_13) hC hW (by omega) kd_72 (by omega) dX6_give_79 (fun H locs hW => ?_)
              refine lv_iload hx hb dX6_give_80 (lv_at hl 0 rfl) ?_
              exact q_iret1 hC hW hr hlk0 (RR_i (a' := (nI (w i_25), ((upN w i_25 k_13, K, ro), hcN hc, hiN hc hi (w, K, ro), sv, pn, ch))) (by simp only [aGive, rng_nI hk_3 (by decide), rng_nI hk_13 (by decide), hi_25, if_neg hbr, remS]) ⟨rfl, PB_rec hI0 hHr_59 hf_59 (up2_nr (by decide) _) (up2_ne (by decide)) (up2_ne (by decide)) (up2_ne (by decide)) (up2_now (NwI_w hN_59 hj_25 (Wok_u2 hw (by omega) hbr))) (PdB_fr hPd ((up2_nr (by decide) _).trans (hj_59 6 (by decide))) ((up2_ne (by decide)).trans (hf_59 76 (by decide) (by decide)))) (fun a ha => up2_ne (by omega)) (fun _ _ => rfl)⟩) dX6_give_82
      ·
        refine lv_istore (lv' := [(5, .int (-6)), (0, .ref (ad 71)), (1, .int (nI (k_3))), (2, .int (coin)), (3, .int (to)), (4, .int (nI (k_13)))]) hx hb dX6_give_28 hl (by decide) rfl (fun ls hl => ?_)
        refine lv_iload hx hb dX6_give_30 (lv_at hl 0 rfl) ?_
        refine lv_if_ge (tgt := 37) hx hb dX6_give_32 (by decide) (fun c_32 => absurd c_32 (by decide)) (fun c_32 => ?_)
        refine lv_iconst (v := -1) hx hb dX6_give_35 (by decide) ?_
        exact q_iret1 hC hW hr hlk0 (RR_i (a' := (-1, ((w, K, ro), hc, hi, sv, pn, ch))) (by simp only [aGive, rng_nI hk_3 (by decide), rng_nI hk_13 (by decide), hi_25]) ⟨rfl, PB_0 hI0⟩) dX6_give_36
    ·
      have hk_13 : rng weight 4 = none := rng_none.mpr (by omega)
      refine q_ine (tgt := 22) hx hb dX6_give_16 (by decide) (by first | omega | exact Nat.lt_of_le_of_lt (hw3 _) (by decide)) (fun c_16 => absurd c_16 (by decide)) (fun c_16 => ?_)
      refine lv_bipush (v := -2) hx hb dX6_give_19 (by decide) ?_
      exact q_iret1 hC hW hr hlk0 (RR_i (a' := (-2, ((w, K, ro), hc, hi, sv, pn, ch))) (by simp only [aGive, rng_nI hk_3 (by decide), hk_13]) ⟨rfl, PB_0 hI0⟩) dX6_give_21
  ·
    have hk_3 : rng kind 3 = none := rng_none.mpr (by omega)
    refine q_ieq (tgt := 19) hx hb dX6_give_6 (by decide) (by first | omega | exact Nat.lt_of_le_of_lt (hw3 _) (by decide)) (fun c_6 => ?_) (fun c_6 => absurd c_6 (by decide))
    refine lv_bipush (v := -2) hx hb dX6_give_19 (by decide) ?_
    exact q_iret1 hC hW hr hlk0 (RR_i (a' := (-2, ((w, K, ro), hc, hi, sv, pn, ch))) (by simp only [aGive, hk_3]) ⟨rfl, PB_0 hI0⟩) dX6_give_21
set_option maxRecDepth 100000 in
set_option maxHeartbeats 4000000 in
theorem k_rweight (l : Launch) (G : Gx) (n : Nat) (ad : Nat → Nat) (sz : Nat) (I : Ic) (L : Lc) (R : Rc) (kind coin to : Int32) (w : Nat → Nat) (K : Nat) (ro : Nat → Nat) (hc : Nat) (hi : Nat → CM) (sv : Nat → Option CM) (pn : Nat) (ch : Nat → Nat) (hI0 : InvB n I R ((w, K, ro), hc, hi, sv, pn, ch)) : Met l yX6_weight (Cond.code yX6_weight cX6_weight 5 (some .int) :: GW) ({ frames := 6, cells := 0, slots := 0, locals := 216 } : Room) (qPre G n ad sz I L R [.ref (ad 71), .int (kind), .int (coin), .int (to)]) (qI1 G (qA n ad sz) n ad R (fun z I1 L1 => RR n I L R (aWeight ((w, K, ro), hc, hi, sv, pn, ch) kind coin to, ((w, K, ro), hc, hi, sv, pn, ch)) z I1 L1)) 0 0 (qA n ad sz) := by
  refine q_met (by decide) (Nat.le_of_ble_eq_true rfl) ?_
  intro p_ e_ s m_ below meth c_ hC hr hlk0 hin hsz hW ls hl
  subst hsz
  have hC : CallFix p_ m_ c_ cX6_weight 5 s ([.ref (ad 71), .int (kind), .int (coin), .int (to)] : List Value).toArray GW "CoinRowsModel" := hC
  have hx := hC.1
  have hb := hC.2.1
  have hn : 83 ≤ n := hI0.1
  have hlk : LkOK n R := hI0.2.1
  have hN : NwI (I 72) w K ro := hI0.2.2.1
  have hH : HwB I hc hi := hI0.2.2.2.1
  have hSw : SwB I sv := hI0.2.2.2.2.1
  have hPd : PdB I pn ch := hI0.2.2.2.2.2
  have hh1 := hH.1
  have hh6 := hH.2.1
  have hp80 := hPd.2.1
  have hk6 : K ≤ 6 := hN.2.2.2.1
  have hw : Wok w := hN.2.2.2.2.1
  have hw3 : ∀ i, w i ≤ 3 := hw.1
  have hr4 : ∀ j, ro j < 4 := hN.2.2.2.2.2
  have hl : lv_has ls 5 [(0, .ref (ad 71)), (1, .int (kind)), (2, .int (coin)), (3, .int (to))] := hl
  refine lv_iload_n hx hb dX6_weight_0 rfl (lv_at hl 1 rfl) ?_
  refine q_ic 0 hx hb dX6_weight_1 (by decide) ?_
  refine q_ic 2 hx hb dX6_weight_2 (by decide) ?_
  refine q_kI0 (q_rS (As := [.int (kind), .int (nI 0), .int (nI 2)]) (rest := []) hC hW mw_X6_in gw_537 (k_in l G n ad s.heap.size I L R _ _ _) ⟨rfl, rfl⟩ ⟨Nat.le_of_ble_eq_true rfl, Nat.le_of_ble_eq_true rfl⟩ ⟨(Nat.le_of_ble_eq_true rfl), (Nat.le_of_ble_eq_true rfl)⟩ hl.1 rfl rfl (Nat.le_of_ble_eq_true rfl) dX6_weight_3) hW (fun r_3 H locs hp hW => ?_)
  rw [show (nI 0).toInt = 0 by decide, (show (nI 2).toInt = 2 by decide)] at hp
  rcases hp with ⟨rfl, hx_3, hy_3⟩ | ⟨rfl, hx_3⟩
  ·
    obtain ⟨k_3, hk_3, rfl⟩ := rng_ex2 (N := 3) (x := kind) (by omega) (by omega) (by omega)
    refine q_ine (tgt := 12) hx hb dX6_weight_6 (by decide) (by first | omega | exact Nat.lt_of_le_of_lt (hw3 _) (by decide)) (fun c_6 => ?_) (fun c_6 => absurd c_6 (by decide))
    refine lv_iload_n hx hb dX6_weight_12 rfl (lv_at hl 1 rfl) ?_
    refine lv_iload_n hx hb dX6_weight_13 rfl (lv_at hl 2 rfl) ?_
    refine lv_iload_n hx hb dX6_weight_14 rfl (lv_at hl 3 rfl) ?_
    refine q_kI0 (q_rS (As := [.int (nI (k_3)), .int (coin), .int (to)]) (rest := []) hC hW mw_X6_placeOf gw_540 (k_placeOf l G n ad H.size I L R _ (by omega) _ _) ⟨rfl, rfl⟩ ⟨Nat.le_of_ble_eq_true rfl, Nat.le_of_ble_eq_true rfl⟩ ⟨(Nat.le_of_ble_eq_true rfl), (Nat.le_of_ble_eq_true rfl)⟩ hl.1 rfl rfl (Nat.le_of_ble_eq_true rfl) dX6_weight_15) hW (fun r_15 H locs hp hW => ?_)
    rcases hp with ⟨i_15, hi_15, hj_15, rfl⟩ | ⟨hi_15, rfl⟩
    ·
      have hrj_15 := rj_lt hj_15
      refine lv_istore (lv' := [(4, .int (nI (rj i_15))), (0, .ref (ad 71)), (1, .int (nI (k_3))), (2, .int (coin)), (3, .int (to))]) hx hb dX6_weight_18 hl (by decide) rfl (fun ls hl => ?_)
      refine lv_iload hx hb dX6_weight_20 (lv_at hl 0 rfl) ?_
      refine lv_if_ge (tgt := 29) hx hb dX6_weight_22 (by decide) (fun c_22 => ?_) (fun c_22 => absurd (Int32.not_lt.mp (nI_pos (by omega))) c_22)
      refine lv_aload_n hx hb dX6_weight_29 rfl (lv_at hl 1 rfl) ?_
      refine g_6_0 (x := 71) (y := 72) hC hW (by omega) kd_71 gw_483 (hlk 71 0 72 (by omega) rfl) dX6_weight_30 ?_
      refine lv_iload hx hb dX6_weight_33 (lv_at hl 0 rfl) ?_
      refine q_iald (x := 72) (i := rj i_15) hC hW (by omega) kd_72 (by omega) dX6_weight_35 ?_
      refine q_top (v2 := .int (nI (w i_15))) (congrArg _ ((hN.1 _ (by omega)).trans (congrArg nI (rwt_rj w)))) ?_
      exact q_iret1 hC hW hr hlk0 (RR_i (a' := (nI (w i_15), ((w, K, ro), hc, hi, sv, pn, ch))) (by simp only [aWeight, rng_nI hk_3 (by decide), hi_15]) ⟨rfl, PB_0 hI0⟩) dX6_weight_36
    ·
      refine lv_istore (lv' := [(4, .int (-6)), (0, .ref (ad 71)), (1, .int (nI (k_3))), (2, .int (coin)), (3, .int (to))]) hx hb dX6_weight_18 hl (by decide) rfl (fun ls hl => ?_)
      refine lv_iload hx hb dX6_weight_20 (lv_at hl 0 rfl) ?_
      refine lv_if_ge (tgt := 29) hx hb dX6_weight_22 (by decide) (fun c_22 => absurd c_22 (by decide)) (fun c_22 => ?_)
      refine lv_iconst (v := -1) hx hb dX6_weight_25 (by decide) ?_
      refine lv_goto (tgt := 36) hx hb dX6_weight_26 (by decide) ?_
      exact q_iret1 hC hW hr hlk0 (RR_i (a' := (-1, ((w, K, ro), hc, hi, sv, pn, ch))) (by simp only [aWeight, rng_nI hk_3 (by decide), hi_15]) ⟨rfl, PB_0 hI0⟩) dX6_weight_36
  ·
    have hk_3 : rng kind 3 = none := rng_none.mpr (by omega)
    refine q_ine (tgt := 12) hx hb dX6_weight_6 (by decide) (by first | omega | exact Nat.lt_of_le_of_lt (hw3 _) (by decide)) (fun c_6 => absurd c_6 (by decide)) (fun c_6 => ?_)
    refine lv_bipush (v := -2) hx hb dX6_weight_9 (by decide) ?_
    exact q_iret1 hC hW hr hlk0 (RR_i (a' := (-2, ((w, K, ro), hc, hi, sv, pn, ch))) (by simp only [aWeight, hk_3]) ⟨rfl, PB_0 hI0⟩) dX6_weight_11
set_option maxRecDepth 100000 in
set_option maxHeartbeats 4000000 in
theorem k_rletter (l : Launch) (G : Gx) (n : Nat) (ad : Nat → Nat) (sz : Nat) (I : Ic) (L : Lc) (R : Rc) (place : Int32) (w : Nat → Nat) (K : Nat) (ro : Nat → Nat) (hc : Nat) (hi : Nat → CM) (sv : Nat → Option CM) (pn : Nat) (ch : Nat → Nat) (hI0 : InvB n I R ((w, K, ro), hc, hi, sv, pn, ch)) : Met l yX6_letter (Cond.code yX6_letter cX6_letter 2 (some .int) :: GW) ({ frames := 6, cells := 0, slots := 0, locals := 216 } : Room) (qPre G n ad sz I L R [.ref (ad 71), .int (place)]) (qI1 G (qA n ad sz) n ad R (fun z I1 L1 => RR n I L R (aLetter ((w, K, ro), hc, hi, sv, pn, ch) place, ((w, K, ro), hc, hi, sv, pn, ch)) z I1 L1)) 0 0 (qA n ad sz) := by
  refine q_met (by decide) (Nat.le_of_ble_eq_true rfl) ?_
  intro p_ e_ s m_ below meth c_ hC hr hlk0 hin hsz hW ls hl
  subst hsz
  have hC : CallFix p_ m_ c_ cX6_letter 2 s ([.ref (ad 71), .int (place)] : List Value).toArray GW "CoinRowsModel" := hC
  have hx := hC.1
  have hb := hC.2.1
  have hn : 83 ≤ n := hI0.1
  have hlk : LkOK n R := hI0.2.1
  have hN : NwI (I 72) w K ro := hI0.2.2.1
  have hH : HwB I hc hi := hI0.2.2.2.1
  have hSw : SwB I sv := hI0.2.2.2.2.1
  have hPd : PdB I pn ch := hI0.2.2.2.2.2
  have hh1 := hH.1
  have hh6 := hH.2.1
  have hp80 := hPd.2.1
  have hk6 : K ≤ 6 := hN.2.2.2.1
  have hw : Wok w := hN.2.2.2.2.1
  have hw3 : ∀ i, w i ≤ 3 := hw.1
  have hr4 : ∀ j, ro j < 4 := hN.2.2.2.2.2
  have hl : lv_has ls 2 [(0, .ref (ad 71)), (1, .int (place))] := hl
  refine lv_aload_n hx hb dX6_letter_0 rfl (lv_at hl 0 rfl) ?_
  refine lv_iload_n hx hb dX6_letter_1 rfl (lv_at hl 1 rfl) ?_
  refine q_kI0 (q_rV (As := [.int (place)]) (rest := []) (x := 71) hC hW mw_X6_isPlace gw_566 (k_isPlace l G n ad s.heap.size I L R _ w K ro hn hlk hN) (by omega) (ct_o6 kd_71) rfl ⟨rfl, rfl⟩ ⟨Nat.le_of_ble_eq_true rfl, Nat.le_of_ble_eq_true rfl⟩ ⟨(Nat.le_of_ble_eq_true rfl), (Nat.le_of_ble_eq_true rfl)⟩ hl.1 rfl rfl (Nat.le_of_ble_eq_true rfl) dX6_letter_2) hW (fun r_2 H locs hp hW => ?_)
  rcases hp with ⟨k_2, hk_2, rfl, rfl⟩ | ⟨hk_2, rfl⟩
  ·
    refine q_ieq (tgt := 20) hx hb dX6_letter_5 (by decide) (by first | omega | exact Nat.lt_of_le_of_lt (hw3 _) (by decide)) (fun c_5 => absurd c_5 (by decide)) (fun c_5 => ?_)
    refine lv_aload_n hx hb dX6_letter_8 rfl (lv_at hl 0 rfl) ?_
    refine g_6_0 (x := 71) (y := 72) hC hW (by omega) kd_71 gw_483 (hlk 71 0 72 (by omega) rfl) dX6_letter_9 ?_
    refine q_bp 60 hx hb dX6_letter_12 (by decide) ?_
    refine lv_iload_n hx hb dX6_letter_14 rfl (lv_at hl 1 rfl) ?_
    refine q_iadd hx hb dX6_letter_15 ?_
    refine q_iald (x := 72) (i := 60 + k_2) hC hW (by omega) kd_72 (by omega) dX6_letter_16 ?_
    refine q_top (v2 := .int (nI (ro k_2))) (congrArg _ (hN.2.2.1 _ (by omega))) ?_
    refine lv_goto (tgt := 21) hx hb dX6_letter_17 (by decide) ?_
    exact q_iret1 hC hW hr hlk0 (RR_i (a' := (nI (ro k_2), ((w, K, ro), hc, hi, sv, pn, ch))) (by simp only [aLetter, rng_nI hk_2 (show K ≤ 1000 by omega)]) ⟨rfl, PB_0 hI0⟩) dX6_letter_21
  ·
    refine q_ieq (tgt := 20) hx hb dX6_letter_5 (by decide) (by first | omega | exact Nat.lt_of_le_of_lt (hw3 _) (by decide)) (fun c_5 => ?_) (fun c_5 => absurd c_5 (by decide))
    refine lv_iconst (v := -1) hx hb dX6_letter_20 (by decide) ?_
    exact q_iret1 hC hW hr hlk0 (RR_i (a' := (-1, ((w, K, ro), hc, hi, sv, pn, ch))) (by simp only [aLetter, hk_2]) ⟨rfl, PB_0 hI0⟩) dX6_letter_21
