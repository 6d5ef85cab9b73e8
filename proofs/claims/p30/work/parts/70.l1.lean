set_option maxRecDepth 100000 in
set_option maxHeartbeats 4000000 in
theorem k_over (l : Launch) (G : Gx) (n : Nat) (ad : Nat → Nat) (sz : Nat) (I : Ic) (L : Lc) (R : Rc) (f t : Nat) (w : Nat → Nat) (K : Nat) (ro : Nat → Nat) (hc : Nat) (hi : Nat → CM) (sv : Nat → Option CM) (pn : Nat) (ch : Nat → Nat) (hA : InvA n I L R ((w, K, ro), hc, hi, sv, pn, ch)) (hf : f < 4) (ht : t < 4) : Met l yL_over (Cond.code yL_over cL_over 6 (some .long) :: GW) ({ frames := 7, cells := 0, slots := 0, locals := 252 } : Room) (qPre G n ad sz I L R [.ref (ad 0), .int (nI (f)), .int (nI (t))]) (qL2 G (qA n ad sz) (fun z u => PRl n ad I L R (lN (ov w f t), ((w, K, ro), hc, hi, sv, pn, ch)) z u)) 0 0 (qA n ad sz) := by
  refine q_met (by decide) (Nat.le_of_ble_eq_true rfl) ?_
  intro p_ e_ s m_ below meth c_ hC hr hlk0 hin hsz hW ls hl
  subst hsz
  have hC : CallFix p_ m_ c_ cL_over 6 s ([.ref (ad 0), .int (nI (f)), .int (nI (t))] : List Value).toArray GW "CoinRowsLaw" := hC
  have hx := hC.1
  have hb := hC.2.1
  have hw : Wok w := hA.2.2.1.2.2.2.2.1
  have hw3 : ∀ i, w i ≤ 3 := hw.1
  have hk6 : K ≤ 6 := hA.2.2.1.2.2.2.1
  have hr4 : ∀ j, ro j < 4 := hA.2.2.1.2.2.2.2.2
  have hn : 71 ≤ n := hA.1
  have hT63 : Sx' w K ro K 6 < 2 ^ 63 := Nat.lt_of_le_of_lt (Sx_b hw K K 6 hk6) (by decide)
  have hC31 : Cx' w K ro K 6 < 2 ^ 31 := Nat.lt_of_le_of_lt (Cx_b hw K K 6 hk6) (by decide)
  have hG : Fr7 I I L L R R := fr_0
  have hl : lv_has ls 6 [(0, .ref (ad 0)), (1, .int (nI (f))), (2, .int (nI (t)))] := hl
  refine lv_iload_n hx hb dL_over_0 rfl (lv_at hl 1 rfl) ?_
  refine lv_if_ge (tgt := 14) hx hb dL_over_1 (by decide) (fun c_1 => ?_) (fun c_1 => absurd (Int32.not_lt.mp (nI_pos (by first | omega | assumption))) c_1)
  refine lv_aload_n hx hb dL_over_14 rfl (lv_at hl 0 rfl) ?_
  refine q_ic 1 hx hb dL_over_15 (by decide) ?_
  refine lv_iload_n hx hb dL_over_16 rfl (lv_at hl 1 rfl) ?_
  refine lv_iload_n hx hb dL_over_17 rfl (lv_at hl 2 rfl) ?_
  refine q_kI2 (q_rV (As := [.int (nI 1), .int (nI (f)), .int (nI (t))]) (rest := []) (x := 0) hC hW mw_X5_weight gw_156 (k_weight l G n ad s.heap.size I L R (nI 1) (nI f) (nI t) w K ro hc hi sv pn ch hA) (by omega) (ct_o5 kd_0) rfl ⟨rfl, rfl⟩ ⟨Nat.le_of_ble_eq_true rfl, Nat.le_of_ble_eq_true rfl⟩ ⟨(Nat.le_of_ble_eq_true rfl), (Nat.le_of_ble_eq_true rfl)⟩ hl.1 rfl rfl (Nat.le_of_ble_eq_true rfl) dL_over_18) hW (fun r_18 n_18 ad_18 I_18 L_18 R_18 H locs hp hW => ?_)
  obtain ⟨hz, rfl, rfl, hA, hF⟩ := PR_use hp
  have hG := fr_t hF hG
  have hz : r_18 = nI (w (f * 6 + t)) := hz.trans (aW1 (S := ((w, K, ro), hc, hi, sv, pn, ch)) (f := f) (t := t) (by first | omega | assumption) (by first | omega | assumption))
  subst hz
  refine lv_istore_n (lv' := [(3, .int (nI (w (f * 6 + t)))), (0, .ref (ad 0)), (1, .int (nI (f))), (2, .int (nI (t)))]) hx hb dL_over_21 rfl hl (by decide) rfl (fun ls hl => ?_)
  refine lv_iload_n hx hb dL_over_22 rfl (lv_at hl 2 rfl) ?_
  refine lv_if_ge (tgt := 36) hx hb dL_over_23 (by decide) (fun c_23 => ?_) (fun c_23 => absurd (Int32.not_lt.mp (nI_pos (by first | omega | assumption))) c_23)
  refine lv_aload_n hx hb dL_over_36 rfl (lv_at hl 1 rfl) ?_
  refine q_ic 1 hx hb dL_over_37 (by decide) ?_
  refine lv_iload_n hx hb dL_over_38 rfl (lv_at hl 2 rfl) ?_
  refine q_ic 4 hx hb dL_over_39 (by decide) ?_
  refine q_kI2 (q_rV (As := [.int (nI 1), .int (nI (f)), .int (nI 4)]) (rest := []) (x := 0) hC hW mw_X5_weight gw_156 (k_weight l G n ad H.size I_18 L_18 R_18 (nI 1) (nI f) (nI 4) w K ro hc hi sv pn ch hA) (by omega) (ct_o5 kd_0) rfl ⟨rfl, rfl⟩ ⟨Nat.le_of_ble_eq_true rfl, Nat.le_of_ble_eq_true rfl⟩ ⟨(Nat.le_of_ble_eq_true rfl), (Nat.le_of_ble_eq_true rfl)⟩ hl.1 rfl rfl (Nat.le_of_ble_eq_true rfl) dL_over_40) hW (fun r_40 n_40 ad_40 I_40 L_40 R_40 H locs hp hW => ?_)
  obtain ⟨hz, rfl, rfl, hA, hF⟩ := PR_use hp
  have hG := fr_t hF hG
  have hz : r_40 = nI (w (f * 6 + 4)) := hz.trans (aW1 (S := ((w, K, ro), hc, hi, sv, pn, ch)) (f := f) (t := 4) (by first | omega | assumption) (by first | omega | assumption))
  subst hz
  refine lv_istore (lv' := [(4, .int (nI (w (f * 6 + 4)))), (3, .int (nI (w (f * 6 + t)))), (0, .ref (ad 0)), (1, .int (nI (f))), (2, .int (nI (t)))]) hx hb dL_over_43 hl (by decide) rfl (fun ls hl => ?_)
  refine lv_iload_n hx hb dL_over_45 rfl (lv_at hl 3 rfl) ?_
  refine lv_if_ge (tgt := 59) hx hb dL_over_46 (by decide) (fun c_46 => ?_) (fun c_46 => absurd (Int32.not_lt.mp (nI_pos (by first | omega | assumption))) c_46)
  refine lv_aload_n hx hb dL_over_59 rfl (lv_at hl 2 rfl) ?_
  refine q_ic 1 hx hb dL_over_60 (by decide) ?_
  refine lv_iload_n hx hb dL_over_61 rfl (lv_at hl 3 rfl) ?_
  refine q_ic 5 hx hb dL_over_62 (by decide) ?_
  refine q_kI2 (q_rV (As := [.int (nI 1), .int (nI (f)), .int (nI 5)]) (rest := []) (x := 0) hC hW mw_X5_weight gw_156 (k_weight l G n ad H.size I_40 L_40 R_40 (nI 1) (nI f) (nI 5) w K ro hc hi sv pn ch hA) (by omega) (ct_o5 kd_0) rfl ⟨rfl, rfl⟩ ⟨Nat.le_of_ble_eq_true rfl, Nat.le_of_ble_eq_true rfl⟩ ⟨(Nat.le_of_ble_eq_true rfl), (Nat.le_of_ble_eq_true rfl)⟩ hl.1 rfl rfl (Nat.le_of_ble_eq_true rfl) dL_over_63) hW (fun r_63 n_63 ad_63 I_63 L_63 R_63 H locs hp hW => ?_)
  obtain ⟨hz, rfl, rfl, hA, hF⟩ := PR_use hp
  have hG := fr_t hF hG
  have hz : r_63 = nI (w (f * 6 + 5)) := hz.trans (aW1 (S := ((w, K, ro), hc, hi, sv, pn, ch)) (f := f) (t := 5) (by first | omega | assumption) (by first | omega | assumption))
  subst hz
  refine lv_istore (lv' := [(5, .int (nI (w (f * 6 + 5)))), (4, .int (nI (w (f * 6 + 4)))), (3, .int (nI (w (f * 6 + t)))), (0, .ref (ad 0)), (1, .int (nI (f))), (2, .int (nI (t)))]) hx hb dL_over_66 hl (by decide) rfl (fun ls hl => ?_)
  refine lv_iload_n hx hb dL_over_68 rfl (lv_at hl 2 rfl) ?_
  refine q_i2l hx hb dL_over_69 (by first | omega | exact Nat.lt_of_le_of_lt (hw3 _) (by decide) | exact Nat.lt_of_lt_of_le (hr4 _) (by decide) | exact Nat.lt_of_le_of_lt (bp_le _) (by decide) | assumption) ?_
  refine lv_iload hx hb dL_over_70 (lv_at hl 1 rfl) ?_
  refine q_i2l hx hb dL_over_72 (by first | omega | exact Nat.lt_of_le_of_lt (hw3 _) (by decide) | exact Nat.lt_of_lt_of_le (hr4 _) (by decide) | exact Nat.lt_of_le_of_lt (bp_le _) (by decide) | assumption) ?_
  refine lv_aload_n hx hb dL_over_73 rfl (lv_at hl 3 rfl) ?_
  refine q_ic 1 hx hb dL_over_74 (by decide) ?_
  refine q_ic 4 hx hb dL_over_75 (by decide) ?_
  refine lv_iload_n hx hb dL_over_76 rfl (lv_at hl 5 rfl) ?_
  refine q_kI2 (q_rV (As := [.int (nI 1), .int (nI 4), .int (nI (t))]) (rest := [.long (lN (w (f * 6 + 4))), .long (lN (w (f * 6 + t)))]) (x := 0) hC hW mw_X5_weight gw_156 (k_weight l G n ad H.size I_63 L_63 R_63 (nI 1) (nI 4) (nI t) w K ro hc hi sv pn ch hA) (by omega) (ct_o5 kd_0) rfl ⟨rfl, rfl⟩ ⟨Nat.le_of_ble_eq_true rfl, Nat.le_of_ble_eq_true rfl⟩ ⟨(Nat.le_of_ble_eq_true rfl), (Nat.le_of_ble_eq_true rfl)⟩ hl.1 rfl rfl (Nat.le_of_ble_eq_true rfl) dL_over_77) hW (fun r_77 n_77 ad_77 I_77 L_77 R_77 H locs hp hW => ?_)
  obtain ⟨hz, rfl, rfl, hA, hF⟩ := PR_use hp
  have hG := fr_t hF hG
  have hz : r_77 = nI (w (4 * 6 + t)) := hz.trans (aW1 (S := ((w, K, ro), hc, hi, sv, pn, ch)) (f := 4) (t := t) (by first | omega | assumption) (by first | omega | assumption))
  subst hz
  refine q_i2l hx hb dL_over_80 (by first | omega | exact Nat.lt_of_le_of_lt (hw3 _) (by decide) | exact Nat.lt_of_lt_of_le (hr4 _) (by decide) | exact Nat.lt_of_le_of_lt (bp_le _) (by decide) | assumption) ?_
  refine q_lmul hx hb dL_over_81 ?_
  refine q_ladd hx hb dL_over_82 ?_
  refine lv_iload hx hb dL_over_83 (lv_at hl 0 rfl) ?_
  refine q_i2l hx hb dL_over_85 (by first | omega | exact Nat.lt_of_le_of_lt (hw3 _) (by decide) | exact Nat.lt_of_lt_of_le (hr4 _) (by decide) | exact Nat.lt_of_le_of_lt (bp_le _) (by decide) | assumption) ?_
  refine lv_aload_n hx hb dL_over_86 rfl (lv_at hl 3 rfl) ?_
  refine q_ic 1 hx hb dL_over_87 (by decide) ?_
  refine q_ic 5 hx hb dL_over_88 (by decide) ?_
  refine lv_iload_n hx hb dL_over_89 rfl (lv_at hl 5 rfl) ?_
  refine q_kI2 (q_rV (As := [.int (nI 1), .int (nI 5), .int (nI (t))]) (rest := [.long (lN (w (f * 6 + 5))), .long (lN ((w (f * 6 + t)) + ((w (f * 6 + 4)) * (w (4 * 6 + t)))))]) (x := 0) hC hW mw_X5_weight gw_156 (k_weight l G n ad H.size I_77 L_77 R_77 (nI 1) (nI 5) (nI t) w K ro hc hi sv pn ch hA) (by omega) (ct_o5 kd_0) rfl ⟨rfl, rfl⟩ ⟨Nat.le_of_ble_eq_true rfl, Nat.le_of_ble_eq_true rfl⟩ ⟨(Nat.le_of_ble_eq_true rfl), (Nat.le_of_ble_eq_true rfl)⟩ hl.1 rfl rfl (Nat.le_of_ble_eq_true rfl) dL_over_90) hW (fun r_90 n_90 ad_90 I_90 L_90 R_90 H locs hp hW => ?_)
  obtain ⟨hz, rfl, rfl, hA, hF⟩ := PR_use hp
  have hG := fr_t hF hG
  have hz : r_90 = nI (w (5 * 6 + t)) := hz.trans (aW1 (S := ((w, K, ro), hc, hi, sv, pn, ch)) (f := 5) (t := t) (by first | omega | assumption) (by first | omega | assumption))
  subst hz
  refine q_i2l hx hb dL_over_93 (by first | omega | exact Nat.lt_of_le_of_lt (hw3 _) (by decide) | exact Nat.lt_of_lt_of_le (hr4 _) (by decide) | exact Nat.lt_of_le_of_lt (bp_le _) (by decide) | assumption) ?_
  refine q_lmul hx hb dL_over_94 ?_
  refine q_ladd hx hb dL_over_95 ?_
  refine lv_iload hx hb dL_over_96 (lv_at hl 1 rfl) ?_
  refine q_i2l hx hb dL_over_98 (by first | omega | exact Nat.lt_of_le_of_lt (hw3 _) (by decide) | exact Nat.lt_of_lt_of_le (hr4 _) (by decide) | exact Nat.lt_of_le_of_lt (bp_le _) (by decide) | assumption) ?_
  refine lv_aload_n hx hb dL_over_99 rfl (lv_at hl 3 rfl) ?_
  refine q_ic 1 hx hb dL_over_100 (by decide) ?_
  refine q_ic 4 hx hb dL_over_101 (by decide) ?_
  refine q_ic 5 hx hb dL_over_102 (by decide) ?_
  refine q_kI2 (q_rV (As := [.int (nI 1), .int (nI 4), .int (nI 5)]) (rest := [.long (lN (w (f * 6 + 4))), .long (lN (((w (f * 6 + t)) + ((w (f * 6 + 4)) * (w (4 * 6 + t)))) + ((w (f * 6 + 5)) * (w (5 * 6 + t)))))]) (x := 0) hC hW mw_X5_weight gw_156 (k_weight l G n ad H.size I_90 L_90 R_90 (nI 1) (nI 4) (nI 5) w K ro hc hi sv pn ch hA) (by omega) (ct_o5 kd_0) rfl ⟨rfl, rfl⟩ ⟨Nat.le_of_ble_eq_true rfl, Nat.le_of_ble_eq_true rfl⟩ ⟨(Nat.le_of_ble_eq_true rfl), (Nat.le_of_ble_eq_true rfl)⟩ hl.1 rfl rfl (Nat.le_of_ble_eq_true rfl) dL_over_103) hW (fun r_103 n_103 ad_103 I_103 L_103 R_103 H locs hp hW => ?_)
  obtain ⟨hz, rfl, rfl, hA, hF⟩ := PR_use hp
  have hG := fr_t hF hG
  have hz : r_103 = nI (w (4 * 6 + 5)) := hz.trans (aW1 (S := ((w, K, ro), hc, hi, sv, pn, ch)) (f := 4) (t := 5) (by first | omega | assumption) (by first | omega | assumption))
  subst hz
  refine q_i2l hx hb dL_over_106 (by first | omega | exact Nat.lt_of_le_of_lt (hw3 _) (by decide) | exact Nat.lt_of_lt_of_le (hr4 _) (by decide) | exact Nat.lt_of_le_of_lt (bp_le _) (by decide) | assumption) ?_
  refine q_lmul hx hb dL_over_107 ?_
  refine lv_aload_n hx hb dL_over_108 rfl (lv_at hl 3 rfl) ?_
  refine q_ic 1 hx hb dL_over_109 (by decide) ?_
  refine q_ic 5 hx hb dL_over_110 (by decide) ?_
  refine lv_iload_n hx hb dL_over_111 rfl (lv_at hl 5 rfl) ?_
  refine q_kI2 (q_rV (As := [.int (nI 1), .int (nI 5), .int (nI (t))]) (rest := [.long (lN ((w (f * 6 + 4)) * (w (4 * 6 + 5)))), .long (lN (((w (f * 6 + t)) + ((w (f * 6 + 4)) * (w (4 * 6 + t)))) + ((w (f * 6 + 5)) * (w (5 * 6 + t)))))]) (x := 0) hC hW mw_X5_weight gw_156 (k_weight l G n ad H.size I_103 L_103 R_103 (nI 1) (nI 5) (nI t) w K ro hc hi sv pn ch hA) (by omega) (ct_o5 kd_0) rfl ⟨rfl, rfl⟩ ⟨Nat.le_of_ble_eq_true rfl, Nat.le_of_ble_eq_true rfl⟩ ⟨(Nat.le_of_ble_eq_true rfl), (Nat.le_of_ble_eq_true rfl)⟩ hl.1 rfl rfl (Nat.le_of_ble_eq_true rfl) dL_over_112) hW (fun r_112 n_112 ad_112 I_112 L_112 R_112 H locs hp hW => ?_)
  obtain ⟨hz, rfl, rfl, hA, hF⟩ := PR_use hp
  have hG := fr_t hF hG
  have hz : r_112 = nI (w (5 * 6 + t)) := hz.trans (aW1 (S := ((w, K, ro), hc, hi, sv, pn, ch)) (f := 5) (t := t) (by first | omega | assumption) (by first | omega | assumption))
  subst hz
  refine q_i2l hx hb dL_over_115 (by first | omega | exact Nat.lt_of_le_of_lt (hw3 _) (by decide) | exact Nat.lt_of_lt_of_le (hr4 _) (by decide) | exact Nat.lt_of_le_of_lt (bp_le _) (by decide) | assumption) ?_
  refine q_lmul hx hb dL_over_116 ?_
  refine q_ladd hx hb dL_over_117 ?_
  exact q_lret2 hC hW hr hlk0 (PRl_q hA hG) dL_over_118
set_option maxRecDepth 100000 in
set_option maxHeartbeats 4000000 in
theorem k_over6 (l : Launch) (G : Gx) (n : Nat) (ad : Nat → Nat) (sz : Nat) (I : Ic) (L : Lc) (R : Rc) (t : Nat) (w : Nat → Nat) (K : Nat) (ro : Nat → Nat) (hc : Nat) (hi : Nat → CM) (sv : Nat → Option CM) (pn : Nat) (ch : Nat → Nat) (hA : InvA n I L R ((w, K, ro), hc, hi, sv, pn, ch)) (ht : t < 4) : Met l yL_over (Cond.code yL_over cL_over 6 (some .long) :: GW) ({ frames := 7, cells := 0, slots := 0, locals := 252 } : Room) (qPre G n ad sz I L R [.ref (ad 0), .int (-1), .int (nI (t))]) (qL2 G (qA n ad sz) (fun z u => PRl n ad I L R (lN (ov w 6 t), ((w, K, ro), hc, hi, sv, pn, ch)) z u)) 0 0 (qA n ad sz) := by
  refine q_met (by decide) (Nat.le_of_ble_eq_true rfl) ?_
  intro p_ e_ s m_ below meth c_ hC hr hlk0 hin hsz hW ls hl
  subst hsz
  have hC : CallFix p_ m_ c_ cL_over 6 s ([.ref (ad 0), .int (-1), .int (nI (t))] : List Value).toArray GW "CoinRowsLaw" := hC
  have hx := hC.1
  have hb := hC.2.1
  have hw : Wok w := hA.2.2.1.2.2.2.2.1
  have hw3 : ∀ i, w i ≤ 3 := hw.1
  have hk6 : K ≤ 6 := hA.2.2.1.2.2.2.1
  have hr4 : ∀ j, ro j < 4 := hA.2.2.1.2.2.2.2.2
  have hn : 71 ≤ n := hA.1
  have hT63 : Sx' w K ro K 6 < 2 ^ 63 := Nat.lt_of_le_of_lt (Sx_b hw K K 6 hk6) (by decide)
  have hC31 : Cx' w K ro K 6 < 2 ^ 31 := Nat.lt_of_le_of_lt (Cx_b hw K K 6 hk6) (by decide)
  have hG : Fr7 I I L L R R := fr_0
  have hl : lv_has ls 6 [(0, .ref (ad 0)), (1, .int (-1)), (2, .int (nI (t)))] := hl
  refine lv_iload_n hx hb dL_over_0 rfl (lv_at hl 1 rfl) ?_
  refine lv_if_ge (tgt := 14) hx hb dL_over_1 (by decide) (fun c_1 => absurd c_1 (by decide)) (fun c_1 => ?_)
  refine lv_aload_n hx hb dL_over_4 rfl (lv_at hl 0 rfl) ?_
  refine q_ic 0 hx hb dL_over_5 (by decide) ?_
  refine lv_iload_n hx hb dL_over_6 rfl (lv_at hl 2 rfl) ?_
  refine q_ic 0 hx hb dL_over_7 (by decide) ?_
  refine q_kI2 (q_rV (As := [.int (nI 0), .int (nI (t)), .int (nI 0)]) (rest := []) (x := 0) hC hW mw_X5_weight gw_156 (k_weight l G n ad s.heap.size I L R (nI 0) (nI t) (nI 0) w K ro hc hi sv pn ch hA) (by omega) (ct_o5 kd_0) rfl ⟨rfl, rfl⟩ ⟨Nat.le_of_ble_eq_true rfl, Nat.le_of_ble_eq_true rfl⟩ ⟨(Nat.le_of_ble_eq_true rfl), (Nat.le_of_ble_eq_true rfl)⟩ hl.1 rfl rfl (Nat.le_of_ble_eq_true rfl) dL_over_8) hW (fun r_8 n_8 ad_8 I_8 L_8 R_8 H locs hp hW => ?_)
  obtain ⟨hz, rfl, rfl, hA, hF⟩ := PR_use hp
  have hG := fr_t hF hG
  have hz : r_8 = nI (w (6 * 6 + t)) := hz.trans (aW0 (S := ((w, K, ro), hc, hi, sv, pn, ch)) (c := t) (by first | omega | assumption))
  subst hz
  refine lv_goto (tgt := 21) hx hb dL_over_11 (by decide) ?_
  refine lv_istore_n (lv' := [(3, .int (nI (w (6 * 6 + t)))), (0, .ref (ad 0)), (1, .int (-1)), (2, .int (nI (t)))]) hx hb dL_over_21 rfl hl (by decide) rfl (fun ls hl => ?_)
  refine lv_iload_n hx hb dL_over_22 rfl (lv_at hl 2 rfl) ?_
  refine lv_if_ge (tgt := 36) hx hb dL_over_23 (by decide) (fun c_23 => absurd c_23 (by decide)) (fun c_23 => ?_)
  refine lv_aload_n hx hb dL_over_26 rfl (lv_at hl 1 rfl) ?_
  refine q_ic 0 hx hb dL_over_27 (by decide) ?_
  refine q_ic 4 hx hb dL_over_28 (by decide) ?_
  refine q_ic 0 hx hb dL_over_29 (by decide) ?_
  refine q_kI2 (q_rV (As := [.int (nI 0), .int (nI 4), .int (nI 0)]) (rest := []) (x := 0) hC hW mw_X5_weight gw_156 (k_weight l G n ad H.size I_8 L_8 R_8 (nI 0) (nI 4) (nI 0) w K ro hc hi sv pn ch hA) (by omega) (ct_o5 kd_0) rfl ⟨rfl, rfl⟩ ⟨Nat.le_of_ble_eq_true rfl, Nat.le_of_ble_eq_true rfl⟩ ⟨(Nat.le_of_ble_eq_true rfl), (Nat.le_of_ble_eq_true rfl)⟩ hl.1 rfl rfl (Nat.le_of_ble_eq_true rfl) dL_over_30) hW (fun r_30 n_30 ad_30 I_30 L_30 R_30 H locs hp hW => ?_)
  obtain ⟨hz, rfl, rfl, hA, hF⟩ := PR_use hp
  have hG := fr_t hF hG
  have hz : r_30 = nI (w (6 * 6 + 4)) := hz.trans (aW0 (S := ((w, K, ro), hc, hi, sv, pn, ch)) (c := 4) (by first | omega | assumption))
  subst hz
  refine lv_goto (tgt := 43) hx hb dL_over_33 (by decide) ?_
  refine lv_istore (lv' := [(4, .int (nI (w (6 * 6 + 4)))), (3, .int (nI (w (6 * 6 + t)))), (0, .ref (ad 0)), (1, .int (-1)), (2, .int (nI (t)))]) hx hb dL_over_43 hl (by decide) rfl (fun ls hl => ?_)
  refine lv_iload_n hx hb dL_over_45 rfl (lv_at hl 3 rfl) ?_
  refine lv_if_ge (tgt := 59) hx hb dL_over_46 (by decide) (fun c_46 => absurd c_46 (by decide)) (fun c_46 => ?_)
  refine lv_aload_n hx hb dL_over_49 rfl (lv_at hl 2 rfl) ?_
  refine q_ic 0 hx hb dL_over_50 (by decide) ?_
  refine q_ic 5 hx hb dL_over_51 (by decide) ?_
  refine q_ic 0 hx hb dL_over_52 (by decide) ?_
  refine q_kI2 (q_rV (As := [.int (nI 0), .int (nI 5), .int (nI 0)]) (rest := []) (x := 0) hC hW mw_X5_weight gw_156 (k_weight l G n ad H.size I_30 L_30 R_30 (nI 0) (nI 5) (nI 0) w K ro hc hi sv pn ch hA) (by omega) (ct_o5 kd_0) rfl ⟨rfl, rfl⟩ ⟨Nat.le_of_ble_eq_true rfl, Nat.le_of_ble_eq_true rfl⟩ ⟨(Nat.le_of_ble_eq_true rfl), (Nat.le_of_ble_eq_true rfl)⟩ hl.1 rfl rfl (Nat.le_of_ble_eq_true rfl) dL_over_53) hW (fun r_53 n_53 ad_53 I_53 L_53 R_53 H locs hp hW => ?_)
  obtain ⟨hz, rfl, rfl, hA, hF⟩ := PR_use hp
  have hG := fr_t hF hG
  have hz : r_53 = nI (w (6 * 6 + 5)) := hz.trans (aW0 (S := ((w, K, ro), hc, hi, sv, pn, ch)) (c := 5) (by first | omega | assumption))
  subst hz
  refine lv_goto (tgt := 66) hx hb dL_over_56 (by decide) ?_
  refine lv_istore (lv' := [(5, .int (nI (w (6 * 6 + 5)))), (4, .int (nI (w (6 * 6 + 4)))), (3, .int (nI (w (6 * 6 + t)))), (0, .ref (ad 0)), (1, .int (-1)), (2, .int (nI (t)))]) hx hb dL_over_66 hl (by decide) rfl (fun ls hl => ?_)
  refine lv_iload_n hx hb dL_over_68 rfl (lv_at hl 2 rfl) ?_
  refine q_i2l hx hb dL_over_69 (by first | omega | exact Nat.lt_of_le_of_lt (hw3 _) (by decide) | exact Nat.lt_of_lt_of_le (hr4 _) (by decide) | exact Nat.lt_of_le_of_lt (bp_le _) (by decide) | assumption) ?_
  refine lv_iload hx hb dL_over_70 (lv_at hl 1 rfl) ?_
  refine q_i2l hx hb dL_over_72 (by first | omega | exact Nat.lt_of_le_of_lt (hw3 _) (by decide) | exact Nat.lt_of_lt_of_le (hr4 _) (by decide) | exact Nat.lt_of_le_of_lt (bp_le _) (by decide) | assumption) ?_
  refine lv_aload_n hx hb dL_over_73 rfl (lv_at hl 3 rfl) ?_
  refine q_ic 1 hx hb dL_over_74 (by decide) ?_
  refine q_ic 4 hx hb dL_over_75 (by decide) ?_
  refine lv_iload_n hx hb dL_over_76 rfl (lv_at hl 5 rfl) ?_
  refine q_kI2 (q_rV (As := [.int (nI 1), .int (nI 4), .int (nI (t))]) (rest := [.long (lN (w (6 * 6 + 4))), .long (lN (w (6 * 6 + t)))]) (x := 0) hC hW mw_X5_weight gw_156 (k_weight l G n ad H.size I_53 L_53 R_53 (nI 1) (nI 4) (nI t) w K ro hc hi sv pn ch hA) (by omega) (ct_o5 kd_0) rfl ⟨rfl, rfl⟩ ⟨Nat.le_of_ble_eq_true rfl, Nat.le_of_ble_eq_true rfl⟩ ⟨(Nat.le_of_ble_eq_true rfl), (Nat.le_of_ble_eq_true rfl)⟩ hl.1 rfl rfl (Nat.le_of_ble_eq_true rfl) dL_over_77) hW (fun r_77 n_77 ad_77 I_77 L_77 R_77 H locs hp hW => ?_)
  obtain ⟨hz, rfl, rfl, hA, hF⟩ := PR_use hp
  have hG := fr_t hF hG
  have hz : r_77 = nI (w (4 * 6 + t)) := hz.trans (aW1 (S := ((w, K, ro), hc, hi, sv, pn, ch)) (f := 4) (t := t) (by first | omega | assumption) (by first | omega | assumption))
  subst hz
  refine q_i2l hx hb dL_over_80 (by first | omega | exact Nat.lt_of_le_of_lt (hw3 _) (by decide) | exact Nat.lt_of_lt_of_le (hr4 _) (by decide) | exact Nat.lt_of_le_of_lt (bp_le _) (by decide) | assumption) ?_
  refine q_lmul hx hb dL_over_81 ?_
  refine q_ladd hx hb dL_over_82 ?_
  refine lv_iload hx hb dL_over_83 (lv_at hl 0 rfl) ?_
  refine q_i2l hx hb dL_over_85 (by first | omega | exact Nat.lt_of_le_of_lt (hw3 _) (by decide) | exact Nat.lt_of_lt_of_le (hr4 _) (by decide) | exact Nat.lt_of_le_of_lt (bp_le _) (by decide) | assumption) ?_
  refine lv_aload_n hx hb dL_over_86 rfl (lv_at hl 3 rfl) ?_
  refine q_ic 1 hx hb dL_over_87 (by decide) ?_
  refine q_ic 5 hx hb dL_over_88 (by decide) ?_
  refine lv_iload_n hx hb dL_over_89 rfl (lv_at hl 5 rfl) ?_
  refine q_kI2 (q_rV (As := [.int (nI 1), .int (nI 5), .int (nI (t))]) (rest := [.long (lN (w (6 * 6 + 5))), .long (lN ((w (6 * 6 + t)) + ((w (6 * 6 + 4)) * (w (4 * 6 + t)))))]) (x := 0) hC hW mw_X5_weight gw_156 (k_weight l G n ad H.size I_77 L_77 R_77 (nI 1) (nI 5) (nI t) w K ro hc hi sv pn ch hA) (by omega) (ct_o5 kd_0) rfl ⟨rfl, rfl⟩ ⟨Nat.le_of_ble_eq_true rfl, Nat.le_of_ble_eq_true rfl⟩ ⟨(Nat.le_of_ble_eq_true rfl), (Nat.le_of_ble_eq_true rfl)⟩ hl.1 rfl rfl (Nat.le_of_ble_eq_true rfl) dL_over_90) hW (fun r_90 n_90 ad_90 I_90 L_90 R_90 H locs hp hW => ?_)
  obtain ⟨hz, rfl, rfl, hA, hF⟩ := PR_use hp
  have hG := fr_t hF hG
  have hz : r_90 = nI (w (5 * 6 + t)) := hz.trans (aW1 (S := ((w, K, ro), hc, hi, sv, pn, ch)) (f := 5) (t := t) (by first | omega | assumption) (by first | omega | assumption))
  subst hz
  refine q_i2l hx hb dL_over_93 (by first | omega | exact Nat.lt_of_le_of_lt (hw3 _) (by decide) | exact Nat.lt_of_lt_of_le (hr4 _) (by decide) | exact Nat.lt_of_le_of_lt (bp_le _) (by decide) | assumption) ?_
  refine q_lmul hx hb dL_over_94 ?_
  refine q_ladd hx hb dL_over_95 ?_
  refine lv_iload hx hb dL_over_96 (lv_at hl 1 rfl) ?_
  refine q_i2l hx hb dL_over_98 (by first | omega | exact Nat.lt_of_le_of_lt (hw3 _) (by decide) | exact Nat.lt_of_lt_of_le (hr4 _) (by decide) | exact Nat.lt_of_le_of_lt (bp_le _) (by decide) | assumption) ?_
  refine lv_aload_n hx hb dL_over_99 rfl (lv_at hl 3 rfl) ?_
  refine q_ic 1 hx hb dL_over_100 (by decide) ?_
  refine q_ic 4 hx hb dL_over_101 (by decide) ?_
  refine q_ic 5 hx hb dL_over_102 (by decide) ?_
  refine q_kI2 (q_rV (As := [.int (nI 1), .int (nI 4), .int (nI 5)]) (rest := [.long (lN (w (6 * 6 + 4))), .long (lN (((w (6 * 6 + t)) + ((w (6 * 6 + 4)) * (w (4 * 6 + t)))) + ((w (6 * 6 + 5)) * (w (5 * 6 + t)))))]) (x := 0) hC hW mw_X5_weight gw_156 (k_weight l G n ad H.size I_90 L_90 R_90 (nI 1) (nI 4) (nI 5) w K ro hc hi sv pn ch hA) (by omega) (ct_o5 kd_0) rfl ⟨rfl, rfl⟩ ⟨Nat.le_of_ble_eq_true rfl, Nat.le_of_ble_eq_true rfl⟩ ⟨(Nat.le_of_ble_eq_true rfl), (Nat.le_of_ble_eq_true rfl)⟩ hl.1 rfl rfl (Nat.le_of_ble_eq_true rfl) dL_over_103) hW (fun r_103 n_103 ad_103 I_103 L_103 R_103 H locs hp hW => ?_)
  obtain ⟨hz, rfl, rfl, hA, hF⟩ := PR_use hp
  have hG := fr_t hF hG
  have hz : r_103 = nI (w (4 * 6 + 5)) := hz.trans (aW1 (S := ((w, K, ro), hc, hi, sv, pn, ch)) (f := 4) (t := 5) (by first | omega | assumption) (by first | omega | assumption))
  subst hz
  refine q_i2l hx hb dL_over_106 (by first | omega | exact Nat.lt_of_le_of_lt (hw3 _) (by decide) | exact Nat.lt_of_lt_of_le (hr4 _) (by decide) | exact Nat.lt_of_le_of_lt (bp_le _) (by decide) | assumption) ?_
  refine q_lmul hx hb dL_over_107 ?_
  refine lv_aload_n hx hb dL_over_108 rfl (lv_at hl 3 rfl) ?_
  refine q_ic 1 hx hb dL_over_109 (by decide) ?_
  refine q_ic 5 hx hb dL_over_110 (by decide) ?_
  refine lv_iload_n hx hb dL_over_111 rfl (lv_at hl 5 rfl) ?_
  refine q_kI2 (q_rV (As := [.int (nI 1), .int (nI 5), .int (nI (t))]) (rest := [.long (lN ((w (6 * 6 + 4)) * (w (4 * 6 + 5)))), .long (lN (((w (6 * 6 + t)) + ((w (6 * 6 + 4)) * (w (4 * 6 + t)))) + ((w (6 * 6 + 5)) * (w (5 * 6 + t)))))]) (x := 0) hC hW mw_X5_weight gw_156 (k_weight l G n ad H.size I_103 L_103 R_103 (nI 1) (nI 5) (nI t) w K ro hc hi sv pn ch hA) (by omega) (ct_o5 kd_0) rfl ⟨rfl, rfl⟩ ⟨Nat.le_of_ble_eq_true rfl, Nat.le_of_ble_eq_true rfl⟩ ⟨(Nat.le_of_ble_eq_true rfl), (Nat.le_of_ble_eq_true rfl)⟩ hl.1 rfl rfl (Nat.le_of_ble_eq_true rfl) dL_over_112) hW (fun r_112 n_112 ad_112 I_112 L_112 R_112 H locs hp hW => ?_)
  obtain ⟨hz, rfl, rfl, hA, hF⟩ := PR_use hp
  have hG := fr_t hF hG
  have hz : r_112 = nI (w (5 * 6 + t)) := hz.trans (aW1 (S := ((w, K, ro), hc, hi, sv, pn, ch)) (f := 5) (t := t) (by first | omega | assumption) (by first | omega | assumption))
  subst hz
  refine q_i2l hx hb dL_over_115 (by first | omega | exact Nat.lt_of_le_of_lt (hw3 _) (by decide) | exact Nat.lt_of_lt_of_le (hr4 _) (by decide) | exact Nat.lt_of_le_of_lt (bp_le _) (by decide) | assumption) ?_
  refine q_lmul hx hb dL_over_116 ?_
  refine q_ladd hx hb dL_over_117 ?_
  exact q_lret2 hC hW hr hlk0 (PRl_q hA hG) dL_over_118
