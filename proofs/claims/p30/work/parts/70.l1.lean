set_option maxRecDepth 100000 in
set_option maxHeartbeats 4000000 in
theorem k_over (l : Launch) (G : Gx) (n : Nat) (ad : Nat → Nat) (sz : Nat) (I : Ic) (L : Lc) (R : Rc) (f t : Nat) (w : Nat → Nat) (K : Nat) (ro : Nat → Nat) (hc : Nat) (hi : Nat → CM) (sv : Nat → Option CM) (pn : Nat) (ch : Nat → Nat) (hA : InvA n I L R ((w, K, ro), hc, hi, sv, pn, ch)) (hf : f < 4) (ht : t < 4) : Met l yL_over (Cond.code yL_over cL_over 6 (some .long) :: GW) ({ frames := 7, cells := 0, slots := 0, locals := 252 } : Room) (qPre G n ad sz I L R [.ref (ad 0), .int (nI (f)), .int (nI (t))]) (qL2 G (qA n ad sz) (fun z u => PRl n ad I L R (lN (ov w f t), ((w, K, ro), hc, hi, sv, pn, ch)) z u)) 0 0 (qA n ad sz) := by
  refine q_met (by decide) (Nat.le_of_ble_eq_true rfl) ?_
  intro p_ e_ s m_ below meth c_ hC hr hlk0 hin hsz hW ls hl
  subst hsz
  have hC : CallFix p_ m_ c_ cL_over 6 s ([.ref (ad 0), .int (nI (f)), .int (nI (t))] : List Value).toArray GW "CoinRowsLaw" := hC
  have hx := hC.1
  have hb := hC.2.1
  have hw : Wok w := hA.2.2.1.2.2.2.2.1
  have hw3 : ∀ i, w i ≤ 3 := hw.1
  have hk6 : K ≤ 6 := hA.2.2.1.2.2.2.1
  have hr4 : ∀ j, ro j < 4 := hA.2.2.1.2.2.2.2.2
  have hn : 71 ≤ n := hA.1
  have hT63 : Sx' w K ro K 6 < 2 ^ 63 := Nat.lt_of_le_of_lt (Sx_b hw K K 6 hk6) (by decide)
  have hC31 : Cx' w K ro K 6 < 2 ^ 31 := Nat.lt_of_le_of_lt (Cx_b hw K K 6 hk6) (by decide)
  have hG : Fr7 I I L L R R := fr_0
  have hl : lv_has ls 6 [(0, .ref (ad 0)), (1, .int (nI (f))), (2, .int (nI (t)))] := hl
  refine lv_iload_n hx hb dL_over_0 rfl (lv_at hl 1 rfl) ?_
  refine lv_if_ge (tgt := 14) hx hb dL_over_1 (by decide) (fun c_1 => ?_) (fun c_1 => absurd (Int32.not_lt.mp (nI_pos (by first | omega | assumption))) c_1)
  refine lv_aload_n hx hb dL_over_14 rfl (lv_at hl 0 rfl) ?_
  refine q_ic 1 hx hb dL_over_15 (by decide) ?_
  refine lv_iload_n hx hb dL_over_16 rfl (lv_at hl 1 rfl) ?_
  refine lv_iload_n hx hb dL_over_17 rfl (lv_at hl 2 rfl) ?_
  refine q_kI2 (q_rV (As := [.int (nI 1), .int (nI (f)), .int (nI (t))]) (rest := []) (x := 0) hC hW mw_X5_weight gw_156 (k_weight l G n ad s.heap.size I L R (nI 1) (nI f) (nI t) w K ro hc hi sv pn ch hA) (by omega) (ct_o5 kd_0) rfl ⟨rfl, rfl⟩ ⟨Nat.le_of_ble_eq_true rfl, Nat.le_of_ble_eq_true rfl⟩ ⟨(Nat.le_of_ble_eq_true rfl), (Nat.le_of_ble_eq_true rfl)⟩ hl.1 rfl rfl (Nat.le_of_ble_eq_true rfl) dL_over_18) hW (fun r_18 n_18 ad_18 I_18 L_18 R_18 H locs hp hW => ?_)
  obtain ⟨hz, rfl, rfl, hA, hF⟩ := PR_use hp
  have hG := fr_t hF hG
  have hz : r_18 = nI (w (f * 6 + t)) := hz.trans (aW1 (S := ((w, K, ro), hc, hi, sv, pn, ch)) (f := f) (t := t) (by first | omega | assumption) (by first | omega | assumption))
  subst hz
  refine lv_istore_n (lv' := [(3, .int (nI (w (f * 6 + t)))), (0, .ref (ad 0)), (1, .int (nI (f))), (2, .int (nI (t)))]) hx hb dL_over_21 rfl hl (by decide) rfl (fun ls hl => ?_)
  refine lv_iload_n hx hb dL_over_22 rfl (lv_at hl 2 rfl) ?_
  refine lv_if_ge (tgt := 36) hx hb dL_over_23 (by decide) (fun c_23 => ?_) (fun c_23 => absurd (Int32.not_lt.mp (nI_pos (by first | omega | assumption))) c_23)
  refine lv_aload_n hx hb dL_over_36 rfl (lv_at hl 1 rfl) ?_
  refine q_ic 1 hx hb dL_over_37 (by decide) ?_
  refine lv_iload_n hx hb dL_over_38 rfl (lv_at hl 2 rfl) ?_
  refine q_ic 4 hx hb dL_over_39 (by decide) ?_
  refine q_kI2 (q_rV (As := [.int (nI 1), .int (nI (f)), .int (nI 4)]) (rest := []) (x := 0) hC hW mw_X5_weight gw_156 (k_weight l G n ad H.size I_18 L_18 R_18 (nI 1) (nI f) (nI 4) w K ro hc hi sv pn ch hA) (by omega) (ct_o5 kd_0) rfl ⟨rfl, rfl⟩ ⟨Nat.le_of_ble_eq_true rfl, Nat.le_of_ble_eq_true rfl⟩ ⟨(Nat.le_of_ble_eq_true rfl), (Nat.le_of_ble_eq_true rfl)⟩ hl.1 rfl rfl (Nat.le_of_ble_eq_true rfl) dL_over_40) hW (fun r_40 n_40 ad_40 I_40 L_40 R_40 H locs hp hW => ?_)
  obtain ⟨hz, rfl, rfl, hA, hF⟩ := PR_use hp
  have hG := fr_t hF hG
  have hz : r_40 = nI (w (f * 6 + 4)) := hz.trans (aW1 (S := ((w, K, ro), hc, hi, sv, pn, ch)) (f := f) (t := 4) (by first | omega | assumption) (by first | omega | assumption))
  subst hz
  refine lv_istore (lv' := [(4, .int (nI (w (f * 6 + 4)))), (3, .int (nI (w (f * 6 + t)))), (0, .ref (ad 0)), (1, .int (nI (f))), (2, .int (nI (t)))]) hx hb dL_over_43 hl (by decide) rfl (fun ls hl => ?_)
  refine lv_iload_n hx hb dL_over_45 rfl (lv_at hl 3 rfl) ?_
  refine lv_if_ge (tgt := 59) hx hb dL_over_46 (by decide) (fun c_46 => ?_) (fun c_46 => absurd (Int32.not_lt.mp (nI_pos (by first | omega | assumption))) c_46)
  refine lv_aload_n hx hb dL_over_59 rfl (lv_at hl 2 rfl) ?_
  refine q_ic 1 hx hb dL_over_60 (by decide) ?_
  refine lv_iload_n hx hb dL_over_61 rfl (lv_at hl 3 rfl) ?_
  refine q_ic 5 hx hb dL_over_62 (by decide) ?_
  refine q_kI2 (q_rV (As := [.int (nI 1), .int (nI (f)), .int (nI 5)]) (rest := []) (x := 0) hC hW mw_X5_weight gw_156 (k_weight l G n ad H.size I_40 L_40 R_40 (nI 1) (nI f) (nI 5) w K ro hc hi sv pn ch hA) (by omega) (ct_o5 kd_0) rfl ⟨rfl, rfl⟩ ⟨Nat.le_of_ble_eq_true rfl, Nat.le_of_ble_eq_true rfl⟩ ⟨(Nat.le_of_ble_eq_true rfl), (Nat.le_of_ble_eq_true rfl)⟩ hl.1 rfl rfl (Nat.le_of_ble_eq_true rfl) dL_over_63) hW (fun r_63 n_63 ad_63 I_63 L_63 R_63 H locs hp hW => ?_)
  obtain ⟨hz, rfl, rfl, hA, hF⟩ := PR_use hp
  have hG := fr_t hF hG
  have hz : r_63 = nI (w (f * 6 + 5)) := hz.trans (aW1 (S := ((w, K, ro), hc, hi, sv, pn, ch)) (f := f) (t := 5) (by first | omega | assumption) (by first | omega | assumption))
  subst hz
  refine lv_istore (lv' := [(5, .int (nI (w (f * 6 + 5)))), (4, .int (nI (w (f * 6 + 4)))), (3, .int (nI (w (f * 6 + t)))), (0, .ref (ad 0)), (1, .int (nI (f))), (2, .int (nI (t)))]) hx hb dL_over_66 hl (by decide) rfl (fun ls hl => ?_)
  refine lv_iload_n hx hb dL_over_68 rfl (lv_at hl 2 rfl) ?_
  refine q_i2l hx hb dL_over_69 (by first | omega | exact Nat.lt_of_le_of_lt (hw3 _) (by decide) | exact Nat.lt_of_lt_of_le (hr4 _) (by decide) | exact Nat.lt_of_le_of_lt (bp_le _) (by decide) | assumption) ?_
  refine lv_iload hx hb dL_over_70 (lv_at hl 1 rfl) ?_
  refine q_i2l hx hb dL_over_72 (by first | omega | exact Nat.lt_of_le_of_lt (hw3 _) (by decide) | exact Nat.lt_of_lt_of_le (hr4 _) (by decide) | exact Nat.lt_of_le_of_lt (bp_le _) (by decide) | assumption) ?_
  refine lv_aload_n hx hb dL_over_73 rfl (lv_at hl 3 rfl) ?_
  refine q_ic 1 hx hb dL_over_74 (by decide) ?_
  refine q_ic 4 hx hb dL_over_75 (by decide) ?_
  refine lv_iload_n hx hb dL_over_76 rfl (lv_at hl 5 rfl) ?_
  refine q_kI2 (q_rV (As := [.int (nI 1), .int (nI 4), .int (nI (t))]) (rest := [.long (lN (w (f * 6 + 4))), .long (lN (w (f * 6 + t)))]) (x := 0) hC hW mw_X5_weight gw_156 (k_weight l G n ad H.size I_63 L_63 R_63 (nI 1) (nI 4) (nI t) w K ro hc hi sv pn ch hA) (by omega) (ct_o5 kd_0) rfl ⟨rfl, rfl⟩ ⟨Nat.le_of_ble_eq_true rfl, Nat.le_of_ble_eq_true rfl⟩ ⟨(Nat.le_of_ble_eq_true rfl), (Nat.le_of_ble_eq_true rfl)⟩ hl.1 rfl rfl (Nat.le_of_ble_eq_true rfl) dL_over_77) hW (fun r_77 n_77 ad_77 I_77 L_77 R_77 H locs hp hW => ?_)
  obtain ⟨hz, rfl, rfl, hA, hF⟩ := PR_use hp
  have hG := fr_t hF hG
  have hz : r_77 = nI (w (4 * 6 + t)) := hz.trans (aW1 (S := ((w, K, ro), hc, hi, sv, pn, ch)) (f := 4) (t := t) (by first | omega | assumption) (by first | omega | assumption))
  subst hz
  refine q_i2l hx hb dL_over_80 (by first | omega | exact Nat.lt_of_le_of_lt (hw3 _) (by decide) | exact Nat.lt_of_lt_of_le (hr4 _) (by decide) | exact Nat.lt_of_le_of_lt (bp_le _) (by decide) | assumption) ?_
  refine q_lmul hx hb dL_over_81 ?_
  refine q_ladd hx hb dL_over_82 ?_
  refine lv_iload hx hb dL_over_83 (lv_at hl 0 rfl) ?_
  refine q_i2l hx hb dL_over_85 (by first | omega | exact Nat.lt_of_le_of_lt (hw3 _) (by decide) | exact Nat.lt_of_lt_of_le (hr4 _) (by decide) | exact Nat.lt_of_le_of_lt (bp_le _) (by decide) | assumption) ?_
  refine lv_aload_n hx hb dL_over_86 rfl (lv_at hl 3 rfl) ?_
  refine q_ic 1 hx hb dL_over_87 (by decide) ?_
  refine q_ic 5 hx hb dL_over_88 (by decide) ?_
  refine lv_iload_n hx hb dL_over_89 rfl (lv_at hl 5 rfl) ?_
  refine q_kI2 (q_rV (As := [.int (nI 1), .int (nI 5), .int (nI (t))]) (rest := [.long (lN (w (f * 6 + 5))), .long (lN ((w (f * 6 + t)) + ((w (f * 6 + 4)) * (w (4 * 6 + t)))))]) (x := 0) hC hW mw_X5_weight gw_156 (k_weight l G n ad H.size I_77 L_77 R_77 (nI 1) (nI 5) (nI t) w K ro hc hi sv pn ch hA) (by omega) (ct_o5 kd_0) rfl ⟨rfl, rfl⟩ ⟨Nat.le_of_ble_eq_true rfl, Nat.le_of_ble_eq_true rfl⟩ ⟨(Nat.le_of_ble_eq_true rfl), (Nat.le_of_ble_eq_true rfl)⟩ hl.1 rfl rfl (Nat.le_of_ble_eq_true rfl) dL_over_90) hW (fun r_90 n_90 ad_90 I_90 L_90 R_90 H locs hp hW => ?_)
  obtain ⟨hz, rfl, rfl, hA, hF⟩ := PR_use hp
  have hG := fr_t hF hG
  have hz : r_90 = nI (w (5 * 6 + t)) := hz.trans (aW1 (S := ((w, K, ro), hc, hi, sv, pn, ch)) (f := 5) (t := t) (by first | omega | assumption) (by first | omega | assumption))
  subst hz
  refine q_i2l hx hb dL_over_93 (by first | omega | exact Nat.lt_of_le_of_lt (hw3 _) (by decide) | exact Nat.lt_of_lt_of_le (hr4 _) (by decide) | exact Nat.lt_of_le_of_lt (bp_le _) (by decide) | assumption) ?_
  refine q_lmul hx hb dL_over_94 ?_
  refine q_ladd hx hb dL_over_95 ?_
  refine lv_iload hx hb dL_over_96 (lv_at hl 1 rfl) ?_
  refine q_i2l hx hb dL_over_98 (by first | omega | exact Nat.lt_of_le_of_lt (hw3 _) (by decide) | exact Nat.lt_of_lt_of_le (hr4 _) (by decide) | exact Nat.lt_of_le_of_lt (bp_le _) (by decide) | assumption) ?_
  refine lv_aload_n hx hb dL_over_99 rfl (lv_at hl 3 rfl) ?_
  refine q_ic 1 hx hb dL_over_100 (by decide) ?_
  refine q_ic 4 hx hb dL_over_101 (by decide) ?_
  refine q_ic 5 hx hb dL_over_102 (by decide) ?_
  refine q_kI2 (q_rV (As := [.int (nI 1), .int (nI 4), .int (nI 5)]) (rest := [.long (lN (w (f * 6 + 4))), .long (lN (((w (f * 6 + t)) + ((w (f * 6 + 4)) * (w (4 * 6 + t)))) + ((w (f * 6 + 5)) * (w (5 * 6 + t)))))]) (x := 0) hC hW mw_X5_weight gw_156 (k_weight l G n ad H.size I_90 L_90 R_90 (nI 1) (nI 4) (nI 5) w K ro hc hi sv pn ch hA) (by omega) (ct_o5 kd_0) rfl ⟨rfl, rfl⟩ ⟨Nat.le_of_ble_eq_true rfl, Nat.le_of_ble_eq_true rfl⟩ ⟨(Nat.le_of_ble_eq_true rfl), (Nat.le_of_ble_eq_true rfl)⟩ hl.1 rfl rfl (Nat.le_of_ble_eq_true rfl) dL_over_103) hW (fun r_103 n_103 ad_103 I_103 L_103 R_103 H locs hp hW => ?_)
  obtain ⟨hz, rfl, rfl, hA, hF⟩ := PR_use hp
  have hG := fr_t hF hG
  have hz : r_103 = nI (w (4 * 6 + 5)) := hz.trans (aW1 (S := ((w, K, ro), hc, hi, sv, pn, ch)) (f := 4) (t := 5) (by first | omega | assumption) (by first | omega | assumption))
  subst hz
  refine q_i2l hx hb dL_over_106 (by first | omega | exact Nat.lt_of_le_of_lt (hw3 _) (by decide) | exact Nat.lt_of_lt_of_le (hr4 _) (by decide) | exact Nat.lt_of_le_of_lt (bp_le _) (by decide) | assumption) ?_
  refine q_lmul hx hb dL_over_107 ?_
  refine lv_aload_n hx hb dL_over_108 rfl (lv_at hl 3 rfl) ?_
  refine q_ic 1 hx hb dL_over_109 (by decide) ?_
  refine q_ic 5 hx hb dL_over_110 (by decide) ?_
  refine lv_iload_n hx hb dL_over_111 rfl (lv_at hl 5 rfl) ?_
  refine q_kI2 (q_rV (As := [.int (nI 1), .int (nI 5), .int (nI (t))]) (rest := [.long (lN ((w (f * 6 + 4)) * (w (4 * 6 + 5)))), .long (lN (((w (f * 6 + t)) + ((w (f * 6 + 4)) * (w (4 * 6 + t)))) + ((w (f * 6 + 5)) * (w (5 * 6 + t)))))]) (x := 0) hC hW mw_X5_weight gw_156 (k_weight l G n ad H.size I_103 L_103 R_103 (nI 1) (nI 5) (nI t) w K ro hc hi sv pn ch hA) (by omega) (ct_o5 kd_0) rfl ⟨rfl, rfl⟩ ⟨Nat.le_of_ble_eq_true rfl, Nat.le_of_ble_eq_true rfl⟩ ⟨(Nat.le_of_ble_eq_true rfl), (Nat.le_of_ble_eq_true rfl)⟩ hl.1 rfl rfl (Nat.le_of_ble_eq_true rfl) dL_over_112) hW (fun r_112 n_112 ad_112 I_112 L_112 R_112 H locs hp hW => ?_)
  obtain ⟨hz, rfl, rfl, hA, hF⟩ := PR_use hp
  have hG := fr_t hF hG
  have hz : r_112 = nI (w (5 * 6 + t)) := hz.trans (aW1 (S := ((w, K, ro), hc, hi, sv, pn, ch)) (f := 5) (t := t) (by first | omega | assumption) (by first | omega | assumption))
  subst hz
  refine q_i2l hx hb dL_over_115 (by first | omega | exact Nat.lt_of_le_of_lt (hw3 _) (by decide) | exact Nat.lt_of_lt_of_le (hr4 _) (by decide) | exact Nat.lt_of_le_of_lt (bp_le _) (by decide) | assumption) ?_
  refine q_lmul hx hb dL_over_116 ?_
  refine q_ladd hx hb dL_over_117 ?_
  exact q_lret2 hC hW hr hlk0 (PRl_q hA hG) dL_over_118
set_option maxRecDepth 100000 in
set_option maxHeartbeats 4000000 in
theorem k_over6 (l : Launch) (G : Gx) (n : Nat) (ad : Nat → Nat) (sz : Nat) (I : Ic) (L : Lc) (R : Rc) (t : Nat) (w : Nat → Nat) (K : Nat) (ro : Nat → Nat) (hc : Nat) (hi : Nat → CM) (sv : Nat → Option CM) (pn : Nat) (ch : Nat → Nat) (hA : InvA n I L R ((w, K, ro), hc, hi, sv, pn, ch)) (ht : t < 4) : Met l yL_over (Cond.code yL_over cL_over 6 (some .long) :: GW) ({ frames := 7, cells := 0, slots := 0, locals := 252 } : Room) (qPre G n ad sz I L R [.ref (ad 0), .int (-1), .int (nI (t))]) (qL2 G (qA n ad sz) (fun z u => PRl n ad I L R (lN (ov w 6 t), ((w, K, ro), hc, hi, sv, pn, ch)) z u)) 0 0 (qA n ad sz) := by
  refine q_met (by decide) (Nat.le_of_ble_eq_true rfl) ?_
  intro p_ e_ s m_ below meth c_ hC hr hlk0 hin hsz hW ls hl
  subst hsz
  have hC : CallFix p_ m_ c_ cL_over 6 s ([.ref (ad 0), .int (-1), .int (nI (t))] : List Value).toArray GW "CoinRowsLaw" := hC
  have hx := hC.1
  have hb := hC.2.1
  have hw : Wok w := hA.2.2.1.2.2.2.2.1
  have hw3 : ∀ i, w i ≤ 3 := hw.1
  have hk6 : K ≤ 6 := hA.2.2.1.2.2.2.1
  have hr4 : ∀ j, ro j < 4 := hA.2.2.1.2.2.2.2.2
  have hn : 71 ≤ n := hA.1
  have hT63 : Sx' w K ro K 6 < 2 ^ 63 := Nat.lt_of_le_of_lt (Sx_b hw K K 6 hk6) (by decide)
  have hC31 : Cx' w K ro K 6 < 2 ^ 31 := Nat.lt_of_le_of_lt (Cx_b hw K K 6 hk6) (by decide)
  have hG : Fr7 I I L L R R := fr_0
  have hl : lv_has ls 6 [(0, .ref (ad 0)), (1, .int (-1)), (2, .int (nI (t)))] := hl
  refine lv_iload_n hx hb dL_over_0 rfl (lv_at hl 1 rfl) ?_
  refine lv_if_ge (tgt := 14) hx hb dL_over_1 (by decide) (fun c_1 => absurd c_1 (by decide)) (fun c_1 => ?_)
  refine lv_aload_n hx hb dL_over_4 rfl (lv_at hl 0 rfl) ?_
  refine q_ic 0 hx hb dL_over_5 (by decide) ?_
  refine lv_iload_n hx hb dL_over_6 rfl (lv_at hl 2 rfl) ?_
  refine q_ic 0 hx hb dL_over_7 (by decide) ?_
  refine q_kI2 (q_rV (As := [.int (nI 0), .int (nI (t)), .int (nI 0)]) (rest := []) (x := 0) hC hW mw_X5_weight gw_156 (k_weight l G n ad s.heap.size I L R (nI 0) (nI t) (nI 0) w K ro hc hi sv pn ch hA) (by omega) (ct_o5 kd_0) rfl ⟨rfl, rfl⟩ ⟨Nat.le_of_ble_eq_true rfl, Nat.le_of_ble_eq_true rfl⟩ ⟨(Nat.le_of_ble_eq_true rfl), (Nat.le_of_ble_eq_true rfl)⟩ hl.1 rfl rfl (Nat.le_of_ble_eq_true rfl) dL_over_8) hW (fun r_8 n_8 ad_8 I_8 L_8 R_8 H locs hp hW => ?_)
  obtain ⟨hz, rfl, rfl, hA, hF⟩ := PR_use hp
  have hG := fr_t hF hG
  have hz : r_8 = nI (w (6 * 6 + t)) := hz.trans (aW0 (S := ((w, K, ro), hc, hi, sv, pn, ch)) (c := t) (by first | omega | assumption))
  subst hz
  refine lv_goto (tgt := 21) hx hb dL_over_11 (by decide) ?_
  refine lv_istore_n (lv' := [(3, .int (nI (w (6 * 6 + t)))), (0, .ref (ad 0)), (1, .int (-1)), (2, .int (nI (t)))]) hx hb dL_over_21 rfl hl (by decide) rfl (fun ls hl => ?_)
  refine lv_iload_n hx hb dL_over_22 rfl (lv_at hl 2 rfl) ?_
  refine lv_if_ge (tgt := 36) hx hb dL_over_23 (by decide) (fun c_23 => absurd c_23 (by decide)) (fun c_23 => ?_)
  refine lv_aload_n hx hb dL_over_26 rfl (lv_at hl 1 rfl) ?_
  refine q_ic 0 hx hb dL_over_27 (by decide) ?_
  refine q_ic 4 hx hb dL_over_28 (by decide) ?_
  refine q_ic 0 hx hb dL_over_29 (by decide) ?_
  refine q_kI2 (q_rV (As := [.int (nI 0), .int (nI 4), .int (nI 0)]) (rest := []) (x := 0) hC hW mw_X5_weight gw_156 (k_weight l G n ad H.size I_8 L_8 R_8 (nI 0) (nI 4) (nI 0) w K ro hc hi sv pn ch hA) (by omega) (ct_o5 kd_0) rfl ⟨rfl, rfl⟩ ⟨Nat.le_of_ble_eq_true rfl, Nat.le_of_ble_eq_true rfl⟩ ⟨(Nat.le_of_ble_eq_true rfl), (Nat.le_of_ble_eq_true rfl)⟩ hl.1 rfl rfl (Nat.le_of_ble_eq_true rfl) dL_over_30) hW (fun r_30 n_30 ad_30 I_30 L_30 R_30 H locs hp hW => ?_)
  obtain ⟨hz, rfl, rfl, hA, hF⟩ := PR_use hp
  have hG := fr_t hF hG
  have hz : r_30 = nI (w (6 * 6 + 4)) := hz.trans (aW0 (S := ((w, K, ro), hc, hi, sv, pn, ch)) (c := 4) (by first | omega | assumption))
  subst hz
  refine lv_goto (tgt := 43) hx hb dL_over_33 (by decide) ?_
  refine lv_istore (lv' := [(4, .int (nI (w (6 * 6 + 4)))), (3, .int (nI (w (6 * 6 + t)))), (0, .ref (ad 0)), (1, .int (-1)), (2, .int (nI (t)))]) hx hb dL_over_43 hl (by decide) rfl (fun ls hl => ?_)
  refine lv_iload_n hx hb dL_over_45 rfl (lv_at hl 3 rfl) ?_
  refine lv_if_ge (tgt := 59) hx hb dL_over_46 (by decide) (fun c_46 => absurd c_46 (by decide)) (fun c_46 => ?_)
  refine lv_aload_n hx hb dL_over_49 rfl (lv_at hl 2 rfl) ?_
  refine q_ic 0 hx hb dL_over_50 (by decide) ?_
  refine q_ic 5 hx hb dL_over_51 (by decide) ?_
  refine q_ic 0 hx hb dL_over_52 (by decide) ?_
  refine q_kI2 (q_rV (As := [.int (nI 0), .int (nI 5), .int (nI 0)]) (rest := []) (x := 0) hC hW mw_X5_weight gw_156 (k_weight l G n ad H.size I_30 L_30 R_30 (nI 0) (nI 5) (nI 0) w K ro hc hi sv pn ch hA) (by omega) (ct_o5 kd_0) rfl ⟨rfl, rfl⟩ ⟨Nat.le_of_ble_eq_true rfl, Nat.le_of_ble_eq_true rfl⟩ ⟨(Nat.le_of_ble_eq_true rfl), (Nat.le_of_ble_eq_true rfl)⟩ hl.1 rfl rfl (Nat.le_of_ble_eq_true rfl) dL_over_53) hW (fun r_53 n_53 ad_53 I_53 L_53 R_53 H locs hp hW => ?_)
  obtain ⟨hz, rfl, rfl, hA, hF⟩ := PR_use hp
  have hG := fr_t hF hG
  have hz : r_53 = nI (w (6 * 6 + 5)) := hz.trans (aW0 (S := ((w, K, ro), hc, hi, sv, pn, ch)) (c := 5) (by first | omega | assumption))
  subst hz
  refine lv_goto (tgt := 66) hx hb dL_over_56 (by decide) ?_
  refine lv_istore (lv' := [(5, .int (nI (w (6 * 6 + 5)))), (4, .int (nI (w (6 * 6 + 4)))), (3, .int (nI (w (6 * 6 + t)))), (0, .ref (ad 0)), (1, .int (-1)), (2, .int (nI (t)))]) hx hb dL_over_66 hl (by decide) rfl (fun ls hl => ?_)
  refine lv_iload_n hx hb dL_over_68 rfl (lv_at hl 2 rfl) ?_
  refine q_i2l hx hb dL_over_69 (by first | omega | exact Nat.lt_of_le_of_lt (hw3 _) (by decide) | exact Nat.lt_of_lt_of_le (hr4 _) (by decide) | exact Nat.lt_of_le_of_lt (bp_le _) (by decide) | assumption) ?_
  refine lv_iload hx hb dL_over_70 (lv_at hl 1 rfl) ?_
  refine q_i2l hx hb dL_over_72 (by first | omega | exact Nat.lt_of_le_of_lt (hw3 _) (by decide) | exact Nat.lt_of_lt_of_le (hr4 _) (by decide) | exact Nat.lt_of_le_of_lt (bp_le _) (by decide) | assumption) ?_
  refine lv_aload_n hx hb dL_over_73 rfl (lv_at hl 3 rfl) ?_
  refine q_ic 1 hx hb dL_over_74 (by decide) ?_
  refine q_ic 4 hx hb dL_over_75 (by decide) ?_
  refine lv_iload_n hx hb dL_over_76 rfl (lv_at hl 5 rfl) ?_
  refine q_kI2 (q_rV (As := [.int (nI 1), .int (nI 4), .int (nI (t))]) (rest := [.long (lN (w (6 * 6 + 4))), .long (lN (w (6 * 6 + t)))]) (x := 0) hC hW mw_X5_weight gw_156 (k_weight l G n ad H.size I_53 L_53 R_53 (nI 1) (nI 4) (nI t) w K ro hc hi sv pn ch hA) (by omega) (ct_o5 kd_0) rfl ⟨rfl, rfl⟩ ⟨Nat.le_of_ble_eq_true rfl, Nat.le_of_ble_eq_true rfl⟩ ⟨(Nat.le_of_ble_eq_true rfl), (Nat.le_of_ble_eq_true rfl)⟩ hl.1 rfl rfl (Nat.le_of_ble_eq_true rfl) dL_over_77) hW (fun r_77 n_77 ad_77 I_77 L_77 R_77 H locs hp hW => ?_)
  obtain ⟨hz, rfl, rfl, hA, hF⟩ := PR_use hp
  have hG := fr_t hF hG
  have hz : r_77 = nI (w (4 * 6 + t)) := hz.trans (aW1 (S := ((w, K, ro), hc, hi, sv, pn, ch)) (f := 4) (t := t) (by first | omega | assumption) (by first | omega | assumption))
  subst hz
  refine q_i2l hx hb dL_over_80 (by first | omega | exact Nat.lt_of_le_of_lt (hw3 _) (by decide) | exact Nat.lt_of_lt_of_le (hr4 _) (by decide) | exact Nat.lt_of_le_of_lt (bp_le _) (by decide) | assumption) ?_
  refine q_lmul hx hb dL_over_81 ?_
  refine q_ladd hx hb dL_over_82 ?_
  refine lv_iload hx hb dL_over_83 (lv_at hl 0 rfl) ?_
  refine q_i2l hx hb dL_over_85 (by first | omega | exact Nat.lt_of_le_of_lt (hw3 _) (by decide) | exact Nat.lt_of_lt_of_le (hr4 _) (by decide) | exact Nat.lt_of_le_of_lt (bp_le _) (by decide) | assumption) ?_
  refine lv_aload_n hx hb dL_over_86 rfl (lv_at hl 3 rfl) ?_
  refine q_ic 1 hx hb dL_over_87 (by decide) ?_
  refine q_ic 5 hx hb dL_over_88 (by decide) ?_
  refine lv_iload_n hx hb dL_over_89 rfl (lv_at hl 5 rfl) ?_
  refine q_kI2 (q_rV (As := [.int (nI 1), .int (nI 5), .int (nI (t))]) (rest := [.long (lN (w (6 * 6 + 5))), .long (lN ((w (6 * 6 + t)) + ((w (6 * 6 + 4)) * (w (4 * 6 + t)))))]) (x := 0) hC hW mw_X5_weight gw_156 (k_weight l G n ad H.size I_77 L_77 R_77 (nI 1) (nI 5) (nI t) w K ro hc hi sv pn ch hA) (by omega) (ct_o5 kd_0) rfl ⟨rfl, rfl⟩ ⟨Nat.le_of_ble_eq_true rfl, Nat.le_of_ble_eq_true rfl⟩ ⟨(Nat.le_of_ble_eq_true rfl), (Nat.le_of_ble_eq_true rfl)⟩ hl.1 rfl rfl (Nat.le_of_ble_eq_true rfl) dL_over_90) hW (fun r_90 n_90 ad_90 I_90 L_90 R_90 H locs hp hW => ?_)
  obtain ⟨hz, rfl, rfl, hA, hF⟩ := PR_use hp
  have hG := fr_t hF hG
  have hz : r_90 = nI (w (5 * 6 + t)) := hz.trans (aW1 (S := ((w, K, ro), hc, hi, sv, pn, ch)) (f := 5) (t := t) (by first | omega | assumption) (by first | omega | assumption))
  subst hz
  refine q_i2l hx hb dL_over_93 (by first | omega | exact Nat.lt_of_le_of_lt (hw3 _) (by decide) | exact Nat.lt_of_lt_of_le (hr4 _) (by decide) | exact Nat.lt_of_le_of_lt (bp_le _) (by decide) | assumption) ?_
  refine q_lmul hx hb dL_over_94 ?_
  refine q_ladd hx hb dL_over_95 ?_
  refine lv_iload hx hb dL_over_96 (lv_at hl 1 rfl) ?_
  refine q_i2l hx hb dL_over_98 (by first | omega | exact Nat.lt_of_le_of_lt (hw3 _) (by decide) | exact Nat.lt_of_lt_of_le (hr4 _) (by decide) | exact Nat.lt_of_le_of_lt (bp_le _) (by decide) | assumption) ?_
  refine lv_aload_n hx hb dL_over_99 rfl (lv_at hl 3 rfl) ?_
  refine q_ic 1 hx hb dL_over_100 (by decide) ?_
  refine q_ic 4 hx hb dL_over_101 (by decide) ?_
  refine q_ic 5 hx hb dL_over_102 (by decide) ?_
  refine q_kI2 (q_rV (As := [.int (nI 1), .int (nI 4), .int (nI 5)]) (rest := [.long (lN (w (6 * 6 + 4))), .long (lN (((w (6 * 6 + t)) + ((w (6 * 6 + 4)) * (w (4 * 6 + t)))) + ((w (6 * 6 + 5)) * (w (5 * 6 + t)))))]) (x := 0) hC hW mw_X5_weight gw_156 (k_weight l G n ad H.size I_90 L_90 R_90 (nI 1) (nI 4) (nI 5) w K ro hc hi sv pn ch hA) (by omega) (ct_o5 kd_0) rfl ⟨rfl, rfl⟩ ⟨Nat.le_of_ble_eq_true rfl, Nat.le_of_ble_eq_true rfl⟩ ⟨(Nat.le_of_ble_eq_true rfl), (Nat.le_of_ble_eq_true rfl)⟩ hl.1 rfl rfl (Nat.le_of_ble_eq_true rfl) dL_over_103) hW (fun r_103 n_103 ad_103 I_103 L_103 R_103 H locs hp hW => ?_)
  obtain ⟨hz, rfl, rfl, hA, hF⟩ := PR_use hp
  have hG := fr_t hF hG
  have hz : r_103 = nI (w (4 * 6 + 5)) := hz.trans (aW1 (S := ((w, K, ro), hc, hi, sv, pn, ch)) (f := 4) (t := 5) (by first | omega | assumption) (by first | omega | assumption))
  subst hz
  refine q_i2l hx hb dL_over_106 (by first | omega | exact Nat.lt_of_le_of_lt (hw3 _) (by decide) | exact Nat.lt_of_lt_of_le (hr4 _) (by decide) | exact Nat.lt_of_le_of_lt (bp_le _) (by decide) | assumption) ?_
  refine q_lmul hx hb dL_over_107 ?_
  refine lv_aload_n hx hb dL_over_108 rfl (lv_at hl 3 rfl) ?_
  refine q_ic 1 hx hb dL_over_109 (by decide) ?_
  refine q_ic 5 hx hb dL_over_110 (by decide) ?_
  refine lv_iload_n hx hb dL_over_111 rfl (lv_at hl 5 rfl) ?_
  refine q_kI2 (q_rV (As := [.int (nI 1), .int (nI 5), .int (nI (t))]) (rest := [.long (lN ((w (6 * 6 + 4)) * (w (4 * 6 + 5)))), .long (lN (((w (6 * 6 + t)) + ((w (6 * 6 + 4)) * (w (4 * 6 + t)))) + ((w (6 * 6 + 5)) * (w (5 * 6 + t)))))]) (x := 0) hC hW mw_X5_weight gw_156 (k_weight l G n ad H.size I_103 L_103 R_103 (nI 1) (nI 5) (nI t) w K ro hc hi sv pn ch hA) (by omega) (ct_o5 kd_0) rfl ⟨rfl, rfl⟩ ⟨Nat.le_of_ble_eq_true rfl, Nat.le_of_ble_eq_true rfl⟩ ⟨(Nat.le_of_ble_eq_true rfl), (Nat.le_of_ble_eq_true rfl)⟩ hl.1 rfl rfl (Nat.le_of_ble_eq_true rfl) dL_over_112) hW (fun r_112 n_112 ad_112 I_112 L_112 R_112 H locs hp hW => ?_)
  obtain ⟨hz, rfl, rfl, hA, hF⟩ := PR_use hp
  have hG := fr_t hF hG
  have hz : r_112 = nI (w (5 * 6 + t)) := hz.trans (aW1 (S := ((w, K, ro), hc, hi, sv, pn, ch)) (f := 5) (t := t) (by first | omega | assumption) (by first | omega | assumption))
  subst hz
  refine q_i2l hx hb dL_over_115 (by first | omega | exact Nat.lt_of_le_of_lt (hw3 _) (by decide) | exact Nat.lt_of_lt_of_le (hr4 _) (by decide) | exact Nat.lt_of_le_of_lt (bp_le _) (by decide) | assumption) ?_
  refine q_lmul hx hb dL_over_116 ?_
  refine q_ladd hx hb dL_over_117 ?_
  exact q_lret2 hC hW hr hlk0 (PRl_q hA hG) dL_over_118
set_option maxRecDepth 100000 in
set_option maxHeartbeats 4000000 in
theorem k_manners (l : Launch) (G : Gx) (n : Nat) (ad : Nat → Nat) (sz : Nat) (I : Ic) (L : Lc) (R : Rc) (f t : Nat) (w : Nat → Nat) (K : Nat) (ro : Nat → Nat) (hc : Nat) (hi : Nat → CM) (sv : Nat → Option CM) (pn : Nat) (ch : Nat → Nat) (hA : InvA n I L R ((w, K, ro), hc, hi, sv, pn, ch)) (hf : f < 4) (ht : t < 4) : Met l yL_manners (Cond.code yL_manners cL_manners 7 (some .int) :: GW) ({ frames := 7, cells := 0, slots := 0, locals := 252 } : Room) (qPre G n ad sz I L R [.ref (ad 0), .int (nI (f)), .int (nI (t))]) (qI2 G (qA n ad sz) (fun z u => PR n ad I L R (nI (ov (wb w) f t), ((w, K, ro), hc, hi, sv, pn, ch)) z u)) 0 0 (qA n ad sz) := by
  refine q_met (by decide) (Nat.le_of_ble_eq_true rfl) ?_
  intro p_ e_ s m_ below meth c_ hC hr hlk0 hin hsz hW ls hl
  subst hsz
  have hC : CallFix p_ m_ c_ cL_manners 7 s ([.ref (ad 0), .int (nI (f)), .int (nI (t))] : List Value).toArray GW "CoinRowsLaw" := hC
  have hx := hC.1
  have hb := hC.2.1
  have hw : Wok w := hA.2.2.1.2.2.2.2.1
  have hw3 : ∀ i, w i ≤ 3 := hw.1
  have hk6 : K ≤ 6 := hA.2.2.1.2.2.2.1
  have hr4 : ∀ j, ro j < 4 := hA.2.2.1.2.2.2.2.2
  have hn : 71 ≤ n := hA.1
  have hT63 : Sx' w K ro K 6 < 2 ^ 63 := Nat.lt_of_le_of_lt (Sx_b hw K K 6 hk6) (by decide)
  have hC31 : Cx' w K ro K 6 < 2 ^ 31 := Nat.lt_of_le_of_lt (Cx_b hw K K 6 hk6) (by decide)
  have hG : Fr7 I I L L R R := fr_0
  have hl : lv_has ls 7 [(0, .ref (ad 0)), (1, .int (nI (f))), (2, .int (nI (t)))] := hl
  refine lv_iload_n hx hb dL_manners_0 rfl (lv_at hl 1 rfl) ?_
  refine lv_if_ge (tgt := 14) hx hb dL_manners_1 (by decide) (fun c_1 => ?_) (fun c_1 => absurd (Int32.not_lt.mp (nI_pos (by first | omega | assumption))) c_1)
  refine lv_aload_n hx hb dL_manners_14 rfl (lv_at hl 0 rfl) ?_
  refine q_ic 1 hx hb dL_manners_15 (by decide) ?_
  refine lv_iload_n hx hb dL_manners_16 rfl (lv_at hl 1 rfl) ?_
  refine lv_iload_n hx hb dL_manners_17 rfl (lv_at hl 2 rfl) ?_
  refine q_kI2 (q_rV (As := [.int (nI 1), .int (nI (f)), .int (nI (t))]) (rest := []) (x := 0) hC hW mw_X5_weight gw_156 (k_weight l G n ad s.heap.size I L R (nI 1) (nI f) (nI t) w K ro hc hi sv pn ch hA) (by omega) (ct_o5 kd_0) rfl ⟨rfl, rfl⟩ ⟨Nat.le_of_ble_eq_true rfl, Nat.le_of_ble_eq_true rfl⟩ ⟨(Nat.le_of_ble_eq_true rfl), (Nat.le_of_ble_eq_true rfl)⟩ hl.1 rfl rfl (Nat.le_of_ble_eq_true rfl) dL_manners_18) hW (fun r_18 n_18 ad_18 I_18 L_18 R_18 H locs hp hW => ?_)
  obtain ⟨hz, rfl, rfl, hA, hF⟩ := PR_use hp
  have hG := fr_t hF hG
  have hz : r_18 = nI (w (f * 6 + t)) := hz.trans (aW1 (S := ((w, K, ro), hc, hi, sv, pn, ch)) (f := f) (t := t) (by first | omega | assumption) (by first | omega | assumption))
  subst hz
  refine q_bple (t := 28) hx hb dL_manners_21 dL_manners_24 dL_manners_25 dL_manners_28 (by decide) (by decide) (by first | omega | exact Nat.lt_of_le_of_lt (hw3 _) (by decide) | exact Nat.lt_of_lt_of_le (hr4 _) (by decide) | exact Nat.lt_of_le_of_lt (bp_le _) (by decide) | assumption) ?_
  refine lv_istore_n (lv' := [(3, .int (nI (bp (w (f * 6 + t))))), (0, .ref (ad 0)), (1, .int (nI (f))), (2, .int (nI (t)))]) hx hb dL_manners_29 rfl hl (by decide) rfl (fun ls hl => ?_)
  refine lv_iload_n hx hb dL_manners_30 rfl (lv_at hl 2 rfl) ?_
  refine lv_if_ge (tgt := 44) hx hb dL_manners_31 (by decide) (fun c_31 => ?_) (fun c_31 => absurd (Int32.not_lt.mp (nI_pos (by first | omega | assumption))) c_31)
  refine lv_aload_n hx hb dL_manners_44 rfl (lv_at hl 1 rfl) ?_
  refine q_ic 1 hx hb dL_manners_45 (by decide) ?_
  refine lv_iload_n hx hb dL_manners_46 rfl (lv_at hl 2 rfl) ?_
  refine q_ic 4 hx hb dL_manners_47 (by decide) ?_
  refine q_kI2 (q_rV (As := [.int (nI 1), .int (nI (f)), .int (nI 4)]) (rest := []) (x := 0) hC hW mw_X5_weight gw_156 (k_weight l G n ad H.size I_18 L_18 R_18 (nI 1) (nI f) (nI 4) w K ro hc hi sv pn ch hA) (by omega) (ct_o5 kd_0) rfl ⟨rfl, rfl⟩ ⟨Nat.le_of_ble_eq_true rfl, Nat.le_of_ble_eq_true rfl⟩ ⟨(Nat.le_of_ble_eq_true rfl), (Nat.le_of_ble_eq_true rfl)⟩ hl.1 rfl rfl (Nat.le_of_ble_eq_true rfl) dL_manners_48) hW (fun r_48 n_48 ad_48 I_48 L_48 R_48 H locs hp hW => ?_)
  obtain ⟨hz, rfl, rfl, hA, hF⟩ := PR_use hp
  have hG := fr_t hF hG
  have hz : r_48 = nI (w (f * 6 + 4)) := hz.trans (aW1 (S := ((w, K, ro), hc, hi, sv, pn, ch)) (f := f) (t := 4) (by first | omega | assumption) (by first | omega | assumption))
  subst hz
  refine q_bple (t := 58) hx hb dL_manners_51 dL_manners_54 dL_manners_55 dL_manners_58 (by decide) (by decide) (by first | omega | exact Nat.lt_of_le_of_lt (hw3 _) (by decide) | exact Nat.lt_of_lt_of_le (hr4 _) (by decide) | exact Nat.lt_of_le_of_lt (bp_le _) (by decide) | assumption) ?_
  refine lv_istore (lv' := [(4, .int (nI (bp (w (f * 6 + 4))))), (3, .int (nI (bp (w (f * 6 + t))))), (0, .ref (ad 0)), (1, .int (nI (f))), (2, .int (nI (t)))]) hx hb dL_manners_59 hl (by decide) rfl (fun ls hl => ?_)
  refine lv_iload_n hx hb dL_manners_61 rfl (lv_at hl 3 rfl) ?_
  refine lv_if_ge (tgt := 75) hx hb dL_manners_62 (by decide) (fun c_62 => ?_) (fun c_62 => absurd (Int32.not_lt.mp (nI_pos (by first | omega | assumption))) c_62)
  refine lv_aload_n hx hb dL_manners_75 rfl (lv_at hl 2 rfl) ?_
  refine q_ic 1 hx hb dL_manners_76 (by decide) ?_
  refine lv_iload_n hx hb dL_manners_77 rfl (lv_at hl 3 rfl) ?_
  refine q_ic 5 hx hb dL_manners_78 (by decide) ?_
  refine q_kI2 (q_rV (As := [.int (nI 1), .int (nI (f)), .int (nI 5)]) (rest := []) (x := 0) hC hW mw_X5_weight gw_156 (k_weight l G n ad H.size I_48 L_48 R_48 (nI 1) (nI f) (nI 5) w K ro hc hi sv pn ch hA) (by omega) (ct_o5 kd_0) rfl ⟨rfl, rfl⟩ ⟨Nat.le_of_ble_eq_true rfl, Nat.le_of_ble_eq_true rfl⟩ ⟨(Nat.le_of_ble_eq_true rfl), (Nat.le_of_ble_eq_true rfl)⟩ hl.1 rfl rfl (Nat.le_of_ble_eq_true rfl) dL_manners_79) hW (fun r_79 n_79 ad_79 I_79 L_79 R_79 H locs hp hW => ?_)
  obtain ⟨hz, rfl, rfl, hA, hF⟩ := PR_use hp
  have hG := fr_t hF hG
  have hz : r_79 = nI (w (f * 6 + 5)) := hz.trans (aW1 (S := ((w, K, ro), hc, hi, sv, pn, ch)) (f := f) (t := 5) (by first | omega | assumption) (by first | omega | assumption))
  subst hz
  refine q_bple (t := 89) hx hb dL_manners_82 dL_manners_85 dL_manners_86 dL_manners_89 (by decide) (by decide) (by first | omega | exact Nat.lt_of_le_of_lt (hw3 _) (by decide) | exact Nat.lt_of_lt_of_le (hr4 _) (by decide) | exact Nat.lt_of_le_of_lt (bp_le _) (by decide) | assumption) ?_
  refine lv_istore (lv' := [(5, .int (nI (bp (w (f * 6 + 5))))), (4, .int (nI (bp (w (f * 6 + 4))))), (3, .int (nI (bp (w (f * 6 + t))))), (0, .ref (ad 0)), (1, .int (nI (f))), (2, .int (nI (t)))]) hx hb dL_manners_90 hl (by decide) rfl (fun ls hl => ?_)
  refine lv_aload_n hx hb dL_manners_92 rfl (lv_at hl 3 rfl) ?_
  refine q_ic 1 hx hb dL_manners_93 (by decide) ?_
  refine q_ic 5 hx hb dL_manners_94 (by decide) ?_
  refine lv_iload_n hx hb dL_manners_95 rfl (lv_at hl 5 rfl) ?_
  refine q_kI2 (q_rV (As := [.int (nI 1), .int (nI 5), .int (nI (t))]) (rest := []) (x := 0) hC hW mw_X5_weight gw_156 (k_weight l G n ad H.size I_79 L_79 R_79 (nI 1) (nI 5) (nI t) w K ro hc hi sv pn ch hA) (by omega) (ct_o5 kd_0) rfl ⟨rfl, rfl⟩ ⟨Nat.le_of_ble_eq_true rfl, Nat.le_of_ble_eq_true rfl⟩ ⟨(Nat.le_of_ble_eq_true rfl), (Nat.le_of_ble_eq_true rfl)⟩ hl.1 rfl rfl (Nat.le_of_ble_eq_true rfl) dL_manners_96) hW (fun r_96 n_96 ad_96 I_96 L_96 R_96 H locs hp hW => ?_)
  obtain ⟨hz, rfl, rfl, hA, hF⟩ := PR_use hp
  have hG := fr_t hF hG
  have hz : r_96 = nI (w (5 * 6 + t)) := hz.trans (aW1 (S := ((w, K, ro), hc, hi, sv, pn, ch)) (f := 5) (t := t) (by first | omega | assumption) (by first | omega | assumption))
  subst hz
  refine q_bple (t := 106) hx hb dL_manners_99 dL_manners_102 dL_manners_103 dL_manners_106 (by decide) (by decide) (by first | omega | exact Nat.lt_of_le_of_lt (hw3 _) (by decide) | exact Nat.lt_of_lt_of_le (hr4 _) (by decide) | exact Nat.lt_of_le_of_lt (bp_le _) (by decide) | assumption) ?_
  refine lv_istore (lv' := [(6, .int (nI (bp (w (5 * 6 + t))))), (5, .int (nI (bp (w (f * 6 + 5))))), (4, .int (nI (bp (w (f * 6 + 4))))), (3, .int (nI (bp (w (f * 6 + t))))), (0, .ref (ad 0)), (1, .int (nI (f))), (2, .int (nI (t)))]) hx hb dL_manners_107 hl (by decide) rfl (fun ls hl => ?_)
  refine lv_iload_n hx hb dL_manners_109 rfl (lv_at hl 3 rfl) ?_
  refine q_bpeq (t := 117) hx hb dL_manners_110 dL_manners_113 dL_manners_114 dL_manners_117 (by decide) (by decide) (by first | omega | exact Nat.lt_of_le_of_lt (hw3 _) (by decide) | exact Nat.lt_of_lt_of_le (hr4 _) (by decide) | exact Nat.lt_of_le_of_lt (bp_le _) (by decide) | assumption) ?_
  refine lv_iload hx hb dL_manners_118 (lv_at hl 2 rfl) ?_
  refine q_ieq (tgt := 137) hx hb dL_manners_120 (by decide) (by first | omega | exact Nat.lt_of_le_of_lt (hw3 _) (by decide) | exact Nat.lt_of_lt_of_le (hr4 _) (by decide) | exact Nat.lt_of_le_of_lt (bp_le _) (by decide) | assumption) (fun c_120 => ?_) (fun c_120 => ?_)
  ·
    refine q_ic 0 hx hb dL_manners_137 (by decide) ?_
    refine q_iadd hx hb dL_manners_138 ?_
    refine lv_iload hx hb dL_manners_139 (lv_at hl 1 rfl) ?_
    refine q_ieq (tgt := 153) hx hb dL_manners_141 (by decide) (by first | omega | exact Nat.lt_of_le_of_lt (hw3 _) (by decide) | exact Nat.lt_of_lt_of_le (hr4 _) (by decide) | exact Nat.lt_of_le_of_lt (bp_le _) (by decide) | assumption) (fun c_141 => ?_) (fun c_141 => ?_)
    ·
      refine q_ic 0 hx hb dL_manners_153 (by decide) ?_
      refine q_iadd hx hb dL_manners_154 ?_
      refine lv_iload hx hb dL_manners_155 (lv_at hl 2 rfl) ?_
      refine q_ieq (tgt := 179) hx hb dL_manners_157 (by decide) (by first | omega | exact Nat.lt_of_le_of_lt (hw3 _) (by decide) | exact Nat.lt_of_lt_of_le (hr4 _) (by decide) | exact Nat.lt_of_le_of_lt (bp_le _) (by decide) | assumption) (fun c_157 => ?_) (fun c_157 => absurd c_157 (by have := c_120; omega))
      refine q_ic 0 hx hb dL_manners_179 (by decide) ?_
      refine q_iadd hx hb dL_manners_180 ?_
      refine q_top (v2 := .int (nI (ov (wb w) f t))) (congrArg (fun z => Value.int (nI z)) (by simp only [ov, wb, bp_bp, c_120, c_141] <;> omega)) ?_
      exact q_iret2 hC hW hr hlk0 (PR_q hA hG) dL_manners_181
    ·
      refine lv_iload hx hb dL_manners_144 (lv_at hl 0 rfl) ?_
      refine q_ieq (tgt := 153) hx hb dL_manners_146 (by decide) (by first | omega | exact Nat.lt_of_le_of_lt (hw3 _) (by decide) | exact Nat.lt_of_lt_of_le (hr4 _) (by decide) | exact Nat.lt_of_le_of_lt (bp_le _) (by decide) | assumption) (fun c_146 => ?_) (fun c_146 => ?_)
      ·
        refine q_ic 0 hx hb dL_manners_153 (by decide) ?_
        refine q_iadd hx hb dL_manners_154 ?_
        refine lv_iload hx hb dL_manners_155 (lv_at hl 2 rfl) ?_
        refine q_ieq (tgt := 179) hx hb dL_manners_157 (by decide) (by first | omega | exact Nat.lt_of_le_of_lt (hw3 _) (by decide) | exact Nat.lt_of_lt_of_le (hr4 _) (by decide) | exact Nat.lt_of_le_of_lt (bp_le _) (by decide) | assumption) (fun c_157 => ?_) (fun c_157 => absurd c_157 (by have := c_120; omega))
        refine q_ic 0 hx hb dL_manners_179 (by decide) ?_
        refine q_iadd hx hb dL_manners_180 ?_
        refine q_top (v2 := .int (nI (ov (wb w) f t))) (congrArg (fun z => Value.int (nI z)) (by simp only [ov, wb, bp_bp, c_120, (show bp (w (f * 6 + 5)) = 1 from by have h7 := bp_le ((w (f * 6 + 5))); omega), c_146] <;> omega)) ?_
        exact q_iret2 hC hW hr hlk0 (PR_q hA hG) dL_manners_181
      ·
        refine q_ic 1 hx hb dL_manners_149 (by decide) ?_
        refine lv_goto (tgt := 154) hx hb dL_manners_150 (by decide) ?_
        refine q_iadd hx hb dL_manners_154 ?_
        refine lv_iload hx hb dL_manners_155 (lv_at hl 2 rfl) ?_
        refine q_ieq (tgt := 179) hx hb dL_manners_157 (by decide) (by first | omega | exact Nat.lt_of_le_of_lt (hw3 _) (by decide) | exact Nat.lt_of_lt_of_le (hr4 _) (by decide) | exact Nat.lt_of_le_of_lt (bp_le _) (by decide) | assumption) (fun c_157 => ?_) (fun c_157 => absurd c_157 (by have := c_120; omega))
        refine q_ic 0 hx hb dL_manners_179 (by decide) ?_
        refine q_iadd hx hb dL_manners_180 ?_
        refine q_top (v2 := .int (nI (ov (wb w) f t))) (congrArg (fun z => Value.int (nI z)) (by simp only [ov, wb, bp_bp, c_120, (show bp (w (f * 6 + 5)) = 1 from by have h7 := bp_le ((w (f * 6 + 5))); omega), (show bp (w (5 * 6 + t)) = 1 from by have h7 := bp_le ((w (5 * 6 + t))); omega)] <;> omega)) ?_
        exact q_iret2 hC hW hr hlk0 (PR_q hA hG) dL_manners_181
  ·
    refine lv_aload_n hx hb dL_manners_123 rfl (lv_at hl 4 rfl) ?_
    refine q_ic 1 hx hb dL_manners_124 (by decide) ?_
    refine q_ic 4 hx hb dL_manners_125 (by decide) ?_
    refine lv_iload_n hx hb dL_manners_126 rfl (lv_at hl 6 rfl) ?_
    refine q_kI2 (q_rV (As := [.int (nI 1), .int (nI 4), .int (nI (t))]) (rest := [.int (nI (bp (bp (w (f * 6 + t)))))]) (x := 0) hC hW mw_X5_weight gw_156 (k_weight l G n ad H.size I_96 L_96 R_96 (nI 1) (nI 4) (nI t) w K ro hc hi sv pn ch hA) (by omega) (ct_o5 kd_0) rfl ⟨rfl, rfl⟩ ⟨Nat.le_of_ble_eq_true rfl, Nat.le_of_ble_eq_true rfl⟩ ⟨(Nat.le_of_ble_eq_true rfl), (Nat.le_of_ble_eq_true rfl)⟩ hl.1 rfl rfl (Nat.le_of_ble_eq_true rfl) dL_manners_127) hW (fun r_127 n_127 ad_127 I_127 L_127 R_127 H locs hp hW => ?_)
    obtain ⟨hz, rfl, rfl, hA, hF⟩ := PR_use hp
    have hG := fr_t hF hG
    have hz : r_127 = nI (w (4 * 6 + t)) := hz.trans (aW1 (S := ((w, K, ro), hc, hi, sv, pn, ch)) (f := 4) (t := t) (by first | omega | assumption) (by first | omega | assumption))
    subst hz
    refine q_ile (tgt := 137) hx hb dL_manners_130 (by decide) (by first | omega | exact Nat.lt_of_le_of_lt (hw3 _) (by decide) | exact Nat.lt_of_lt_of_le (hr4 _) (by decide) | exact Nat.lt_of_le_of_lt (bp_le _) (by decide) | assumption) (fun c_130 => ?_) (fun c_130 => ?_)
    ·
      refine q_ic 0 hx hb dL_manners_137 (by decide) ?_
      refine q_iadd hx hb dL_manners_138 ?_
      refine lv_iload hx hb dL_manners_139 (lv_at hl 1 rfl) ?_
      refine q_ieq (tgt := 153) hx hb dL_manners_141 (by decide) (by first | omega | exact Nat.lt_of_le_of_lt (hw3 _) (by decide) | exact Nat.lt_of_lt_of_le (hr4 _) (by decide) | exact Nat.lt_of_le_of_lt (bp_le _) (by decide) | assumption) (fun c_141 => ?_) (fun c_141 => ?_)
      ·
        refine q_ic 0 hx hb dL_manners_153 (by decide) ?_
        refine q_iadd hx hb dL_manners_154 ?_
        refine lv_iload hx hb dL_manners_155 (lv_at hl 2 rfl) ?_
        refine q_ieq (tgt := 179) hx hb dL_manners_157 (by decide) (by first | omega | exact Nat.lt_of_le_of_lt (hw3 _) (by decide) | exact Nat.lt_of_lt_of_le (hr4 _) (by decide) | exact Nat.lt_of_le_of_lt (bp_le _) (by decide) | assumption) (fun c_157 => absurd c_157 (by have := c_120; omega)) (fun c_157 => ?_)
        refine lv_aload_n hx hb dL_manners_160 rfl (lv_at hl 4 rfl) ?_
        refine q_ic 1 hx hb dL_manners_161 (by decide) ?_
        refine q_ic 4 hx hb dL_manners_162 (by decide) ?_
        refine q_ic 5 hx hb dL_manners_163 (by decide) ?_
        refine q_kI2 (q_rV (As := [.int (nI 1), .int (nI 4), .int (nI 5)]) (rest := [.int (nI (((bp (bp (w (f * 6 + t)))) + 0) + 0))]) (x := 0) hC hW mw_X5_weight gw_156 (k_weight l G n ad H.size I_127 L_127 R_127 (nI 1) (nI 4) (nI 5) w K ro hc hi sv pn ch hA) (by omega) (ct_o5 kd_0) rfl ⟨rfl, rfl⟩ ⟨Nat.le_of_ble_eq_true rfl, Nat.le_of_ble_eq_true rfl⟩ ⟨(Nat.le_of_ble_eq_true rfl), (Nat.le_of_ble_eq_true rfl)⟩ hl.1 rfl rfl (Nat.le_of_ble_eq_true rfl) dL_manners_164) hW (fun r_164 n_164 ad_164 I_164 L_164 R_164 H locs hp hW => ?_)
        obtain ⟨hz, rfl, rfl, hA, hF⟩ := PR_use hp
        have hG := fr_t hF hG
        have hz : r_164 = nI (w (4 * 6 + 5)) := hz.trans (aW1 (S := ((w, K, ro), hc, hi, sv, pn, ch)) (f := 4) (t := 5) (by first | omega | assumption) (by first | omega | assumption))
        subst hz
        refine q_ile (tgt := 179) hx hb dL_manners_167 (by decide) (by first | omega | exact Nat.lt_of_le_of_lt (hw3 _) (by decide) | exact Nat.lt_of_lt_of_le (hr4 _) (by decide) | exact Nat.lt_of_le_of_lt (bp_le _) (by decide) | assumption) (fun c_167 => ?_) (fun c_167 => ?_)
        ·
          refine q_ic 0 hx hb dL_manners_179 (by decide) ?_
          refine q_iadd hx hb dL_manners_180 ?_
          refine q_top (v2 := .int (nI (ov (wb w) f t))) (congrArg (fun z => Value.int (nI z)) (by simp only [ov, wb, bp_bp, (show bp (w (f * 6 + 4)) = 1 from by have h7 := bp_le ((w (f * 6 + 4))); omega), (bp_n (x := w (4 * 6 + t)) c_130), c_141, (bp_n (x := w (4 * 6 + 5)) c_167)] <;> omega)) ?_
          exact q_iret2 hC hW hr hlk0 (PR_q hA hG) dL_manners_181
        ·
          refine lv_iload hx hb dL_manners_170 (lv_at hl 0 rfl) ?_
          refine q_ieq (tgt := 179) hx hb dL_manners_172 (by decide) (by first | omega | exact Nat.lt_of_le_of_lt (hw3 _) (by decide) | exact Nat.lt_of_lt_of_le (hr4 _) (by decide) | exact Nat.lt_of_le_of_lt (bp_le _) (by decide) | assumption) (fun c_172 => ?_) (fun c_172 => ?_)
          ·
            refine q_ic 0 hx hb dL_manners_179 (by decide) ?_
            refine q_iadd hx hb dL_manners_180 ?_
            refine q_top (v2 := .int (nI (ov (wb w) f t))) (congrArg (fun z => Value.int (nI z)) (by simp only [ov, wb, bp_bp, (show bp (w (f * 6 + 4)) = 1 from by have h7 := bp_le ((w (f * 6 + 4))); omega), (bp_n (x := w (4 * 6 + t)) c_130), c_141, (bp_p (x := w (4 * 6 + 5)) (by omega)), c_172] <;> omega)) ?_
            exact q_iret2 hC hW hr hlk0 (PR_q hA hG) dL_manners_181
          ·
            refine q_ic 1 hx hb dL_manners_175 (by decide) ?_
            refine lv_goto (tgt := 180) hx hb dL_manners_176 (by decide) ?_
            refine q_iadd hx hb dL_manners_180 ?_
            refine q_top (v2 := .int (nI (ov (wb w) f t))) (congrArg (fun z => Value.int (nI z)) (by simp only [ov, wb, bp_bp, (show bp (w (f * 6 + 4)) = 1 from by have h7 := bp_le ((w (f * 6 + 4))); omega), (bp_n (x := w (4 * 6 + t)) c_130), c_141, (bp_p (x := w (4 * 6 + 5)) (by omega)), (show bp (w (5 * 6 + t)) = 1 from by have h7 := bp_le ((w (5 * 6 + t))); omega)] <;> omega)) ?_
            exact q_iret2 hC hW hr hlk0 (PR_q hA hG) dL_manners_181
      ·
        refine lv_iload hx hb dL_manners_144 (lv_at hl 0 rfl) ?_
        refine q_ieq (tgt := 153) hx hb dL_manners_146 (by decide) (by first | omega | exact Nat.lt_of_le_of_lt (hw3 _) (by decide) | exact Nat.lt_of_lt_of_le (hr4 _) (by decide) | exact Nat.lt_of_le_of_lt (bp_le _) (by decide) | assumption) (fun c_146 => ?_) (fun c_146 => ?_)
        ·
          refine q_ic 0 hx hb dL_manners_153 (by decide) ?_
          refine q_iadd hx hb dL_manners_154 ?_
          refine lv_iload hx hb dL_manners_155 (lv_at hl 2 rfl) ?_
          refine q_ieq (tgt := 179) hx hb dL_manners_157 (by decide) (by first | omega | exact Nat.lt_of_le_of_lt (hw3 _) (by decide) | exact Nat.lt_of_lt_of_le (hr4 _) (by decide) | exact Nat.lt_of_le_of_lt (bp_le _) (by decide) | assumption) (fun c_157 => absurd c_157 (by have := c_120; omega)) (fun c_157 => ?_)
          refine lv_aload_n hx hb dL_manners_160 rfl (lv_at hl 4 rfl) ?_
          refine q_ic 1 hx hb dL_manners_161 (by decide) ?_
          refine q_ic 4 hx hb dL_manners_162 (by decide) ?_
          refine q_ic 5 hx hb dL_manners_163 (by decide) ?_
          refine q_kI2 (q_rV (As := [.int (nI 1), .int (nI 4), .int (nI 5)]) (rest := [.int (nI (((bp (bp (w (f * 6 + t)))) + 0) + 0))]) (x := 0) hC hW mw_X5_weight gw_156 (k_weight l G n ad H.size I_127 L_127 R_127 (nI 1) (nI 4) (nI 5) w K ro hc hi sv pn ch hA) (by omega) (ct_o5 kd_0) rfl ⟨rfl, rfl⟩ ⟨Nat.le_of_ble_eq_true rfl, Nat.le_of_ble_eq_true rfl⟩ ⟨(Nat.le_of_ble_eq_true rfl), (Nat.le_of_ble_eq_true rfl)⟩ hl.1 rfl rfl (Nat.le_of_ble_eq_true rfl) dL_manners_164) hW (fun r_164 n_164 ad_164 I_164 L_164 R_164 H locs hp hW => ?_)
          obtain ⟨hz, rfl, rfl, hA, hF⟩ := PR_use hp
          have hG := fr_t hF hG
          have hz : r_164 = nI (w (4 * 6 + 5)) := hz.trans (aW1 (S := ((w, K, ro), hc, hi, sv, pn, ch)) (f := 4) (t := 5) (by first | omega | assumption) (by first | omega | assumption))
          subst hz
          refine q_ile (tgt := 179) hx hb dL_manners_167 (by decide) (by first | omega | exact Nat.lt_of_le_of_lt (hw3 _) (by decide) | exact Nat.lt_of_lt_of_le (hr4 _) (by decide) | exact Nat.lt_of_le_of_lt (bp_le _) (by decide) | assumption) (fun c_167 => ?_) (fun c_167 => ?_)
          ·
            refine q_ic 0 hx hb dL_manners_179 (by decide) ?_
            refine q_iadd hx hb dL_manners_180 ?_
            refine q_top (v2 := .int (nI (ov (wb w) f t))) (congrArg (fun z => Value.int (nI z)) (by simp only [ov, wb, bp_bp, (show bp (w (f * 6 + 4)) = 1 from by have h7 := bp_le ((w (f * 6 + 4))); omega), (bp_n (x := w (4 * 6 + t)) c_130), (show bp (w (f * 6 + 5)) = 1 from by have h7 := bp_le ((w (f * 6 + 5))); omega), c_146, (bp_n (x := w (4 * 6 + 5)) c_167)] <;> omega)) ?_
            exact q_iret2 hC hW hr hlk0 (PR_q hA hG) dL_manners_181
          ·
            refine lv_iload hx hb dL_manners_170 (lv_at hl 0 rfl) ?_
            refine q_ieq (tgt := 179) hx hb dL_manners_172 (by decide) (by first | omega | exact Nat.lt_of_le_of_lt (hw3 _) (by decide) | exact Nat.lt_of_lt_of_le (hr4 _) (by decide) | exact Nat.lt_of_le_of_lt (bp_le _) (by decide) | assumption) (fun c_172 => ?_) (fun c_172 => absurd c_172 (by have := c_146; omega))
            refine q_ic 0 hx hb dL_manners_179 (by decide) ?_
            refine q_iadd hx hb dL_manners_180 ?_
            refine q_top (v2 := .int (nI (ov (wb w) f t))) (congrArg (fun z => Value.int (nI z)) (by simp only [ov, wb, bp_bp, (show bp (w (f * 6 + 4)) = 1 from by have h7 := bp_le ((w (f * 6 + 4))); omega), (bp_n (x := w (4 * 6 + t)) c_130), (show bp (w (f * 6 + 5)) = 1 from by have h7 := bp_le ((w (f * 6 + 5))); omega), c_146, (bp_p (x := w (4 * 6 + 5)) (by omega))] <;> omega)) ?_
            exact q_iret2 hC hW hr hlk0 (PR_q hA hG) dL_manners_181
        ·
          refine q_ic 1 hx hb dL_manners_149 (by decide) ?_
          refine lv_goto (tgt := 154) hx hb dL_manners_150 (by decide) ?_
          refine q_iadd hx hb dL_manners_154 ?_
          refine lv_iload hx hb dL_manners_155 (lv_at hl 2 rfl) ?_
          refine q_ieq (tgt := 179) hx hb dL_manners_157 (by decide) (by first | omega | exact Nat.lt_of_le_of_lt (hw3 _) (by decide) | exact Nat.lt_of_lt_of_le (hr4 _) (by decide) | exact Nat.lt_of_le_of_lt (bp_le _) (by decide) | assumption) (fun c_157 => absurd c_157 (by have := c_120; omega)) (fun c_157 => ?_)
          refine lv_aload_n hx hb dL_manners_160 rfl (lv_at hl 4 rfl) ?_
          refine q_ic 1 hx hb dL_manners_161 (by decide) ?_
          refine q_ic 4 hx hb dL_manners_162 (by decide) ?_
          refine q_ic 5 hx hb dL_manners_163 (by decide) ?_
          refine q_kI2 (q_rV (As := [.int (nI 1), .int (nI 4), .int (nI 5)]) (rest := [.int (nI (((bp (bp (w (f * 6 + t)))) + 0) + 1))]) (x := 0) hC hW mw_X5_weight gw_156 (k_weight l G n ad H.size I_127 L_127 R_127 (nI 1) (nI 4) (nI 5) w K ro hc hi sv pn ch hA) (by omega) (ct_o5 kd_0) rfl ⟨rfl, rfl⟩ ⟨Nat.le_of_ble_eq_true rfl, Nat.le_of_ble_eq_true rfl⟩ ⟨(Nat.le_of_ble_eq_true rfl), (Nat.le_of_ble_eq_true rfl)⟩ hl.1 rfl rfl (Nat.le_of_ble_eq_true rfl) dL_manners_164) hW (fun r_164 n_164 ad_164 I_164 L_164 R_164 H locs hp hW => ?_)
          obtain ⟨hz, rfl, rfl, hA, hF⟩ := PR_use hp
          have hG := fr_t hF hG
          have hz : r_164 = nI (w (4 * 6 + 5)) := hz.trans (aW1 (S := ((w, K, ro), hc, hi, sv, pn, ch)) (f := 4) (t := 5) (by first | omega | assumption) (by first | omega | assumption))
          subst hz
          refine q_ile (tgt := 179) hx hb dL_manners_167 (by decide) (by first | omega | exact Nat.lt_of_le_of_lt (hw3 _) (by decide) | exact Nat.lt_of_lt_of_le (hr4 _) (by decide) | exact Nat.lt_of_le_of_lt (bp_le _) (by decide) | assumption) (fun c_167 => ?_) (fun c_167 => ?_)
          ·
            refine q_ic 0 hx hb dL_manners_179 (by decide) ?_
            refine q_iadd hx hb dL_manners_180 ?_
            refine q_top (v2 := .int (nI (ov (wb w) f t))) (congrArg (fun z => Value.int (nI z)) (by simp only [ov, wb, bp_bp, (show bp (w (f * 6 + 4)) = 1 from by have h7 := bp_le ((w (f * 6 + 4))); omega), (bp_n (x := w (4 * 6 + t)) c_130), (show bp (w (f * 6 + 5)) = 1 from by have h7 := bp_le ((w (f * 6 + 5))); omega), (show bp (w (5 * 6 + t)) = 1 from by have h7 := bp_le ((w (5 * 6 + t))); omega), (bp_n (x := w (4 * 6 + 5)) c_167)] <;> omega)) ?_
            exact q_iret2 hC hW hr hlk0 (PR_q hA hG) dL_manners_181
          ·
            refine lv_iload hx hb dL_manners_170 (lv_at hl 0 rfl) ?_
            refine q_ieq (tgt := 179) hx hb dL_manners_172 (by decide) (by first | omega | exact Nat.lt_of_le_of_lt (hw3 _) (by decide) | exact Nat.lt_of_lt_of_le (hr4 _) (by decide) | exact Nat.lt_of_le_of_lt (bp_le _) (by decide) | assumption) (fun c_172 => absurd c_172 (by have := c_146; omega)) (fun c_172 => ?_)
            refine q_ic 1 hx hb dL_manners_175 (by decide) ?_
            refine lv_goto (tgt := 180) hx hb dL_manners_176 (by decide) ?_
            refine q_iadd hx hb dL_manners_180 ?_
            refine q_top (v2 := .int (nI (ov (wb w) f t))) (congrArg (fun z => Value.int (nI z)) (by simp only [ov, wb, bp_bp, (show bp (w (f * 6 + 4)) = 1 from by have h7 := bp_le ((w (f * 6 + 4))); omega), (bp_n (x := w (4 * 6 + t)) c_130), (show bp (w (f * 6 + 5)) = 1 from by have h7 := bp_le ((w (f * 6 + 5))); omega), (show bp (w (5 * 6 + t)) = 1 from by have h7 := bp_le ((w (5 * 6 + t))); omega), (bp_p (x := w (4 * 6 + 5)) (by omega))] <;> omega)) ?_
            exact q_iret2 hC hW hr hlk0 (PR_q hA hG) dL_manners_181
    ·
      refine q_ic 1 hx hb dL_manners_133 (by decide) ?_
      refine lv_goto (tgt := 138) hx hb dL_manners_134 (by decide) ?_
      refine q_iadd hx hb dL_manners_138 ?_
      refine lv_iload hx hb dL_manners_139 (lv_at hl 1 rfl) ?_
      refine q_ieq (tgt := 153) hx hb dL_manners_141 (by decide) (by first | omega | exact Nat.lt_of_le_of_lt (hw3 _) (by decide) | exact Nat.lt_of_lt_of_le (hr4 _) (by decide) | exact Nat.lt_of_le_of_lt (bp_le _) (by decide) | assumption) (fun c_141 => ?_) (fun c_141 => ?_)
      ·
        refine q_ic 0 hx hb dL_manners_153 (by decide) ?_
        refine q_iadd hx hb dL_manners_154 ?_
        refine lv_iload hx hb dL_manners_155 (lv_at hl 2 rfl) ?_
        refine q_ieq (tgt := 179) hx hb dL_manners_157 (by decide) (by first | omega | exact Nat.lt_of_le_of_lt (hw3 _) (by decide) | exact Nat.lt_of_lt_of_le (hr4 _) (by decide) | exact Nat.lt_of_le_of_lt (bp_le _) (by decide) | assumption) (fun c_157 => absurd c_157 (by have := c_120; omega)) (fun c_157 => ?_)
        refine lv_aload_n hx hb dL_manners_160 rfl (lv_at hl 4 rfl) ?_
        refine q_ic 1 hx hb dL_manners_161 (by decide) ?_
        refine q_ic 4 hx hb dL_manners_162 (by decide) ?_
        refine q_ic 5 hx hb dL_manners_163 (by decide) ?_
        refine q_kI2 (q_rV (As := [.int (nI 1), .int (nI 4), .int (nI 5)]) (rest := [.int (nI (((bp (bp (w (f * 6 + t)))) + 1) + 0))]) (x := 0) hC hW mw_X5_weight gw_156 (k_weight l G n ad H.size I_127 L_127 R_127 (nI 1) (nI 4) (nI 5) w K ro hc hi sv pn ch hA) (by omega) (ct_o5 kd_0) rfl ⟨rfl, rfl⟩ ⟨Nat.le_of_ble_eq_true rfl, Nat.le_of_ble_eq_true rfl⟩ ⟨(Nat.le_of_ble_eq_true rfl), (Nat.le_of_ble_eq_true rfl)⟩ hl.1 rfl rfl (Nat.le_of_ble_eq_true rfl) dL_manners_164) hW (fun r_164 n_164 ad_164 I_164 L_164 R_164 H locs hp hW => ?_)
        obtain ⟨hz, rfl, rfl, hA, hF⟩ := PR_use hp
        have hG := fr_t hF hG
        have hz : r_164 = nI (w (4 * 6 + 5)) := hz.trans (aW1 (S := ((w, K, ro), hc, hi, sv, pn, ch)) (f := 4) (t := 5) (by first | omega | assumption) (by first | omega | assumption))
        subst hz
        refine q_ile (tgt := 179) hx hb dL_manners_167 (by decide) (by first | omega | exact Nat.lt_of_le_of_lt (hw3 _) (by decide) | exact Nat.lt_of_lt_of_le (hr4 _) (by decide) | exact Nat.lt_of_le_of_lt (bp_le _) (by decide) | assumption) (fun c_167 => ?_) (fun c_167 => ?_)
        ·
          refine q_ic 0 hx hb dL_manners_179 (by decide) ?_
          refine q_iadd hx hb dL_manners_180 ?_
          refine q_top (v2 := .int (nI (ov (wb w) f t))) (congrArg (fun z => Value.int (nI z)) (by simp only [ov, wb, bp_bp, (show bp (w (f * 6 + 4)) = 1 from by have h7 := bp_le ((w (f * 6 + 4))); omega), (bp_p (x := w (4 * 6 + t)) (by omega)), c_141, (bp_n (x := w (4 * 6 + 5)) c_167)] <;> omega)) ?_
          exact q_iret2 hC hW hr hlk0 (PR_q hA hG) dL_manners_181
        ·
          refine lv_iload hx hb dL_manners_170 (lv_at hl 0 rfl) ?_
          refine q_ieq (tgt := 179) hx hb dL_manners_172 (by decide) (by first | omega | exact Nat.lt_of_le_of_lt (hw3 _) (by decide) | exact Nat.lt_of_lt_of_le (hr4 _) (by decide) | exact Nat.lt_of_le_of_lt (bp_le _) (by decide) | assumption) (fun c_172 => ?_) (fun c_172 => ?_)
          ·
            refine q_ic 0 hx hb dL_manners_179 (by decide) ?_
            refine q_iadd hx hb dL_manners_180 ?_
            refine q_top (v2 := .int (nI (ov (wb w) f t))) (congrArg (fun z => Value.int (nI z)) (by simp only [ov, wb, bp_bp, (show bp (w (f * 6 + 4)) = 1 from by have h7 := bp_le ((w (f * 6 + 4))); omega), (bp_p (x := w (4 * 6 + t)) (by omega)), c_141, (bp_p (x := w (4 * 6 + 5)) (by omega)), c_172] <;> omega)) ?_
            exact q_iret2 hC hW hr hlk0 (PR_q hA hG) dL_manners_181
          ·
            refine q_ic 1 hx hb dL_manners_175 (by decide) ?_
            refine lv_goto (tgt := 180) hx hb dL_manners_176 (by decide) ?_
            refine q_iadd hx hb dL_manners_180 ?_
            refine q_top (v2 := .int (nI (ov (wb w) f t))) (congrArg (fun z => Value.int (nI z)) (by simp only [ov, wb, bp_bp, (show bp (w (f * 6 + 4)) = 1 from by have h7 := bp_le ((w (f * 6 + 4))); omega), (bp_p (x := w (4 * 6 + t)) (by omega)), c_141, (bp_p (x := w (4 * 6 + 5)) (by omega)), (show bp (w (5 * 6 + t)) = 1 from by have h7 := bp_le ((w (5 * 6 + t))); omega)] <;> omega)) ?_
            exact q_iret2 hC hW hr hlk0 (PR_q hA hG) dL_manners_181
      ·
        refine lv_iload hx hb dL_manners_144 (lv_at hl 0 rfl) ?_
        refine q_ieq (tgt := 153) hx hb dL_manners_146 (by decide) (by first | omega | exact Nat.lt_of_le_of_lt (hw3 _) (by decide) | exact Nat.lt_of_lt_of_le (hr4 _) (by decide) | exact Nat.lt_of_le_of_lt (bp_le _) (by decide) | assumption) (fun c_146 => ?_) (fun c_146 => ?_)
        ·
          refine q_ic 0 hx hb dL_manners_153 (by decide) ?_
          refine q_iadd hx hb dL_manners_154 ?_
          refine lv_iload hx hb dL_manners_155 (lv_at hl 2 rfl) ?_
          refine q_ieq (tgt := 179) hx hb dL_manners_157 (by decide) (by first | omega | exact Nat.lt_of_le_of_lt (hw3 _) (by decide) | exact Nat.lt_of_lt_of_le (hr4 _) (by decide) | exact Nat.lt_of_le_of_lt (bp_le _) (by decide) | assumption) (fun c_157 => absurd c_157 (by have := c_120; omega)) (fun c_157 => ?_)
          refine lv_aload_n hx hb dL_manners_160 rfl (lv_at hl 4 rfl) ?_
          refine q_ic 1 hx hb dL_manners_161 (by decide) ?_
          refine q_ic 4 hx hb dL_manners_162 (by decide) ?_
          refine q_ic 5 hx hb dL_manners_163 (by decide) ?_
          refine q_kI2 (q_rV (As := [.int (nI 1), .int (nI 4), .int (nI 5)]) (rest := [.int (nI (((bp (bp (w (f * 6 + t)))) + 1) + 0))]) (x := 0) hC hW mw_X5_weight gw_156 (k_weight l G n ad H.size I_127 L_127 R_127 (nI 1) (nI 4) (nI 5) w K ro hc hi sv pn ch hA) (by omega) (ct_o5 kd_0) rfl ⟨rfl, rfl⟩ ⟨Nat.le_of_ble_eq_true rfl, Nat.le_of_ble_eq_true rfl⟩ ⟨(Nat.le_of_ble_eq_true rfl), (Nat.le_of_ble_eq_true rfl)⟩ hl.1 rfl rfl (Nat.le_of_ble_eq_true rfl) dL_manners_164) hW (fun r_164 n_164 ad_164 I_164 L_164 R_164 H locs hp hW => ?_)
          obtain ⟨hz, rfl, rfl, hA, hF⟩ := PR_use hp
          have hG := fr_t hF hG
          have hz : r_164 = nI (w (4 * 6 + 5)) := hz.trans (aW1 (S := ((w, K, ro), hc, hi, sv, pn, ch)) (f := 4) (t := 5) (by first | omega | assumption) (by first | omega | assumption))
          subst hz
          refine q_ile (tgt := 179) hx hb dL_manners_167 (by decide) (by first | omega | exact Nat.lt_of_le_of_lt (hw3 _) (by decide) | exact Nat.lt_of_lt_of_le (hr4 _) (by decide) | exact Nat.lt_of_le_of_lt (bp_le _) (by decide) | assumption) (fun c_167 => ?_) (fun c_167 => ?_)
          ·
            refine q_ic 0 hx hb dL_manners_179 (by decide) ?_
            refine q_iadd hx hb dL_manners_180 ?_
            refine q_top (v2 := .int (nI (ov (wb w) f t))) (congrArg (fun z => Value.int (nI z)) (by simp only [ov, wb, bp_bp, (show bp (w (f * 6 + 4)) = 1 from by have h7 := bp_le ((w (f * 6 + 4))); omega), (bp_p (x := w (4 * 6 + t)) (by omega)), (show bp (w (f * 6 + 5)) = 1 from by have h7 := bp_le ((w (f * 6 + 5))); omega), c_146, (bp_n (x := w (4 * 6 + 5)) c_167)] <;> omega)) ?_
            exact q_iret2 hC hW hr hlk0 (PR_q hA hG) dL_manners_181
          ·
            refine lv_iload hx hb dL_manners_170 (lv_at hl 0 rfl) ?_
            refine q_ieq (tgt := 179) hx hb dL_manners_172 (by decide) (by first | omega | exact Nat.lt_of_le_of_lt (hw3 _) (by decide) | exact Nat.lt_of_lt_of_le (hr4 _) (by decide) | exact Nat.lt_of_le_of_lt (bp_le _) (by decide) | assumption) (fun c_172 => ?_) (fun c_172 => absurd c_172 (by have := c_146; omega))
            refine q_ic 0 hx hb dL_manners_179 (by decide) ?_
            refine q_iadd hx hb dL_manners_180 ?_
            refine q_top (v2 := .int (nI (ov (wb w) f t))) (congrArg (fun z => Value.int (nI z)) (by simp only [ov, wb, bp_bp, (show bp (w (f * 6 + 4)) = 1 from by have h7 := bp_le ((w (f * 6 + 4))); omega), (bp_p (x := w (4 * 6 + t)) (by omega)), (show bp (w (f * 6 + 5)) = 1 from by have h7 := bp_le ((w (f * 6 + 5))); omega), c_146, (bp_p (x := w (4 * 6 + 5)) (by omega))] <;> omega)) ?_
            exact q_iret2 hC hW hr hlk0 (PR_q hA hG) dL_manners_181
        ·
          refine q_ic 1 hx hb dL_manners_149 (by decide) ?_
          refine lv_goto (tgt := 154) hx hb dL_manners_150 (by decide) ?_
          refine q_iadd hx hb dL_manners_154 ?_
          refine lv_iload hx hb dL_manners_155 (lv_at hl 2 rfl) ?_
          refine q_ieq (tgt := 179) hx hb dL_manners_157 (by decide) (by first | omega | exact Nat.lt_of_le_of_lt (hw3 _) (by decide) | exact Nat.lt_of_lt_of_le (hr4 _) (by decide) | exact Nat.lt_of_le_of_lt (bp_le _) (by decide) | assumption) (fun c_157 => absurd c_157 (by have := c_120; omega)) (fun c_157 => ?_)
          refine lv_aload_n hx hb dL_manners_160 rfl (lv_at hl 4 rfl) ?_
          refine q_ic 1 hx hb dL_manners_161 (by decide) ?_
          refine q_ic 4 hx hb dL_manners_162 (by decide) ?_
          refine q_ic 5 hx hb dL_manners_163 (by decide) ?_
          refine q_kI2 (q_rV (As := [.int (nI 1), .int (nI 4), .int (nI 5)]) (rest := [.int (nI (((bp (bp (w (f * 6 + t)))) + 1) + 1))]) (x := 0) hC hW mw_X5_weight gw_156 (k_weight l G n ad H.size I_127 L_127 R_127 (nI 1) (nI 4) (nI 5) w K ro hc hi sv pn ch hA) (by omega) (ct_o5 kd_0) rfl ⟨rfl, rfl⟩ ⟨Nat.le_of_ble_eq_true rfl, Nat.le_of_ble_eq_true rfl⟩ ⟨(Nat.le_of_ble_eq_true rfl), (Nat.le_of_ble_eq_true rfl)⟩ hl.1 rfl rfl (Nat.le_of_ble_eq_true rfl) dL_manners_164) hW (fun r_164 n_164 ad_164 I_164 L_164 R_164 H locs hp hW => ?_)
          obtain ⟨hz, rfl, rfl, hA, hF⟩ := PR_use hp
          have hG := fr_t hF hG
          have hz : r_164 = nI (w (4 * 6 + 5)) := hz.trans (aW1 (S := ((w, K, ro), hc, hi, sv, pn, ch)) (f := 4) (t := 5) (by first | omega | assumption) (by first | omega | assumption))
          subst hz
          refine q_ile (tgt := 179) hx hb dL_manners_167 (by decide) (by first | omega | exact Nat.lt_of_le_of_lt (hw3 _) (by decide) | exact Nat.lt_of_lt_of_le (hr4 _) (by decide) | exact Nat.lt_of_le_of_lt (bp_le _) (by decide) | assumption) (fun c_167 => ?_) (fun c_167 => ?_)
          ·
            refine q_ic 0 hx hb dL_manners_179 (by decide) ?_
            refine q_iadd hx hb dL_manners_180 ?_
            refine q_top (v2 := .int (nI (ov (wb w) f t))) (congrArg (fun z => Value.int (nI z)) (by simp only [ov, wb, bp_bp, (show bp (w (f * 6 + 4)) = 1 from by have h7 := bp_le ((w (f * 6 + 4))); omega), (bp_p (x := w (4 * 6 + t)) (by omega)), (show bp (w (f * 6 + 5)) = 1 from by have h7 := bp_le ((w (f * 6 + 5))); omega), (show bp (w (5 * 6 + t)) = 1 from by have h7 := bp_le ((w (5 * 6 + t))); omega), (bp_n (x := w (4 * 6 + 5)) c_167)] <;> omega)) ?_
            exact q_iret2 hC hW hr hlk0 (PR_q hA hG) dL_manners_181
          ·
            refine lv_iload hx hb dL_manners_170 (lv_at hl 0 rfl) ?_
            refine q_ieq (tgt := 179) hx hb dL_manners_172 (by decide) (by first | omega | exact Nat.lt_of_le_of_lt (hw3 _) (by decide) | exact Nat.lt_of_lt_of_le (hr4 _) (by decide) | exact Nat.lt_of_le_of_lt (bp_le _) (by decide) | assumption) (fun c_172 => absurd c_172 (by have := c_146; omega)) (fun c_172 => ?_)
            refine q_ic 1 hx hb dL_manners_175 (by decide) ?_
            refine lv_goto (tgt := 180) hx hb dL_manners_176 (by decide) ?_
            refine q_iadd hx hb dL_manners_180 ?_
            refine q_top (v2 := .int (nI (ov (wb w) f t))) (congrArg (fun z => Value.int (nI z)) (by simp only [ov, wb, bp_bp, (show bp (w (f * 6 + 4)) = 1 from by have h7 := bp_le ((w (f * 6 + 4))); omega), (bp_p (x := w (4 * 6 + t)) (by omega)), (show bp (w (f * 6 + 5)) = 1 from by have h7 := bp_le ((w (f * 6 + 5))); omega), (show bp (w (5 * 6 + t)) = 1 from by have h7 := bp_le ((w (5 * 6 + t))); omega), (bp_p (x := w (4 * 6 + 5)) (by omega))] <;> omega)) ?_
            exact q_iret2 hC hW hr hlk0 (PR_q hA hG) dL_manners_181
set_option maxRecDepth 100000 in
set_option maxHeartbeats 4000000 in
theorem k_manners6 (l : Launch) (G : Gx) (n : Nat) (ad : Nat → Nat) (sz : Nat) (I : Ic) (L : Lc) (R : Rc) (t : Nat) (w : Nat → Nat) (K : Nat) (ro : Nat → Nat) (hc : Nat) (hi : Nat → CM) (sv : Nat → Option CM) (pn : Nat) (ch : Nat → Nat) (hA : InvA n I L R ((w, K, ro), hc, hi, sv, pn, ch)) (ht : t < 4) : Met l yL_manners (Cond.code yL_manners cL_manners 7 (some .int) :: GW) ({ frames := 7, cells := 0, slots := 0, locals := 252 } : Room) (qPre G n ad sz I L R [.ref (ad 0), .int (-1), .int (nI (t))]) (qI2 G (qA n ad sz) (fun z u => PR n ad I L R (nI (ov (wb w) 6 t), ((w, K, ro), hc, hi, sv, pn, ch)) z u)) 0 0 (qA n ad sz) := by
  refine q_met (by decide) (Nat.le_of_ble_eq_true rfl) ?_
  intro p_ e_ s m_ below meth c_ hC hr hlk0 hin hsz hW ls hl
  subst hsz
  have hC : CallFix p_ m_ c_ cL_manners 7 s ([.ref (ad 0), .int (-1), .int (nI (t))] : List Value).toArray GW "CoinRowsLaw" := hC
  have hx := hC.1
  have hb := hC.2.1
  have hw : Wok w := hA.2.2.1.2.2.2.2.1
  have hw3 : ∀ i, w i ≤ 3 := hw.1
  have hk6 : K ≤ 6 := hA.2.2.1.2.2.2.1
  have hr4 : ∀ j, ro j < 4 := hA.2.2.1.2.2.2.2.2
  have hn : 71 ≤ n := hA.1
  have hT63 : Sx' w K ro K 6 < 2 ^ 63 := Nat.lt_of_le_of_lt (Sx_b hw K K 6 hk6) (by decide)
  have hC31 : Cx' w K ro K 6 < 2 ^ 31 := Nat.lt_of_le_of_lt (Cx_b hw K K 6 hk6) (by decide)
  have hG : Fr7 I I L L R R := fr_0
  have hl : lv_has ls 7 [(0, .ref (ad 0)), (1, .int (-1)), (2, .int (nI (t)))] := hl
  refine lv_iload_n hx hb dL_manners_0 rfl (lv_at hl 1 rfl) ?_
  refine lv_if_ge (tgt := 14) hx hb dL_manners_1 (by decide) (fun c_1 => absurd c_1 (by decide)) (fun c_1 => ?_)
  refine lv_aload_n hx hb dL_manners_4 rfl (lv_at hl 0 rfl) ?_
  refine q_ic 0 hx hb dL_manners_5 (by decide) ?_
  refine lv_iload_n hx hb dL_manners_6 rfl (lv_at hl 2 rfl) ?_
  refine q_ic 0 hx hb dL_manners_7 (by decide) ?_
  refine q_kI2 (q_rV (As := [.int (nI 0), .int (nI (t)), .int (nI 0)]) (rest := []) (x := 0) hC hW mw_X5_weight gw_156 (k_weight l G n ad s.heap.size I L R (nI 0) (nI t) (nI 0) w K ro hc hi sv pn ch hA) (by omega) (ct_o5 kd_0) rfl ⟨rfl, rfl⟩ ⟨Nat.le_of_ble_eq_true rfl, Nat.le_of_ble_eq_true rfl⟩ ⟨(Nat.le_of_ble_eq_true rfl), (Nat.le_of_ble_eq_true rfl)⟩ hl.1 rfl rfl (Nat.le_of_ble_eq_true rfl) dL_manners_8) hW (fun r_8 n_8 ad_8 I_8 L_8 R_8 H locs hp hW => ?_)
  obtain ⟨hz, rfl, rfl, hA, hF⟩ := PR_use hp
  have hG := fr_t hF hG
  have hz : r_8 = nI (w (6 * 6 + t)) := hz.trans (aW0 (S := ((w, K, ro), hc, hi, sv, pn, ch)) (c := t) (by first | omega | assumption))
  subst hz
  refine lv_goto (tgt := 21) hx hb dL_manners_11 (by decide) ?_
  refine q_bple (t := 28) hx hb dL_manners_21 dL_manners_24 dL_manners_25 dL_manners_28 (by decide) (by decide) (by first | omega | exact Nat.lt_of_le_of_lt (hw3 _) (by decide) | exact Nat.lt_of_lt_of_le (hr4 _) (by decide) | exact Nat.lt_of_le_of_lt (bp_le _) (by decide) | assumption) ?_
  refine lv_istore_n (lv' := [(3, .int (nI (bp (w (6 * 6 + t))))), (0, .ref (ad 0)), (1, .int (-1)), (2, .int (nI (t)))]) hx hb dL_manners_29 rfl hl (by decide) rfl (fun ls hl => ?_)
  refine lv_iload_n hx hb dL_manners_30 rfl (lv_at hl 2 rfl) ?_
  refine lv_if_ge (tgt := 44) hx hb dL_manners_31 (by decide) (fun c_31 => absurd c_31 (by decide)) (fun c_31 => ?_)
  refine lv_aload_n hx hb dL_manners_34 rfl (lv_at hl 1 rfl) ?_
  refine q_ic 0 hx hb dL_manners_35 (by decide) ?_
  refine q_ic 4 hx hb dL_manners_36 (by decide) ?_
  refine q_ic 0 hx hb dL_manners_37 (by decide) ?_
  refine q_kI2 (q_rV (As := [.int (nI 0), .int (nI 4), .int (nI 0)]) (rest := []) (x := 0) hC hW mw_X5_weight gw_156 (k_weight l G n ad H.size I_8 L_8 R_8 (nI 0) (nI 4) (nI 0) w K ro hc hi sv pn ch hA) (by omega) (ct_o5 kd_0) rfl ⟨rfl, rfl⟩ ⟨Nat.le_of_ble_eq_true rfl, Nat.le_of_ble_eq_true rfl⟩ ⟨(Nat.le_of_ble_eq_true rfl), (Nat.le_of_ble_eq_true rfl)⟩ hl.1 rfl rfl (Nat.le_of_ble_eq_true rfl) dL_manners_38) hW (fun r_38 n_38 ad_38 I_38 L_38 R_38 H locs hp hW => ?_)
  obtain ⟨hz, rfl, rfl, hA, hF⟩ := PR_use hp
  have hG := fr_t hF hG
  have hz : r_38 = nI (w (6 * 6 + 4)) := hz.trans (aW0 (S := ((w, K, ro), hc, hi, sv, pn, ch)) (c := 4) (by first | omega | assumption))
  subst hz
  refine lv_goto (tgt := 51) hx hb dL_manners_41 (by decide) ?_
  refine q_bple (t := 58) hx hb dL_manners_51 dL_manners_54 dL_manners_55 dL_manners_58 (by decide) (by decide) (by first | omega | exact Nat.lt_of_le_of_lt (hw3 _) (by decide) | exact Nat.lt_of_lt_of_le (hr4 _) (by decide) | exact Nat.lt_of_le_of_lt (bp_le _) (by decide) | assumption) ?_
  refine lv_istore (lv' := [(4, .int (nI (bp (w (6 * 6 + 4))))), (3, .int (nI (bp (w (6 * 6 + t))))), (0, .ref (ad 0)), (1, .int (-1)), (2, .int (nI (t)))]) hx hb dL_manners_59 hl (by decide) rfl (fun ls hl => ?_)
  refine lv_iload_n hx hb dL_manners_61 rfl (lv_at hl 3 rfl) ?_
  refine lv_if_ge (tgt := 75) hx hb dL_manners_62 (by decide) (fun c_62 => absurd c_62 (by decide)) (fun c_62 => ?_)
  refine lv_aload_n hx hb dL_manners_65 rfl (lv_at hl 2 rfl) ?_
  refine q_ic 0 hx hb dL_manners_66 (by decide) ?_
  refine q_ic 5 hx hb dL_manners_67 (by decide) ?_
  refine q_ic 0 hx hb dL_manners_68 (by decide) ?_
  refine q_kI2 (q_rV (As := [.int (nI 0), .int (nI 5), .int (nI 0)]) (rest := []) (x := 0) hC hW mw_X5_weight gw_156 (k_weight l G n ad H.size I_38 L_38 R_38 (nI 0) (nI 5) (nI 0) w K ro hc hi sv pn ch hA) (by omega) (ct_o5 kd_0) rfl ⟨rfl, rfl⟩ ⟨Nat.le_of_ble_eq_true rfl, Nat.le_of_ble_eq_true rfl⟩ ⟨(Nat.le_of_ble_eq_true rfl), (Nat.le_of_ble_eq_true rfl)⟩ hl.1 rfl rfl (Nat.le_of_ble_eq_true rfl) dL_manners_69) hW (fun r_69 n_69 ad_69 I_69 L_69 R_69 H locs hp hW => ?_)
  obtain ⟨hz, rfl, rfl, hA, hF⟩ := PR_use hp
  have hG := fr_t hF hG
  have hz : r_69 = nI (w (6 * 6 + 5)) := hz.trans (aW0 (S := ((w, K, ro), hc, hi, sv, pn, ch)) (c := 5) (by first | omega | assumption))
  subst hz
  refine lv_goto (tgt := 82) hx hb dL_manners_72 (by decide) ?_
  refine q_bple (t := 89) hx hb dL_manners_82 dL_manners_85 dL_manners_86 dL_manners_89 (by decide) (by decide) (by first | omega | exact Nat.lt_of_le_of_lt (hw3 _) (by decide) | exact Nat.lt_of_lt_of_le (hr4 _) (by decide) | exact Nat.lt_of_le_of_lt (bp_le _) (by decide) | assumption) ?_
  refine lv_istore (lv' := [(5, .int (nI (bp (w (6 * 6 + 5))))), (4, .int (nI (bp (w (6 * 6 + 4))))), (3, .int (nI (bp (w (6 * 6 + t))))), (0, .ref (ad 0)), (1, .int (-1)), (2, .int (nI (t)))]) hx hb dL_manners_90 hl (by decide) rfl (fun ls hl => ?_)
  refine lv_aload_n hx hb dL_manners_92 rfl (lv_at hl 3 rfl) ?_
  refine q_ic 1 hx hb dL_manners_93 (by decide) ?_
  refine q_ic 5 hx hb dL_manners_94 (by decide) ?_
  refine lv_iload_n hx hb dL_manners_95 rfl (lv_at hl 5 rfl) ?_
  refine q_kI2 (q_rV (As := [.int (nI 1), .int (nI 5), .int (nI (t))]) (rest := []) (x := 0) hC hW mw_X5_weight gw_156 (k_weight l G n ad H.size I_69 L_69 R_69 (nI 1) (nI 5) (nI t) w K ro hc hi sv pn ch hA) (by omega) (ct_o5 kd_0) rfl ⟨rfl, rfl⟩ ⟨Nat.le_of_ble_eq_true rfl, Nat.le_of_ble_eq_true rfl⟩ ⟨(Nat.le_of_ble_eq_true rfl), (Nat.le_of_ble_eq_true rfl)⟩ hl.1 rfl rfl (Nat.le_of_ble_eq_true rfl) dL_manners_96) hW (fun r_96 n_96 ad_96 I_96 L_96 R_96 H locs hp hW => ?_)
  obtain ⟨hz, rfl, rfl, hA, hF⟩ := PR_use hp
  have hG := fr_t hF hG
  have hz : r_96 = nI (w (5 * 6 + t)) := hz.trans (aW1 (S := ((w, K, ro), hc, hi, sv, pn, ch)) (f := 5) (t := t) (by first | omega | assumption) (by first | omega | assumption))
  subst hz
  refine q_bple (t := 106) hx hb dL_manners_99 dL_manners_102 dL_manners_103 dL_manners_106 (by decide) (by decide) (by first | omega | exact Nat.lt_of_le_of_lt (hw3 _) (by decide) | exact Nat.lt_of_lt_of_le (hr4 _) (by decide) | exact Nat.lt_of_le_of_lt (bp_le _) (by decide) | assumption) ?_
  refine lv_istore (lv' := [(6, .int (nI (bp (w (5 * 6 + t))))), (5, .int (nI (bp (w (6 * 6 + 5))))), (4, .int (nI (bp (w (6 * 6 + 4))))), (3, .int (nI (bp (w (6 * 6 + t))))), (0, .ref (ad 0)), (1, .int (-1)), (2, .int (nI (t)))]) hx hb dL_manners_107 hl (by decide) rfl (fun ls hl => ?_)
  refine lv_iload_n hx hb dL_manners_109 rfl (lv_at hl 3 rfl) ?_
  refine q_bpeq (t := 117) hx hb dL_manners_110 dL_manners_113 dL_manners_114 dL_manners_117 (by decide) (by decide) (by first | omega | exact Nat.lt_of_le_of_lt (hw3 _) (by decide) | exact Nat.lt_of_lt_of_le (hr4 _) (by decide) | exact Nat.lt_of_le_of_lt (bp_le _) (by decide) | assumption) ?_
  refine lv_iload hx hb dL_manners_118 (lv_at hl 2 rfl) ?_
  refine q_ieq (tgt := 137) hx hb dL_manners_120 (by decide) (by first | omega | exact Nat.lt_of_le_of_lt (hw3 _) (by decide) | exact Nat.lt_of_lt_of_le (hr4 _) (by decide) | exact Nat.lt_of_le_of_lt (bp_le _) (by decide) | assumption) (fun c_120 => ?_) (fun c_120 => ?_)
  ·
    refine q_ic 0 hx hb dL_manners_137 (by decide) ?_
    refine q_iadd hx hb dL_manners_138 ?_
    refine lv_iload hx hb dL_manners_139 (lv_at hl 1 rfl) ?_
    refine q_ieq (tgt := 153) hx hb dL_manners_141 (by decide) (by first | omega | exact Nat.lt_of_le_of_lt (hw3 _) (by decide) | exact Nat.lt_of_lt_of_le (hr4 _) (by decide) | exact Nat.lt_of_le_of_lt (bp_le _) (by decide) | assumption) (fun c_141 => ?_) (fun c_141 => ?_)
    ·
      refine q_ic 0 hx hb dL_manners_153 (by decide) ?_
      refine q_iadd hx hb dL_manners_154 ?_
      refine lv_iload hx hb dL_manners_155 (lv_at hl 2 rfl) ?_
      refine q_ieq (tgt := 179) hx hb dL_manners_157 (by decide) (by first | omega | exact Nat.lt_of_le_of_lt (hw3 _) (by decide) | exact Nat.lt_of_lt_of_le (hr4 _) (by decide) | exact Nat.lt_of_le_of_lt (bp_le _) (by decide) | assumption) (fun c_157 => ?_) (fun c_157 => absurd c_157 (by have := c_120; omega))
      refine q_ic 0 hx hb dL_manners_179 (by decide) ?_
      refine q_iadd hx hb dL_manners_180 ?_
      refine q_top (v2 := .int (nI (ov (wb w) 6 t))) (congrArg (fun z => Value.int (nI z)) (by simp only [ov, wb, bp_bp, c_120, c_141] <;> omega)) ?_
      exact q_iret2 hC hW hr hlk0 (PR_q hA hG) dL_manners_181
    ·
      refine lv_iload hx hb dL_manners_144 (lv_at hl 0 rfl) ?_
      refine q_ieq (tgt := 153) hx hb dL_manners_146 (by decide) (by first | omega | exact Nat.lt_of_le_of_lt (hw3 _) (by decide) | exact Nat.lt_of_lt_of_le (hr4 _) (by decide) | exact Nat.lt_of_le_of_lt (bp_le _) (by decide) | assumption) (fun c_146 => ?_) (fun c_146 => ?_)
      ·
        refine q_ic 0 hx hb dL_manners_153 (by decide) ?_
        refine q_iadd hx hb dL_manners_154 ?_
        refine lv_iload hx hb dL_manners_155 (lv_at hl 2 rfl) ?_
        refine q_ieq (tgt := 179) hx hb dL_manners_157 (by decide) (by first | omega | exact Nat.lt_of_le_of_lt (hw3 _) (by decide) | exact Nat.lt_of_lt_of_le (hr4 _) (by decide) | exact Nat.lt_of_le_of_lt (bp_le _) (by decide) | assumption) (fun c_157 => ?_) (fun c_157 => absurd c_157 (by have := c_120; omega))
        refine q_ic 0 hx hb dL_manners_179 (by decide) ?_
        refine q_iadd hx hb dL_manners_180 ?_
        refine q_top (v2 := .int (nI (ov (wb w) 6 t))) (congrArg (fun z => Value.int (nI z)) (by simp only [ov, wb, bp_bp, c_120, (show bp (w (6 * 6 + 5)) = 1 from by have h7 := bp_le ((w (6 * 6 + 5))); omega), c_146] <;> omega)) ?_
        exact q_iret2 hC hW hr hlk0 (PR_q hA hG) dL_manners_181
      ·
        refine q_ic 1 hx hb dL_manners_149 (by decide) ?_
        refine lv_goto (tgt := 154) hx hb dL_manners_150 (by decide) ?_
        refine q_iadd hx hb dL_manners_154 ?_
        refine lv_iload hx hb dL_manners_155 (lv_at hl 2 rfl) ?_
        refine q_ieq (tgt := 179) hx hb dL_manners_157 (by decide) (by first | omega | exact Nat.lt_of_le_of_lt (hw3 _) (by decide) | exact Nat.lt_of_lt_of_le (hr4 _) (by decide) | exact Nat.lt_of_le_of_lt (bp_le _) (by decide) | assumption) (fun c_157 => ?_) (fun c_157 => absurd c_157 (by have := c_120; omega))
        refine q_ic 0 hx hb dL_manners_179 (by decide) ?_
        refine q_iadd hx hb dL_manners_180 ?_
        refine q_top (v2 := .int (nI (ov (wb w) 6 t))) (congrArg (fun z => Value.int (nI z)) (by simp only [ov, wb, bp_bp, c_120, (show bp (w (6 * 6 + 5)) = 1 from by have h7 := bp_le ((w (6 * 6 + 5))); omega), (show bp (w (5 * 6 + t)) = 1 from by have h7 := bp_le ((w (5 * 6 + t))); omega)] <;> omega)) ?_
        exact q_iret2 hC hW hr hlk0 (PR_q hA hG) dL_manners_181
  ·
    refine lv_aload_n hx hb dL_manners_123 rfl (lv_at hl 4 rfl) ?_
    refine q_ic 1 hx hb dL_manners_124 (by decide) ?_
    refine q_ic 4 hx hb dL_manners_125 (by decide) ?_
    refine lv_iload_n hx hb dL_manners_126 rfl (lv_at hl 6 rfl) ?_
    refine q_kI2 (q_rV (As := [.int (nI 1), .int (nI 4), .int (nI (t))]) (rest := [.int (nI (bp (bp (w (6 * 6 + t)))))]) (x := 0) hC hW mw_X5_weight gw_156 (k_weight l G n ad H.size I_96 L_96 R_96 (nI 1) (nI 4) (nI t) w K ro hc hi sv pn ch hA) (by omega) (ct_o5 kd_0) rfl ⟨rfl, rfl⟩ ⟨Nat.le_of_ble_eq_true rfl, Nat.le_of_ble_eq_true rfl⟩ ⟨(Nat.le_of_ble_eq_true rfl), (Nat.le_of_ble_eq_true rfl)⟩ hl.1 rfl rfl (Nat.le_of_ble_eq_true rfl) dL_manners_127) hW (fun r_127 n_127 ad_127 I_127 L_127 R_127 H locs hp hW => ?_)
    obtain ⟨hz, rfl, rfl, hA, hF⟩ := PR_use hp
    have hG := fr_t hF hG
    have hz : r_127 = nI (w (4 * 6 + t)) := hz.trans (aW1 (S := ((w, K, ro), hc, hi, sv, pn, ch)) (f := 4) (t := t) (by first | omega | assumption) (by first | omega | assumption))
    subst hz
    refine q_ile (tgt := 137) hx hb dL_manners_130 (by decide) (by first | omega | exact Nat.lt_of_le_of_lt (hw3 _) (by decide) | exact Nat.lt_of_lt_of_le (hr4 _) (by decide) | exact Nat.lt_of_le_of_lt (bp_le _) (by decide) | assumption) (fun c_130 => ?_) (fun c_130 => ?_)
    ·
      refine q_ic 0 hx hb dL_manners_137 (by decide) ?_
      refine q_iadd hx hb dL_manners_138 ?_
      refine lv_iload hx hb dL_manners_139 (lv_at hl 1 rfl) ?_
      refine q_ieq (tgt := 153) hx hb dL_manners_141 (by decide) (by first | omega | exact Nat.lt_of_le_of_lt (hw3 _) (by decide) | exact Nat.lt_of_lt_of_le (hr4 _) (by decide) | exact Nat.lt_of_le_of_lt (bp_le _) (by decide) | assumption) (fun c_141 => ?_) (fun c_141 => ?_)
      ·
        refine q_ic 0 hx hb dL_manners_153 (by decide) ?_
        refine q_iadd hx hb dL_manners_154 ?_
        refine lv_iload hx hb dL_manners_155 (lv_at hl 2 rfl) ?_
        refine q_ieq (tgt := 179) hx hb dL_manners_157 (by decide) (by first | omega | exact Nat.lt_of_le_of_lt (hw3 _) (by decide) | exact Nat.lt_of_lt_of_le (hr4 _) (by decide) | exact Nat.lt_of_le_of_lt (bp_le _) (by decide) | assumption) (fun c_157 => absurd c_157 (by have := c_120; omega)) (fun c_157 => ?_)
        refine lv_aload_n hx hb dL_manners_160 rfl (lv_at hl 4 rfl) ?_
        refine q_ic 1 hx hb dL_manners_161 (by decide) ?_
        refine q_ic 4 hx hb dL_manners_162 (by decide) ?_
        refine q_ic 5 hx hb dL_manners_163 (by decide) ?_
        refine q_kI2 (q_rV (As := [.int (nI 1), .int (nI 4), .int (nI 5)]) (rest := [.int (nI (((bp (bp (w (6 * 6 + t)))) + 0) + 0))]) (x := 0) hC hW mw_X5_weight gw_156 (k_weight l G n ad H.size I_127 L_127 R_127 (nI 1) (nI 4) (nI 5) w K ro hc hi sv pn ch hA) (by omega) (ct_o5 kd_0) rfl ⟨rfl, rfl⟩ ⟨Nat.le_of_ble_eq_true rfl, Nat.le_of_ble_eq_true rfl⟩ ⟨(Nat.le_of_ble_eq_true rfl), (Nat.le_of_ble_eq_true rfl)⟩ hl.1 rfl rfl (Nat.le_of_ble_eq_true rfl) dL_manners_164) hW (fun r_164 n_164 ad_164 I_164 L_164 R_164 H locs hp hW => ?_)
        obtain ⟨hz, rfl, rfl, hA, hF⟩ := PR_use hp
        have hG := fr_t hF hG
        have hz : r_164 = nI (w (4 * 6 + 5)) := hz.trans (aW1 (S := ((w, K, ro), hc, hi, sv, pn, ch)) (f := 4) (t := 5) (by first | omega | assumption) (by first | omega | assumption))
        subst hz
        refine q_ile (tgt := 179) hx hb dL_manners_167 (by decide) (by first | omega | exact Nat.lt_of_le_of_lt (hw3 _) (by decide) | exact Nat.lt_of_lt_of_le (hr4 _) (by decide) | exact Nat.lt_of_le_of_lt (bp_le _) (by decide) | assumption) (fun c_167 => ?_) (fun c_167 => ?_)
        ·
          refine q_ic 0 hx hb dL_manners_179 (by decide) ?_
          refine q_iadd hx hb dL_manners_180 ?_
          refine q_top (v2 := .int (nI (ov (wb w) 6 t))) (congrArg (fun z => Value.int (nI z)) (by simp only [ov, wb, bp_bp, (show bp (w (6 * 6 + 4)) = 1 from by have h7 := bp_le ((w (6 * 6 + 4))); omega), (bp_n (x := w (4 * 6 + t)) c_130), c_141, (bp_n (x := w (4 * 6 + 5)) c_167)] <;> omega)) ?_
          exact q_iret2 hC hW hr hlk0 (PR_q hA hG) dL_manners_181
        ·
          refine lv_iload hx hb dL_manners_170 (lv_at hl 0 rfl) ?_
          refine q_ieq (tgt := 179) hx hb dL_manners_172 (by decide) (by first | omega | exact Nat.lt_of_le_of_lt (hw3 _) (by decide) | exact Nat.lt_of_lt_of_le (hr4 _) (by decide) | exact Nat.lt_of_le_of_lt (bp_le _) (by decide) | assumption) (fun c_172 => ?_) (fun c_172 => ?_)
          ·
            refine q_ic 0 hx hb dL_manners_179 (by decide) ?_
            refine q_iadd hx hb dL_manners_180 ?_
            refine q_top (v2 := .int (nI (ov (wb w) 6 t))) (congrArg (fun z => Value.int (nI z)) (by simp only [ov, wb, bp_bp, (show bp (w (6 * 6 + 4)) = 1 from by have h7 := bp_le ((w (6 * 6 + 4))); omega), (bp_n (x := w (4 * 6 + t)) c_130), c_141, (bp_p (x := w (4 * 6 + 5)) (by omega)), c_172] <;> omega)) ?_
            exact q_iret2 hC hW hr hlk0 (PR_q hA hG) dL_manners_181
          ·
            refine q_ic 1 hx hb dL_manners_175 (by decide) ?_
            refine lv_goto (tgt := 180) hx hb dL_manners_176 (by decide) ?_
            refine q_iadd hx hb dL_manners_180 ?_
            refine q_top (v2 := .int (nI (ov (wb w) 6 t))) (congrArg (fun z => Value.int (nI z)) (by simp only [ov, wb, bp_bp, (show bp (w (6 * 6 + 4)) = 1 from by have h7 := bp_le ((w (6 * 6 + 4))); omega), (bp_n (x := w (4 * 6 + t)) c_130), c_141, (bp_p (x := w (4 * 6 + 5)) (by omega)), (show bp (w (5 * 6 + t)) = 1 from by have h7 := bp_le ((w (5 * 6 + t))); omega)] <;> omega)) ?_
            exact q_iret2 hC hW hr hlk0 (PR_q hA hG) dL_manners_181
      ·
        refine lv_iload hx hb dL_manners_144 (lv_at hl 0 rfl) ?_
        refine q_ieq (tgt := 153) hx hb dL_manners_146 (by decide) (by first | omega | exact Nat.lt_of_le_of_lt (hw3 _) (by decide) | exact Nat.lt_of_lt_of_le (hr4 _) (by decide) | exact Nat.lt_of_le_of_lt (bp_le _) (by decide) | assumption) (fun c_146 => ?_) (fun c_146 => ?_)
        ·
          refine q_ic 0 hx hb dL_manners_153 (by decide) ?_
          refine q_iadd hx hb dL_manners_154 ?_
          refine lv_iload hx hb dL_manners_155 (lv_at hl 2 rfl) ?_
          refine q_ieq (tgt := 179) hx hb dL_manners_157 (by decide) (by first | omega | exact Nat.lt_of_le_of_lt (hw3 _) (by decide) | exact Nat.lt_of_lt_of_le (hr4 _) (by decide) | exact Nat.lt_of_le_of_lt (bp_le _) (by decide) | assumption) (fun c_157 => absurd c_157 (by have := c_120; omega)) (fun c_157 => ?_)
          refine lv_aload_n hx hb dL_manners_160 rfl (lv_at hl 4 rfl) ?_
          refine q_ic 1 hx hb dL_manners_161 (by decide) ?_
          refine q_ic 4 hx hb dL_manners_162 (by decide) ?_
          refine q_ic 5 hx hb dL_manners_163 (by decide) ?_
          refine q_kI2 (q_rV (As := [.int (nI 1), .int (nI 4), .int (nI 5)]) (rest := [.int (nI (((bp (bp (w (6 * 6 + t)))) + 0) + 0))]) (x := 0) hC hW mw_X5_weight gw_156 (k_weight l G n ad H.size I_127 L_127 R_127 (nI 1) (nI 4) (nI 5) w K ro hc hi sv pn ch hA) (by omega) (ct_o5 kd_0) rfl ⟨rfl, rfl⟩ ⟨Nat.le_of_ble_eq_true rfl, Nat.le_of_ble_eq_true rfl⟩ ⟨(Nat.le_of_ble_eq_true rfl), (Nat.le_of_ble_eq_true rfl)⟩ hl.1 rfl rfl (Nat.le_of_ble_eq_true rfl) dL_manners_164) hW (fun r_164 n_164 ad_164 I_164 L_164 R_164 H locs hp hW => ?_)
          obtain ⟨hz, rfl, rfl, hA, hF⟩ := PR_use hp
          have hG := fr_t hF hG
          have hz : r_164 = nI (w (4 * 6 + 5)) := hz.trans (aW1 (S := ((w, K, ro), hc, hi, sv, pn, ch)) (f := 4) (t := 5) (by first | omega | assumption) (by first | omega | assumption))
          subst hz
          refine q_ile (tgt := 179) hx hb dL_manners_167 (by decide) (by first | omega | exact Nat.lt_of_le_of_lt (hw3 _) (by decide) | exact Nat.lt_of_lt_of_le (hr4 _) (by decide) | exact Nat.lt_of_le_of_lt (bp_le _) (by decide) | assumption) (fun c_167 => ?_) (fun c_167 => ?_)
          ·
            refine q_ic 0 hx hb dL_manners_179 (by decide) ?_
            refine q_iadd hx hb dL_manners_180 ?_
            refine q_top (v2 := .int (nI (ov (wb w) 6 t))) (congrArg (fun z => Value.int (nI z)) (by simp only [ov, wb, bp_bp, (show bp (w (6 * 6 + 4)) = 1 from by have h7 := bp_le ((w (6 * 6 + 4))); omega), (bp_n (x := w (4 * 6 + t)) c_130), (show bp (w (6 * 6 + 5)) = 1 from by have h7 := bp_le ((w (6 * 6 + 5))); omega), c_146, (bp_n (x := w (4 * 6 + 5)) c_167)] <;> omega)) ?_
            exact q_iret2 hC hW hr hlk0 (PR_q hA hG) dL_manners_181
          ·
            refine lv_iload hx hb dL_manners_170 (lv_at hl 0 rfl) ?_
            refine q_ieq (tgt := 179) hx hb dL_manners_172 (by decide) (by first | omega | exact Nat.lt_of_le_of_lt (hw3 _) (by decide) | exact Nat.lt_of_lt_of_le (hr4 _) (by decide) | exact Nat.lt_of_le_of_lt (bp_le _) (by decide) | assumption) (fun c_172 => ?_) (fun c_172 => absurd c_172 (by have := c_146; omega))
            refine q_ic 0 hx hb dL_manners_179 (by decide) ?_
            refine q_iadd hx hb dL_manners_180 ?_
            refine q_top (v2 := .int (nI (ov (wb w) 6 t))) (congrArg (fun z => Value.int (nI z)) (by simp only [ov, wb, bp_bp, (show bp (w (6 * 6 + 4)) = 1 from by have h7 := bp_le ((w (6 * 6 + 4))); omega), (bp_n (x := w (4 * 6 + t)) c_130), (show bp (w (6 * 6 + 5)) = 1 from by have h7 := bp_le ((w (6 * 6 + 5))); omega), c_146, (bp_p (x := w (4 * 6 + 5)) (by omega))] <;> omega)) ?_
            exact q_iret2 hC hW hr hlk0 (PR_q hA hG) dL_manners_181
        ·
          refine q_ic 1 hx hb dL_manners_149 (by decide) ?_
          refine lv_goto (tgt := 154) hx hb dL_manners_150 (by decide) ?_
          refine q_iadd hx hb dL_manners_154 ?_
          refine lv_iload hx hb dL_manners_155 (lv_at hl 2 rfl) ?_
          refine q_ieq (tgt := 179) hx hb dL_manners_157 (by decide) (by first | omega | exact Nat.lt_of_le_of_lt (hw3 _) (by decide) | exact Nat.lt_of_lt_of_le (hr4 _) (by decide) | exact Nat.lt_of_le_of_lt (bp_le _) (by decide) | assumption) (fun c_157 => absurd c_157 (by have := c_120; omega)) (fun c_157 => ?_)
          refine lv_aload_n hx hb dL_manners_160 rfl (lv_at hl 4 rfl) ?_
          refine q_ic 1 hx hb dL_manners_161 (by decide) ?_
          refine q_ic 4 hx hb dL_manners_162 (by decide) ?_
          refine q_ic 5 hx hb dL_manners_163 (by decide) ?_
          refine q_kI2 (q_rV (As := [.int (nI 1), .int (nI 4), .int (nI 5)]) (rest := [.int (nI (((bp (bp (w (6 * 6 + t)))) + 0) + 1))]) (x := 0) hC hW mw_X5_weight gw_156 (k_weight l G n ad H.size I_127 L_127 R_127 (nI 1) (nI 4) (nI 5) w K ro hc hi sv pn ch hA) (by omega) (ct_o5 kd_0) rfl ⟨rfl, rfl⟩ ⟨Nat.le_of_ble_eq_true rfl, Nat.le_of_ble_eq_true rfl⟩ ⟨(Nat.le_of_ble_eq_true rfl), (Nat.le_of_ble_eq_true rfl)⟩ hl.1 rfl rfl (Nat.le_of_ble_eq_true rfl) dL_manners_164) hW (fun r_164 n_164 ad_164 I_164 L_164 R_164 H locs hp hW => ?_)
          obtain ⟨hz, rfl, rfl, hA, hF⟩ := PR_use hp
          have hG := fr_t hF hG
          have hz : r_164 = nI (w (4 * 6 + 5)) := hz.trans (aW1 (S := ((w, K, ro), hc, hi, sv, pn, ch)) (f := 4) (t := 5) (by first | omega | assumption) (by first | omega | assumption))
          subst hz
          refine q_ile (tgt := 179) hx hb dL_manners_167 (by decide) (by first | omega | exact Nat.lt_of_le_of_lt (hw3 _) (by decide) | exact Nat.lt_of_lt_of_le (hr4 _) (by decide) | exact Nat.lt_of_le_of_lt (bp_le _) (by decide) | assumption) (fun c_167 => ?_) (fun c_167 => ?_)
          ·
            refine q_ic 0 hx hb dL_manners_179 (by decide) ?_
            refine q_iadd hx hb dL_manners_180 ?_
            refine q_top (v2 := .int (nI (ov (wb w) 6 t))) (congrArg (fun z => Value.int (nI z)) (by simp only [ov, wb, bp_bp, (show bp (w (6 * 6 + 4)) = 1 from by have h7 := bp_le ((w (6 * 6 + 4))); omega), (bp_n (x := w (4 * 6 + t)) c_130), (show bp (w (6 * 6 + 5)) = 1 from by have h7 := bp_le ((w (6 * 6 + 5))); omega), (show bp (w (5 * 6 + t)) = 1 from by have h7 := bp_le ((w (5 * 6 + t))); omega), (bp_n (x := w (4 * 6 + 5)) c_167)] <;> omega)) ?_
            exact q_iret2 hC hW hr hlk0 (PR_q hA hG) dL_manners_181
          ·
            refine lv_iload hx hb dL_manners_170 (lv_at hl 0 rfl) ?_
            refine q_ieq (tgt := 179) hx hb dL_manners_172 (by decide) (by first | omega | exact Nat.lt_of_le_of_lt (hw3 _) (by decide) | exact Nat.lt_of_lt_of_le (hr4 _) (by decide) | exact Nat.lt_of_le_of_lt (bp_le _) (by decide) | assumption) (fun c_172 => absurd c_172 (by have := c_146; omega)) (fun c_172 => ?_)
            refine q_ic 1 hx hb dL_manners_175 (by decide) ?_
            refine lv_goto (tgt := 180) hx hb dL_manners_176 (by decide) ?_
            refine q_iadd hx hb dL_manners_180 ?_
            refine q_top (v2 := .int (nI (ov (wb w) 6 t))) (congrArg (fun z => Value.int (nI z)) (by simp only [ov, wb, bp_bp, (show bp (w (6 * 6 + 4)) = 1 from by have h7 := bp_le ((w (6 * 6 + 4))); omega), (bp_n (x := w (4 * 6 + t)) c_130), (show bp (w (6 * 6 + 5)) = 1 from by have h7 := bp_le ((w (6 * 6 + 5))); omega), (show bp (w (5 * 6 + t)) = 1 from by have h7 := bp_le ((w (5 * 6 + t))); omega), (bp_p (x := w (4 * 6 + 5)) (by omega))] <;> omega)) ?_
            exact q_iret2 hC hW hr hlk0 (PR_q hA hG) dL_manners_181
    ·
      refine q_ic 1 hx hb dL_manners_133 (by decide) ?_
      refine lv_goto (tgt := 138) hx hb dL_manners_134 (by decide) ?_
      refine q_iadd hx hb dL_manners_138 ?_
      refine lv_iload hx hb dL_manners_139 (lv_at hl 1 rfl) ?_
      refine q_ieq (tgt := 153) hx hb dL_manners_141 (by decide) (by first | omega | exact Nat.lt_of_le_of_lt (hw3 _) (by decide) | exact Nat.lt_of_lt_of_le (hr4 _) (by decide) | exact Nat.lt_of_le_of_lt (bp_le _) (by decide) | assumption) (fun c_141 => ?_) (fun c_141 => ?_)
      ·
        refine q_ic 0 hx hb dL_manners_153 (by decide) ?_
        refine q_iadd hx hb dL_manners_154 ?_
        refine lv_iload hx hb dL_manners_155 (lv_at hl 2 rfl) ?_
        refine q_ieq (tgt := 179) hx hb dL_manners_157 (by decide) (by first | omega | exact Nat.lt_of_le_of_lt (hw3 _) (by decide) | exact Nat.lt_of_lt_of_le (hr4 _) (by decide) | exact Nat.lt_of_le_of_lt (bp_le _) (by decide) | assumption) (fun c_157 => absurd c_157 (by have := c_120; omega)) (fun c_157 => ?_)
        refine lv_aload_n hx hb dL_manners_160 rfl (lv_at hl 4 rfl) ?_
        refine q_ic 1 hx hb dL_manners_161 (by decide) ?_
        refine q_ic 4 hx hb dL_manners_162 (by decide) ?_
        refine q_ic 5 hx hb dL_manners_163 (by decide) ?_
        refine q_kI2 (q_rV (As := [.int (nI 1), .int (nI 4), .int (nI 5)]) (rest := [.int (nI (((bp (bp (w (6 * 6 + t)))) + 1) + 0))]) (x := 0) hC hW mw_X5_weight gw_156 (k_weight l G n ad H.size I_127 L_127 R_127 (nI 1) (nI 4) (nI 5) w K ro hc hi sv pn ch hA) (by omega) (ct_o5 kd_0) rfl ⟨rfl, rfl⟩ ⟨Nat.le_of_ble_eq_true rfl, Nat.le_of_ble_eq_true rfl⟩ ⟨(Nat.le_of_ble_eq_true rfl), (Nat.le_of_ble_eq_true rfl)⟩ hl.1 rfl rfl (Nat.le_of_ble_eq_true rfl) dL_manners_164) hW (fun r_164 n_164 ad_164 I_164 L_164 R_164 H locs hp hW => ?_)
        obtain ⟨hz, rfl, rfl, hA, hF⟩ := PR_use hp
        have hG := fr_t hF hG
        have hz : r_164 = nI (w (4 * 6 + 5)) := hz.trans (aW1 (S := ((w, K, ro), hc, hi, sv, pn, ch)) (f := 4) (t := 5) (by first | omega | assumption) (by first | omega | assumption))
        subst hz
        refine q_ile (tgt := 179) hx hb dL_manners_167 (by decide) (by first | omega | exact Nat.lt_of_le_of_lt (hw3 _) (by decide) | exact Nat.lt_of_lt_of_le (hr4 _) (by decide) | exact Nat.lt_of_le_of_lt (bp_le _) (by decide) | assumption) (fun c_167 => ?_) (fun c_167 => ?_)
        ·
          refine q_ic 0 hx hb dL_manners_179 (by decide) ?_
          refine q_iadd hx hb dL_manners_180 ?_
          refine q_top (v2 := .int (nI (ov (wb w) 6 t))) (congrArg (fun z => Value.int (nI z)) (by simp only [ov, wb, bp_bp, (show bp (w (6 * 6 + 4)) = 1 from by have h7 := bp_le ((w (6 * 6 + 4))); omega), (bp_p (x := w (4 * 6 + t)) (by omega)), c_141, (bp_n (x := w (4 * 6 + 5)) c_167)] <;> omega)) ?_
          exact q_iret2 hC hW hr hlk0 (PR_q hA hG) dL_manners_181
        ·
          refine lv_iload hx hb dL_manners_170 (lv_at hl 0 rfl) ?_
          refine q_ieq (tgt := 179) hx hb dL_manners_172 (by decide) (by first | omega | exact Nat.lt_of_le_of_lt (hw3 _) (by decide) | exact Nat.lt_of_lt_of_le (hr4 _) (by decide) | exact Nat.lt_of_le_of_lt (bp_le _) (by decide) | assumption) (fun c_172 => ?_) (fun c_172 => ?_)
          ·
            refine q_ic 0 hx hb dL_manners_179 (by decide) ?_
            refine q_iadd hx hb dL_manners_180 ?_
            refine q_top (v2 := .int (nI (ov (wb w) 6 t))) (congrArg (fun z => Value.int (nI z)) (by simp only [ov, wb, bp_bp, (show bp (w (6 * 6 + 4)) = 1 from by have h7 := bp_le ((w (6 * 6 + 4))); omega), (bp_p (x := w (4 * 6 + t)) (by omega)), c_141, (bp_p (x := w (4 * 6 + 5)) (by omega)), c_172] <;> omega)) ?_
            exact q_iret2 hC hW hr hlk0 (PR_q hA hG) dL_manners_181
          ·
            refine q_ic 1 hx hb dL_manners_175 (by decide) ?_
            refine lv_goto (tgt := 180) hx hb dL_manners_176 (by decide) ?_
            refine q_iadd hx hb dL_manners_180 ?_
            refine q_top (v2 := .int (nI (ov (wb w) 6 t))) (congrArg (fun z => Value.int (nI z)) (by simp only [ov, wb, bp_bp, (show bp (w (6 * 6 + 4)) = 1 from by have h7 := bp_le ((w (6 * 6 + 4))); omega), (bp_p (x := w (4 * 6 + t)) (by omega)), c_141, (bp_p (x := w (4 * 6 + 5)) (by omega)), (show bp (w (5 * 6 + t)) = 1 from by have h7 := bp_le ((w (5 * 6 + t))); omega)] <;> omega)) ?_
            exact q_iret2 hC hW hr hlk0 (PR_q hA hG) dL_manners_181
      ·
        refine lv_iload hx hb dL_manners_144 (lv_at hl 0 rfl) ?_
        refine q_ieq (tgt := 153) hx hb dL_manners_146 (by decide) (by first | omega | exact Nat.lt_of_le_of_lt (hw3 _) (by decide) | exact Nat.lt_of_lt_of_le (hr4 _) (by decide) | exact Nat.lt_of_le_of_lt (bp_le _) (by decide) | assumption) (fun c_146 => ?_) (fun c_146 => ?_)
        ·
          refine q_ic 0 hx hb dL_manners_153 (by decide) ?_
          refine q_iadd hx hb dL_manners_154 ?_
          refine lv_iload hx hb dL_manners_155 (lv_at hl 2 rfl) ?_
          refine q_ieq (tgt := 179) hx hb dL_manners_157 (by decide) (by first | omega | exact Nat.lt_of_le_of_lt (hw3 _) (by decide) | exact Nat.lt_of_lt_of_le (hr4 _) (by decide) | exact Nat.lt_of_le_of_lt (bp_le _) (by decide) | assumption) (fun c_157 => absurd c_157 (by have := c_120; omega)) (fun c_157 => ?_)
          refine lv_aload_n hx hb dL_manners_160 rfl (lv_at hl 4 rfl) ?_
          refine q_ic 1 hx hb dL_manners_161 (by decide) ?_
          refine q_ic 4 hx hb dL_manners_162 (by decide) ?_
          refine q_ic 5 hx hb dL_manners_163 (by decide) ?_
          refine q_kI2 (q_rV (As := [.int (nI 1), .int (nI 4), .int (nI 5)]) (rest := [.int (nI (((bp (bp (w (6 * 6 + t)))) + 1) + 0))]) (x := 0) hC hW mw_X5_weight gw_156 (k_weight l G n ad H.size I_127 L_127 R_127 (nI 1) (nI 4) (nI 5) w K ro hc hi sv pn ch hA) (by omega) (ct_o5 kd_0) rfl ⟨rfl, rfl⟩ ⟨Nat.le_of_ble_eq_true rfl, Nat.le_of_ble_eq_true rfl⟩ ⟨(Nat.le_of_ble_eq_true rfl), (Nat.le_of_ble_eq_true rfl)⟩ hl.1 rfl rfl (Nat.le_of_ble_eq_true rfl) dL_manners_164) hW (fun r_164 n_164 ad_164 I_164 L_164 R_164 H locs hp hW => ?_)
          obtain ⟨hz, rfl, rfl, hA, hF⟩ := PR_use hp
          have hG := fr_t hF hG
          have hz : r_164 = nI (w (4 * 6 + 5)) := hz.trans (aW1 (S := ((w, K, ro), hc, hi, sv, pn, ch)) (f := 4) (t := 5) (by first | omega | assumption) (by first | omega | assumption))
          subst hz
          refine q_ile (tgt := 179) hx hb dL_manners_167 (by decide) (by first | omega | exact Nat.lt_of_le_of_lt (hw3 _) (by decide) | exact Nat.lt_of_lt_of_le (hr4 _) (by decide) | exact Nat.lt_of_le_of_lt (bp_le _) (by decide) | assumption) (fun c_167 => ?_) (fun c_167 => ?_)
          ·
            refine q_ic 0 hx hb dL_manners_179 (by decide) ?_
            refine q_iadd hx hb dL_manners_180 ?_
            refine q_top (v2 := .int (nI (ov (wb w) 6 t))) (congrArg (fun z => Value.int (nI z)) (by simp only [ov, wb, bp_bp, (show bp (w (6 * 6 + 4)) = 1 from by have h7 := bp_le ((w (6 * 6 + 4))); omega), (bp_p (x := w (4 * 6 + t)) (by omega)), (show bp (w (6 * 6 + 5)) = 1 from by have h7 := bp_le ((w (6 * 6 + 5))); omega), c_146, (bp_n (x := w (4 * 6 + 5)) c_167)] <;> omega)) ?_
            exact q_iret2 hC hW hr hlk0 (PR_q hA hG) dL_manners_181
          ·
            refine lv_iload hx hb dL_manners_170 (lv_at hl 0 rfl) ?_
            refine q_ieq (tgt := 179) hx hb dL_manners_172 (by decide) (by first | omega | exact Nat.lt_of_le_of_lt (hw3 _) (by decide) | exact Nat.lt_of_lt_of_le (hr4 _) (by decide) | exact Nat.lt_of_le_of_lt (bp_le _) (by decide) | assumption) (fun c_172 => ?_) (fun c_172 => absurd c_172 (by have := c_146; omega))
            refine q_ic 0 hx hb dL_manners_179 (by decide) ?_
            refine q_iadd hx hb dL_manners_180 ?_
            refine q_top (v2 := .int (nI (ov (wb w) 6 t))) (congrArg (fun z => Value.int (nI z)) (by simp only [ov, wb, bp_bp, (show bp (w (6 * 6 + 4)) = 1 from by have h7 := bp_le ((w (6 * 6 + 4))); omega), (bp_p (x := w (4 * 6 + t)) (by omega)), (show bp (w (6 * 6 + 5)) = 1 from by have h7 := bp_le ((w (6 * 6 + 5))); omega), c_146, (bp_p (x := w (4 * 6 + 5)) (by omega))] <;> omega)) ?_
            exact q_iret2 hC hW hr hlk0 (PR_q hA hG) dL_manners_181
        ·
          refine q_ic 1 hx hb dL_manners_149 (by decide) ?_
          refine lv_goto (tgt := 154) hx hb dL_manners_150 (by decide) ?_
          refine q_iadd hx hb dL_manners_154 ?_
          refine lv_iload hx hb dL_manners_155 (lv_at hl 2 rfl) ?_
          refine q_ieq (tgt := 179) hx hb dL_manners_157 (by decide) (by first | omega | exact Nat.lt_of_le_of_lt (hw3 _) (by decide) | exact Nat.lt_of_lt_of_le (hr4 _) (by decide) | exact Nat.lt_of_le_of_lt (bp_le _) (by decide) | assumption) (fun c_157 => absurd c_157 (by have := c_120; omega)) (fun c_157 => ?_)
          refine lv_aload_n hx hb dL_manners_160 rfl (lv_at hl 4 rfl) ?_
          refine q_ic 1 hx hb dL_manners_161 (by decide) ?_
          refine q_ic 4 hx hb dL_manners_162 (by decide) ?_
          refine q_ic 5 hx hb dL_manners_163 (by decide) ?_
          refine q_kI2 (q_rV (As := [.int (nI 1), .int (nI 4), .int (nI 5)]) (rest := [.int (nI (((bp (bp (w (6 * 6 + t)))) + 1) + 1))]) (x := 0) hC hW mw_X5_weight gw_156 (k_weight l G n ad H.size I_127 L_127 R_127 (nI 1) (nI 4) (nI 5) w K ro hc hi sv pn ch hA) (by omega) (ct_o5 kd_0) rfl ⟨rfl, rfl⟩ ⟨Nat.le_of_ble_eq_true rfl, Nat.le_of_ble_eq_true rfl⟩ ⟨(Nat.le_of_ble_eq_true rfl), (Nat.le_of_ble_eq_true rfl)⟩ hl.1 rfl rfl (Nat.le_of_ble_eq_true rfl) dL_manners_164) hW (fun r_164 n_164 ad_164 I_164 L_164 R_164 H locs hp hW => ?_)
          obtain ⟨hz, rfl, rfl, hA, hF⟩ := PR_use hp
          have hG := fr_t hF hG
          have hz : r_164 = nI (w (4 * 6 + 5)) := hz.trans (aW1 (S := ((w, K, ro), hc, hi, sv, pn, ch)) (f := 4) (t := 5) (by first | omega | assumption) (by first | omega | assumption))
          subst hz
          refine q_ile (tgt := 179) hx hb dL_manners_167 (by decide) (by first | omega | exact Nat.lt_of_le_of_lt (hw3 _) (by decide) | exact Nat.lt_of_lt_of_le (hr4 _) (by decide) | exact Nat.lt_of_le_of_lt (bp_le _) (by decide) | assumption) (fun c_167 => ?_) (fun c_167 => ?_)
          ·
            refine q_ic 0 hx hb dL_manners_179 (by decide) ?_
            refine q_iadd hx hb dL_manners_180 ?_
            refine q_top (v2 := .int (nI (ov (wb w) 6 t))) (congrArg (fun z => Value.int (nI z)) (by simp only [ov, wb, bp_bp, (show bp (w (6 * 6 + 4)) = 1 from by have h7 := bp_le ((w (6 * 6 + 4))); omega), (bp_p (x := w (4 * 6 + t)) (by omega)), (show bp (w (6 * 6 + 5)) = 1 from by have h7 := bp_le ((w (6 * 6 + 5))); omega), (show bp (w (5 * 6 + t)) = 1 from by have h7 := bp_le ((w (5 * 6 + t))); omega), (bp_n (x := w (4 * 6 + 5)) c_167)] <;> omega)) ?_
            exact q_iret2 hC hW hr hlk0 (PR_q hA hG) dL_manners_181
          ·
            refine lv_iload hx hb dL_manners_170 (lv_at hl 0 rfl) ?_
            refine q_ieq (tgt := 179) hx hb dL_manners_172 (by decide) (by first | omega | exact Nat.lt_of_le_of_lt (hw3 _) (by decide) | exact Nat.lt_of_lt_of_le (hr4 _) (by decide) | exact Nat.lt_of_le_of_lt (bp_le _) (by decide) | assumption) (fun c_172 => absurd c_172 (by have := c_146; omega)) (fun c_172 => ?_)
            refine q_ic 1 hx hb dL_manners_175 (by decide) ?_
            refine lv_goto (tgt := 180) hx hb dL_manners_176 (by decide) ?_
            refine q_iadd hx hb dL_manners_180 ?_
            refine q_top (v2 := .int (nI (ov (wb w) 6 t))) (congrArg (fun z => Value.int (nI z)) (by simp only [ov, wb, bp_bp, (show bp (w (6 * 6 + 4)) = 1 from by have h7 := bp_le ((w (6 * 6 + 4))); omega), (bp_p (x := w (4 * 6 + t)) (by omega)), (show bp (w (6 * 6 + 5)) = 1 from by have h7 := bp_le ((w (6 * 6 + 5))); omega), (show bp (w (5 * 6 + t)) = 1 from by have h7 := bp_le ((w (5 * 6 + t))); omega), (bp_p (x := w (4 * 6 + 5)) (by omega))] <;> omega)) ?_
            exact q_iret2 hC hW hr hlk0 (PR_q hA hG) dL_manners_181
set_option maxRecDepth 100000 in
set_option maxHeartbeats 4000000 in
theorem k_divisor (l : Launch) (G : Gx) (n : Nat) (ad : Nat → Nat) (sz : Nat) (I : Ic) (L : Lc) (R : Rc) (a b : Nat) (ha : a < 2 ^ 63) (hb63 : b < 2 ^ 63)  : Met l yL_divisor (Cond.code yL_divisor cL_divisor 10 (some .long) :: GW) ({ frames := 0, cells := 0, slots := 0, locals := 0 } : Room) (qPre G n ad sz I L R [.long (lN (a)), .long (lN (b))]) (qL0 G (qA n ad sz) (n, ad, I, L, R) (fun z => z = lN (Nat.gcd a b))) 0 0 (qA n ad sz) := by
  refine q_met (by decide) (Nat.le_of_ble_eq_true rfl) ?_
  intro p_ e_ s m_ below meth c_ hC hr hlk0 hin hsz hW ls hl
  subst hsz
  have hC : CallFix p_ m_ c_ cL_divisor 10 s ([.long (lN (a)), .long (lN (b))] : List Value).toArray GW "CoinRowsLaw" := hC
  have hx := hC.1
  have hb := hC.2.1
  have hl : lv_has ls 10 [(0, .long (lN (a))), (2, .long (lN (b)))] := hl
  refine lv_lload_n hx hb dL_divisor_0 rfl (lv_at hl 0 rfl) ?_
  refine lv_lstore (lv' := [(4, .long (lN (a))), (0, .long (lN (a))), (2, .long (lN (b)))]) hx hb dL_divisor_1 hl (by decide) rfl (fun ls hl => ?_)
  refine lv_lload_n hx hb dL_divisor_3 rfl (lv_at hl 2 rfl) ?_
  refine lv_lstore (lv' := [(6, .long (lN (b))), (4, .long (lN (a))), (0, .long (lN (a))), (2, .long (lN (b)))]) hx hb dL_divisor_4 hl (by decide) rfl (fun ls hl => ?_)
  have lp_6 : ∀ (fu_6 : Nat) (x1 : Nat) (y1 : Nat), y1 < fu_6 → (Nat.gcd x1 y1 = Nat.gcd a b) → (x1 < 2 ^ 63) → (y1 < 2 ^ 63) → ∀ (H : Heap) (locs : List Loc), Wd G n ad I L R (qA n ad s.heap.size) s.heap H locs s → ∀ ls : Array Slot, lv_has ls 10 [(4, .long (lN (x1))), (6, .long (lN (y1)))] → W p_ l e_ ({ frames := 0, cells := 0, slots := 0, locals := 0 } : Room) s m_ ([.long (lN (a)), .long (lN (b))] : List Value).toArray below meth c_ H locs 0 0 (MQ below (qL0 G (qA n ad s.heap.size) (n, ad, I, L, R) (fun z => z = lN (Nat.gcd a b))) ([.long (lN (a)), .long (lN (b))] : List Value).toArray s 0 0 (qA n ad s.heap.size)) (F0 m_ 6 ls []) := by
    intro fu_6
    induction fu_6 with
    | zero =>
      intro x1 y1 hm; exact absurd hm (Nat.not_lt_zero _)
    | succ fu_6 ih_6 =>
      intro x1 y1 hm_6 hgc hx63 hy63 H locs hW ls hl
      refine lv_lload hx hb dL_divisor_6 (lv_at hl 1 rfl) ?_
      refine q_lc 0 hx hb dL_divisor_8 (by decide) ?_
      refine q_lcmp hx hb dL_divisor_9 ?_
      refine q_leq (tgt := 31) hx hb dL_divisor_10 (by decide) hy63 (by decide) (fun c_10 => ?_) (fun c_10 => ?_)
      ·
        refine lv_lload hx hb dL_divisor_31 (lv_at hl 0 rfl) ?_
        exact q_lret0 hC hW hr hlk0 (by rw [← hgc, show y1 = 0 from c_10, Nat.gcd_zero_right]) dL_divisor_33
      ·
        refine lv_lload hx hb dL_divisor_13 (lv_at hl 0 rfl) ?_
        refine lv_lload hx hb dL_divisor_15 (lv_at hl 1 rfl) ?_
        have hs0 : y1 ≠ 0 := c_10
        refine lv_lrem hx hb dL_divisor_17 (fun q => hs0 ((pk_lEQ hy63 (by decide)).mp (show lN y1 = lN 0 from q))) ?_
        refine q_top (v2 := .long (lN (x1 % y1))) (congrArg Value.long (pk_lRem hx63 (by omega) hy63)) ?_
        refine lv_lstore (lv' := [(8, .long (lN (x1 % y1))), (4, .long (lN (x1))), (6, .long (lN (y1)))]) hx hb dL_divisor_18 hl (by decide) rfl (fun ls hl => ?_)
        refine lv_lload hx hb dL_divisor_20 (lv_at hl 2 rfl) ?_
        refine lv_lstore (lv' := [(4, .long (lN (y1))), (8, .long (lN (x1 % y1))), (6, .long (lN (y1)))]) hx hb dL_divisor_22 hl (by decide) rfl (fun ls hl => ?_)
        refine lv_lload hx hb dL_divisor_24 (lv_at hl 1 rfl) ?_
        refine lv_lstore (lv' := [(6, .long (lN (x1 % y1))), (4, .long (lN (y1))), (8, .long (lN (x1 % y1)))]) hx hb dL_divisor_26 hl (by decide) rfl (fun ls hl => ?_)
        refine lv_goto (tgt := 6) hx hb dL_divisor_28 (by decide) ?_
        exact ih_6 y1 (x1 % y1) (by have h8 := Nat.mod_lt x1 (show y1 > 0 by omega); omega) ((gcd_s x1 y1).trans hgc) hy63 (Nat.lt_of_le_of_lt (Nat.mod_le _ _) hx63) _ _ hW _ (lv_sub hl [1, 0] rfl)
  exact lp_6 (b + 1) a b (by omega) rfl ha hb63 _ _ hW _ (lv_sub hl [1, 0] rfl)
set_option maxRecDepth 100000 in
set_option maxHeartbeats 4000000 in
theorem k_lpart (l : Launch) (G : Gx) (n : Nat) (ad : Nat → Nat) (sz : Nat) (I : Ic) (L : Lc) (R : Rc) (u lo N T : Nat) (hu63 : u < 2 ^ 63) (hl63 : lo < 2 ^ 63) (hT63 : T < 2 ^ 63) (hl0 : 0 < lo) (hm0 : T % lo = 0) (hN : u * (T / lo) = N) (hg1 : Nat.gcd u lo = 1)  : Met l yL_isPart (Cond.code yL_isPart cL_isPart 8 (some .boolean) :: GW) ({ frames := 1, cells := 0, slots := 0, locals := 36 } : Room) (qPre G n ad sz I L R [.long (lN (u)), .long (lN (lo)), .long (lN (N)), .long (lN (T))]) (qI0 G (qA n ad sz) (n, ad, I, L, R) (fun z => z = nI 1)) 0 0 (qA n ad sz) := by
  refine q_met (by decide) (Nat.le_of_ble_eq_true rfl) ?_
  intro p_ e_ s m_ below meth c_ hC hr hlk0 hin hsz hW ls hl
  subst hsz
  have hC : CallFix p_ m_ c_ cL_isPart 8 s ([.long (lN (u)), .long (lN (lo)), .long (lN (N)), .long (lN (T))] : List Value).toArray GW "CoinRowsLaw" := hC
  have hx := hC.1
  have hb := hC.2.1
  have hl : lv_has ls 8 [(0, .long (lN (u))), (2, .long (lN (lo))), (4, .long (lN (N))), (6, .long (lN (T)))] := hl
  refine lv_lload_n hx hb dL_isPart_0 rfl (lv_at hl 1 rfl) ?_
  refine q_lc 0 hx hb dL_isPart_1 (by decide) ?_
  refine q_lcmp hx hb dL_isPart_2 ?_
  refine q_lle (tgt := 41) hx hb dL_isPart_3 (by decide) hl63 (by decide) (fun c_3 => absurd c_3 (by omega)) (fun c_3 => ?_)
  refine lv_lload hx hb dL_isPart_6 (lv_at hl 3 rfl) ?_
  refine lv_lload_n hx hb dL_isPart_8 rfl (lv_at hl 1 rfl) ?_
  refine lv_lrem hx hb dL_isPart_9 (fun q => (show lo ≠ 0 by omega) ((pk_lEQ hl63 (by decide)).mp (show lN lo = lN 0 from q))) ?_
  refine q_top (v2 := .long (lN (T % lo))) (congrArg Value.long (pk_lRem hT63 hl0 hl63)) ?_
  refine q_lc 0 hx hb dL_isPart_10 (by decide) ?_
  refine q_lcmp hx hb dL_isPart_11 ?_
  refine q_Lne (tgt := 41) hx hb dL_isPart_12 (by decide) (fun c_12 => absurd (congrArg lN hm0) c_12) (fun c_12 => ?_)
  refine lv_lload_n hx hb dL_isPart_15 rfl (lv_at hl 0 rfl) ?_
  refine lv_lload hx hb dL_isPart_16 (lv_at hl 3 rfl) ?_
  refine lv_lload_n hx hb dL_isPart_18 rfl (lv_at hl 1 rfl) ?_
  refine lv_ldiv hx hb dL_isPart_19 (fun q => (show lo ≠ 0 by omega) ((pk_lEQ hl63 (by decide)).mp (show lN lo = lN 0 from q))) ?_
  refine q_top (v2 := .long (lN (T / lo))) (congrArg Value.long (pk_lDiv hT63 hl0 hl63)) ?_
  refine q_lmul hx hb dL_isPart_20 ?_
  refine lv_lload hx hb dL_isPart_21 (lv_at hl 2 rfl) ?_
  refine q_lcmp hx hb dL_isPart_23 ?_
  refine q_Lne (tgt := 41) hx hb dL_isPart_24 (by decide) (fun c_24 => absurd (congrArg lN hN) c_24) (fun c_24 => ?_)
  refine lv_lload_n hx hb dL_isPart_27 rfl (lv_at hl 0 rfl) ?_
  refine lv_lload_n hx hb dL_isPart_28 rfl (lv_at hl 1 rfl) ?_
  refine q_kL0 (q_rS (As := [.long (lN (u)), .long (lN (lo))]) (rest := []) hC hW mw_L_divisor gw_285 (k_divisor l G n ad s.heap.size I L R u lo hu63 hl63) ⟨rfl, rfl⟩ ⟨Nat.le_of_ble_eq_true rfl, Nat.le_of_ble_eq_true rfl⟩ ⟨(Nat.le_of_ble_eq_true rfl), (Nat.le_of_ble_eq_true rfl)⟩ hl.1 rfl rfl (Nat.le_of_ble_eq_true rfl) dL_isPart_29) hW (fun r_29 H locs hp hW => ?_)
  subst hp
  refine q_lc 1 hx hb dL_isPart_32 (by decide) ?_
  refine q_lcmp hx hb dL_isPart_33 ?_
  refine q_Lne (tgt := 41) hx hb dL_isPart_34 (by decide) (fun c_34 => absurd (congrArg lN hg1) c_34) (fun c_34 => ?_)
  refine q_ic 1 hx hb dL_isPart_37 (by decide) ?_
  refine lv_goto (tgt := 42) hx hb dL_isPart_38 (by decide) ?_
  exact q_zret0 hC hW hr hlk0 rfl rfl dL_isPart_42
set_option maxRecDepth 100000 in
set_option maxHeartbeats 4000000 in
theorem k_numberOf (l : Launch) (G : Gx) (n : Nat) (ad : Nat → Nat) (sz : Nat) (I : Ic) (L : Lc) (R : Rc) (q i : Nat) (c t : Int32) (w : Nat → Nat) (K : Nat) (ro : Nat → Nat) (hc : Nat) (hi : Nat → CM) (sv : Nat → Option CM) (pn : Nat) (ch : Nat → Nat) (hA : InvA n I L R ((w, K, ro), hc, hi, sv, pn, ch)) (hq : q < 3) (hix : idx q c t = some i) (hT0 : 0 < Sx' w K ro K 6) : Met l yL_numberOf (Cond.code yL_numberOf cL_numberOf 6 (some .long) :: GW) ({ frames := 7, cells := 0, slots := 0, locals := 252 } : Room) (qPre G n ad sz I L R [.ref (ad 0), .int (nI (q)), .int (c), .int (t), .long (lN (Sx' w K ro K 6))]) (qL2 G (qA n ad sz) (fun z u => PRl n ad I L R (lN (exN w ro K i), ((w, K, ro), hc, hi, sv, pn, ch)) z u)) 0 0 (qA n ad sz) := by
  refine q_met (by decide) (Nat.le_of_ble_eq_true rfl) ?_
  intro p_ e_ s m_ below meth c_ hC hr hlk0 hin hsz hW ls hl
  subst hsz
  have hC : CallFix p_ m_ c_ cL_numberOf 6 s ([.ref (ad 0), .int (nI (q)), .int (c), .int (t), .long (lN (Sx' w K ro K 6))] : List Value).toArray GW "CoinRowsLaw" := hC
  have hx := hC.1
  have hb := hC.2.1
  have hw : Wok w := hA.2.2.1.2.2.2.2.1
  have hw3 : ∀ i, w i ≤ 3 := hw.1
  have hk6 : K ≤ 6 := hA.2.2.1.2.2.2.1
  have hr4 : ∀ j, ro j < 4 := hA.2.2.1.2.2.2.2.2
  have hn : 71 ≤ n := hA.1
  have hT63 : Sx' w K ro K 6 < 2 ^ 63 := Nat.lt_of_le_of_lt (Sx_b hw K K 6 hk6) (by decide)
  have hC31 : Cx' w K ro K 6 < 2 ^ 31 := Nat.lt_of_le_of_lt (Cx_b hw K K 6 hk6) (by decide)
  have hG : Fr7 I I L L R R := fr_0
  have hT : ¬ aTot (w, K, ro) = 0 := Nat.ne_of_gt hT0
  have hl : lv_has ls 6 [(0, .ref (ad 0)), (1, .int (nI (q))), (2, .int (c)), (3, .int (t)), (4, .long (lN (Sx' w K ro K 6)))] := hl
  refine lv_aload_n hx hb dL_numberOf_0 rfl (lv_at hl 0 rfl) ?_
  refine lv_iload_n hx hb dL_numberOf_1 rfl (lv_at hl 1 rfl) ?_
  refine lv_iload_n hx hb dL_numberOf_2 rfl (lv_at hl 2 rfl) ?_
  refine lv_iload_n hx hb dL_numberOf_3 rfl (lv_at hl 3 rfl) ?_
  refine q_ic 0 hx hb dL_numberOf_4 (by decide) ?_
  refine q_kL2 (q_rV (As := [.int (nI (q)), .int (c), .int (t), .int (nI 0)]) (rest := []) (x := 0) hC hW mw_X5_expected gw_296 (k_expected l G n ad s.heap.size I L R (nI q) (c) (t) (nI 0) w K ro hc hi sv pn ch hA) (by omega) (ct_o5 kd_0) rfl ⟨rfl, rfl⟩ ⟨Nat.le_of_ble_eq_true rfl, Nat.le_of_ble_eq_true rfl⟩ ⟨(Nat.le_of_ble_eq_true rfl), (Nat.le_of_ble_eq_true rfl)⟩ hl.1 rfl rfl (Nat.le_of_ble_eq_true rfl) dL_numberOf_5) hW (fun r_5 n_5 ad_5 I_5 L_5 R_5 H locs hp hW => ?_)
  obtain ⟨hz, rfl, rfl, hA, hF⟩ := PRl_use hp
  have hG := fr_t hF hG
  have hz : r_5 = lN (exN w ro K i / Nat.gcd (exN w ro K i) (Sx' w K ro K 6)) := hz.trans ((aE1 (m := (w, K, ro)) (k := q) (y := 0) (i := i) (by first | omega | assumption) (by decide) hix hT).trans (lowT_0 _ _))
  subst hz
  refine lv_lload hx hb dL_numberOf_8 (lv_at hl 4 rfl) ?_
  refine lv_aload_n hx hb dL_numberOf_10 rfl (lv_at hl 0 rfl) ?_
  refine lv_iload_n hx hb dL_numberOf_11 rfl (lv_at hl 1 rfl) ?_
  refine lv_iload_n hx hb dL_numberOf_12 rfl (lv_at hl 2 rfl) ?_
  refine lv_iload_n hx hb dL_numberOf_13 rfl (lv_at hl 3 rfl) ?_
  refine q_ic 1 hx hb dL_numberOf_14 (by decide) ?_
  refine q_kL2 (q_rV (As := [.int (nI (q)), .int (c), .int (t), .int (nI 1)]) (rest := [.long (lN (Sx' w K ro K 6)), .long (lN (exN w ro K i / Nat.gcd (exN w ro K i) (Sx' w K ro K 6)))]) (x := 0) hC hW mw_X5_expected gw_296 (k_expected l G n ad H.size I_5 L_5 R_5 (nI q) (c) (t) (nI 1) w K ro hc hi sv pn ch hA) (by omega) (ct_o5 kd_0) rfl ⟨rfl, rfl⟩ ⟨Nat.le_of_ble_eq_true rfl, Nat.le_of_ble_eq_true rfl⟩ ⟨(Nat.le_of_ble_eq_true rfl), (Nat.le_of_ble_eq_true rfl)⟩ hl.1 rfl rfl (Nat.le_of_ble_eq_true rfl) dL_numberOf_15) hW (fun r_15 n_15 ad_15 I_15 L_15 R_15 H locs hp hW => ?_)
  obtain ⟨hz, rfl, rfl, hA, hF⟩ := PRl_use hp
  have hG := fr_t hF hG
  have hz : r_15 = lN ((Sx' w K ro K 6) / Nat.gcd (exN w ro K i) (Sx' w K ro K 6)) := hz.trans ((aE1 (m := (w, K, ro)) (k := q) (y := 1) (i := i) (by first | omega | assumption) (by decide) hix hT).trans (lowT_1 _ _))
  subst hz
  refine lv_ldiv hx hb dL_numberOf_18 (fun q => (show (Sx' w K ro K 6) / Nat.gcd (exN w ro K i) (Sx' w K ro K 6) ≠ 0 from Nat.ne_of_gt (gq_pos hT0)) ((pk_lEQ (Nat.lt_of_le_of_lt (Nat.div_le_self _ _) hT63) (by decide)).mp (show lN ((Sx' w K ro K 6) / Nat.gcd (exN w ro K i) (Sx' w K ro K 6)) = lN 0 from q))) ?_
  refine q_top (v2 := .long (lN (Sx' w K ro K 6 / ((Sx' w K ro K 6) / Nat.gcd (exN w ro K i) (Sx' w K ro K 6))))) (congrArg Value.long (pk_lDiv hT63 (gq_pos hT0) (Nat.lt_of_le_of_lt (Nat.div_le_self _ _) hT63))) ?_
  refine q_lmul hx hb dL_numberOf_19 ?_
  refine q_top (v2 := .long (lN (exN w ro K i))) (congrArg (fun z => Value.long (lN z)) (gq_num hT0)) ?_
  exact q_lret2 hC hW hr hlk0 (PRl_q hA hG) dL_numberOf_20
set_option maxRecDepth 100000 in
set_option maxHeartbeats 4000000 in
theorem k_at (l : Launch) (G : Gx) (n : Nat) (ad : Nat → Nat) (sz : Nat) (I : Ic) (L : Lc) (R : Rc) (g k : Nat) (hg : g < 11) (hk : (g < 7 → k < 6) ∧ (7 ≤ g → k < 4))  : Met l yL_at (Cond.code yL_at cL_at 2 (some .int) :: GW) ({ frames := 0, cells := 0, slots := 0, locals := 0 } : Room) (qPre G n ad sz I L R [.int (nI (g)), .int (nI (k))]) (qI0 G (qA n ad sz) (n, ad, I, L, R) (fun z => z = nI (latx g k))) 0 0 (qA n ad sz) := by
  refine q_met (by decide) (Nat.le_of_ble_eq_true rfl) ?_
  intro p_ e_ s m_ below meth c_ hC hr hlk0 hin hsz hW ls hl
  subst hsz
  have hC : CallFix p_ m_ c_ cL_at 2 s ([.int (nI (g)), .int (nI (k))] : List Value).toArray GW "CoinRowsLaw" := hC
  have hx := hC.1
  have hb := hC.2.1
  have hl : lv_has ls 2 [(0, .int (nI (g))), (1, .int (nI (k)))] := hl
  refine lv_iload_n hx hb dL_at_0 rfl (lv_at hl 0 rfl) ?_
  refine q_bp 7 hx hb dL_at_1 (by decide) ?_
  refine q_cge (tgt := 15) hx hb dL_at_3 (by decide) (by first | omega | exact Nat.lt_of_le_of_lt (hw3 _) (by decide) | exact Nat.lt_of_lt_of_le (hr4 _) (by decide) | exact Nat.lt_of_le_of_lt (bp_le _) (by decide) | assumption) (by first | omega | exact Nat.lt_of_le_of_lt (hw3 _) (by decide) | exact Nat.lt_of_lt_of_le (hr4 _) (by decide) | exact Nat.lt_of_le_of_lt (bp_le _) (by decide) | assumption) (fun c_3 => ?_) (fun c_3 => ?_)
  ·
    refine q_bp 42 hx hb dL_at_15 (by decide) ?_
    refine q_ic 4 hx hb dL_at_17 (by decide) ?_
    refine lv_iload_n hx hb dL_at_18 rfl (lv_at hl 0 rfl) ?_
    refine q_bp 7 hx hb dL_at_19 (by decide) ?_
    refine q_isub hx hb dL_at_21 (by omega) ?_
    refine q_imul hx hb dL_at_22 ?_
    refine q_iadd hx hb dL_at_23 ?_
    refine lv_iload_n hx hb dL_at_24 rfl (lv_at hl 1 rfl) ?_
    refine q_iadd hx hb dL_at_25 ?_
    refine q_top (v2 := .int (nI (latx g k))) (congrArg (fun z => Value.int (nI (z))) (show (42 + (4 * (g - 7))) + k = latx g k from by unfold latx; split <;> (try split) <;> omega)) ?_
    exact q_iret0 hC hW hr hlk0 rfl dL_at_26
  ·
    refine q_bp 6 hx hb dL_at_6 (by decide) ?_
    refine lv_iload_n hx hb dL_at_8 rfl (lv_at hl 0 rfl) ?_
    refine q_imul hx hb dL_at_9 ?_
    refine lv_iload_n hx hb dL_at_10 rfl (lv_at hl 1 rfl) ?_
    refine q_iadd hx hb dL_at_11 ?_
    refine lv_goto (tgt := 26) hx hb dL_at_12 (by decide) ?_
    refine q_top (v2 := .int (nI (latx g k))) (congrArg (fun z => Value.int (nI (z))) (show (6 * g) + k = latx g k from by unfold latx; split <;> (try split) <;> omega)) ?_
    exact q_iret0 hC hW hr hlk0 rfl dL_at_26
set_option maxRecDepth 100000 in
set_option maxHeartbeats 4000000 in
theorem k_lweight (l : Launch) (G : Gx) (n : Nat) (ad : Nat → Nat) (sz : Nat) (I : Ic) (L : Lc) (R : Rc) (g k : Nat) (w : Nat → Nat) (K : Nat) (ro : Nat → Nat) (hc : Nat) (hi : Nat → CM) (sv : Nat → Option CM) (pn : Nat) (ch : Nat → Nat) (hA : InvA n I L R ((w, K, ro), hc, hi, sv, pn, ch)) (hg : g < 11) (hk : (g < 7 → k < 6) ∧ (7 ≤ g → k < 4)) : Met l yL_weight (Cond.code yL_weight cL_weight 3 (some .int) :: GW) ({ frames := 7, cells := 0, slots := 0, locals := 252 } : Room) (qPre G n ad sz I L R [.ref (ad 0), .int (nI (g)), .int (nI (k))]) (qI2 G (qA n ad sz) (fun z u => PR n ad I L R (nI (w (lidx g k)), ((w, K, ro), hc, hi, sv, pn, ch)) z u)) 0 0 (qA n ad sz) := by
  refine q_met (by decide) (Nat.le_of_ble_eq_true rfl) ?_
  intro p_ e_ s m_ below meth c_ hC hr hlk0 hin hsz hW ls hl
  subst hsz
  have hC : CallFix p_ m_ c_ cL_weight 3 s ([.ref (ad 0), .int (nI (g)), .int (nI (k))] : List Value).toArray GW "CoinRowsLaw" := hC
  have hx := hC.1
  have hb := hC.2.1
  have hw : Wok w := hA.2.2.1.2.2.2.2.1
  have hw3 : ∀ i, w i ≤ 3 := hw.1
  have hk6 : K ≤ 6 := hA.2.2.1.2.2.2.1
  have hr4 : ∀ j, ro j < 4 := hA.2.2.1.2.2.2.2.2
  have hn : 71 ≤ n := hA.1
  have hT63 : Sx' w K ro K 6 < 2 ^ 63 := Nat.lt_of_le_of_lt (Sx_b hw K K 6 hk6) (by decide)
  have hC31 : Cx' w K ro K 6 < 2 ^ 31 := Nat.lt_of_le_of_lt (Cx_b hw K K 6 hk6) (by decide)
  have hG : Fr7 I I L L R R := fr_0
  have hl : lv_has ls 3 [(0, .ref (ad 0)), (1, .int (nI (g))), (2, .int (nI (k)))] := hl
  refine lv_iload_n hx hb dL_weight_0 rfl (lv_at hl 1 rfl) ?_
  refine q_ine (tgt := 14) hx hb dL_weight_1 (by decide) (by first | omega | exact Nat.lt_of_le_of_lt (hw3 _) (by decide) | exact Nat.lt_of_lt_of_le (hr4 _) (by decide) | exact Nat.lt_of_le_of_lt (bp_le _) (by decide) | assumption) (fun c_1 => ?_) (fun c_1 => ?_)
  ·
    refine lv_iload_n hx hb dL_weight_14 rfl (lv_at hl 1 rfl) ?_
    refine q_bp 7 hx hb dL_weight_15 (by decide) ?_
    refine q_cge (tgt := 32) hx hb dL_weight_17 (by decide) (by first | omega | exact Nat.lt_of_le_of_lt (hw3 _) (by decide) | exact Nat.lt_of_lt_of_le (hr4 _) (by decide) | exact Nat.lt_of_le_of_lt (bp_le _) (by decide) | assumption) (by first | omega | exact Nat.lt_of_le_of_lt (hw3 _) (by decide) | exact Nat.lt_of_lt_of_le (hr4 _) (by decide) | exact Nat.lt_of_le_of_lt (bp_le _) (by decide) | assumption) (fun c_17 => ?_) (fun c_17 => ?_)
    ·
      refine lv_aload_n hx hb dL_weight_32 rfl (lv_at hl 0 rfl) ?_
      refine q_ic 2 hx hb dL_weight_33 (by decide) ?_
      refine lv_iload_n hx hb dL_weight_34 rfl (lv_at hl 1 rfl) ?_
      refine q_bp 7 hx hb dL_weight_35 (by decide) ?_
      refine q_isub hx hb dL_weight_37 (by omega) ?_
      refine lv_iload_n hx hb dL_weight_38 rfl (lv_at hl 2 rfl) ?_
      refine q_kI2 (q_rV (As := [.int (nI 2), .int (nI (g - 7)), .int (nI (k))]) (rest := []) (x := 0) hC hW mw_X5_weight gw_156 (k_weight l G n ad s.heap.size I L R (nI 2) (nI (g - 7)) (nI k) w K ro hc hi sv pn ch hA) (by omega) (ct_o5 kd_0) rfl ⟨rfl, rfl⟩ ⟨Nat.le_of_ble_eq_true rfl, Nat.le_of_ble_eq_true rfl⟩ ⟨(Nat.le_of_ble_eq_true rfl), (Nat.le_of_ble_eq_true rfl)⟩ hl.1 rfl rfl (Nat.le_of_ble_eq_true rfl) dL_weight_39) hW (fun r_39 n_39 ad_39 I_39 L_39 R_39 H locs hp hW => ?_)
      obtain ⟨hz, rfl, rfl, hA, hF⟩ := PR_use hp
      have hG := fr_t hF hG
      have hz : r_39 = nI (w (42 + (g - 7) * 4 + k)) := hz.trans (aW2 (S := ((w, K, ro), hc, hi, sv, pn, ch)) (c := g - 7) (t := k) (by first | omega | assumption) (by first | omega | assumption))
      subst hz
      refine q_top (v2 := .int (nI (w (lidx g k)))) (congrArg (fun z => Value.int (nI (w (z)))) (show 42 + (g - 7) * 4 + k = lidx g k from by unfold lidx; split <;> (try split) <;> omega)) ?_
      exact q_iret2 hC hW hr hlk0 (PR_q hA hG) dL_weight_42
    ·
      refine lv_aload_n hx hb dL_weight_20 rfl (lv_at hl 0 rfl) ?_
      refine q_ic 1 hx hb dL_weight_21 (by decide) ?_
      refine lv_iload_n hx hb dL_weight_22 rfl (lv_at hl 1 rfl) ?_
      refine q_ic 1 hx hb dL_weight_23 (by decide) ?_
      refine q_isub hx hb dL_weight_24 (by omega) ?_
      refine lv_iload_n hx hb dL_weight_25 rfl (lv_at hl 2 rfl) ?_
      refine q_kI2 (q_rV (As := [.int (nI 1), .int (nI (g - 1)), .int (nI (k))]) (rest := []) (x := 0) hC hW mw_X5_weight gw_156 (k_weight l G n ad s.heap.size I L R (nI 1) (nI (g - 1)) (nI k) w K ro hc hi sv pn ch hA) (by omega) (ct_o5 kd_0) rfl ⟨rfl, rfl⟩ ⟨Nat.le_of_ble_eq_true rfl, Nat.le_of_ble_eq_true rfl⟩ ⟨(Nat.le_of_ble_eq_true rfl), (Nat.le_of_ble_eq_true rfl)⟩ hl.1 rfl rfl (Nat.le_of_ble_eq_true rfl) dL_weight_26) hW (fun r_26 n_26 ad_26 I_26 L_26 R_26 H locs hp hW => ?_)
      obtain ⟨hz, rfl, rfl, hA, hF⟩ := PR_use hp
      have hG := fr_t hF hG
      have hz : r_26 = nI (w ((g - 1) * 6 + k)) := hz.trans (aW1 (S := ((w, K, ro), hc, hi, sv, pn, ch)) (f := g - 1) (t := k) (by first | omega | assumption) (by first | omega | assumption))
      subst hz
      refine lv_goto (tgt := 42) hx hb dL_weight_29 (by decide) ?_
      refine q_top (v2 := .int (nI (w (lidx g k)))) (congrArg (fun z => Value.int (nI (w (z)))) (show (g - 1) * 6 + k = lidx g k from by unfold lidx; split <;> (try split) <;> omega)) ?_
      exact q_iret2 hC hW hr hlk0 (PR_q hA hG) dL_weight_42
  ·
    refine lv_aload_n hx hb dL_weight_4 rfl (lv_at hl 0 rfl) ?_
    refine q_ic 0 hx hb dL_weight_5 (by decide) ?_
    refine lv_iload_n hx hb dL_weight_6 rfl (lv_at hl 2 rfl) ?_
    refine q_ic 0 hx hb dL_weight_7 (by decide) ?_
    refine q_kI2 (q_rV (As := [.int (nI 0), .int (nI (k)), .int (nI 0)]) (rest := []) (x := 0) hC hW mw_X5_weight gw_156 (k_weight l G n ad s.heap.size I L R (nI 0) (nI k) (nI 0) w K ro hc hi sv pn ch hA) (by omega) (ct_o5 kd_0) rfl ⟨rfl, rfl⟩ ⟨Nat.le_of_ble_eq_true rfl, Nat.le_of_ble_eq_true rfl⟩ ⟨(Nat.le_of_ble_eq_true rfl), (Nat.le_of_ble_eq_true rfl)⟩ hl.1 rfl rfl (Nat.le_of_ble_eq_true rfl) dL_weight_8) hW (fun r_8 n_8 ad_8 I_8 L_8 R_8 H locs hp hW => ?_)
    obtain ⟨hz, rfl, rfl, hA, hF⟩ := PR_use hp
    have hG := fr_t hF hG
    have hz : r_8 = nI (w (6 * 6 + k)) := hz.trans (aW0 (S := ((w, K, ro), hc, hi, sv, pn, ch)) (c := k) (by first | omega | assumption))
    subst hz
    refine lv_goto (tgt := 42) hx hb dL_weight_11 (by decide) ?_
    refine q_top (v2 := .int (nI (w (lidx g k)))) (congrArg (fun z => Value.int (nI (w (z)))) (show 6 * 6 + k = lidx g k from by unfold lidx; split <;> (try split) <;> omega)) ?_
    exact q_iret2 hC hW hr hlk0 (PR_q hA hG) dL_weight_42
set_option maxRecDepth 100000 in
set_option maxHeartbeats 4000000 in
theorem k_lnumber (l : Launch) (G : Gx) (n : Nat) (ad : Nat → Nat) (sz : Nat) (I : Ic) (L : Lc) (R : Rc) (g k : Nat) (w : Nat → Nat) (K : Nat) (ro : Nat → Nat) (hc : Nat) (hi : Nat → CM) (sv : Nat → Option CM) (pn : Nat) (ch : Nat → Nat) (hA : InvA n I L R ((w, K, ro), hc, hi, sv, pn, ch)) (hg : g < 11) (hk : (g < 7 → k < 6) ∧ (7 ≤ g → k < 4)) (hT0 : 0 < Sx' w K ro K 6) : Met l yL_number (Cond.code yL_number cL_number 5 (some .long) :: GW) ({ frames := 8, cells := 0, slots := 0, locals := 288 } : Room) (qPre G n ad sz I L R [.ref (ad 0), .int (nI (g)), .int (nI (k)), .long (lN (Sx' w K ro K 6))]) (qL2 G (qA n ad sz) (fun z u => PRl n ad I L R (lN (exN w ro K (lidx g k)), ((w, K, ro), hc, hi, sv, pn, ch)) z u)) 0 0 (qA n ad sz) := by
  refine q_met (by decide) (Nat.le_of_ble_eq_true rfl) ?_
  intro p_ e_ s m_ below meth c_ hC hr hlk0 hin hsz hW ls hl
  subst hsz
  have hC : CallFix p_ m_ c_ cL_number 5 s ([.ref (ad 0), .int (nI (g)), .int (nI (k)), .long (lN (Sx' w K ro K 6))] : List Value).toArray GW "CoinRowsLaw" := hC
  have hx := hC.1
  have hb := hC.2.1
  have hw : Wok w := hA.2.2.1.2.2.2.2.1
  have hw3 : ∀ i, w i ≤ 3 := hw.1
  have hk6 : K ≤ 6 := hA.2.2.1.2.2.2.1
  have hr4 : ∀ j, ro j < 4 := hA.2.2.1.2.2.2.2.2
  have hn : 71 ≤ n := hA.1
  have hT63 : Sx' w K ro K 6 < 2 ^ 63 := Nat.lt_of_le_of_lt (Sx_b hw K K 6 hk6) (by decide)
  have hC31 : Cx' w K ro K 6 < 2 ^ 31 := Nat.lt_of_le_of_lt (Cx_b hw K K 6 hk6) (by decide)
  have hG : Fr7 I I L L R R := fr_0
  have hl : lv_has ls 5 [(0, .ref (ad 0)), (1, .int (nI (g))), (2, .int (nI (k))), (3, .long (lN (Sx' w K ro K 6)))] := hl
  refine lv_iload_n hx hb dL_number_0 rfl (lv_at hl 1 rfl) ?_
  refine q_ine (tgt := 15) hx hb dL_number_1 (by decide) (by first | omega | exact Nat.lt_of_le_of_lt (hw3 _) (by decide) | exact Nat.lt_of_lt_of_le (hr4 _) (by decide) | exact Nat.lt_of_le_of_lt (bp_le _) (by decide) | assumption) (fun c_1 => ?_) (fun c_1 => ?_)
  ·
    refine lv_iload_n hx hb dL_number_15 rfl (lv_at hl 1 rfl) ?_
    refine q_bp 7 hx hb dL_number_16 (by decide) ?_
    refine q_cge (tgt := 34) hx hb dL_number_18 (by decide) (by first | omega | exact Nat.lt_of_le_of_lt (hw3 _) (by decide) | exact Nat.lt_of_lt_of_le (hr4 _) (by decide) | exact Nat.lt_of_le_of_lt (bp_le _) (by decide) | assumption) (by first | omega | exact Nat.lt_of_le_of_lt (hw3 _) (by decide) | exact Nat.lt_of_lt_of_le (hr4 _) (by decide) | exact Nat.lt_of_le_of_lt (bp_le _) (by decide) | assumption) (fun c_18 => ?_) (fun c_18 => ?_)
    ·
      refine lv_aload_n hx hb dL_number_34 rfl (lv_at hl 0 rfl) ?_
      refine q_ic 2 hx hb dL_number_35 (by decide) ?_
      refine lv_iload_n hx hb dL_number_36 rfl (lv_at hl 1 rfl) ?_
      refine q_bp 7 hx hb dL_number_37 (by decide) ?_
      refine q_isub hx hb dL_number_39 (by omega) ?_
      refine lv_iload_n hx hb dL_number_40 rfl (lv_at hl 2 rfl) ?_
      refine lv_lload_n hx hb dL_number_41 rfl (lv_at hl 3 rfl) ?_
      refine q_kL2 (q_rS (As := [.ref (ad 0), .int (nI 2), .int (nI (g - 7)), .int (nI (k)), .long (lN (Sx' w K ro K 6))]) (rest := []) hC hW mw_L_numberOf gw_309 (k_numberOf l G n ad s.heap.size I L R 2 (42 + (g - 7) * 4 + k) (nI (g - 7)) (nI k) w K ro hc hi sv pn ch hA (by decide) (ix2 (c := g - 7) (t := k) (by first | omega | assumption) (by first | omega | assumption)) hT0) ⟨rfl, rfl⟩ ⟨Nat.le_of_ble_eq_true rfl, Nat.le_of_ble_eq_true rfl⟩ ⟨(Nat.le_of_ble_eq_true rfl), (Nat.le_of_ble_eq_true rfl)⟩ hl.1 rfl rfl (Nat.le_of_ble_eq_true rfl) dL_number_42) hW (fun r_42 n_42 ad_42 I_42 L_42 R_42 H locs hp hW => ?_)
      obtain ⟨hz, rfl, rfl, hA, hF⟩ := PRl_use hp
      have hG := fr_t hF hG
      have hz : r_42 = lN (exN w ro K (42 + (g - 7) * 4 + k)) := hz
      subst hz
      refine q_top (v2 := .long (lN (exN w ro K (lidx g k)))) (congrArg (fun z => Value.long (lN (exN w ro K (z)))) (show 42 + (g - 7) * 4 + k = lidx g k from by unfold lidx; split <;> (try split) <;> omega)) ?_
      exact q_lret2 hC hW hr hlk0 (PRl_q hA hG) dL_number_45
    ·
      refine lv_aload_n hx hb dL_number_21 rfl (lv_at hl 0 rfl) ?_
      refine q_ic 1 hx hb dL_number_22 (by decide) ?_
      refine lv_iload_n hx hb dL_number_23 rfl (lv_at hl 1 rfl) ?_
      refine q_ic 1 hx hb dL_number_24 (by decide) ?_
      refine q_isub hx hb dL_number_25 (by omega) ?_
      refine lv_iload_n hx hb dL_number_26 rfl (lv_at hl 2 rfl) ?_
      refine lv_lload_n hx hb dL_number_27 rfl (lv_at hl 3 rfl) ?_
      refine q_kL2 (q_rS (As := [.ref (ad 0), .int (nI 1), .int (nI (g - 1)), .int (nI (k)), .long (lN (Sx' w K ro K 6))]) (rest := []) hC hW mw_L_numberOf gw_309 (k_numberOf l G n ad s.heap.size I L R 1 ((g - 1) * 6 + k) (nI (g - 1)) (nI k) w K ro hc hi sv pn ch hA (by decide) (ix1 (f := g - 1) (t := k) (by first | omega | assumption) (by first | omega | assumption)) hT0) ⟨rfl, rfl⟩ ⟨Nat.le_of_ble_eq_true rfl, Nat.le_of_ble_eq_true rfl⟩ ⟨(Nat.le_of_ble_eq_true rfl), (Nat.le_of_ble_eq_true rfl)⟩ hl.1 rfl rfl (Nat.le_of_ble_eq_true rfl) dL_number_28) hW (fun r_28 n_28 ad_28 I_28 L_28 R_28 H locs hp hW => ?_)
      obtain ⟨hz, rfl, rfl, hA, hF⟩ := PRl_use hp
      have hG := fr_t hF hG
      have hz : r_28 = lN (exN w ro K ((g - 1) * 6 + k)) := hz
      subst hz
      refine lv_goto (tgt := 45) hx hb dL_number_31 (by decide) ?_
      refine q_top (v2 := .long (lN (exN w ro K (lidx g k)))) (congrArg (fun z => Value.long (lN (exN w ro K (z)))) (show (g - 1) * 6 + k = lidx g k from by unfold lidx; split <;> (try split) <;> omega)) ?_
      exact q_lret2 hC hW hr hlk0 (PRl_q hA hG) dL_number_45
  ·
    refine lv_aload_n hx hb dL_number_4 rfl (lv_at hl 0 rfl) ?_
    refine q_ic 0 hx hb dL_number_5 (by decide) ?_
    refine lv_iload_n hx hb dL_number_6 rfl (lv_at hl 2 rfl) ?_
    refine q_ic 0 hx hb dL_number_7 (by decide) ?_
    refine lv_lload_n hx hb dL_number_8 rfl (lv_at hl 3 rfl) ?_
    refine q_kL2 (q_rS (As := [.ref (ad 0), .int (nI 0), .int (nI (k)), .int (nI 0), .long (lN (Sx' w K ro K 6))]) (rest := []) hC hW mw_L_numberOf gw_309 (k_numberOf l G n ad s.heap.size I L R 0 (6 * 6 + k) (nI k) (nI 0) w K ro hc hi sv pn ch hA (by decide) (ix0 (c := k) (by first | omega | assumption)) hT0) ⟨rfl, rfl⟩ ⟨Nat.le_of_ble_eq_true rfl, Nat.le_of_ble_eq_true rfl⟩ ⟨(Nat.le_of_ble_eq_true rfl), (Nat.le_of_ble_eq_true rfl)⟩ hl.1 rfl rfl (Nat.le_of_ble_eq_true rfl) dL_number_9) hW (fun r_9 n_9 ad_9 I_9 L_9 R_9 H locs hp hW => ?_)
    obtain ⟨hz, rfl, rfl, hA, hF⟩ := PRl_use hp
    have hG := fr_t hF hG
    have hz : r_9 = lN (exN w ro K (6 * 6 + k)) := hz
    subst hz
    refine lv_goto (tgt := 45) hx hb dL_number_12 (by decide) ?_
    refine q_top (v2 := .long (lN (exN w ro K (lidx g k)))) (congrArg (fun z => Value.long (lN (exN w ro K (z)))) (show 6 * 6 + k = lidx g k from by unfold lidx; split <;> (try split) <;> omega)) ?_
    exact q_lret2 hC hW hr hlk0 (PRl_q hA hG) dL_number_45
