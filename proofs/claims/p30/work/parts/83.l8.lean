set_option maxRecDepth 100000 in
set_option maxHeartbeats 4000000 in
theorem k_isAct (l : Launch) (G : Gx) (ad : Nat → Nat) (sz : Nat) (I : Ic) (L : Lc) (R : Rc) (b Lx : Nat) (xs : Nat → Int32) (hLx : Lx ≤ 260) (a : Nat) (ha : a ≤ 200) (w : Nat → Nat) (K : Nat) (ro : Nat → Nat) (hc : Nat) (hi : Nat → CM) (sv : Nat → Option CM) (pn : Nat) (ch : Nat → Nat) (hA : InvA 74 I L R ((w, K, ro), hc, hi, sv, pn, ch)) (hNR : NoR R 71 74) : Met l yL_isAct (Cond.code yL_isAct cL_isAct 6 (some .boolean) :: GW) ({ frames := 10, cells := 1, slots := 64, locals := 360 } : Room) (qPreS G 74 ad sz I L R b Lx xs [.ref (ad 0), .ref b, .int (nI (a))]) (qI2 G (qA 74 ad sz) (fun z u => z = nI 1 ∧ AcP ad u)) 1 64 (qA 74 ad sz) := by
  refine q_metS (by decide) (Nat.le_of_ble_eq_true rfl) ?_
  intro p_ e_ s m_ below meth c_ hC hr hlk0 hin hsz hW hX hbl hbA ls hl
  subst hsz
  have hC : CallFix p_ m_ c_ cL_isAct 6 s ([.ref (ad 0), .ref b, .int (nI (a))] : List Value).toArray GW "CoinRowsLaw" := hC
  have hx := hC.1
  have hb := hC.2.1
  have hw : Wok w := hA.2.2.1.2.2.2.2.1
  have hw3 : ∀ i, w i ≤ 3 := hw.1
  have hk6 : K ≤ 6 := hA.2.2.1.2.2.2.1
  have hr4 : ∀ j, ro j < 4 := hA.2.2.1.2.2.2.2.2
  have hn71 := hA.1
  have hT63 : Sx' w K ro K 6 < 2 ^ 63 := Nat.lt_of_le_of_lt (Sx_b hw K K 6 hk6) (by decide)
  have hC31 : Cx' w K ro K 6 < 2 ^ 31 := Nat.lt_of_le_of_lt (Cx_b hw K K 6 hk6) (by decide)
  have hG : Fr7 I I L L R R := fr_0
  have hl : lv_has ls 6 [(0, .ref (ad 0)), (1, .ref b), (2, .int (nI (a)))] := hl
  refine lv_aload_n hx hb dL_isAct_0 rfl (lv_at hl 0 rfl) ?_
  refine q_ic 0 hx hb dL_isAct_1 (by decide) ?_
  refine q_kI2 (q_rV (As := [.int (nI 0)]) (rest := []) (x := 0) hC hW mw_X5_count gw_172 (k_count l G 74 ad s.heap.size I L R (nI 0) w K ro hc hi sv pn ch hA) (by omega) (ct_o5 kd_0) rfl ⟨rfl, rfl⟩ ⟨Nat.le_of_ble_eq_true rfl, Nat.le_of_ble_eq_true rfl⟩ ⟨(Nat.le_of_ble_eq_true rfl), (Nat.le_of_ble_eq_true rfl)⟩ hl.1 rfl rfl (Nat.le_of_ble_eq_true rfl) dL_isAct_2) hW (fun r_2 n_2 ad_2 I_2 L_2 R_2 H locs hp hW => ?_)
  obtain ⟨hz, rfl, rfl, hA, hF⟩ := PR_use hp
  have hG := fr_t hF hG
  have hz : r_2 = nI K := hz.trans (aC0 (S := ((w, K, ro), hc, hi, sv, pn, ch)))
  subst hz
  refine lv_istore_n (lv' := [(3, .int (nI (K))), (0, .ref (ad 0)), (1, .ref b), (2, .int (nI (a)))]) hx hb dL_isAct_5 rfl hl (by decide) rfl (fun ls hl => ?_)
  refine lv_aload_n hx hb dL_isAct_6 rfl (lv_at hl 2 rfl) ?_
  refine lv_iload_n hx hb dL_isAct_7 rfl (lv_at hl 3 rfl) ?_
  refine q_bp 12 hx hb dL_isAct_8 (by decide) ?_
  refine q_kI0 (q_rSS (As := [.ref b, .int (nI (a)), .int (nI 12)]) (rest := []) hC hW hX hbl hbA mw_L_cell gw_149 (k_cell l G 74 ad H.size I_2 L_2 R_2 b Lx xs hLx a 12 (by omega) (by omega) (by omega)) ⟨rfl, rfl⟩ ⟨Nat.le_of_ble_eq_true rfl, Nat.le_of_ble_eq_true rfl⟩ ⟨(Nat.le_of_ble_eq_true rfl), (Nat.le_of_ble_eq_true rfl)⟩ hl.1 rfl rfl (Nat.le_of_ble_eq_true rfl) dL_isAct_10) hW (fun r_10 H locs hp hW => ?_)
  obtain ⟨j_10, hj_10, rfl⟩ := hp
  have hu9 : j_10 = 0 ∨ j_10 = 1 ∨ j_10 = 2 ∨ j_10 = 3 ∨ j_10 = 4 ∨ j_10 = 5 ∨ j_10 = 6 ∨ j_10 = 7 ∨ j_10 = 8 ∨ j_10 = 9 ∨ j_10 = 10 ∨ j_10 = 11 := by omega
  rcases hu9 with rfl | rfl | rfl | rfl | rfl | rfl | rfl | rfl | rfl | rfl | rfl | rfl
  ·
    refine lv_tableIn (off := 59) (tgt := 72) hx hb dL_isAct_13 (by decide) (by decide) rfl (by decide) ?_
    refine lv_aload_n hx hb dL_isAct_72 rfl (lv_at hl 1 rfl) ?_
    refine q_ic 0 hx hb dL_isAct_73 (by decide) ?_
    refine lv_aload_n hx hb dL_isAct_74 rfl (lv_at hl 2 rfl) ?_
    refine lv_iload_n hx hb dL_isAct_75 rfl (lv_at hl 3 rfl) ?_
    refine q_ic 1 hx hb dL_isAct_76 (by decide) ?_
    refine q_iadd hx hb dL_isAct_77 ?_
    refine q_bp 6 hx hb dL_isAct_78 (by decide) ?_
    refine q_kI0 (q_rSS (As := [.ref b, .int (nI (a + 1)), .int (nI 6)]) (rest := [.int (nI 0), .ref (ad 0)]) hC hW hX hbl hbA mw_L_cell gw_149 (k_cell l G 74 ad H.size I_2 L_2 R_2 b Lx xs hLx (a + 1) 6 (by omega) (by omega) (by omega)) ⟨rfl, rfl⟩ ⟨Nat.le_of_ble_eq_true rfl, Nat.le_of_ble_eq_true rfl⟩ ⟨(Nat.le_of_ble_eq_true rfl), (Nat.le_of_ble_eq_true rfl)⟩ hl.1 rfl rfl (Nat.le_of_ble_eq_true rfl) dL_isAct_80) hW (fun r_80 H locs hp hW => ?_)
    obtain ⟨j_80, hj_80, rfl⟩ := hp
    refine q_ic 0 hx hb dL_isAct_83 (by decide) ?_
    refine lv_aload_n hx hb dL_isAct_84 rfl (lv_at hl 2 rfl) ?_
    refine lv_iload_n hx hb dL_isAct_85 rfl (lv_at hl 3 rfl) ?_
    refine q_ic 3 hx hb dL_isAct_86 (by decide) ?_
    refine q_iadd hx hb dL_isAct_87 ?_
    refine q_ic 4 hx hb dL_isAct_88 (by decide) ?_
    refine q_kI0 (q_rSS (As := [.ref b, .int (nI (a + 3)), .int (nI 4)]) (rest := [.int (nI 0), .int (nI (j_80)), .int (nI 0), .ref (ad 0)]) hC hW hX hbl hbA mw_L_cell gw_149 (k_cell l G 74 ad H.size I_2 L_2 R_2 b Lx xs hLx (a + 3) 4 (by omega) (by omega) (by omega)) ⟨rfl, rfl⟩ ⟨Nat.le_of_ble_eq_true rfl, Nat.le_of_ble_eq_true rfl⟩ ⟨(Nat.le_of_ble_eq_true rfl), (Nat.le_of_ble_eq_true rfl)⟩ hl.1 rfl rfl (Nat.le_of_ble_eq_true rfl) dL_isAct_89) hW (fun r_89 H locs hp hW => ?_)
    obtain ⟨j_89, hj_89, rfl⟩ := hp
    refine q_kI2 (q_rS (As := [.ref (ad 0), .int (nI 0), .int (nI (j_80)), .int (nI 0), .int (nI (j_89))]) (rest := []) hC hW mw_L_isGiven gw_367 (k_isGiven0 l G 74 ad H.size I_2 L_2 R_2 j_80 j_89 w K ro hc hi sv pn ch hA (by omega) (by omega)) ⟨rfl, rfl⟩ ⟨Nat.le_of_ble_eq_true rfl, Nat.le_of_ble_eq_true rfl⟩ ⟨(Nat.le_of_ble_eq_true rfl), (Nat.le_of_ble_eq_true rfl)⟩ hl.1 rfl rfl (Nat.le_of_ble_eq_true rfl) dL_isAct_92) hW (fun r_92 n_92 ad_92 I_92 L_92 R_92 H locs hp hW => ?_)
    obtain ⟨hz, rfl, rfl, S_, hA, hF⟩ := GV_use hp
    subst hz
    have hG := fr_t hF hG
    refine q_more (c2 := 1) (s2 := 64) (Nat.le_of_ble_eq_true rfl) (Nat.le_of_ble_eq_true rfl) ?_
    exact q_zret2 hC hW hr hlk0 rfl ⟨rfl, _, (by decide : 71 ≤ 74), fun _ _ => rfl, InvA_n hA (by decide)⟩ dL_isAct_95
  ·
    refine lv_tableIn (off := 59) (tgt := 72) hx hb dL_isAct_13 (by decide) (by decide) rfl (by decide) ?_
    refine lv_aload_n hx hb dL_isAct_72 rfl (lv_at hl 1 rfl) ?_
    refine q_ic 0 hx hb dL_isAct_73 (by decide) ?_
    refine lv_aload_n hx hb dL_isAct_74 rfl (lv_at hl 2 rfl) ?_
    refine lv_iload_n hx hb dL_isAct_75 rfl (lv_at hl 3 rfl) ?_
    refine q_ic 1 hx hb dL_isAct_76 (by decide) ?_
    refine q_iadd hx hb dL_isAct_77 ?_
    refine q_bp 6 hx hb dL_isAct_78 (by decide) ?_
    refine q_kI0 (q_rSS (As := [.ref b, .int (nI (a + 1)), .int (nI 6)]) (rest := [.int (nI 0), .ref (ad 0)]) hC hW hX hbl hbA mw_L_cell gw_149 (k_cell l G 74 ad H.size I_2 L_2 R_2 b Lx xs hLx (a + 1) 6 (by omega) (by omega) (by omega)) ⟨rfl, rfl⟩ ⟨Nat.le_of_ble_eq_true rfl, Nat.le_of_ble_eq_true rfl⟩ ⟨(Nat.le_of_ble_eq_true rfl), (Nat.le_of_ble_eq_true rfl)⟩ hl.1 rfl rfl (Nat.le_of_ble_eq_true rfl) dL_isAct_80) hW (fun r_80 H locs hp hW => ?_)
    obtain ⟨j_80, hj_80, rfl⟩ := hp
    refine q_ic 0 hx hb dL_isAct_83 (by decide) ?_
    refine lv_aload_n hx hb dL_isAct_84 rfl (lv_at hl 2 rfl) ?_
    refine lv_iload_n hx hb dL_isAct_85 rfl (lv_at hl 3 rfl) ?_
    refine q_ic 3 hx hb dL_isAct_86 (by decide) ?_
    refine q_iadd hx hb dL_isAct_87 ?_
    refine q_ic 4 hx hb dL_isAct_88 (by decide) ?_
    refine q_kI0 (q_rSS (As := [.ref b, .int (nI (a + 3)), .int (nI 4)]) (rest := [.int (nI 0), .int (nI (j_80)), .int (nI 0), .ref (ad 0)]) hC hW hX hbl hbA mw_L_cell gw_149 (k_cell l G 74 ad H.size I_2 L_2 R_2 b Lx xs hLx (a + 3) 4 (by omega) (by omega) (by omega)) ⟨rfl, rfl⟩ ⟨Nat.le_of_ble_eq_true rfl, Nat.le_of_ble_eq_true rfl⟩ ⟨(Nat.le_of_ble_eq_true rfl), (Nat.le_of_ble_eq_true rfl)⟩ hl.1 rfl rfl (Nat.le_of_ble_eq_true rfl) dL_isAct_89) hW (fun r_89 H locs hp hW => ?_)
    obtain ⟨j_89, hj_89, rfl⟩ := hp
    refine q_kI2 (q_rS (As := [.ref (ad 0), .int (nI 0), .int (nI (j_80)), .int (nI 0), .int (nI (j_89))]) (rest := []) hC hW mw_L_isGiven gw_367 (k_isGiven0 l G 74 ad H.size I_2 L_2 R_2 j_80 j_89 w K ro hc hi sv pn ch hA (by omega) (by omega)) ⟨rfl, rfl⟩ ⟨Nat.le_of_ble_eq_true rfl, Nat.le_of_ble_eq_true rfl⟩ ⟨(Nat.le_of_ble_eq_true rfl), (Nat.le_of_ble_eq_true rfl)⟩ hl.1 rfl rfl (Nat.le_of_ble_eq_true rfl) dL_isAct_92) hW (fun r_92 n_92 ad_92 I_92 L_92 R_92 H locs hp hW => ?_)
    obtain ⟨hz, rfl, rfl, S_, hA, hF⟩ := GV_use hp
    subst hz
    have hG := fr_t hF hG
    refine q_more (c2 := 1) (s2 := 64) (Nat.le_of_ble_eq_true rfl) (Nat.le_of_ble_eq_true rfl) ?_
    exact q_zret2 hC hW hr hlk0 rfl ⟨rfl, _, (by decide : 71 ≤ 74), fun _ _ => rfl, InvA_n hA (by decide)⟩ dL_isAct_95
  ·
    refine lv_tableIn (off := 83) (tgt := 96) hx hb dL_isAct_13 (by decide) (by decide) rfl (by decide) ?_
    refine lv_aload_n hx hb dL_isAct_96 rfl (lv_at hl 1 rfl) ?_
    refine q_ic 1 hx hb dL_isAct_97 (by decide) ?_
    refine lv_aload_n hx hb dL_isAct_98 rfl (lv_at hl 2 rfl) ?_
    refine lv_iload_n hx hb dL_isAct_99 rfl (lv_at hl 3 rfl) ?_
    refine q_ic 1 hx hb dL_isAct_100 (by decide) ?_
    refine q_iadd hx hb dL_isAct_101 ?_
    refine q_bp 6 hx hb dL_isAct_102 (by decide) ?_
    refine q_kI0 (q_rSS (As := [.ref b, .int (nI (a + 1)), .int (nI 6)]) (rest := [.int (nI 1), .ref (ad 0)]) hC hW hX hbl hbA mw_L_cell gw_149 (k_cell l G 74 ad H.size I_2 L_2 R_2 b Lx xs hLx (a + 1) 6 (by omega) (by omega) (by omega)) ⟨rfl, rfl⟩ ⟨Nat.le_of_ble_eq_true rfl, Nat.le_of_ble_eq_true rfl⟩ ⟨(Nat.le_of_ble_eq_true rfl), (Nat.le_of_ble_eq_true rfl)⟩ hl.1 rfl rfl (Nat.le_of_ble_eq_true rfl) dL_isAct_104) hW (fun r_104 H locs hp hW => ?_)
    obtain ⟨j_104, hj_104, rfl⟩ := hp
    refine lv_aload_n hx hb dL_isAct_107 rfl (lv_at hl 2 rfl) ?_
    refine lv_iload_n hx hb dL_isAct_108 rfl (lv_at hl 3 rfl) ?_
    refine q_ic 2 hx hb dL_isAct_109 (by decide) ?_
    refine q_iadd hx hb dL_isAct_110 ?_
    refine q_bp 6 hx hb dL_isAct_111 (by decide) ?_
    refine q_kI0 (q_rSS (As := [.ref b, .int (nI (a + 2)), .int (nI 6)]) (rest := [.int (nI (j_104)), .int (nI 1), .ref (ad 0)]) hC hW hX hbl hbA mw_L_cell gw_149 (k_cell l G 74 ad H.size I_2 L_2 R_2 b Lx xs hLx (a + 2) 6 (by omega) (by omega) (by omega)) ⟨rfl, rfl⟩ ⟨Nat.le_of_ble_eq_true rfl, Nat.le_of_ble_eq_true rfl⟩ ⟨(Nat.le_of_ble_eq_true rfl), (Nat.le_of_ble_eq_true rfl)⟩ hl.1 rfl rfl (Nat.le_of_ble_eq_true rfl) dL_isAct_113) hW (fun r_113 H locs hp hW => ?_)
    obtain ⟨j_113, hj_113, rfl⟩ := hp
    refine lv_aload_n hx hb dL_isAct_116 rfl (lv_at hl 2 rfl) ?_
    refine lv_iload_n hx hb dL_isAct_117 rfl (lv_at hl 3 rfl) ?_
    refine q_ic 3 hx hb dL_isAct_118 (by decide) ?_
    refine q_iadd hx hb dL_isAct_119 ?_
    refine q_ic 4 hx hb dL_isAct_120 (by decide) ?_
    refine q_kI0 (q_rSS (As := [.ref b, .int (nI (a + 3)), .int (nI 4)]) (rest := [.int (nI (j_113)), .int (nI (j_104)), .int (nI 1), .ref (ad 0)]) hC hW hX hbl hbA mw_L_cell gw_149 (k_cell l G 74 ad H.size I_2 L_2 R_2 b Lx xs hLx (a + 3) 4 (by omega) (by omega) (by omega)) ⟨rfl, rfl⟩ ⟨Nat.le_of_ble_eq_true rfl, Nat.le_of_ble_eq_true rfl⟩ ⟨(Nat.le_of_ble_eq_true rfl), (Nat.le_of_ble_eq_true rfl)⟩ hl.1 rfl rfl (Nat.le_of_ble_eq_true rfl) dL_isAct_121) hW (fun r_121 H locs hp hW => ?_)
    obtain ⟨j_121, hj_121, rfl⟩ := hp
    refine q_kI2 (q_rS (As := [.ref (ad 0), .int (nI 1), .int (nI (j_104)), .int (nI (j_113)), .int (nI (j_121))]) (rest := []) hC hW mw_L_isGiven gw_367 (k_isGiven1 l G 74 ad H.size I_2 L_2 R_2 j_104 j_113 j_121 w K ro hc hi sv pn ch hA (by omega) (by omega) (by omega)) ⟨rfl, rfl⟩ ⟨Nat.le_of_ble_eq_true rfl, Nat.le_of_ble_eq_true rfl⟩ ⟨(Nat.le_of_ble_eq_true rfl), (Nat.le_of_ble_eq_true rfl)⟩ hl.1 rfl rfl (Nat.le_of_ble_eq_true rfl) dL_isAct_124) hW (fun r_124 n_124 ad_124 I_124 L_124 R_124 H locs hp hW => ?_)
    obtain ⟨hz, rfl, rfl, S_, hA, hF⟩ := GV_use hp
    subst hz
    have hG := fr_t hF hG
    refine q_more (c2 := 1) (s2 := 64) (Nat.le_of_ble_eq_true rfl) (Nat.le_of_ble_eq_true rfl) ?_
    exact q_zret2 hC hW hr hlk0 rfl ⟨rfl, _, (by decide : 71 ≤ 74), fun _ _ => rfl, InvA_n hA (by decide)⟩ dL_isAct_127
  ·
    refine lv_tableIn (off := 83) (tgt := 96) hx hb dL_isAct_13 (by decide) (by decide) rfl (by decide) ?_
    refine lv_aload_n hx hb dL_isAct_96 rfl (lv_at hl 1 rfl) ?_
    refine q_ic 1 hx hb dL_isAct_97 (by decide) ?_
    refine lv_aload_n hx hb dL_isAct_98 rfl (lv_at hl 2 rfl) ?_
    refine lv_iload_n hx hb dL_isAct_99 rfl (lv_at hl 3 rfl) ?_
    refine q_ic 1 hx hb dL_isAct_100 (by decide) ?_
    refine q_iadd hx hb dL_isAct_101 ?_
    refine q_bp 6 hx hb dL_isAct_102 (by decide) ?_
    refine q_kI0 (q_rSS (As := [.ref b, .int (nI (a + 1)), .int (nI 6)]) (rest := [.int (nI 1), .ref (ad 0)]) hC hW hX hbl hbA mw_L_cell gw_149 (k_cell l G 74 ad H.size I_2 L_2 R_2 b Lx xs hLx (a + 1) 6 (by omega) (by omega) (by omega)) ⟨rfl, rfl⟩ ⟨Nat.le_of_ble_eq_true rfl, Nat.le_of_ble_eq_true rfl⟩ ⟨(Nat.le_of_ble_eq_true rfl), (Nat.le_of_ble_eq_true rfl)⟩ hl.1 rfl rfl (Nat.le_of_ble_eq_true rfl) dL_isAct_104) hW (fun r_104 H locs hp hW => ?_)
    obtain ⟨j_104, hj_104, rfl⟩ := hp
    refine lv_aload_n hx hb dL_isAct_107 rfl (lv_at hl 2 rfl) ?_
    refine lv_iload_n hx hb dL_isAct_108 rfl (lv_at hl 3 rfl) ?_
    refine q_ic 2 hx hb dL_isAct_109 (by decide) ?_
    refine q_iadd hx hb dL_isAct_110 ?_
    refine q_bp 6 hx hb dL_isAct_111 (by decide) ?_
    refine q_kI0 (q_rSS (As := [.ref b, .int (nI (a + 2)), .int (nI 6)]) (rest := [.int (nI (j_104)), .int (nI 1), .ref (ad 0)]) hC hW hX hbl hbA mw_L_cell gw_149 (k_cell l G 74 ad H.size I_2 L_2 R_2 b Lx xs hLx (a + 2) 6 (by omega) (by omega) (by omega)) ⟨rfl, rfl⟩ ⟨Nat.le_of_ble_eq_true rfl, Nat.le_of_ble_eq_true rfl⟩ ⟨(Nat.le_of_ble_eq_true rfl), (Nat.le_of_ble_eq_true rfl)⟩ hl.1 rfl rfl (Nat.le_of_ble_eq_true rfl) dL_isAct_113) hW (fun r_113 H locs hp hW => ?_)
    obtain ⟨j_113, hj_113, rfl⟩ := hp
    refine lv_aload_n hx hb dL_isAct_116 rfl (lv_at hl 2 rfl) ?_
    refine lv_iload_n hx hb dL_isAct_117 rfl (lv_at hl 3 rfl) ?_
    refine q_ic 3 hx hb dL_isAct_118 (by decide) ?_
    refine q_iadd hx hb dL_isAct_119 ?_
    refine q_ic 4 hx hb dL_isAct_120 (by decide) ?_
    refine q_kI0 (q_rSS (As := [.ref b, .int (nI (a + 3)), .int (nI 4)]) (rest := [.int (nI (j_113)), .int (nI (j_104)), .int (nI 1), .ref (ad 0)]) hC hW hX hbl hbA mw_L_cell gw_149 (k_cell l G 74 ad H.size I_2 L_2 R_2 b Lx xs hLx (a + 3) 4 (by omega) (by omega) (by omega)) ⟨rfl, rfl⟩ ⟨Nat.le_of_ble_eq_true rfl, Nat.le_of_ble_eq_true rfl⟩ ⟨(Nat.le_of_ble_eq_true rfl), (Nat.le_of_ble_eq_true rfl)⟩ hl.1 rfl rfl (Nat.le_of_ble_eq_true rfl) dL_isAct_121) hW (fun r_121 H locs hp hW => ?_)
    obtain ⟨j_121, hj_121, rfl⟩ := hp
    refine q_kI2 (q_rS (As := [.ref (ad 0), .int (nI 1), .int (nI (j_104)), .int (nI (j_113)), .int (nI (j_121))]) (rest := []) hC hW mw_L_isGiven gw_367 (k_isGiven1 l G 74 ad H.size I_2 L_2 R_2 j_104 j_113 j_121 w K ro hc hi sv pn ch hA (by omega) (by omega) (by omega)) ⟨rfl, rfl⟩ ⟨Nat.le_of_ble_eq_true rfl, Nat.le_of_ble_eq_true rfl⟩ ⟨(Nat.le_of_ble_eq_true rfl), (Nat.le_of_ble_eq_true rfl)⟩ hl.1 rfl rfl (Nat.le_of_ble_eq_true rfl) dL_isAct_124) hW (fun r_124 n_124 ad_124 I_124 L_124 R_124 H locs hp hW => ?_)
    obtain ⟨hz, rfl, rfl, S_, hA, hF⟩ := GV_use hp
    subst hz
    have hG := fr_t hF hG
    refine q_more (c2 := 1) (s2 := 64) (Nat.le_of_ble_eq_true rfl) (Nat.le_of_ble_eq_true rfl) ?_
    exact q_zret2 hC hW hr hlk0 rfl ⟨rfl, _, (by decide : 71 ≤ 74), fun _ _ => rfl, InvA_n hA (by decide)⟩ dL_isAct_127
  ·
    refine lv_tableIn (off := 83) (tgt := 96) hx hb dL_isAct_13 (by decide) (by decide) rfl (by decide) ?_
    refine lv_aload_n hx hb dL_isAct_96 rfl (lv_at hl 1 rfl) ?_
    refine q_ic 1 hx hb dL_isAct_97 (by decide) ?_
    refine lv_aload_n hx hb dL_isAct_98 rfl (lv_at hl 2 rfl) ?_
    refine lv_iload_n hx hb dL_isAct_99 rfl (lv_at hl 3 rfl) ?_
    refine q_ic 1 hx hb dL_isAct_100 (by decide) ?_
    refine q_iadd hx hb dL_isAct_101 ?_
    refine q_bp 6 hx hb dL_isAct_102 (by decide) ?_
    refine q_kI0 (q_rSS (As := [.ref b, .int (nI (a + 1)), .int (nI 6)]) (rest := [.int (nI 1), .ref (ad 0)]) hC hW hX hbl hbA mw_L_cell gw_149 (k_cell l G 74 ad H.size I_2 L_2 R_2 b Lx xs hLx (a + 1) 6 (by omega) (by omega) (by omega)) ⟨rfl, rfl⟩ ⟨Nat.le_of_ble_eq_true rfl, Nat.le_of_ble_eq_true rfl⟩ ⟨(Nat.le_of_ble_eq_true rfl), (Nat.le_of_ble_eq_true rfl)⟩ hl.1 rfl rfl (Nat.le_of_ble_eq_true rfl) dL_isAct_104) hW (fun r_104 H locs hp hW => ?_)
    obtain ⟨j_104, hj_104, rfl⟩ := hp
    refine lv_aload_n hx hb dL_isAct_107 rfl (lv_at hl 2 rfl) ?_
    refine lv_iload_n hx hb dL_isAct_108 rfl (lv_at hl 3 rfl) ?_
    refine q_ic 2 hx hb dL_isAct_109 (by decide) ?_
    refine q_iadd hx hb dL_isAct_110 ?_
    refine q_bp 6 hx hb dL_isAct_111 (by decide) ?_
    refine q_kI0 (q_rSS (As := [.ref b, .int (nI (a + 2)), .int (nI 6)]) (rest := [.int (nI (j_104)), .int (nI 1), .ref (ad 0)]) hC hW hX hbl hbA mw_L_cell gw_149 (k_cell l G 74 ad H.size I_2 L_2 R_2 b Lx xs hLx (a + 2) 6 (by omega) (by omega) (by omega)) ⟨rfl, rfl⟩ ⟨Nat.le_of_ble_eq_true rfl, Nat.le_of_ble_eq_true rfl⟩ ⟨(Nat.le_of_ble_eq_true rfl), (Nat.le_of_ble_eq_true rfl)⟩ hl.1 rfl rfl (Nat.le_of_ble_eq_true rfl) dL_isAct_113) hW (fun r_113 H locs hp hW => ?_)
    obtain ⟨j_113, hj_113, rfl⟩ := hp
    refine lv_aload_n hx hb dL_isAct_116 rfl (lv_at hl 2 rfl) ?_
    refine lv_iload_n hx hb dL_isAct_117 rfl (lv_at hl 3 rfl) ?_
    refine q_ic 3 hx hb dL_isAct_118 (by decide) ?_
    refine q_iadd hx hb dL_isAct_119 ?_
    refine q_ic 4 hx hb dL_isAct_120 (by decide) ?_
    refine q_kI0 (q_rSS (As := [.ref b, .int (nI (a + 3)), .int (nI 4)]) (rest := [.int (nI (j_113)), .int (nI (j_104)), .int (nI 1), .ref (ad 0)]) hC hW hX hbl hbA mw_L_cell gw_149 (k_cell l G 74 ad H.size I_2 L_2 R_2 b Lx xs hLx (a + 3) 4 (by omega) (by omega) (by omega)) ⟨rfl, rfl⟩ ⟨Nat.le_of_ble_eq_true rfl, Nat.le_of_ble_eq_true rfl⟩ ⟨(Nat.le_of_ble_eq_true rfl), (Nat.le_of_ble_eq_true rfl)⟩ hl.1 rfl rfl (Nat.le_of_ble_eq_true rfl) dL_isAct_121) hW (fun r_121 H locs hp hW => ?_)
    obtain ⟨j_121, hj_121, rfl⟩ := hp
    refine q_kI2 (q_rS (As := [.ref (ad 0), .int (nI 1), .int (nI (j_104)), .int (nI (j_113)), .int (nI (j_121))]) (rest := []) hC hW mw_L_isGiven gw_367 (k_isGiven1 l G 74 ad H.size I_2 L_2 R_2 j_104 j_113 j_121 w K ro hc hi sv pn ch hA (by omega) (by omega) (by omega)) ⟨rfl, rfl⟩ ⟨Nat.le_of_ble_eq_true rfl, Nat.le_of_ble_eq_true rfl⟩ ⟨(Nat.le_of_ble_eq_true rfl), (Nat.le_of_ble_eq_true rfl)⟩ hl.1 rfl rfl (Nat.le_of_ble_eq_true rfl) dL_isAct_124) hW (fun r_124 n_124 ad_124 I_124 L_124 R_124 H locs hp hW => ?_)
    obtain ⟨hz, rfl, rfl, S_, hA, hF⟩ := GV_use hp
    subst hz
    have hG := fr_t hF hG
    refine q_more (c2 := 1) (s2 := 64) (Nat.le_of_ble_eq_true rfl) (Nat.le_of_ble_eq_true rfl) ?_
    exact q_zret2 hC hW hr hlk0 rfl ⟨rfl, _, (by decide : 71 ≤ 74), fun _ _ => rfl, InvA_n hA (by decide)⟩ dL_isAct_127
  ·
    refine lv_tableIn (off := 115) (tgt := 128) hx hb dL_isAct_13 (by decide) (by decide) rfl (by decide) ?_
    refine lv_aload_n hx hb dL_isAct_128 rfl (lv_at hl 1 rfl) ?_
    refine q_ic 2 hx hb dL_isAct_129 (by decide) ?_
    refine lv_aload_n hx hb dL_isAct_130 rfl (lv_at hl 2 rfl) ?_
    refine lv_iload_n hx hb dL_isAct_131 rfl (lv_at hl 3 rfl) ?_
    refine q_ic 1 hx hb dL_isAct_132 (by decide) ?_
    refine q_iadd hx hb dL_isAct_133 ?_
    refine q_ic 5 hx hb dL_isAct_134 (by decide) ?_
    refine q_kI0 (q_rSS (As := [.ref b, .int (nI (a + 1)), .int (nI 5)]) (rest := [.int (nI 2), .ref (ad 0)]) hC hW hX hbl hbA mw_L_cell gw_149 (k_cell l G 74 ad H.size I_2 L_2 R_2 b Lx xs hLx (a + 1) 5 (by omega) (by omega) (by omega)) ⟨rfl, rfl⟩ ⟨Nat.le_of_ble_eq_true rfl, Nat.le_of_ble_eq_true rfl⟩ ⟨(Nat.le_of_ble_eq_true rfl), (Nat.le_of_ble_eq_true rfl)⟩ hl.1 rfl rfl (Nat.le_of_ble_eq_true rfl) dL_isAct_135) hW (fun r_135 H locs hp hW => ?_)
    obtain ⟨j_135, hj_135, rfl⟩ := hp
    refine lv_aload_n hx hb dL_isAct_138 rfl (lv_at hl 2 rfl) ?_
    refine lv_iload_n hx hb dL_isAct_139 rfl (lv_at hl 3 rfl) ?_
    refine q_ic 2 hx hb dL_isAct_140 (by decide) ?_
    refine q_iadd hx hb dL_isAct_141 ?_
    refine q_ic 5 hx hb dL_isAct_142 (by decide) ?_
    refine q_kI0 (q_rSS (As := [.ref b, .int (nI (a + 2)), .int (nI 5)]) (rest := [.int (nI (j_135)), .int (nI 2), .ref (ad 0)]) hC hW hX hbl hbA mw_L_cell gw_149 (k_cell l G 74 ad H.size I_2 L_2 R_2 b Lx xs hLx (a + 2) 5 (by omega) (by omega) (by omega)) ⟨rfl, rfl⟩ ⟨Nat.le_of_ble_eq_true rfl, Nat.le_of_ble_eq_true rfl⟩ ⟨(Nat.le_of_ble_eq_true rfl), (Nat.le_of_ble_eq_true rfl)⟩ hl.1 rfl rfl (Nat.le_of_ble_eq_true rfl) dL_isAct_143) hW (fun r_143 H locs hp hW => ?_)
    obtain ⟨j_143, hj_143, rfl⟩ := hp
    refine lv_aload_n hx hb dL_isAct_146 rfl (lv_at hl 2 rfl) ?_
    refine lv_iload_n hx hb dL_isAct_147 rfl (lv_at hl 3 rfl) ?_
    refine q_ic 3 hx hb dL_isAct_148 (by decide) ?_
    refine q_iadd hx hb dL_isAct_149 ?_
    refine q_ic 4 hx hb dL_isAct_150 (by decide) ?_
    refine q_kI0 (q_rSS (As := [.ref b, .int (nI (a + 3)), .int (nI 4)]) (rest := [.int (nI (j_143)), .int (nI (j_135)), .int (nI 2), .ref (ad 0)]) hC hW hX hbl hbA mw_L_cell gw_149 (k_cell l G 74 ad H.size I_2 L_2 R_2 b Lx xs hLx (a + 3) 4 (by omega) (by omega) (by omega)) ⟨rfl, rfl⟩ ⟨Nat.le_of_ble_eq_true rfl, Nat.le_of_ble_eq_true rfl⟩ ⟨(Nat.le_of_ble_eq_true rfl), (Nat.le_of_ble_eq_true rfl)⟩ hl.1 rfl rfl (Nat.le_of_ble_eq_true rfl) dL_isAct_151) hW (fun r_151 H locs hp hW => ?_)
    obtain ⟨j_151, hj_151, rfl⟩ := hp
    refine q_kI2 (q_rS (As := [.ref (ad 0), .int (nI 2), .int (nI (j_135)), .int (nI (j_143)), .int (nI (j_151))]) (rest := []) hC hW mw_L_isGiven gw_367 (k_isGiven2 l G 74 ad H.size I_2 L_2 R_2 j_135 j_143 j_151 w K ro hc hi sv pn ch hA (by omega) (by omega) (by omega)) ⟨rfl, rfl⟩ ⟨Nat.le_of_ble_eq_true rfl, Nat.le_of_ble_eq_true rfl⟩ ⟨(Nat.le_of_ble_eq_true rfl), (Nat.le_of_ble_eq_true rfl)⟩ hl.1 rfl rfl (Nat.le_of_ble_eq_true rfl) dL_isAct_154) hW (fun r_154 n_154 ad_154 I_154 L_154 R_154 H locs hp hW => ?_)
    obtain ⟨hz, rfl, rfl, S_, hA, hF⟩ := GV_use hp
    subst hz
    have hG := fr_t hF hG
    refine q_more (c2 := 1) (s2 := 64) (Nat.le_of_ble_eq_true rfl) (Nat.le_of_ble_eq_true rfl) ?_
    exact q_zret2 hC hW hr hlk0 rfl ⟨rfl, _, (by decide : 71 ≤ 74), fun _ _ => rfl, InvA_n hA (by decide)⟩ dL_isAct_157
  ·
    refine lv_tableIn (off := 115) (tgt := 128) hx hb dL_isAct_13 (by decide) (by decide) rfl (by decide) ?_
    refine lv_aload_n hx hb dL_isAct_128 rfl (lv_at hl 1 rfl) ?_
    refine q_ic 2 hx hb dL_isAct_129 (by decide) ?_
    refine lv_aload_n hx hb dL_isAct_130 rfl (lv_at hl 2 rfl) ?_
    refine lv_iload_n hx hb dL_isAct_131 rfl (lv_at hl 3 rfl) ?_
    refine q_ic 1 hx hb dL_isAct_132 (by decide) ?_
    refine q_iadd hx hb dL_isAct_133 ?_
    refine q_ic 5 hx hb dL_isAct_134 (by decide) ?_
    refine q_kI0 (q_rSS (As := [.ref b, .int (nI (a + 1)), .int (nI 5)]) (rest := [.int (nI 2), .ref (ad 0)]) hC hW hX hbl hbA mw_L_cell gw_149 (k_cell l G 74 ad H.size I_2 L_2 R_2 b Lx xs hLx (a + 1) 5 (by omega) (by omega) (by omega)) ⟨rfl, rfl⟩ ⟨Nat.le_of_ble_eq_true rfl, Nat.le_of_ble_eq_true rfl⟩ ⟨(Nat.le_of_ble_eq_true rfl), (Nat.le_of_ble_eq_true rfl)⟩ hl.1 rfl rfl (Nat.le_of_ble_eq_true rfl) dL_isAct_135) hW (fun r_135 H locs hp hW => ?_)
    obtain ⟨j_135, hj_135, rfl⟩ := hp
    refine lv_aload_n hx hb dL_isAct_138 rfl (lv_at hl 2 rfl) ?_
    refine lv_iload_n hx hb dL_isAct_139 rfl (lv_at hl 3 rfl) ?_
    refine q_ic 2 hx hb dL_isAct_140 (by decide) ?_
    refine q_iadd hx hb dL_isAct_141 ?_
    refine q_ic 5 hx hb dL_isAct_142 (by decide) ?_
    refine q_kI0 (q_rSS (As := [.ref b, .int (nI (a + 2)), .int (nI 5)]) (rest := [.int (nI (j_135)), .int (nI 2), .ref (ad 0)]) hC hW hX hbl hbA mw_L_cell gw_149 (k_cell l G 74 ad H.size I_2 L_2 R_2 b Lx xs hLx (a + 2) 5 (by omega) (by omega) (by omega)) ⟨rfl, rfl⟩ ⟨Nat.le_of_ble_eq_true rfl, Nat.le_of_ble_eq_true rfl⟩ ⟨(Nat.le_of_ble_eq_true rfl), (Nat.le_of_ble_eq_true rfl)⟩ hl.1 rfl rfl (Nat.le_of_ble_eq_true rfl) dL_isAct_143) hW (fun r_143 H locs hp hW => ?_)
    obtain ⟨j_143, hj_143, rfl⟩ := hp
    refine lv_aload_n hx hb dL_isAct_146 rfl (lv_at hl 2 rfl) ?_
    refine lv_iload_n hx hb dL_isAct_147 rfl (lv_at hl 3 rfl) ?_
    refine q_ic 3 hx hb dL_isAct_148 (by decide) ?_
    refine q_iadd hx hb dL_isAct_149 ?_
    refine q_ic 4 hx hb dL_isAct_150 (by decide) ?_
    refine q_kI0 (q_rSS (As := [.ref b, .int (nI (a + 3)), .int (nI 4)]) (rest := [.int (nI (j_143)), .int (nI (j_135)), .int (nI 2), .ref (ad 0)]) hC hW hX hbl hbA mw_L_cell gw_149 (k_cell l G 74 ad H.size I_2 L_2 R_2 b Lx xs hLx (a + 3) 4 (by omega) (by omega) (by omega)) ⟨rfl, rfl⟩ ⟨Nat.le_of_ble_eq_true rfl, Nat.le_of_ble_eq_true rfl⟩ ⟨(Nat.le_of_ble_eq_true rfl), (Nat.le_of_ble_eq_true rfl)⟩ hl.1 rfl rfl (Nat.le_of_ble_eq_true rfl) dL_isAct_151) hW (fun r_151 H locs hp hW => ?_)
    obtain ⟨j_151, hj_151, rfl⟩ := hp
    refine q_kI2 (q_rS (As := [.ref (ad 0), .int (nI 2), .int (nI (j_135)), .int (nI (j_143)), .int (nI (j_151))]) (rest := []) hC hW mw_L_isGiven gw_367 (k_isGiven2 l G 74 ad H.size I_2 L_2 R_2 j_135 j_143 j_151 w K ro hc hi sv pn ch hA (by omega) (by omega) (by omega)) ⟨rfl, rfl⟩ ⟨Nat.le_of_ble_eq_true rfl, Nat.le_of_ble_eq_true rfl⟩ ⟨(Nat.le_of_ble_eq_true rfl), (Nat.le_of_ble_eq_true rfl)⟩ hl.1 rfl rfl (Nat.le_of_ble_eq_true rfl) dL_isAct_154) hW (fun r_154 n_154 ad_154 I_154 L_154 R_154 H locs hp hW => ?_)
    obtain ⟨hz, rfl, rfl, S_, hA, hF⟩ := GV_use hp
    subst hz
    have hG := fr_t hF hG
    refine q_more (c2 := 1) (s2 := 64) (Nat.le_of_ble_eq_true rfl) (Nat.le_of_ble_eq_true rfl) ?_
    exact q_zret2 hC hW hr hlk0 rfl ⟨rfl, _, (by decide : 71 ≤ 74), fun _ _ => rfl, InvA_n hA (by decide)⟩ dL_isAct_157
  ·
    refine lv_tableIn (off := 145) (tgt := 158) hx hb dL_isAct_13 (by decide) (by decide) rfl (by decide) ?_
    refine lv_aload_n hx hb dL_isAct_158 rfl (lv_at hl 2 rfl) ?_
    refine lv_iload_n hx hb dL_isAct_159 rfl (lv_at hl 3 rfl) ?_
    refine q_ic 1 hx hb dL_isAct_160 (by decide) ?_
    refine q_iadd hx hb dL_isAct_161 ?_
    refine q_ic 4 hx hb dL_isAct_162 (by decide) ?_
    refine q_kI0 (q_rSS (As := [.ref b, .int (nI (a + 1)), .int (nI 4)]) (rest := []) hC hW hX hbl hbA mw_L_cell gw_149 (k_cell l G 74 ad H.size I_2 L_2 R_2 b Lx xs hLx (a + 1) 4 (by omega) (by omega) (by omega)) ⟨rfl, rfl⟩ ⟨Nat.le_of_ble_eq_true rfl, Nat.le_of_ble_eq_true rfl⟩ ⟨(Nat.le_of_ble_eq_true rfl), (Nat.le_of_ble_eq_true rfl)⟩ hl.1 rfl rfl (Nat.le_of_ble_eq_true rfl) dL_isAct_163) hW (fun r_163 H locs hp hW => ?_)
    obtain ⟨j_163, hj_163, rfl⟩ := hp
    refine lv_istore (lv' := [(4, .int (nI (j_163))), (3, .int (nI (K))), (0, .ref (ad 0)), (1, .ref b), (2, .int (nI (a)))]) hx hb dL_isAct_166 hl (by decide) rfl (fun ls hl => ?_)
    refine lv_aload_n hx hb dL_isAct_168 rfl (lv_at hl 2 rfl) ?_
    refine lv_iload hx hb dL_isAct_169 (lv_at hl 0 rfl) ?_
    refine q_kI2 (q_rV (As := [.int (nI (j_163))]) (rest := []) (x := 0) hC hW mw_X5_add gw_391 (k_add l G 74 ad H.size I_2 L_2 R_2 (nI j_163) w K ro hc hi sv pn ch hA) (by omega) (ct_o5 kd_0) rfl ⟨rfl, rfl⟩ ⟨Nat.le_of_ble_eq_true rfl, Nat.le_of_ble_eq_true rfl⟩ ⟨(Nat.le_of_ble_eq_true rfl), (Nat.le_of_ble_eq_true rfl)⟩ hl.1 rfl rfl (Nat.le_of_ble_eq_true rfl) dL_isAct_171) hW (fun r_171 n_171 ad_171 I_171 L_171 R_171 H locs hp hW => ?_)
    obtain ⟨hz, rfl, rfl, hA, hF⟩ := PR_use hp
    have hG := fr_t hF hG
    by_cases hK : K = 6
    ·
      have hft : aAdd ((w, K, ro), hc, hi, sv, pn, ch) (nI j_163) = ((-4), ((w, K, ro), hc, hi, sv, pn, ch)) := aA_6 (S := ((w, K, ro), hc, hi, sv, pn, ch)) (by omega) hK
      rw [hft] at hz hA
      have hA : InvA 74 I_171 L_171 R_171 ((w, K, ro), hc, hi, sv, pn, ch) := hA
      have hz : r_171 = (-4) := hz
      subst hz
      refine lv_iload_n hx hb dL_isAct_174 rfl (lv_at hl 1 rfl) ?_
      refine q_bp 6 hx hb dL_isAct_175 (by decide) ?_
      refine q_cne (tgt := 185) hx hb dL_isAct_177 (by decide) (by first | omega | exact Nat.lt_of_le_of_lt (hw3 _) (by decide) | exact Nat.lt_of_lt_of_le (hr4 _) (by decide) | exact Nat.lt_of_le_of_lt (bp_le _) (by decide) | assumption) (by first | omega | exact Nat.lt_of_le_of_lt (hw3 _) (by decide) | exact Nat.lt_of_lt_of_le (hr4 _) (by decide) | exact Nat.lt_of_le_of_lt (bp_le _) (by decide) | assumption) (fun c_177 => absurd hK c_177) (fun c_177 => ?_)
      refine lv_bipush (v := -4) hx hb dL_isAct_180 (by decide) ?_
      refine lv_goto (tgt := 188) hx hb dL_isAct_182 (by decide) ?_
      refine lv_icmp_ne (tgt := 211) hx hb dL_isAct_188 (by decide) (fun c_188 => absurd c_188 (by decide)) (fun c_188 => ?_)
      refine lv_iload_n hx hb dL_isAct_191 rfl (lv_at hl 1 rfl) ?_
      refine q_bp 6 hx hb dL_isAct_192 (by decide) ?_
      refine q_ceq (tgt := 207) hx hb dL_isAct_194 (by decide) (by first | omega | exact Nat.lt_of_le_of_lt (hw3 _) (by decide) | exact Nat.lt_of_lt_of_le (hr4 _) (by decide) | exact Nat.lt_of_le_of_lt (bp_le _) (by decide) | assumption) (by first | omega | exact Nat.lt_of_le_of_lt (hw3 _) (by decide) | exact Nat.lt_of_lt_of_le (hr4 _) (by decide) | exact Nat.lt_of_le_of_lt (bp_le _) (by decide) | assumption) (fun c_194 => ?_) (fun c_194 => absurd hK c_194)
      refine q_ic 1 hx hb dL_isAct_207 (by decide) ?_
      refine lv_goto (tgt := 212) hx hb dL_isAct_208 (by decide) ?_
      refine q_more (c2 := 1) (s2 := 64) (Nat.le_of_ble_eq_true rfl) (Nat.le_of_ble_eq_true rfl) ?_
      exact q_zret2 hC hW hr hlk0 rfl ⟨rfl, _, (by decide : 71 ≤ 74), fun _ _ => rfl, InvA_n hA (by decide)⟩ dL_isAct_212
    ·
      have hft : aAdd ((w, K, ro), hc, hi, sv, pn, ch) (nI j_163) = (nI (K + 1), ((w, K + 1, upN ro K j_163), hcN hc, hiN hc hi (w, K, ro), sv, pn, ch)) := aA_s (S := ((w, K, ro), hc, hi, sv, pn, ch)) (by omega) hK
      rw [hft] at hz hA
      have hA : InvA 74 I_171 L_171 R_171 ((w, K + 1, upN ro K j_163), hcN hc, hiN hc hi (w, K, ro), sv, pn, ch) := hA
      have hz : r_171 = nI (K + 1) := hz
      subst hz
      refine lv_iload_n hx hb dL_isAct_174 rfl (lv_at hl 1 rfl) ?_
      refine q_bp 6 hx hb dL_isAct_175 (by decide) ?_
      refine q_cne (tgt := 185) hx hb dL_isAct_177 (by decide) (by first | omega | exact Nat.lt_of_le_of_lt (hw3 _) (by decide) | exact Nat.lt_of_lt_of_le (hr4 _) (by decide) | exact Nat.lt_of_le_of_lt (bp_le _) (by decide) | assumption) (by first | omega | exact Nat.lt_of_le_of_lt (hw3 _) (by decide) | exact Nat.lt_of_lt_of_le (hr4 _) (by decide) | exact Nat.lt_of_le_of_lt (bp_le _) (by decide) | assumption) (fun c_177 => ?_) (fun c_177 => absurd c_177 hK)
      refine lv_iload_n hx hb dL_isAct_185 rfl (lv_at hl 1 rfl) ?_
      refine q_ic 1 hx hb dL_isAct_186 (by decide) ?_
      refine q_iadd hx hb dL_isAct_187 ?_
      refine q_cne (tgt := 211) hx hb dL_isAct_188 (by decide) (by first | omega | exact Nat.lt_of_le_of_lt (hw3 _) (by decide) | exact Nat.lt_of_lt_of_le (hr4 _) (by decide) | exact Nat.lt_of_le_of_lt (bp_le _) (by decide) | assumption) (by first | omega | exact Nat.lt_of_le_of_lt (hw3 _) (by decide) | exact Nat.lt_of_lt_of_le (hr4 _) (by decide) | exact Nat.lt_of_le_of_lt (bp_le _) (by decide) | assumption) (fun c_188 => absurd rfl c_188) (fun c_188 => ?_)
      refine lv_iload_n hx hb dL_isAct_191 rfl (lv_at hl 1 rfl) ?_
      refine q_bp 6 hx hb dL_isAct_192 (by decide) ?_
      refine q_ceq (tgt := 207) hx hb dL_isAct_194 (by decide) (by first | omega | exact Nat.lt_of_le_of_lt (hw3 _) (by decide) | exact Nat.lt_of_lt_of_le (hr4 _) (by decide) | exact Nat.lt_of_le_of_lt (bp_le _) (by decide) | assumption) (by first | omega | exact Nat.lt_of_le_of_lt (hw3 _) (by decide) | exact Nat.lt_of_lt_of_le (hr4 _) (by decide) | exact Nat.lt_of_le_of_lt (bp_le _) (by decide) | assumption) (fun c_194 => absurd c_194 hK) (fun c_194 => ?_)
      refine lv_aload_n hx hb dL_isAct_197 rfl (lv_at hl 2 rfl) ?_
      refine lv_iload_n hx hb dL_isAct_198 rfl (lv_at hl 1 rfl) ?_
      refine q_kI2 (q_rV (As := [.int (nI (K))]) (rest := []) (x := 0) hC hW mw_X5_letter gw_183 (k_letter l G 74 ad H.size I_171 L_171 R_171 (nI K) w (K + 1) (upN ro K j_163) (hcN hc) (hiN hc hi (w, K, ro)) sv pn ch hA) (by omega) (ct_o5 kd_0) rfl ⟨rfl, rfl⟩ ⟨Nat.le_of_ble_eq_true rfl, Nat.le_of_ble_eq_true rfl⟩ ⟨(Nat.le_of_ble_eq_true rfl), (Nat.le_of_ble_eq_true rfl)⟩ hl.1 rfl rfl (Nat.le_of_ble_eq_true rfl) dL_isAct_199) hW (fun r_199 n_199 ad_199 I_199 L_199 R_199 H locs hp hW => ?_)
      obtain ⟨hz, rfl, rfl, hA, hF⟩ := PR_use hp
      have hG := fr_t hF hG
      have hz : r_199 = nI j_163 := (hz.trans (aL1 (S := ((w, K + 1, upN ro K j_163), hcN hc, hiN hc hi (w, K, ro), sv, pn, ch)) (p := K) (show K < K + 1 by omega) (show K + 1 ≤ 6 by omega))).trans (congrArg nI (if_pos rfl))
      subst hz
      refine lv_iload hx hb dL_isAct_202 (lv_at hl 0 rfl) ?_
      refine q_cne (tgt := 211) hx hb dL_isAct_204 (by decide) (by first | omega | exact Nat.lt_of_le_of_lt (hw3 _) (by decide) | exact Nat.lt_of_lt_of_le (hr4 _) (by decide) | exact Nat.lt_of_le_of_lt (bp_le _) (by decide) | assumption) (by first | omega | exact Nat.lt_of_le_of_lt (hw3 _) (by decide) | exact Nat.lt_of_lt_of_le (hr4 _) (by decide) | exact Nat.lt_of_le_of_lt (bp_le _) (by decide) | assumption) (fun c_204 => absurd rfl c_204) (fun c_204 => ?_)
      refine q_ic 1 hx hb dL_isAct_207 (by decide) ?_
      refine lv_goto (tgt := 212) hx hb dL_isAct_208 (by decide) ?_
      refine q_more (c2 := 1) (s2 := 64) (Nat.le_of_ble_eq_true rfl) (Nat.le_of_ble_eq_true rfl) ?_
      exact q_zret2 hC hW hr hlk0 rfl ⟨rfl, _, (by decide : 71 ≤ 74), fun _ _ => rfl, InvA_n hA (by decide)⟩ dL_isAct_212
  ·
    refine lv_tableIn (off := 145) (tgt := 158) hx hb dL_isAct_13 (by decide) (by decide) rfl (by decide) ?_
    refine lv_aload_n hx hb dL_isAct_158 rfl (lv_at hl 2 rfl) ?_
    refine lv_iload_n hx hb dL_isAct_159 rfl (lv_at hl 3 rfl) ?_
    refine q_ic 1 hx hb dL_isAct_160 (by decide) ?_
    refine q_iadd hx hb dL_isAct_161 ?_
    refine q_ic 4 hx hb dL_isAct_162 (by decide) ?_
    refine q_kI0 (q_rSS (As := [.ref b, .int (nI (a + 1)), .int (nI 4)]) (rest := []) hC hW hX hbl hbA mw_L_cell gw_149 (k_cell l G 74 ad H.size I_2 L_2 R_2 b Lx xs hLx (a + 1) 4 (by omega) (by omega) (by omega)) ⟨rfl, rfl⟩ ⟨Nat.le_of_ble_eq_true rfl, Nat.le_of_ble_eq_true rfl⟩ ⟨(Nat.le_of_ble_eq_true rfl), (Nat.le_of_ble_eq_true rfl)⟩ hl.1 rfl rfl (Nat.le_of_ble_eq_true rfl) dL_isAct_163) hW (fun r_163 H locs hp hW => ?_)
    obtain ⟨j_163, hj_163, rfl⟩ := hp
    refine lv_istore (lv' := [(4, .int (nI (j_163))), (3, .int (nI (K))), (0, .ref (ad 0)), (1, .ref b), (2, .int (nI (a)))]) hx hb dL_isAct_166 hl (by decide) rfl (fun ls hl => ?_)
    refine lv_aload_n hx hb dL_isAct_168 rfl (lv_at hl 2 rfl) ?_
    refine lv_iload hx hb dL_isAct_169 (lv_at hl 0 rfl) ?_
    refine q_kI2 (q_rV (As := [.int (nI (j_163))]) (rest := []) (x := 0) hC hW mw_X5_add gw_391 (k_add l G 74 ad H.size I_2 L_2 R_2 (nI j_163) w K ro hc hi sv pn ch hA) (by omega) (ct_o5 kd_0) rfl ⟨rfl, rfl⟩ ⟨Nat.le_of_ble_eq_true rfl, Nat.le_of_ble_eq_true rfl⟩ ⟨(Nat.le_of_ble_eq_true rfl), (Nat.le_of_ble_eq_true rfl)⟩ hl.1 rfl rfl (Nat.le_of_ble_eq_true rfl) dL_isAct_171) hW (fun r_171 n_171 ad_171 I_171 L_171 R_171 H locs hp hW => ?_)
    obtain ⟨hz, rfl, rfl, hA, hF⟩ := PR_use hp
    have hG := fr_t hF hG
    by_cases hK : K = 6
    ·
      have hft : aAdd ((w, K, ro), hc, hi, sv, pn, ch) (nI j_163) = ((-4), ((w, K, ro), hc, hi, sv, pn, ch)) := aA_6 (S := ((w, K, ro), hc, hi, sv, pn, ch)) (by omega) hK
      rw [hft] at hz hA
      have hA : InvA 74 I_171 L_171 R_171 ((w, K, ro), hc, hi, sv, pn, ch) := hA
      have hz : r_171 = (-4) := hz
      subst hz
      refine lv_iload_n hx hb dL_isAct_174 rfl (lv_at hl 1 rfl) ?_
      refine q_bp 6 hx hb dL_isAct_175 (by decide) ?_
      refine q_cne (tgt := 185) hx hb dL_isAct_177 (by decide) (by first | omega | exact Nat.lt_of_le_of_lt (hw3 _) (by decide) | exact Nat.lt_of_lt_of_le (hr4 _) (by decide) | exact Nat.lt_of_le_of_lt (bp_le _) (by decide) | assumption) (by first | omega | exact Nat.lt_of_le_of_lt (hw3 _) (by decide) | exact Nat.lt_of_lt_of_le (hr4 _) (by decide) | exact Nat.lt_of_le_of_lt (bp_le _) (by decide) | assumption) (fun c_177 => absurd hK c_177) (fun c_177 => ?_)
      refine lv_bipush (v := -4) hx hb dL_isAct_180 (by decide) ?_
      refine lv_goto (tgt := 188) hx hb dL_isAct_182 (by decide) ?_
      refine lv_icmp_ne (tgt := 211) hx hb dL_isAct_188 (by decide) (fun c_188 => absurd c_188 (by decide)) (fun c_188 => ?_)
      refine lv_iload_n hx hb dL_isAct_191 rfl (lv_at hl 1 rfl) ?_
      refine q_bp 6 hx hb dL_isAct_192 (by decide) ?_
      refine q_ceq (tgt := 207) hx hb dL_isAct_194 (by decide) (by first | omega | exact Nat.lt_of_le_of_lt (hw3 _) (by decide) | exact Nat.lt_of_lt_of_le (hr4 _) (by decide) | exact Nat.lt_of_le_of_lt (bp_le _) (by decide) | assumption) (by first | omega | exact Nat.lt_of_le_of_lt (hw3 _) (by decide) | exact Nat.lt_of_lt_of_le (hr4 _) (by decide) | exact Nat.lt_of_le_of_lt (bp_le _) (by decide) | assumption) (fun c_194 => ?_) (fun c_194 => absurd hK c_194)
      refine q_ic 1 hx hb dL_isAct_207 (by decide) ?_
      refine lv_goto (tgt := 212) hx hb dL_isAct_208 (by decide) ?_
      refine q_more (c2 := 1) (s2 := 64) (Nat.le_of_ble_eq_true rfl) (Nat.le_of_ble_eq_true rfl) ?_
      exact q_zret2 hC hW hr hlk0 rfl ⟨rfl, _, (by decide : 71 ≤ 74), fun _ _ => rfl, InvA_n hA (by decide)⟩ dL_isAct_212
    ·
      have hft : aAdd ((w, K, ro), hc, hi, sv, pn, ch) (nI j_163) = (nI (K + 1), ((w, K + 1, upN ro K j_163), hcN hc, hiN hc hi (w, K, ro), sv, pn, ch)) := aA_s (S := ((w, K, ro), hc, hi, sv, pn, ch)) (by omega) hK
      rw [hft] at hz hA
      have hA : InvA 74 I_171 L_171 R_171 ((w, K + 1, upN ro K j_163), hcN hc, hiN hc hi (w, K, ro), sv, pn, ch) := hA
      have hz : r_171 = nI (K + 1) := hz
      subst hz
      refine lv_iload_n hx hb dL_isAct_174 rfl (lv_at hl 1 rfl) ?_
      refine q_bp 6 hx hb dL_isAct_175 (by decide) ?_
      refine q_cne (tgt := 185) hx hb dL_isAct_177 (by decide) (by first | omega | exact Nat.lt_of_le_of_lt (hw3 _) (by decide) | exact Nat.lt_of_lt_of_le (hr4 _) (by decide) | exact Nat.lt_of_le_of_lt (bp_le _) (by decide) | assumption) (by first | omega | exact Nat.lt_of_le_of_lt (hw3 _) (by decide) | exact Nat.lt_of_lt_of_le (hr4 _) (by decide) | exact Nat.lt_of_le_of_lt (bp_le _) (by decide) | assumption) (fun c_177 => ?_) (fun c_177 => absurd c_177 hK)
      refine lv_iload_n hx hb dL_isAct_185 rfl (lv_at hl 1 rfl) ?_
      refine q_ic 1 hx hb dL_isAct_186 (by decide) ?_
      refine q_iadd hx hb dL_isAct_187 ?_
      refine q_cne (tgt := 211) hx hb dL_isAct_188 (by decide) (by first | omega | exact Nat.lt_of_le_of_lt (hw3 _) (by decide) | exact Nat.lt_of_lt_of_le (hr4 _) (by decide) | exact Nat.lt_of_le_of_lt (bp_le _) (by decide) | assumption) (by first | omega | exact Nat.lt_of_le_of_lt (hw3 _) (by decide) | exact Nat.lt_of_lt_of_le (hr4 _) (by decide) | exact Nat.lt_of_le_of_lt (bp_le _) (by decide) | assumption) (fun c_188 => absurd rfl c_188) (fun c_188 => ?_)
      refine lv_iload_n hx hb dL_isAct_191 rfl (lv_at hl 1 rfl) ?_
      refine q_bp 6 hx hb dL_isAct_192 (by decide) ?_
      refine q_ceq (tgt := 207) hx hb dL_isAct_194 (by decide) (by first | omega | exact Nat.lt_of_le_of_lt (hw3 _) (by decide) | exact Nat.lt_of_lt_of_le (hr4 _) (by decide) | exact Nat.lt_of_le_of_lt (bp_le _) (by decide) | assumption) (by first | omega | exact Nat.lt_of_le_of_lt (hw3 _) (by decide) | exact Nat.lt_of_lt_of_le (hr4 _) (by decide) | exact Nat.lt_of_le_of_lt (bp_le _) (by decide) | assumption) (fun c_194 => absurd c_194 hK) (fun c_194 => ?_)
      refine lv_aload_n hx hb dL_isAct_197 rfl (lv_at hl 2 rfl) ?_
      refine lv_iload_n hx hb dL_isAct_198 rfl (lv_at hl 1 rfl) ?_
      refine q_kI2 (q_rV (As := [.int (nI (K))]) (rest := []) (x := 0) hC hW mw_X5_letter gw_183 (k_letter l G 74 ad H.size I_171 L_171 R_171 (nI K) w (K + 1) (upN ro K j_163) (hcN hc) (hiN hc hi (w, K, ro)) sv pn ch hA) (by omega) (ct_o5 kd_0) rfl ⟨rfl, rfl⟩ ⟨Nat.le_of_ble_eq_true rfl, Nat.le_of_ble_eq_true rfl⟩ ⟨(Nat.le_of_ble_eq_true rfl), (Nat.le_of_ble_eq_true rfl)⟩ hl.1 rfl rfl (Nat.le_of_ble_eq_true rfl) dL_isAct_199) hW (fun r_199 n_199 ad_199 I_199 L_199 R_199 H locs hp hW => ?_)
      obtain ⟨hz, rfl, rfl, hA, hF⟩ := PR_use hp
      have hG := fr_t hF hG
      have hz : r_199 = nI j_163 := (hz.trans (aL1 (S := ((w, K + 1, upN ro K j_163), hcN hc, hiN hc hi (w, K, ro), sv, pn, ch)) (p := K) (show K < K + 1 by omega) (show K + 1 ≤ 6 by omega))).trans (congrArg nI (if_pos rfl))
      subst hz
      refine lv_iload hx hb dL_isAct_202 (lv_at hl 0 rfl) ?_
      refine q_cne (tgt := 211) hx hb dL_isAct_204 (by decide) (by first | omega | exact Nat.lt_of_le_of_lt (hw3 _) (by decide) | exact Nat.lt_of_lt_of_le (hr4 _) (by decide) | exact Nat.lt_of_le_of_lt (bp_le _) (by decide) | assumption) (by first | omega | exact Nat.lt_of_le_of_lt (hw3 _) (by decide) | exact Nat.lt_of_lt_of_le (hr4 _) (by decide) | exact Nat.lt_of_le_of_lt (bp_le _) (by decide) | assumption) (fun c_204 => absurd rfl c_204) (fun c_204 => ?_)
      refine q_ic 1 hx hb dL_isAct_207 (by decide) ?_
      refine lv_goto (tgt := 212) hx hb dL_isAct_208 (by decide) ?_
      refine q_more (c2 := 1) (s2 := 64) (Nat.le_of_ble_eq_true rfl) (Nat.le_of_ble_eq_true rfl) ?_
      exact q_zret2 hC hW hr hlk0 rfl ⟨rfl, _, (by decide : 71 ≤ 74), fun _ _ => rfl, InvA_n hA (by decide)⟩ dL_isAct_212
  ·
    refine lv_tableIn (off := 145) (tgt := 158) hx hb dL_isAct_13 (by decide) (by decide) rfl (by decide) ?_
    refine lv_aload_n hx hb dL_isAct_158 rfl (lv_at hl 2 rfl) ?_
    refine lv_iload_n hx hb dL_isAct_159 rfl (lv_at hl 3 rfl) ?_
    refine q_ic 1 hx hb dL_isAct_160 (by decide) ?_
    refine q_iadd hx hb dL_isAct_161 ?_
    refine q_ic 4 hx hb dL_isAct_162 (by decide) ?_
    refine q_kI0 (q_rSS (As := [.ref b, .int (nI (a + 1)), .int (nI 4)]) (rest := []) hC hW hX hbl hbA mw_L_cell gw_149 (k_cell l G 74 ad H.size I_2 L_2 R_2 b Lx xs hLx (a + 1) 4 (by omega) (by omega) (by omega)) ⟨rfl, rfl⟩ ⟨Nat.le_of_ble_eq_true rfl, Nat.le_of_ble_eq_true rfl⟩ ⟨(Nat.le_of_ble_eq_true rfl), (Nat.le_of_ble_eq_true rfl)⟩ hl.1 rfl rfl (Nat.le_of_ble_eq_true rfl) dL_isAct_163) hW (fun r_163 H locs hp hW => ?_)
    obtain ⟨j_163, hj_163, rfl⟩ := hp
    refine lv_istore (lv' := [(4, .int (nI (j_163))), (3, .int (nI (K))), (0, .ref (ad 0)), (1, .ref b), (2, .int (nI (a)))]) hx hb dL_isAct_166 hl (by decide) rfl (fun ls hl => ?_)
    refine lv_aload_n hx hb dL_isAct_168 rfl (lv_at hl 2 rfl) ?_
    refine lv_iload hx hb dL_isAct_169 (lv_at hl 0 rfl) ?_
    refine q_kI2 (q_rV (As := [.int (nI (j_163))]) (rest := []) (x := 0) hC hW mw_X5_add gw_391 (k_add l G 74 ad H.size I_2 L_2 R_2 (nI j_163) w K ro hc hi sv pn ch hA) (by omega) (ct_o5 kd_0) rfl ⟨rfl, rfl⟩ ⟨Nat.le_of_ble_eq_true rfl, Nat.le_of_ble_eq_true rfl⟩ ⟨(Nat.le_of_ble_eq_true rfl), (Nat.le_of_ble_eq_true rfl)⟩ hl.1 rfl rfl (Nat.le_of_ble_eq_true rfl) dL_isAct_171) hW (fun r_171 n_171 ad_171 I_171 L_171 R_171 H locs hp hW => ?_)
    obtain ⟨hz, rfl, rfl, hA, hF⟩ := PR_use hp
    have hG := fr_t hF hG
    by_cases hK : K = 6
    ·
      have hft : aAdd ((w, K, ro), hc, hi, sv, pn, ch) (nI j_163) = ((-4), ((w, K, ro), hc, hi, sv, pn, ch)) := aA_6 (S := ((w, K, ro), hc, hi, sv, pn, ch)) (by omega) hK
      rw [hft] at hz hA
      have hA : InvA 74 I_171 L_171 R_171 ((w, K, ro), hc, hi, sv, pn, ch) := hA
      have hz : r_171 = (-4) := hz
      subst hz
      refine lv_iload_n hx hb dL_isAct_174 rfl (lv_at hl 1 rfl) ?_
      refine q_bp 6 hx hb dL_isAct_175 (by decide) ?_
      refine q_cne (tgt := 185) hx hb dL_isAct_177 (by decide) (by first | omega | exact Nat.lt_of_le_of_lt (hw3 _) (by decide) | exact Nat.lt_of_lt_of_le (hr4 _) (by decide) | exact Nat.lt_of_le_of_lt (bp_le _) (by decide) | assumption) (by first | omega | exact Nat.lt_of_le_of_lt (hw3 _) (by decide) | exact Nat.lt_of_lt_of_le (hr4 _) (by decide) | exact Nat.lt_of_le_of_lt (bp_le _) (by decide) | assumption) (fun c_177 => absurd hK c_177) (fun c_177 => ?_)
      refine lv_bipush (v := -4) hx hb dL_isAct_180 (by decide) ?_
      refine lv_goto (tgt := 188) hx hb dL_isAct_182 (by decide) ?_
      refine lv_icmp_ne (tgt := 211) hx hb dL_isAct_188 (by decide) (fun c_188 => absurd c_188 (by decide)) (fun c_188 => ?_)
      refine lv_iload_n hx hb dL_isAct_191 rfl (lv_at hl 1 rfl) ?_
      refine q_bp 6 hx hb dL_isAct_192 (by decide) ?_
      refine q_ceq (tgt := 207) hx hb dL_isAct_194 (by decide) (by first | omega | exact Nat.lt_of_le_of_lt (hw3 _) (by decide) | exact Nat.lt_of_lt_of_le (hr4 _) (by decide) | exact Nat.lt_of_le_of_lt (bp_le _) (by decide) | assumption) (by first | omega | exact Nat.lt_of_le_of_lt (hw3 _) (by decide) | exact Nat.lt_of_lt_of_le (hr4 _) (by decide) | exact Nat.lt_of_le_of_lt (bp_le _) (by decide) | assumption) (fun c_194 => ?_) (fun c_194 => absurd hK c_194)
      refine q_ic 1 hx hb dL_isAct_207 (by decide) ?_
      refine lv_goto (tgt := 212) hx hb dL_isAct_208 (by decide) ?_
      refine q_more (c2 := 1) (s2 := 64) (Nat.le_of_ble_eq_true rfl) (Nat.le_of_ble_eq_true rfl) ?_
      exact q_zret2 hC hW hr hlk0 rfl ⟨rfl, _, (by decide : 71 ≤ 74), fun _ _ => rfl, InvA_n hA (by decide)⟩ dL_isAct_212
    ·
      have hft : aAdd ((w, K, ro), hc, hi, sv, pn, ch) (nI j_163) = (nI (K + 1), ((w, K + 1, upN ro K j_163), hcN hc, hiN hc hi (w, K, ro), sv, pn, ch)) := aA_s (S := ((w, K, ro), hc, hi, sv, pn, ch)) (by omega) hK
      rw [hft] at hz hA
      have hA : InvA 74 I_171 L_171 R_171 ((w, K + 1, upN ro K j_163), hcN hc, hiN hc hi (w, K, ro), sv, pn, ch) := hA
      have hz : r_171 = nI (K + 1) := hz
      subst hz
      refine lv_iload_n hx hb dL_isAct_174 rfl (lv_at hl 1 rfl) ?_
      refine q_bp 6 hx hb dL_isAct_175 (by decide) ?_
      refine q_cne (tgt := 185) hx hb dL_isAct_177 (by decide) (by first | omega | exact Nat.lt_of_le_of_lt (hw3 _) (by decide) | exact Nat.lt_of_lt_of_le (hr4 _) (by decide) | exact Nat.lt_of_le_of_lt (bp_le _) (by decide) | assumption) (by first | omega | exact Nat.lt_of_le_of_lt (hw3 _) (by decide) | exact Nat.lt_of_lt_of_le (hr4 _) (by decide) | exact Nat.lt_of_le_of_lt (bp_le _) (by decide) | assumption) (fun c_177 => ?_) (fun c_177 => absurd c_177 hK)
      refine lv_iload_n hx hb dL_isAct_185 rfl (lv_at hl 1 rfl) ?_
      refine q_ic 1 hx hb dL_isAct_186 (by decide) ?_
      refine q_iadd hx hb dL_isAct_187 ?_
      refine q_cne (tgt := 211) hx hb dL_isAct_188 (by decide) (by first | omega | exact Nat.lt_of_le_of_lt (hw3 _) (by decide) | exact Nat.lt_of_lt_of_le (hr4 _) (by decide) | exact Nat.lt_of_le_of_lt (bp_le _) (by decide) | assumption) (by first | omega | exact Nat.lt_of_le_of_lt (hw3 _) (by decide) | exact Nat.lt_of_lt_of_le (hr4 _) (by decide) | exact Nat.lt_of_le_of_lt (bp_le _) (by decide) | assumption) (fun c_188 => absurd rfl c_188) (fun c_188 => ?_)
      refine lv_iload_n hx hb dL_isAct_191 rfl (lv_at hl 1 rfl) ?_
      refine q_bp 6 hx hb dL_isAct_192 (by decide) ?_
      refine q_ceq (tgt := 207) hx hb dL_isAct_194 (by decide) (by first | omega | exact Nat.lt_of_le_of_lt (hw3 _) (by decide) | exact Nat.lt_of_lt_of_le (hr4 _) (by decide) | exact Nat.lt_of_le_of_lt (bp_le _) (by decide) | assumption) (by first | omega | exact Nat.lt_of_le_of_lt (hw3 _) (by decide) | exact Nat.lt_of_lt_of_le (hr4 _) (by decide) | exact Nat.lt_of_le_of_lt (bp_le _) (by decide) | assumption) (fun c_194 => absurd c_194 hK) (fun c_194 => ?_)
      refine lv_aload_n hx hb dL_isAct_197 rfl (lv_at hl 2 rfl) ?_
      refine lv_iload_n hx hb dL_isAct_198 rfl (lv_at hl 1 rfl) ?_
      refine q_kI2 (q_rV (As := [.int (nI (K))]) (rest := []) (x := 0) hC hW mw_X5_letter gw_183 (k_letter l G 74 ad H.size I_171 L_171 R_171 (nI K) w (K + 1) (upN ro K j_163) (hcN hc) (hiN hc hi (w, K, ro)) sv pn ch hA) (by omega) (ct_o5 kd_0) rfl ⟨rfl, rfl⟩ ⟨Nat.le_of_ble_eq_true rfl, Nat.le_of_ble_eq_true rfl⟩ ⟨(Nat.le_of_ble_eq_true rfl), (Nat.le_of_ble_eq_true rfl)⟩ hl.1 rfl rfl (Nat.le_of_ble_eq_true rfl) dL_isAct_199) hW (fun r_199 n_199 ad_199 I_199 L_199 R_199 H locs hp hW => ?_)
      obtain ⟨hz, rfl, rfl, hA, hF⟩ := PR_use hp
      have hG := fr_t hF hG
      have hz : r_199 = nI j_163 := (hz.trans (aL1 (S := ((w, K + 1, upN ro K j_163), hcN hc, hiN hc hi (w, K, ro), sv, pn, ch)) (p := K) (show K < K + 1 by omega) (show K + 1 ≤ 6 by omega))).trans (congrArg nI (if_pos rfl))
      subst hz
      refine lv_iload hx hb dL_isAct_202 (lv_at hl 0 rfl) ?_
      refine q_cne (tgt := 211) hx hb dL_isAct_204 (by decide) (by first | omega | exact Nat.lt_of_le_of_lt (hw3 _) (by decide) | exact Nat.lt_of_lt_of_le (hr4 _) (by decide) | exact Nat.lt_of_le_of_lt (bp_le _) (by decide) | assumption) (by first | omega | exact Nat.lt_of_le_of_lt (hw3 _) (by decide) | exact Nat.lt_of_lt_of_le (hr4 _) (by decide) | exact Nat.lt_of_le_of_lt (bp_le _) (by decide) | assumption) (fun c_204 => absurd rfl c_204) (fun c_204 => ?_)
      refine q_ic 1 hx hb dL_isAct_207 (by decide) ?_
      refine lv_goto (tgt := 212) hx hb dL_isAct_208 (by decide) ?_
      refine q_more (c2 := 1) (s2 := 64) (Nat.le_of_ble_eq_true rfl) (Nat.le_of_ble_eq_true rfl) ?_
      exact q_zret2 hC hW hr hlk0 rfl ⟨rfl, _, (by decide : 71 ≤ 74), fun _ _ => rfl, InvA_n hA (by decide)⟩ dL_isAct_212
  ·
    refine lv_tableIn (off := 200) (tgt := 213) hx hb dL_isAct_13 (by decide) (by decide) rfl (by decide) ?_
    refine lv_iload_n hx hb dL_isAct_213 rfl (lv_at hl 0 rfl) ?_
    refine q_ine (tgt := 222) hx hb dL_isAct_214 (by decide) (by first | omega | exact Nat.lt_of_le_of_lt (hw3 _) (by decide) | exact Nat.lt_of_lt_of_le (hr4 _) (by decide) | exact Nat.lt_of_le_of_lt (bp_le _) (by decide) | assumption) (fun c_214 => ?_) (fun c_214 => ?_)
    ·
      refine lv_aload_n hx hb dL_isAct_222 rfl (lv_at hl 1 rfl) ?_
      refine lv_iload_n hx hb dL_isAct_223 rfl (lv_at hl 0 rfl) ?_
      refine q_ic 1 hx hb dL_isAct_224 (by decide) ?_
      refine q_isub hx hb dL_isAct_225 (by omega) ?_
      refine q_kI2 (q_rV (As := [.int (nI (K - 1))]) (rest := []) (x := 0) hC hW mw_X5_letter gw_183 (k_letter l G 74 ad H.size I_2 L_2 R_2 (nI (K - 1)) w K ro hc hi sv pn ch hA) (by omega) (ct_o5 kd_0) rfl ⟨rfl, rfl⟩ ⟨Nat.le_of_ble_eq_true rfl, Nat.le_of_ble_eq_true rfl⟩ ⟨(Nat.le_of_ble_eq_true rfl), (Nat.le_of_ble_eq_true rfl)⟩ hl.1 rfl rfl (Nat.le_of_ble_eq_true rfl) dL_isAct_226) hW (fun r_226 n_226 ad_226 I_226 L_226 R_226 H locs hp hW => ?_)
      obtain ⟨hz, rfl, rfl, hA, hF⟩ := PR_use hp
      have hG := fr_t hF hG
      have hz : r_226 = nI (ro (K - 1)) := hz.trans (aL1 (S := ((w, K, ro), hc, hi, sv, pn, ch)) (p := K - 1) (show K - 1 < K by omega) hk6)
      subst hz
      refine lv_istore (lv' := [(5, .int (nI (ro (K - 1)))), (3, .int (nI (K))), (0, .ref (ad 0)), (1, .ref b), (2, .int (nI (a)))]) hx hb dL_isAct_229 hl (by decide) rfl (fun ls hl => ?_)
      refine lv_aload_n hx hb dL_isAct_231 rfl (lv_at hl 2 rfl) ?_
      refine q_kI2 (q_rV (As := []) (rest := []) (x := 0) hC hW mw_X5_cut gw_399 (k_cut l G 74 ad H.size I_226 L_226 R_226 w K ro hc hi sv pn ch hA) (by omega) (ct_o5 kd_0) rfl ⟨rfl, rfl⟩ ⟨Nat.le_of_ble_eq_true rfl, Nat.le_of_ble_eq_true rfl⟩ ⟨(Nat.le_of_ble_eq_true rfl), (Nat.le_of_ble_eq_true rfl)⟩ hl.1 rfl rfl (Nat.le_of_ble_eq_true rfl) dL_isAct_232) hW (fun r_232 n_232 ad_232 I_232 L_232 R_232 H locs hp hW => ?_)
      obtain ⟨hz, rfl, rfl, hA, hF⟩ := PR_use hp
      have hG := fr_t hF hG
      have hft : aCut ((w, K, ro), hc, hi, sv, pn, ch) = (nI (ro (K - 1)), ((w, K - 1, ro), hcN hc, hiN hc hi (w, K, ro), sv, pn, ch)) := if_neg (show ¬ K = 0 by omega)
      rw [hft] at hz hA
      have hA : InvA 74 I_232 L_232 R_232 ((w, K - 1, ro), hcN hc, hiN hc hi (w, K, ro), sv, pn, ch) := hA
      have hz : r_232 = nI (ro (K - 1)) := hz
      subst hz
      refine lv_iload hx hb dL_isAct_235 (lv_at hl 0 rfl) ?_
      refine q_cne (tgt := 263) hx hb dL_isAct_237 (by decide) (by first | omega | exact Nat.lt_of_le_of_lt (hw3 _) (by decide) | exact Nat.lt_of_lt_of_le (hr4 _) (by decide) | exact Nat.lt_of_le_of_lt (bp_le _) (by decide) | assumption) (by first | omega | exact Nat.lt_of_le_of_lt (hw3 _) (by decide) | exact Nat.lt_of_lt_of_le (hr4 _) (by decide) | exact Nat.lt_of_le_of_lt (bp_le _) (by decide) | assumption) (fun c_237 => absurd rfl c_237) (fun c_237 => ?_)
      refine lv_aload_n hx hb dL_isAct_240 rfl (lv_at hl 2 rfl) ?_
      refine q_ic 0 hx hb dL_isAct_241 (by decide) ?_
      refine q_kI2 (q_rV (As := [.int (nI 0)]) (rest := []) (x := 0) hC hW mw_X5_count gw_172 (k_count l G 74 ad H.size I_232 L_232 R_232 (nI 0) w (K - 1) ro (hcN hc) (hiN hc hi (w, K, ro)) sv pn ch hA) (by omega) (ct_o5 kd_0) rfl ⟨rfl, rfl⟩ ⟨Nat.le_of_ble_eq_true rfl, Nat.le_of_ble_eq_true rfl⟩ ⟨(Nat.le_of_ble_eq_true rfl), (Nat.le_of_ble_eq_true rfl)⟩ hl.1 rfl rfl (Nat.le_of_ble_eq_true rfl) dL_isAct_242) hW (fun r_242 n_242 ad_242 I_242 L_242 R_242 H locs hp hW => ?_)
      obtain ⟨hz, rfl, rfl, hA, hF⟩ := PR_use hp
      have hG := fr_t hF hG
      have hz : r_242 = nI (K - 1) := hz.trans (aC0 (S := ((w, K - 1, ro), hcN hc, hiN hc hi (w, K, ro), sv, pn, ch)))
      subst hz
      refine lv_iload_n hx hb dL_isAct_245 rfl (lv_at hl 1 rfl) ?_
      refine q_ine (tgt := 253) hx hb dL_isAct_246 (by decide) (by first | omega | exact Nat.lt_of_le_of_lt (hw3 _) (by decide) | exact Nat.lt_of_lt_of_le (hr4 _) (by decide) | exact Nat.lt_of_le_of_lt (bp_le _) (by decide) | assumption) (fun c_246 => ?_) (fun c_246 => absurd c_246 (by have := c_214; omega))
      refine lv_iload_n hx hb dL_isAct_253 rfl (lv_at hl 1 rfl) ?_
      refine q_ic 1 hx hb dL_isAct_254 (by decide) ?_
      refine q_isub hx hb dL_isAct_255 (by omega) ?_
      refine q_cne (tgt := 263) hx hb dL_isAct_256 (by decide) (by first | omega | exact Nat.lt_of_le_of_lt (hw3 _) (by decide) | exact Nat.lt_of_lt_of_le (hr4 _) (by decide) | exact Nat.lt_of_le_of_lt (bp_le _) (by decide) | assumption) (by first | omega | exact Nat.lt_of_le_of_lt (hw3 _) (by decide) | exact Nat.lt_of_lt_of_le (hr4 _) (by decide) | exact Nat.lt_of_le_of_lt (bp_le _) (by decide) | assumption) (fun c_256 => absurd c_256 (by omega)) (fun c_256 => ?_)
      refine q_ic 1 hx hb dL_isAct_259 (by decide) ?_
      refine lv_goto (tgt := 264) hx hb dL_isAct_260 (by decide) ?_
      refine q_more (c2 := 1) (s2 := 64) (Nat.le_of_ble_eq_true rfl) (Nat.le_of_ble_eq_true rfl) ?_
      exact q_zret2 hC hW hr hlk0 rfl ⟨rfl, _, (by decide : 71 ≤ 74), fun _ _ => rfl, InvA_n hA (by decide)⟩ dL_isAct_264
    ·
      refine lv_bipush (v := -5) hx hb dL_isAct_217 (by decide) ?_
      refine lv_goto (tgt := 229) hx hb dL_isAct_219 (by decide) ?_
      refine lv_istore (lv' := [(5, .int (-5)), (3, .int (nI (K))), (0, .ref (ad 0)), (1, .ref b), (2, .int (nI (a)))]) hx hb dL_isAct_229 hl (by decide) rfl (fun ls hl => ?_)
      refine lv_aload_n hx hb dL_isAct_231 rfl (lv_at hl 2 rfl) ?_
      refine q_kI2 (q_rV (As := []) (rest := []) (x := 0) hC hW mw_X5_cut gw_399 (k_cut l G 74 ad H.size I_2 L_2 R_2 w K ro hc hi sv pn ch hA) (by omega) (ct_o5 kd_0) rfl ⟨rfl, rfl⟩ ⟨Nat.le_of_ble_eq_true rfl, Nat.le_of_ble_eq_true rfl⟩ ⟨(Nat.le_of_ble_eq_true rfl), (Nat.le_of_ble_eq_true rfl)⟩ hl.1 rfl rfl (Nat.le_of_ble_eq_true rfl) dL_isAct_232) hW (fun r_232 n_232 ad_232 I_232 L_232 R_232 H locs hp hW => ?_)
      obtain ⟨hz, rfl, rfl, hA, hF⟩ := PR_use hp
      have hG := fr_t hF hG
      have hft : aCut ((w, K, ro), hc, hi, sv, pn, ch) = ((-5), ((w, K, ro), hc, hi, sv, pn, ch)) := if_pos (show K = 0 by omega)
      rw [hft] at hz hA
      have hA : InvA 74 I_232 L_232 R_232 ((w, K, ro), hc, hi, sv, pn, ch) := hA
      have hz : r_232 = (-5) := hz
      subst hz
      refine lv_iload hx hb dL_isAct_235 (lv_at hl 0 rfl) ?_
      refine lv_icmp_ne (tgt := 263) hx hb dL_isAct_237 (by decide) (fun c_237 => absurd c_237 (by decide)) (fun c_237 => ?_)
      refine lv_aload_n hx hb dL_isAct_240 rfl (lv_at hl 2 rfl) ?_
      refine q_ic 0 hx hb dL_isAct_241 (by decide) ?_
      refine q_kI2 (q_rV (As := [.int (nI 0)]) (rest := []) (x := 0) hC hW mw_X5_count gw_172 (k_count l G 74 ad H.size I_232 L_232 R_232 (nI 0) w K ro hc hi sv pn ch hA) (by omega) (ct_o5 kd_0) rfl ⟨rfl, rfl⟩ ⟨Nat.le_of_ble_eq_true rfl, Nat.le_of_ble_eq_true rfl⟩ ⟨(Nat.le_of_ble_eq_true rfl), (Nat.le_of_ble_eq_true rfl)⟩ hl.1 rfl rfl (Nat.le_of_ble_eq_true rfl) dL_isAct_242) hW (fun r_242 n_242 ad_242 I_242 L_242 R_242 H locs hp hW => ?_)
      obtain ⟨hz, rfl, rfl, hA, hF⟩ := PR_use hp
      have hG := fr_t hF hG
      have hz : r_242 = nI K := hz.trans (aC0 (S := ((w, K, ro), hc, hi, sv, pn, ch)))
      subst hz
      refine lv_iload_n hx hb dL_isAct_245 rfl (lv_at hl 1 rfl) ?_
      refine q_ine (tgt := 253) hx hb dL_isAct_246 (by decide) (by first | omega | exact Nat.lt_of_le_of_lt (hw3 _) (by decide) | exact Nat.lt_of_lt_of_le (hr4 _) (by decide) | exact Nat.lt_of_le_of_lt (bp_le _) (by decide) | assumption) (fun c_246 => absurd c_246 (by have := c_214; omega)) (fun c_246 => ?_)
      refine q_ic 0 hx hb dL_isAct_249 (by decide) ?_
      refine lv_goto (tgt := 256) hx hb dL_isAct_250 (by decide) ?_
      refine q_cne (tgt := 263) hx hb dL_isAct_256 (by decide) (by first | omega | exact Nat.lt_of_le_of_lt (hw3 _) (by decide) | exact Nat.lt_of_lt_of_le (hr4 _) (by decide) | exact Nat.lt_of_le_of_lt (bp_le _) (by decide) | assumption) (by first | omega | exact Nat.lt_of_le_of_lt (hw3 _) (by decide) | exact Nat.lt_of_lt_of_le (hr4 _) (by decide) | exact Nat.lt_of_le_of_lt (bp_le _) (by decide) | assumption) (fun c_256 => absurd c_256 (by omega)) (fun c_256 => ?_)
      refine q_ic 1 hx hb dL_isAct_259 (by decide) ?_
      refine lv_goto (tgt := 264) hx hb dL_isAct_260 (by decide) ?_
      refine q_more (c2 := 1) (s2 := 64) (Nat.le_of_ble_eq_true rfl) (Nat.le_of_ble_eq_true rfl) ?_
      exact q_zret2 hC hW hr hlk0 rfl ⟨rfl, _, (by decide : 71 ≤ 74), fun _ _ => rfl, InvA_n hA (by decide)⟩ dL_isAct_264
  ·
    refine lv_tableOut (tgt := 265) hx hb dL_isAct_13 (by decide) (by decide) ?_
    refine lv_aload_n hx hb dL_isAct_265 rfl (lv_at hl 1 rfl) ?_
    refine q_kI2 (q_rS (As := [.ref (ad 0)]) (rest := []) hC hW mw_L_isTrained gw_403 (k_isTrained l G ad H.size I_2 L_2 R_2 w K ro hc hi sv pn ch hA (fr_n hG hNR)) ⟨rfl, rfl⟩ ⟨Nat.le_of_ble_eq_true rfl, Nat.le_of_ble_eq_true rfl⟩ ⟨(Nat.le_of_ble_eq_true rfl), (Nat.le_of_ble_eq_true rfl)⟩ hl.1 rfl rfl (Nat.le_of_ble_eq_true rfl) dL_isAct_266) hW (fun r_266 n_266 ad_266 I_266 L_266 R_266 H locs hp hW => ?_)
    obtain ⟨hz, S_, h71_, hag_, hA⟩ := hp
    subst hz
    refine q_more (c2 := 1) (s2 := 64) (Nat.le_of_ble_eq_true rfl) (Nat.le_of_ble_eq_true rfl) ?_
    exact q_zret2 hC hW hr hlk0 rfl ⟨rfl, S_, h71_, hag_, hA⟩ dL_isAct_269
