set_option maxRecDepth 100000 in
set_option maxHeartbeats 4000000 in
theorem k_cell (l : Launch) (G : Gx) (n : Nat) (ad : Nat → Nat) (sz : Nat) (I : Ic) (L : Lc) (R : Rc) (b Lx : Nat) (xs : Nat → Int32) (hLx : Lx ≤ 260) (k N : Nat) (hk : k < 1000) (hN0 : 0 < N) (hN : N < 1000)  : Met l yL_cell (Cond.code yL_cell cL_cell 3 (some .int) :: GW) ({ frames := 0, cells := 0, slots := 0, locals := 0 } : Room) (qPreS G n ad sz I L R b Lx xs [.ref b, .int (nI (k)), .int (nI (N))]) (qI0 G (qA n ad sz) (n, ad, I, L, R) (fun z => ∃ j, j < N ∧ z = nI j)) 0 0 (qA n ad sz) := by
  refine q_metS (by decide) (Nat.le_of_ble_eq_true rfl) ?_
  intro p_ e_ s m_ below meth c_ hC hr hlk0 hin hsz hW hX hbl hbA ls hl
  subst hsz
  have hC : CallFix p_ m_ c_ cL_cell 3 s ([.ref b, .int (nI (k)), .int (nI (N))] : List Value).toArray GW "CoinRowsLaw" := hC
  have hx := hC.1
  have hb := hC.2.1
  have hl : lv_has ls 3 [(0, .ref b), (1, .int (nI (k))), (2, .int (nI (N)))] := hl
  refine lv_aload_n hx hb dL_cell_0 rfl (lv_at hl 0 rfl) ?_
  refine va_slen hC.1 hC.2.1 hX hbl hbA hW.2.2.2.1 dL_cell_1 ?_
  refine q_top (v2 := .int (nI Lx)) rfl ?_
  refine q_ine (tgt := 14) hx hb dL_cell_2 (by decide) (by first | omega | exact Nat.lt_of_le_of_lt (hw3 _) (by decide) | exact Nat.lt_of_lt_of_le (hr4 _) (by decide) | exact Nat.lt_of_le_of_lt (bp_le _) (by decide) | assumption) (fun c_2 => ?_) (fun c_2 => ?_)
  ·
    refine lv_aload_n hx hb dL_cell_14 rfl (lv_at hl 0 rfl) ?_
    refine lv_iload_n hx hb dL_cell_15 rfl (lv_at hl 1 rfl) ?_
    refine lv_aload_n hx hb dL_cell_16 rfl (lv_at hl 0 rfl) ?_
    refine va_slen hC.1 hC.2.1 hX hbl hbA hW.2.2.2.1 dL_cell_17 ?_
    refine q_top (v2 := .int (nI Lx)) rfl ?_
    refine lv_irem hx hb dL_cell_18 (nI_nz (by omega) (by omega)) ?_
    refine q_top (v2 := .int (nI (k % Lx))) (congrArg Value.int (pk_rem (by omega) (by omega) (by omega))) ?_
    have hml : k % Lx < Lx := Nat.mod_lt _ (by omega)
    refine va_sld hC.1 hC.2.1 hX hbl hbA hW.2.2.2.1 (in_k (i := k % Lx) hml (by omega)) dL_cell_19 ?_
    refine lv_iload_n hx hb dL_cell_20 rfl (lv_at hl 1 rfl) ?_
    refine q_bp 7 hx hb dL_cell_21 (by decide) ?_
    refine lv_irem hx hb dL_cell_23 (nI_nz (by omega) (by omega)) ?_
    refine q_top (v2 := .int (nI (k % 7))) (congrArg Value.int (pk_rem (by omega) (by omega) (by omega))) ?_
    refine lv_ishr hx hb dL_cell_24 ?_
    refine lv_ldc (v := 4194303) hx hb hC.2.2.2.1 (hC.2.2.2.2 _ gw_152) dL_cell_25 ?_
    refine lv_iand hx hb dL_cell_27 ?_
    obtain ⟨j_, hj_, ej_⟩ := pk_andE ((xs (nI (k % Lx)).toNatClampNeg >>> (nI (k % 7) &&& 31))) (m := 4194303) 22 (by decide)
    refine q_top (v2 := .int (nI (j_))) (congrArg Value.int ej_) ?_
    refine lv_iload_n hx hb dL_cell_28 rfl (lv_at hl 2 rfl) ?_
    refine lv_irem hx hb dL_cell_29 (nI_nz (by omega) (by omega)) ?_
    refine q_top (v2 := .int (nI (j_ % N))) (congrArg Value.int (pk_rem (by omega) (by omega) (by omega))) ?_
    exact q_iret0 hC hW hr hlk0 ⟨j_ % N, Nat.mod_lt _ hN0, rfl⟩ dL_cell_30
  ·
    refine lv_iload_n hx hb dL_cell_5 rfl (lv_at hl 1 rfl) ?_
    refine q_bp 37 hx hb dL_cell_6 (by decide) ?_
    refine q_imul hx hb dL_cell_8 ?_
    refine q_ic 5 hx hb dL_cell_9 (by decide) ?_
    refine q_iadd hx hb dL_cell_10 ?_
    refine lv_goto (tgt := 28) hx hb dL_cell_11 (by decide) ?_
    refine lv_iload_n hx hb dL_cell_28 rfl (lv_at hl 2 rfl) ?_
    refine lv_irem hx hb dL_cell_29 (nI_nz (by omega) (by omega)) ?_
    refine q_top (v2 := .int (nI (((k * 37) + 5) % N))) (congrArg Value.int (pk_rem (by omega) (by omega) (by omega))) ?_
    exact q_iret0 hC hW hr hlk0 ⟨((k * 37) + 5) % N, Nat.mod_lt _ hN0, rfl⟩ dL_cell_30
set_option maxRecDepth 100000 in
set_option maxHeartbeats 4000000 in
theorem k_isGiven0 (l : Launch) (G : Gx) (n : Nat) (ad : Nat → Nat) (sz : Nat) (I : Ic) (L : Lc) (R : Rc) (c v : Nat) (w : Nat → Nat) (K : Nat) (ro : Nat → Nat) (hc : Nat) (hi : Nat → CM) (sv : Nat → Option CM) (pn : Nat) (ch : Nat → Nat) (hA : InvA n I L R ((w, K, ro), hc, hi, sv, pn, ch)) (hc6 : c < 6) (hv4 : v < 4) : Met l yL_isGiven (Cond.code yL_isGiven cL_isGiven 9 (some .boolean) :: GW) ({ frames := 7, cells := 0, slots := 0, locals := 252 } : Room) (qPre G n ad sz I L R [.ref (ad 0), .int (nI 0), .int (nI (c)), .int (nI 0), .int (nI (v))]) (qI2 G (qA n ad sz) (fun z u => z = nI 1 ∧ GvP n ad I L R u)) 0 0 (qA n ad sz) := by
  refine q_met (by decide) (Nat.le_of_ble_eq_true rfl) ?_
  intro p_ e_ s m_ below meth c_ hC hr hlk0 hin hsz hW ls hl
  subst hsz
  have hC : CallFix p_ m_ c_ cL_isGiven 9 s ([.ref (ad 0), .int (nI 0), .int (nI (c)), .int (nI 0), .int (nI (v))] : List Value).toArray GW "CoinRowsLaw" := hC
  have hx := hC.1
  have hb := hC.2.1
  have hw : Wok w := hA.2.2.1.2.2.2.2.1
  have hw3 : ∀ i, w i ≤ 3 := hw.1
  have hk6 : K ≤ 6 := hA.2.2.1.2.2.2.1
  have hr4 : ∀ j, ro j < 4 := hA.2.2.1.2.2.2.2.2
  have hn : 71 ≤ n := hA.1
  have hT63 : Sx' w K ro K 6 < 2 ^ 63 := Nat.lt_of_le_of_lt (Sx_b hw K K 6 hk6) (by decide)
  have hC31 : Cx' w K ro K 6 < 2 ^ 31 := Nat.lt_of_le_of_lt (Cx_b hw K K 6 hk6) (by decide)
  have hG : Fr7 I I L L R R := fr_0
  have hl : lv_has ls 9 [(0, .ref (ad 0)), (1, .int (nI 0)), (2, .int (nI (c))), (3, .int (nI 0)), (4, .int (nI (v)))] := hl
  refine lv_iload_n hx hb dL_isGiven_0 rfl (lv_at hl 2 rfl) ?_
  refine lv_iload_n hx hb dL_isGiven_1 rfl (lv_at hl 1 rfl) ?_
  refine q_ic 2 hx hb dL_isGiven_2 (by decide) ?_
  refine q_cne (tgt := 10) hx hb dL_isGiven_3 (by decide) (by first | omega | exact Nat.lt_of_le_of_lt (hw3 _) (by decide) | exact Nat.lt_of_lt_of_le (hr4 _) (by decide) | exact Nat.lt_of_le_of_lt (bp_le _) (by decide) | assumption) (by first | omega | exact Nat.lt_of_le_of_lt (hw3 _) (by decide) | exact Nat.lt_of_lt_of_le (hr4 _) (by decide) | exact Nat.lt_of_le_of_lt (bp_le _) (by decide) | assumption) (fun c_3 => ?_) (fun c_3 => absurd c_3 (by decide))
  refine q_bp 6 hx hb dL_isGiven_10 (by decide) ?_
  refine q_cge (tgt := 42) hx hb dL_isGiven_12 (by decide) (by first | omega | exact Nat.lt_of_le_of_lt (hw3 _) (by decide) | exact Nat.lt_of_lt_of_le (hr4 _) (by decide) | exact Nat.lt_of_le_of_lt (bp_le _) (by decide) | assumption) (by first | omega | exact Nat.lt_of_le_of_lt (hw3 _) (by decide) | exact Nat.lt_of_lt_of_le (hr4 _) (by decide) | exact Nat.lt_of_le_of_lt (bp_le _) (by decide) | assumption) (fun c_12 => absurd c_12 (by omega)) (fun c_12 => ?_)
  refine lv_iload_n hx hb dL_isGiven_15 rfl (lv_at hl 3 rfl) ?_
  refine lv_iload_n hx hb dL_isGiven_16 rfl (lv_at hl 1 rfl) ?_
  refine q_ine (tgt := 24) hx hb dL_isGiven_17 (by decide) (by first | omega | exact Nat.lt_of_le_of_lt (hw3 _) (by decide) | exact Nat.lt_of_lt_of_le (hr4 _) (by decide) | exact Nat.lt_of_le_of_lt (bp_le _) (by decide) | assumption) (fun c_17 => absurd c_17 (by decide)) (fun c_17 => ?_)
  refine q_ic 1 hx hb dL_isGiven_20 (by decide) ?_
  refine lv_goto (tgt := 35) hx hb dL_isGiven_21 (by decide) ?_
  refine q_cge (tgt := 42) hx hb dL_isGiven_35 (by decide) (by first | omega | exact Nat.lt_of_le_of_lt (hw3 _) (by decide) | exact Nat.lt_of_lt_of_le (hr4 _) (by decide) | exact Nat.lt_of_le_of_lt (bp_le _) (by decide) | assumption) (by first | omega | exact Nat.lt_of_le_of_lt (hw3 _) (by decide) | exact Nat.lt_of_lt_of_le (hr4 _) (by decide) | exact Nat.lt_of_le_of_lt (bp_le _) (by decide) | assumption) (fun c_35 => absurd c_35 (by decide)) (fun c_35 => ?_)
  refine q_ic 1 hx hb dL_isGiven_38 (by decide) ?_
  refine lv_goto (tgt := 43) hx hb dL_isGiven_39 (by decide) ?_
  refine lv_istore (lv' := [(5, .int (nI 1)), (0, .ref (ad 0)), (1, .int (nI 0)), (2, .int (nI (c))), (3, .int (nI 0)), (4, .int (nI (v)))]) hx hb dL_isGiven_43 hl (by decide) rfl (fun ls hl => ?_)
  refine lv_iload_n hx hb dL_isGiven_45 rfl (lv_at hl 2 rfl) ?_
  refine q_ic 1 hx hb dL_isGiven_46 (by decide) ?_
  refine q_cne (tgt := 74) hx hb dL_isGiven_47 (by decide) (by first | omega | exact Nat.lt_of_le_of_lt (hw3 _) (by decide) | exact Nat.lt_of_lt_of_le (hr4 _) (by decide) | exact Nat.lt_of_le_of_lt (bp_le _) (by decide) | assumption) (by first | omega | exact Nat.lt_of_le_of_lt (hw3 _) (by decide) | exact Nat.lt_of_lt_of_le (hr4 _) (by decide) | exact Nat.lt_of_le_of_lt (bp_le _) (by decide) | assumption) (fun c_47 => ?_) (fun c_47 => absurd c_47 (by decide))
  refine q_ic 0 hx hb dL_isGiven_74 (by decide) ?_
  refine lv_istore (lv' := [(6, .int (nI 0)), (5, .int (nI 1)), (0, .ref (ad 0)), (1, .int (nI 0)), (2, .int (nI (c))), (3, .int (nI 0)), (4, .int (nI (v)))]) hx hb dL_isGiven_75 hl (by decide) rfl (fun ls hl => ?_)
  refine lv_aload_n hx hb dL_isGiven_77 rfl (lv_at hl 2 rfl) ?_
  refine lv_iload_n hx hb dL_isGiven_78 rfl (lv_at hl 3 rfl) ?_
  refine lv_iload_n hx hb dL_isGiven_79 rfl (lv_at hl 4 rfl) ?_
  refine lv_iload_n hx hb dL_isGiven_80 rfl (lv_at hl 5 rfl) ?_
  refine q_kI2 (q_rV (As := [.int (nI 0), .int (nI (c)), .int (nI 0)]) (rest := []) (x := 0) hC hW mw_X5_weight gw_156 (k_weight l G n ad s.heap.size I L R (nI 0) (nI c) (nI 0) w K ro hc hi sv pn ch hA) (by omega) (ct_o5 kd_0) rfl ⟨rfl, rfl⟩ ⟨Nat.le_of_ble_eq_true rfl, Nat.le_of_ble_eq_true rfl⟩ ⟨(Nat.le_of_ble_eq_true rfl), (Nat.le_of_ble_eq_true rfl)⟩ hl.1 rfl rfl (Nat.le_of_ble_eq_true rfl) dL_isGiven_81) hW (fun r_81 n_81 ad_81 I_81 L_81 R_81 H locs hp hW => ?_)
  obtain ⟨hz, rfl, rfl, hA, hF⟩ := PR_use hp
  have hG := fr_t hF hG
  have hz : r_81 = nI (w (6 * 6 + c)) := hz.trans (aW0 (S := ((w, K, ro), hc, hi, sv, pn, ch)) (c := c) (by first | omega | assumption))
  subst hz
  refine lv_istore (lv' := [(7, .int (nI (w (6 * 6 + c)))), (6, .int (nI 0)), (5, .int (nI 1)), (0, .ref (ad 0)), (1, .int (nI 0)), (2, .int (nI (c))), (3, .int (nI 0)), (4, .int (nI (v)))]) hx hb dL_isGiven_84 hl (by decide) rfl (fun ls hl => ?_)
  refine lv_aload_n hx hb dL_isGiven_86 rfl (lv_at hl 3 rfl) ?_
  refine lv_iload_n hx hb dL_isGiven_87 rfl (lv_at hl 4 rfl) ?_
  refine lv_iload_n hx hb dL_isGiven_88 rfl (lv_at hl 5 rfl) ?_
  refine lv_iload_n hx hb dL_isGiven_89 rfl (lv_at hl 6 rfl) ?_
  refine lv_iload hx hb dL_isGiven_90 (lv_at hl 7 rfl) ?_
  refine q_kI2 (q_rV (As := [.int (nI 0), .int (nI (c)), .int (nI 0), .int (nI (v))]) (rest := []) (x := 0) hC hW mw_X5_give gw_370 (k_give l G n ad H.size I_81 L_81 R_81 (nI 0) (nI c) (nI 0) (nI v) w K ro hc hi sv pn ch hA) (by omega) (ct_o5 kd_0) rfl ⟨rfl, rfl⟩ ⟨Nat.le_of_ble_eq_true rfl, Nat.le_of_ble_eq_true rfl⟩ ⟨(Nat.le_of_ble_eq_true rfl), (Nat.le_of_ble_eq_true rfl)⟩ hl.1 rfl rfl (Nat.le_of_ble_eq_true rfl) dL_isGiven_92) hW (fun r_92 n_92 ad_92 I_92 L_92 R_92 H locs hp hW => ?_)
  obtain ⟨hz, rfl, rfl, hA, hF⟩ := PR_use hp
  have hft : aGive ((w, K, ro), hc, hi, sv, pn, ch) (nI 0) (nI c) (nI 0) (nI v) = (nI (w (6 * 6 + c)), (((upN w (6 * 6 + c) v), K, ro), hcN hc, hiN hc hi (w, K, ro), sv, pn, ch)) := aG_s (by decide) hv4 (ix0 (c := c) hc6) (by omega)
  rw [hft] at hz hA
  have hA : InvA n I_92 L_92 R_92 (((upN w (6 * 6 + c) v), K, ro), hcN hc, hiN hc hi (w, K, ro), sv, pn, ch) := hA
  have hz : r_92 = nI (w (6 * 6 + c)) := hz
  subst hz
  have hG := fr_t hF hG
  refine lv_istore (lv' := [(8, .int (nI (w (6 * 6 + c)))), (7, .int (nI (w (6 * 6 + c)))), (6, .int (nI 0)), (5, .int (nI 1)), (0, .ref (ad 0)), (1, .int (nI 0)), (2, .int (nI (c))), (3, .int (nI 0)), (4, .int (nI (v)))]) hx hb dL_isGiven_95 hl (by decide) rfl (fun ls hl => ?_)
  refine lv_iload hx hb dL_isGiven_97 (lv_at hl 3 rfl) ?_
  refine q_ine (tgt := 120) hx hb dL_isGiven_99 (by decide) (by first | omega | exact Nat.lt_of_le_of_lt (hw3 _) (by decide) | exact Nat.lt_of_lt_of_le (hr4 _) (by decide) | exact Nat.lt_of_le_of_lt (bp_le _) (by decide) | assumption) (fun c_99 => ?_) (fun c_99 => absurd c_99 (by decide))
  refine lv_iload hx hb dL_isGiven_120 (lv_at hl 2 rfl) ?_
  refine q_ieq (tgt := 150) hx hb dL_isGiven_122 (by decide) (by first | omega | exact Nat.lt_of_le_of_lt (hw3 _) (by decide) | exact Nat.lt_of_lt_of_le (hr4 _) (by decide) | exact Nat.lt_of_le_of_lt (bp_le _) (by decide) | assumption) (fun c_122 => ?_) (fun c_122 => absurd c_122 (by decide))
  refine lv_iload hx hb dL_isGiven_150 (lv_at hl 0 rfl) ?_
  refine lv_iload hx hb dL_isGiven_152 (lv_at hl 1 rfl) ?_
  refine q_cne (tgt := 173) hx hb dL_isGiven_154 (by decide) (by first | omega | exact Nat.lt_of_le_of_lt (hw3 _) (by decide) | exact Nat.lt_of_lt_of_le (hr4 _) (by decide) | exact Nat.lt_of_le_of_lt (bp_le _) (by decide) | assumption) (by first | omega | exact Nat.lt_of_le_of_lt (hw3 _) (by decide) | exact Nat.lt_of_lt_of_le (hr4 _) (by decide) | exact Nat.lt_of_le_of_lt (bp_le _) (by decide) | assumption) (fun c_154 => absurd rfl c_154) (fun c_154 => ?_)
  refine lv_aload_n hx hb dL_isGiven_157 rfl (lv_at hl 4 rfl) ?_
  refine lv_iload_n hx hb dL_isGiven_158 rfl (lv_at hl 5 rfl) ?_
  refine lv_iload_n hx hb dL_isGiven_159 rfl (lv_at hl 6 rfl) ?_
  refine lv_iload_n hx hb dL_isGiven_160 rfl (lv_at hl 7 rfl) ?_
  refine q_kI2 (q_rV (As := [.int (nI 0), .int (nI (c)), .int (nI 0)]) (rest := []) (x := 0) hC hW mw_X5_weight gw_156 (k_weight l G n ad H.size I_92 L_92 R_92 (nI 0) (nI c) (nI 0) (upN w (6 * 6 + c) v) K ro (hcN hc) (hiN hc hi (w, K, ro)) sv pn ch hA) (by omega) (ct_o5 kd_0) rfl ⟨rfl, rfl⟩ ⟨Nat.le_of_ble_eq_true rfl, Nat.le_of_ble_eq_true rfl⟩ ⟨(Nat.le_of_ble_eq_true rfl), (Nat.le_of_ble_eq_true rfl)⟩ hl.1 rfl rfl (Nat.le_of_ble_eq_true rfl) dL_isGiven_161) hW (fun r_161 n_161 ad_161 I_161 L_161 R_161 H locs hp hW => ?_)
  obtain ⟨hz, rfl, rfl, hA, hF⟩ := PR_use hp
  have hG := fr_t hF hG
  have hz : r_161 = nI v := (hz.trans (aW0 (c := c) hc6)).trans (congrArg nI (if_pos rfl))
  subst hz
  refine lv_iload hx hb dL_isGiven_164 (lv_at hl 8 rfl) ?_
  refine q_cne (tgt := 173) hx hb dL_isGiven_166 (by decide) (by first | omega | exact Nat.lt_of_le_of_lt (hw3 _) (by decide) | exact Nat.lt_of_lt_of_le (hr4 _) (by decide) | exact Nat.lt_of_le_of_lt (bp_le _) (by decide) | assumption) (by first | omega | exact Nat.lt_of_le_of_lt (hw3 _) (by decide) | exact Nat.lt_of_lt_of_le (hr4 _) (by decide) | exact Nat.lt_of_le_of_lt (bp_le _) (by decide) | assumption) (fun c_166 => absurd rfl c_166) (fun c_166 => ?_)
  refine q_ic 1 hx hb dL_isGiven_169 (by decide) ?_
  refine lv_goto (tgt := 174) hx hb dL_isGiven_170 (by decide) ?_
  exact q_zret2 hC hW hr hlk0 rfl ⟨rfl, _, hA, ⟨rfl, rfl⟩, hG⟩ dL_isGiven_174
set_option maxRecDepth 100000 in
set_option maxHeartbeats 4000000 in
theorem k_isGiven1 (l : Launch) (G : Gx) (n : Nat) (ad : Nat → Nat) (sz : Nat) (I : Ic) (L : Lc) (R : Rc) (c t v : Nat) (w : Nat → Nat) (K : Nat) (ro : Nat → Nat) (hc : Nat) (hi : Nat → CM) (sv : Nat → Option CM) (pn : Nat) (ch : Nat → Nat) (hA : InvA n I L R ((w, K, ro), hc, hi, sv, pn, ch)) (hc6 : c < 6) (ht6 : t < 6) (hv4 : v < 4) : Met l yL_isGiven (Cond.code yL_isGiven cL_isGiven 9 (some .boolean) :: GW) ({ frames := 7, cells := 0, slots := 0, locals := 252 } : Room) (qPre G n ad sz I L R [.ref (ad 0), .int (nI 1), .int (nI (c)), .int (nI (t)), .int (nI (v))]) (qI2 G (qA n ad sz) (fun z u => z = nI 1 ∧ GvP n ad I L R u)) 0 0 (qA n ad sz) := by
  refine q_met (by decide) (Nat.le_of_ble_eq_true rfl) ?_
  intro p_ e_ s m_ below meth c_ hC hr hlk0 hin hsz hW ls hl
  subst hsz
  have hC : CallFix p_ m_ c_ cL_isGiven 9 s ([.ref (ad 0), .int (nI 1), .int (nI (c)), .int (nI (t)), .int (nI (v))] : List Value).toArray GW "CoinRowsLaw" := hC
  have hx := hC.1
  have hb := hC.2.1
  have hw : Wok w := hA.2.2.1.2.2.2.2.1
  have hw3 : ∀ i, w i ≤ 3 := hw.1
  have hk6 : K ≤ 6 := hA.2.2.1.2.2.2.1
  have hr4 : ∀ j, ro j < 4 := hA.2.2.1.2.2.2.2.2
  have hn : 71 ≤ n := hA.1
  have hT63 : Sx' w K ro K 6 < 2 ^ 63 := Nat.lt_of_le_of_lt (Sx_b hw K K 6 hk6) (by decide)
  have hC31 : Cx' w K ro K 6 < 2 ^ 31 := Nat.lt_of_le_of_lt (Cx_b hw K K 6 hk6) (by decide)
  have hG : Fr7 I I L L R R := fr_0
  have hl : lv_has ls 9 [(0, .ref (ad 0)), (1, .int (nI 1)), (2, .int (nI (c))), (3, .int (nI (t))), (4, .int (nI (v)))] := hl
  refine lv_iload_n hx hb dL_isGiven_0 rfl (lv_at hl 2 rfl) ?_
  refine lv_iload_n hx hb dL_isGiven_1 rfl (lv_at hl 1 rfl) ?_
  refine q_ic 2 hx hb dL_isGiven_2 (by decide) ?_
  refine q_cne (tgt := 10) hx hb dL_isGiven_3 (by decide) (by first | omega | exact Nat.lt_of_le_of_lt (hw3 _) (by decide) | exact Nat.lt_of_lt_of_le (hr4 _) (by decide) | exact Nat.lt_of_le_of_lt (bp_le _) (by decide) | assumption) (by first | omega | exact Nat.lt_of_le_of_lt (hw3 _) (by decide) | exact Nat.lt_of_lt_of_le (hr4 _) (by decide) | exact Nat.lt_of_le_of_lt (bp_le _) (by decide) | assumption) (fun c_3 => ?_) (fun c_3 => absurd c_3 (by decide))
  refine q_bp 6 hx hb dL_isGiven_10 (by decide) ?_
  refine q_cge (tgt := 42) hx hb dL_isGiven_12 (by decide) (by first | omega | exact Nat.lt_of_le_of_lt (hw3 _) (by decide) | exact Nat.lt_of_lt_of_le (hr4 _) (by decide) | exact Nat.lt_of_le_of_lt (bp_le _) (by decide) | assumption) (by first | omega | exact Nat.lt_of_le_of_lt (hw3 _) (by decide) | exact Nat.lt_of_lt_of_le (hr4 _) (by decide) | exact Nat.lt_of_le_of_lt (bp_le _) (by decide) | assumption) (fun c_12 => absurd c_12 (by omega)) (fun c_12 => ?_)
  refine lv_iload_n hx hb dL_isGiven_15 rfl (lv_at hl 3 rfl) ?_
  refine lv_iload_n hx hb dL_isGiven_16 rfl (lv_at hl 1 rfl) ?_
  refine q_ine (tgt := 24) hx hb dL_isGiven_17 (by decide) (by first | omega | exact Nat.lt_of_le_of_lt (hw3 _) (by decide) | exact Nat.lt_of_lt_of_le (hr4 _) (by decide) | exact Nat.lt_of_le_of_lt (bp_le _) (by decide) | assumption) (fun c_17 => ?_) (fun c_17 => absurd c_17 (by decide))
  refine lv_iload_n hx hb dL_isGiven_24 rfl (lv_at hl 1 rfl) ?_
  refine q_ic 1 hx hb dL_isGiven_25 (by decide) ?_
  refine q_cne (tgt := 34) hx hb dL_isGiven_26 (by decide) (by first | omega | exact Nat.lt_of_le_of_lt (hw3 _) (by decide) | exact Nat.lt_of_lt_of_le (hr4 _) (by decide) | exact Nat.lt_of_le_of_lt (bp_le _) (by decide) | assumption) (by first | omega | exact Nat.lt_of_le_of_lt (hw3 _) (by decide) | exact Nat.lt_of_lt_of_le (hr4 _) (by decide) | exact Nat.lt_of_le_of_lt (bp_le _) (by decide) | assumption) (fun c_26 => absurd c_26 (by decide)) (fun c_26 => ?_)
  refine q_bp 6 hx hb dL_isGiven_29 (by decide) ?_
  refine lv_goto (tgt := 35) hx hb dL_isGiven_31 (by decide) ?_
  refine q_cge (tgt := 42) hx hb dL_isGiven_35 (by decide) (by first | omega | exact Nat.lt_of_le_of_lt (hw3 _) (by decide) | exact Nat.lt_of_lt_of_le (hr4 _) (by decide) | exact Nat.lt_of_le_of_lt (bp_le _) (by decide) | assumption) (by first | omega | exact Nat.lt_of_le_of_lt (hw3 _) (by decide) | exact Nat.lt_of_lt_of_le (hr4 _) (by decide) | exact Nat.lt_of_le_of_lt (bp_le _) (by decide) | assumption) (fun c_35 => absurd c_35 (by omega)) (fun c_35 => ?_)
  refine q_ic 1 hx hb dL_isGiven_38 (by decide) ?_
  refine lv_goto (tgt := 43) hx hb dL_isGiven_39 (by decide) ?_
  refine lv_istore (lv' := [(5, .int (nI 1)), (0, .ref (ad 0)), (1, .int (nI 1)), (2, .int (nI (c))), (3, .int (nI (t))), (4, .int (nI (v)))]) hx hb dL_isGiven_43 hl (by decide) rfl (fun ls hl => ?_)
  refine lv_iload_n hx hb dL_isGiven_45 rfl (lv_at hl 2 rfl) ?_
  refine q_ic 1 hx hb dL_isGiven_46 (by decide) ?_
  refine q_cne (tgt := 74) hx hb dL_isGiven_47 (by decide) (by first | omega | exact Nat.lt_of_le_of_lt (hw3 _) (by decide) | exact Nat.lt_of_lt_of_le (hr4 _) (by decide) | exact Nat.lt_of_le_of_lt (bp_le _) (by decide) | assumption) (by first | omega | exact Nat.lt_of_le_of_lt (hw3 _) (by decide) | exact Nat.lt_of_lt_of_le (hr4 _) (by decide) | exact Nat.lt_of_le_of_lt (bp_le _) (by decide) | assumption) (fun c_47 => absurd c_47 (by decide)) (fun c_47 => ?_)
  refine lv_iload_n hx hb dL_isGiven_50 rfl (lv_at hl 3 rfl) ?_
  refine lv_iload_n hx hb dL_isGiven_51 rfl (lv_at hl 4 rfl) ?_
  refine q_cne (tgt := 60) hx hb dL_isGiven_52 (by decide) (by first | omega | exact Nat.lt_of_le_of_lt (hw3 _) (by decide) | exact Nat.lt_of_lt_of_le (hr4 _) (by decide) | exact Nat.lt_of_le_of_lt (bp_le _) (by decide) | assumption) (by first | omega | exact Nat.lt_of_le_of_lt (hw3 _) (by decide) | exact Nat.lt_of_lt_of_le (hr4 _) (by decide) | exact Nat.lt_of_le_of_lt (bp_le _) (by decide) | assumption) (fun c_52 => ?_) (fun c_52 => ?_)
  ·
    refine lv_iload_n hx hb dL_isGiven_60 rfl (lv_at hl 3 rfl) ?_
    refine q_ic 5 hx hb dL_isGiven_61 (by decide) ?_
    refine q_cne (tgt := 74) hx hb dL_isGiven_62 (by decide) (by first | omega | exact Nat.lt_of_le_of_lt (hw3 _) (by decide) | exact Nat.lt_of_lt_of_le (hr4 _) (by decide) | exact Nat.lt_of_le_of_lt (bp_le _) (by decide) | assumption) (by first | omega | exact Nat.lt_of_le_of_lt (hw3 _) (by decide) | exact Nat.lt_of_lt_of_le (hr4 _) (by decide) | exact Nat.lt_of_le_of_lt (bp_le _) (by decide) | assumption) (fun c_62 => ?_) (fun c_62 => ?_)
    ·
      refine q_ic 0 hx hb dL_isGiven_74 (by decide) ?_
      refine lv_istore (lv' := [(6, .int (nI 0)), (5, .int (nI 1)), (0, .ref (ad 0)), (1, .int (nI 1)), (2, .int (nI (c))), (3, .int (nI (t))), (4, .int (nI (v)))]) hx hb dL_isGiven_75 hl (by decide) rfl (fun ls hl => ?_)
      refine lv_aload_n hx hb dL_isGiven_77 rfl (lv_at hl 2 rfl) ?_
      refine lv_iload_n hx hb dL_isGiven_78 rfl (lv_at hl 3 rfl) ?_
      refine lv_iload_n hx hb dL_isGiven_79 rfl (lv_at hl 4 rfl) ?_
      refine lv_iload_n hx hb dL_isGiven_80 rfl (lv_at hl 5 rfl) ?_
      refine q_kI2 (q_rV (As := [.int (nI 1), .int (nI (c)), .int (nI (t))]) (rest := []) (x := 0) hC hW mw_X5_weight gw_156 (k_weight l G n ad s.heap.size I L R (nI 1) (nI c) (nI t) w K ro hc hi sv pn ch hA) (by omega) (ct_o5 kd_0) rfl ⟨rfl, rfl⟩ ⟨Nat.le_of_ble_eq_true rfl, Nat.le_of_ble_eq_true rfl⟩ ⟨(Nat.le_of_ble_eq_true rfl), (Nat.le_of_ble_eq_true rfl)⟩ hl.1 rfl rfl (Nat.le_of_ble_eq_true rfl) dL_isGiven_81) hW (fun r_81 n_81 ad_81 I_81 L_81 R_81 H locs hp hW => ?_)
      obtain ⟨hz, rfl, rfl, hA, hF⟩ := PR_use hp
      have hG := fr_t hF hG
      have hz : r_81 = nI (w (c * 6 + t)) := hz.trans (aW1 (S := ((w, K, ro), hc, hi, sv, pn, ch)) (f := c) (t := t) (by first | omega | assumption) (by first | omega | assumption))
      subst hz
      refine lv_istore (lv' := [(7, .int (nI (w (c * 6 + t)))), (6, .int (nI 0)), (5, .int (nI 1)), (0, .ref (ad 0)), (1, .int (nI 1)), (2, .int (nI (c))), (3, .int (nI (t))), (4, .int (nI (v)))]) hx hb dL_isGiven_84 hl (by decide) rfl (fun ls hl => ?_)
      refine lv_aload_n hx hb dL_isGiven_86 rfl (lv_at hl 3 rfl) ?_
      refine lv_iload_n hx hb dL_isGiven_87 rfl (lv_at hl 4 rfl) ?_
      refine lv_iload_n hx hb dL_isGiven_88 rfl (lv_at hl 5 rfl) ?_
      refine lv_iload_n hx hb dL_isGiven_89 rfl (lv_at hl 6 rfl) ?_
      refine lv_iload hx hb dL_isGiven_90 (lv_at hl 7 rfl) ?_
      refine q_kI2 (q_rV (As := [.int (nI 1), .int (nI (c)), .int (nI (t)), .int (nI (v))]) (rest := []) (x := 0) hC hW mw_X5_give gw_370 (k_give l G n ad H.size I_81 L_81 R_81 (nI 1) (nI c) (nI t) (nI v) w K ro hc hi sv pn ch hA) (by omega) (ct_o5 kd_0) rfl ⟨rfl, rfl⟩ ⟨Nat.le_of_ble_eq_true rfl, Nat.le_of_ble_eq_true rfl⟩ ⟨(Nat.le_of_ble_eq_true rfl), (Nat.le_of_ble_eq_true rfl)⟩ hl.1 rfl rfl (Nat.le_of_ble_eq_true rfl) dL_isGiven_92) hW (fun r_92 n_92 ad_92 I_92 L_92 R_92 H locs hp hW => ?_)
      obtain ⟨hz, rfl, rfl, hA, hF⟩ := PR_use hp
      have hft : aGive ((w, K, ro), hc, hi, sv, pn, ch) (nI 1) (nI c) (nI t) (nI v) = (nI (w (c * 6 + t)), (((upN w (c * 6 + t) v), K, ro), hcN hc, hiN hc hi (w, K, ro), sv, pn, ch)) := aG_s (by decide) hv4 (ix1 (f := c) (t := t) hc6 ht6) (by omega)
      rw [hft] at hz hA
      have hA : InvA n I_92 L_92 R_92 (((upN w (c * 6 + t) v), K, ro), hcN hc, hiN hc hi (w, K, ro), sv, pn, ch) := hA
      have hz : r_92 = nI (w (c * 6 + t)) := hz
      subst hz
      have hG := fr_t hF hG
      refine lv_istore (lv' := [(8, .int (nI (w (c * 6 + t)))), (7, .int (nI (w (c * 6 + t)))), (6, .int (nI 0)), (5, .int (nI 1)), (0, .ref (ad 0)), (1, .int (nI 1)), (2, .int (nI (c))), (3, .int (nI (t))), (4, .int (nI (v)))]) hx hb dL_isGiven_95 hl (by decide) rfl (fun ls hl => ?_)
      refine lv_iload hx hb dL_isGiven_97 (lv_at hl 3 rfl) ?_
      refine q_ine (tgt := 120) hx hb dL_isGiven_99 (by decide) (by first | omega | exact Nat.lt_of_le_of_lt (hw3 _) (by decide) | exact Nat.lt_of_lt_of_le (hr4 _) (by decide) | exact Nat.lt_of_le_of_lt (bp_le _) (by decide) | assumption) (fun c_99 => ?_) (fun c_99 => absurd c_99 (by decide))
      refine lv_iload hx hb dL_isGiven_120 (lv_at hl 2 rfl) ?_
      refine q_ieq (tgt := 150) hx hb dL_isGiven_122 (by decide) (by first | omega | exact Nat.lt_of_le_of_lt (hw3 _) (by decide) | exact Nat.lt_of_lt_of_le (hr4 _) (by decide) | exact Nat.lt_of_le_of_lt (bp_le _) (by decide) | assumption) (fun c_122 => ?_) (fun c_122 => absurd c_122 (by decide))
      refine lv_iload hx hb dL_isGiven_150 (lv_at hl 0 rfl) ?_
      refine lv_iload hx hb dL_isGiven_152 (lv_at hl 1 rfl) ?_
      refine q_cne (tgt := 173) hx hb dL_isGiven_154 (by decide) (by first | omega | exact Nat.lt_of_le_of_lt (hw3 _) (by decide) | exact Nat.lt_of_lt_of_le (hr4 _) (by decide) | exact Nat.lt_of_le_of_lt (bp_le _) (by decide) | assumption) (by first | omega | exact Nat.lt_of_le_of_lt (hw3 _) (by decide) | exact Nat.lt_of_lt_of_le (hr4 _) (by decide) | exact Nat.lt_of_le_of_lt (bp_le _) (by decide) | assumption) (fun c_154 => absurd rfl c_154) (fun c_154 => ?_)
      refine lv_aload_n hx hb dL_isGiven_157 rfl (lv_at hl 4 rfl) ?_
      refine lv_iload_n hx hb dL_isGiven_158 rfl (lv_at hl 5 rfl) ?_
      refine lv_iload_n hx hb dL_isGiven_159 rfl (lv_at hl 6 rfl) ?_
      refine lv_iload_n hx hb dL_isGiven_160 rfl (lv_at hl 7 rfl) ?_
      refine q_kI2 (q_rV (As := [.int (nI 1), .int (nI (c)), .int (nI (t))]) (rest := []) (x := 0) hC hW mw_X5_weight gw_156 (k_weight l G n ad H.size I_92 L_92 R_92 (nI 1) (nI c) (nI t) (upN w (c * 6 + t) v) K ro (hcN hc) (hiN hc hi (w, K, ro)) sv pn ch hA) (by omega) (ct_o5 kd_0) rfl ⟨rfl, rfl⟩ ⟨Nat.le_of_ble_eq_true rfl, Nat.le_of_ble_eq_true rfl⟩ ⟨(Nat.le_of_ble_eq_true rfl), (Nat.le_of_ble_eq_true rfl)⟩ hl.1 rfl rfl (Nat.le_of_ble_eq_true rfl) dL_isGiven_161) hW (fun r_161 n_161 ad_161 I_161 L_161 R_161 H locs hp hW => ?_)
      obtain ⟨hz, rfl, rfl, hA, hF⟩ := PR_use hp
      have hG := fr_t hF hG
      have hz : r_161 = nI v := (hz.trans (aW1 (f := c) (t := t) hc6 ht6)).trans (congrArg nI (if_pos rfl))
      subst hz
      refine lv_iload hx hb dL_isGiven_164 (lv_at hl 8 rfl) ?_
      refine q_cne (tgt := 173) hx hb dL_isGiven_166 (by decide) (by first | omega | exact Nat.lt_of_le_of_lt (hw3 _) (by decide) | exact Nat.lt_of_lt_of_le (hr4 _) (by decide) | exact Nat.lt_of_le_of_lt (bp_le _) (by decide) | assumption) (by first | omega | exact Nat.lt_of_le_of_lt (hw3 _) (by decide) | exact Nat.lt_of_lt_of_le (hr4 _) (by decide) | exact Nat.lt_of_le_of_lt (bp_le _) (by decide) | assumption) (fun c_166 => absurd rfl c_166) (fun c_166 => ?_)
      refine q_ic 1 hx hb dL_isGiven_169 (by decide) ?_
      refine lv_goto (tgt := 174) hx hb dL_isGiven_170 (by decide) ?_
      exact q_zret2 hC hW hr hlk0 rfl ⟨rfl, _, hA, ⟨rfl, rfl⟩, hG⟩ dL_isGiven_174
    ·
      refine lv_iload_n hx hb dL_isGiven_65 rfl (lv_at hl 4 rfl) ?_
      refine q_ic 4 hx hb dL_isGiven_66 (by decide) ?_
      refine q_cne (tgt := 74) hx hb dL_isGiven_67 (by decide) (by first | omega | exact Nat.lt_of_le_of_lt (hw3 _) (by decide) | exact Nat.lt_of_lt_of_le (hr4 _) (by decide) | exact Nat.lt_of_le_of_lt (bp_le _) (by decide) | assumption) (by first | omega | exact Nat.lt_of_le_of_lt (hw3 _) (by decide) | exact Nat.lt_of_lt_of_le (hr4 _) (by decide) | exact Nat.lt_of_le_of_lt (bp_le _) (by decide) | assumption) (fun c_67 => ?_) (fun c_67 => ?_)
      ·
        refine q_ic 0 hx hb dL_isGiven_74 (by decide) ?_
        refine lv_istore (lv' := [(6, .int (nI 0)), (5, .int (nI 1)), (0, .ref (ad 0)), (1, .int (nI 1)), (2, .int (nI (c))), (3, .int (nI (t))), (4, .int (nI (v)))]) hx hb dL_isGiven_75 hl (by decide) rfl (fun ls hl => ?_)
        refine lv_aload_n hx hb dL_isGiven_77 rfl (lv_at hl 2 rfl) ?_
        refine lv_iload_n hx hb dL_isGiven_78 rfl (lv_at hl 3 rfl) ?_
        refine lv_iload_n hx hb dL_isGiven_79 rfl (lv_at hl 4 rfl) ?_
        refine lv_iload_n hx hb dL_isGiven_80 rfl (lv_at hl 5 rfl) ?_
        refine q_kI2 (q_rV (As := [.int (nI 1), .int (nI (c)), .int (nI (t))]) (rest := []) (x := 0) hC hW mw_X5_weight gw_156 (k_weight l G n ad s.heap.size I L R (nI 1) (nI c) (nI t) w K ro hc hi sv pn ch hA) (by omega) (ct_o5 kd_0) rfl ⟨rfl, rfl⟩ ⟨Nat.le_of_ble_eq_true rfl, Nat.le_of_ble_eq_true rfl⟩ ⟨(Nat.le_of_ble_eq_true rfl), (Nat.le_of_ble_eq_true rfl)⟩ hl.1 rfl rfl (Nat.le_of_ble_eq_true rfl) dL_isGiven_81) hW (fun r_81 n_81 ad_81 I_81 L_81 R_81 H locs hp hW => ?_)
        obtain ⟨hz, rfl, rfl, hA, hF⟩ := PR_use hp
        have hG := fr_t hF hG
        have hz : r_81 = nI (w (c * 6 + t)) := hz.trans (aW1 (S := ((w, K, ro), hc, hi, sv, pn, ch)) (f := c) (t := t) (by first | omega | assumption) (by first | omega | assumption))
        subst hz
        refine lv_istore (lv' := [(7, .int (nI (w (c * 6 + t)))), (6, .int (nI 0)), (5, .int (nI 1)), (0, .ref (ad 0)), (1, .int (nI 1)), (2, .int (nI (c))), (3, .int (nI (t))), (4, .int (nI (v)))]) hx hb dL_isGiven_84 hl (by decide) rfl (fun ls hl => ?_)
        refine lv_aload_n hx hb dL_isGiven_86 rfl (lv_at hl 3 rfl) ?_
        refine lv_iload_n hx hb dL_isGiven_87 rfl (lv_at hl 4 rfl) ?_
        refine lv_iload_n hx hb dL_isGiven_88 rfl (lv_at hl 5 rfl) ?_
        refine lv_iload_n hx hb dL_isGiven_89 rfl (lv_at hl 6 rfl) ?_
        refine lv_iload hx hb dL_isGiven_90 (lv_at hl 7 rfl) ?_
        refine q_kI2 (q_rV (As := [.int (nI 1), .int (nI (c)), .int (nI (t)), .int (nI (v))]) (rest := []) (x := 0) hC hW mw_X5_give gw_370 (k_give l G n ad H.size I_81 L_81 R_81 (nI 1) (nI c) (nI t) (nI v) w K ro hc hi sv pn ch hA) (by omega) (ct_o5 kd_0) rfl ⟨rfl, rfl⟩ ⟨Nat.le_of_ble_eq_true rfl, Nat.le_of_ble_eq_true rfl⟩ ⟨(Nat.le_of_ble_eq_true rfl), (Nat.le_of_ble_eq_true rfl)⟩ hl.1 rfl rfl (Nat.le_of_ble_eq_true rfl) dL_isGiven_92) hW (fun r_92 n_92 ad_92 I_92 L_92 R_92 H locs hp hW => ?_)
        obtain ⟨hz, rfl, rfl, hA, hF⟩ := PR_use hp
        have hft : aGive ((w, K, ro), hc, hi, sv, pn, ch) (nI 1) (nI c) (nI t) (nI v) = (nI (w (c * 6 + t)), (((upN w (c * 6 + t) v), K, ro), hcN hc, hiN hc hi (w, K, ro), sv, pn, ch)) := aG_s (by decide) hv4 (ix1 (f := c) (t := t) hc6 ht6) (by omega)
        rw [hft] at hz hA
        have hA : InvA n I_92 L_92 R_92 (((upN w (c * 6 + t) v), K, ro), hcN hc, hiN hc hi (w, K, ro), sv, pn, ch) := hA
        have hz : r_92 = nI (w (c * 6 + t)) := hz
        subst hz
        have hG := fr_t hF hG
        refine lv_istore (lv' := [(8, .int (nI (w (c * 6 + t)))), (7, .int (nI (w (c * 6 + t)))), (6, .int (nI 0)), (5, .int (nI 1)), (0, .ref (ad 0)), (1, .int (nI 1)), (2, .int (nI (c))), (3, .int (nI (t))), (4, .int (nI (v)))]) hx hb dL_isGiven_95 hl (by decide) rfl (fun ls hl => ?_)
        refine lv_iload hx hb dL_isGiven_97 (lv_at hl 3 rfl) ?_
        refine q_ine (tgt := 120) hx hb dL_isGiven_99 (by decide) (by first | omega | exact Nat.lt_of_le_of_lt (hw3 _) (by decide) | exact Nat.lt_of_lt_of_le (hr4 _) (by decide) | exact Nat.lt_of_le_of_lt (bp_le _) (by decide) | assumption) (fun c_99 => ?_) (fun c_99 => absurd c_99 (by decide))
        refine lv_iload hx hb dL_isGiven_120 (lv_at hl 2 rfl) ?_
        refine q_ieq (tgt := 150) hx hb dL_isGiven_122 (by decide) (by first | omega | exact Nat.lt_of_le_of_lt (hw3 _) (by decide) | exact Nat.lt_of_lt_of_le (hr4 _) (by decide) | exact Nat.lt_of_le_of_lt (bp_le _) (by decide) | assumption) (fun c_122 => ?_) (fun c_122 => absurd c_122 (by decide))
        refine lv_iload hx hb dL_isGiven_150 (lv_at hl 0 rfl) ?_
        refine lv_iload hx hb dL_isGiven_152 (lv_at hl 1 rfl) ?_
        refine q_cne (tgt := 173) hx hb dL_isGiven_154 (by decide) (by first | omega | exact Nat.lt_of_le_of_lt (hw3 _) (by decide) | exact Nat.lt_of_lt_of_le (hr4 _) (by decide) | exact Nat.lt_of_le_of_lt (bp_le _) (by decide) | assumption) (by first | omega | exact Nat.lt_of_le_of_lt (hw3 _) (by decide) | exact Nat.lt_of_lt_of_le (hr4 _) (by decide) | exact Nat.lt_of_le_of_lt (bp_le _) (by decide) | assumption) (fun c_154 => absurd rfl c_154) (fun c_154 => ?_)
        refine lv_aload_n hx hb dL_isGiven_157 rfl (lv_at hl 4 rfl) ?_
        refine lv_iload_n hx hb dL_isGiven_158 rfl (lv_at hl 5 rfl) ?_
        refine lv_iload_n hx hb dL_isGiven_159 rfl (lv_at hl 6 rfl) ?_
        refine lv_iload_n hx hb dL_isGiven_160 rfl (lv_at hl 7 rfl) ?_
        refine q_kI2 (q_rV (As := [.int (nI 1), .int (nI (c)), .int (nI (t))]) (rest := []) (x := 0) hC hW mw_X5_weight gw_156 (k_weight l G n ad H.size I_92 L_92 R_92 (nI 1) (nI c) (nI t) (upN w (c * 6 + t) v) K ro (hcN hc) (hiN hc hi (w, K, ro)) sv pn ch hA) (by omega) (ct_o5 kd_0) rfl ⟨rfl, rfl⟩ ⟨Nat.le_of_ble_eq_true rfl, Nat.le_of_ble_eq_true rfl⟩ ⟨(Nat.le_of_ble_eq_true rfl), (Nat.le_of_ble_eq_true rfl)⟩ hl.1 rfl rfl (Nat.le_of_ble_eq_true rfl) dL_isGiven_161) hW (fun r_161 n_161 ad_161 I_161 L_161 R_161 H locs hp hW => ?_)
        obtain ⟨hz, rfl, rfl, hA, hF⟩ := PR_use hp
        have hG := fr_t hF hG
        have hz : r_161 = nI v := (hz.trans (aW1 (f := c) (t := t) hc6 ht6)).trans (congrArg nI (if_pos rfl))
        subst hz
        refine lv_iload hx hb dL_isGiven_164 (lv_at hl 8 rfl) ?_
        refine q_cne (tgt := 173) hx hb dL_isGiven_166 (by decide) (by first | omega | exact Nat.lt_of_le_of_lt (hw3 _) (by decide) | exact Nat.lt_of_lt_of_le (hr4 _) (by decide) | exact Nat.lt_of_le_of_lt (bp_le _) (by decide) | assumption) (by first | omega | exact Nat.lt_of_le_of_lt (hw3 _) (by decide) | exact Nat.lt_of_lt_of_le (hr4 _) (by decide) | exact Nat.lt_of_le_of_lt (bp_le _) (by decide) | assumption) (fun c_166 => absurd rfl c_166) (fun c_166 => ?_)
        refine q_ic 1 hx hb dL_isGiven_169 (by decide) ?_
        refine lv_goto (tgt := 174) hx hb dL_isGiven_170 (by decide) ?_
        exact q_zret2 hC hW hr hlk0 rfl ⟨rfl, _, hA, ⟨rfl, rfl⟩, hG⟩ dL_isGiven_174
      ·
        refine q_ic 1 hx hb dL_isGiven_70 (by decide) ?_
        refine lv_goto (tgt := 75) hx hb dL_isGiven_71 (by decide) ?_
        refine lv_istore (lv' := [(6, .int (nI 1)), (5, .int (nI 1)), (0, .ref (ad 0)), (1, .int (nI 1)), (2, .int (nI (c))), (3, .int (nI (t))), (4, .int (nI (v)))]) hx hb dL_isGiven_75 hl (by decide) rfl (fun ls hl => ?_)
        refine lv_aload_n hx hb dL_isGiven_77 rfl (lv_at hl 2 rfl) ?_
        refine lv_iload_n hx hb dL_isGiven_78 rfl (lv_at hl 3 rfl) ?_
        refine lv_iload_n hx hb dL_isGiven_79 rfl (lv_at hl 4 rfl) ?_
        refine lv_iload_n hx hb dL_isGiven_80 rfl (lv_at hl 5 rfl) ?_
        refine q_kI2 (q_rV (As := [.int (nI 1), .int (nI (c)), .int (nI (t))]) (rest := []) (x := 0) hC hW mw_X5_weight gw_156 (k_weight l G n ad s.heap.size I L R (nI 1) (nI c) (nI t) w K ro hc hi sv pn ch hA) (by omega) (ct_o5 kd_0) rfl ⟨rfl, rfl⟩ ⟨Nat.le_of_ble_eq_true rfl, Nat.le_of_ble_eq_true rfl⟩ ⟨(Nat.le_of_ble_eq_true rfl), (Nat.le_of_ble_eq_true rfl)⟩ hl.1 rfl rfl (Nat.le_of_ble_eq_true rfl) dL_isGiven_81) hW (fun r_81 n_81 ad_81 I_81 L_81 R_81 H locs hp hW => ?_)
        obtain ⟨hz, rfl, rfl, hA, hF⟩ := PR_use hp
        have hG := fr_t hF hG
        have hz : r_81 = nI (w (c * 6 + t)) := hz.trans (aW1 (S := ((w, K, ro), hc, hi, sv, pn, ch)) (f := c) (t := t) (by first | omega | assumption) (by first | omega | assumption))
        subst hz
        refine lv_istore (lv' := [(7, .int (nI (w (c * 6 + t)))), (6, .int (nI 1)), (5, .int (nI 1)), (0, .ref (ad 0)), (1, .int (nI 1)), (2, .int (nI (c))), (3, .int (nI (t))), (4, .int (nI (v)))]) hx hb dL_isGiven_84 hl (by decide) rfl (fun ls hl => ?_)
        refine lv_aload_n hx hb dL_isGiven_86 rfl (lv_at hl 3 rfl) ?_
        refine lv_iload_n hx hb dL_isGiven_87 rfl (lv_at hl 4 rfl) ?_
        refine lv_iload_n hx hb dL_isGiven_88 rfl (lv_at hl 5 rfl) ?_
        refine lv_iload_n hx hb dL_isGiven_89 rfl (lv_at hl 6 rfl) ?_
        refine lv_iload hx hb dL_isGiven_90 (lv_at hl 7 rfl) ?_
        refine q_kI2 (q_rV (As := [.int (nI 1), .int (nI (c)), .int (nI (t)), .int (nI (v))]) (rest := []) (x := 0) hC hW mw_X5_give gw_370 (k_give l G n ad H.size I_81 L_81 R_81 (nI 1) (nI c) (nI t) (nI v) w K ro hc hi sv pn ch hA) (by omega) (ct_o5 kd_0) rfl ⟨rfl, rfl⟩ ⟨Nat.le_of_ble_eq_true rfl, Nat.le_of_ble_eq_true rfl⟩ ⟨(Nat.le_of_ble_eq_true rfl), (Nat.le_of_ble_eq_true rfl)⟩ hl.1 rfl rfl (Nat.le_of_ble_eq_true rfl) dL_isGiven_92) hW (fun r_92 n_92 ad_92 I_92 L_92 R_92 H locs hp hW => ?_)
        obtain ⟨hz, rfl, rfl, hA, hF⟩ := PR_use hp
        have hbr : c * 6 + t = 28 ∨ c * 6 + t = 34 ∨ c * 6 + t = 35 := by omega
        have hw0 : w (c * 6 + t) = 0 := by rcases hbr with e | e | e <;> rw [e]; exact hw.2.1; exact hw.2.2.1; exact hw.2.2.2
        rcases Nat.eq_zero_or_pos v with hv0 | hv0
        ·
          have hft : aGive ((w, K, ro), hc, hi, sv, pn, ch) (nI 1) (nI c) (nI t) (nI v) = (nI (w (c * 6 + t)), (((upN w (c * 6 + t) v), K, ro), hcN hc, hiN hc hi (w, K, ro), sv, pn, ch)) := aG_s (by decide) hv4 (ix1 (f := c) (t := t) hc6 ht6) (by omega)
          rw [hft] at hz hA
          have hA : InvA n I_92 L_92 R_92 (((upN w (c * 6 + t) v), K, ro), hcN hc, hiN hc hi (w, K, ro), sv, pn, ch) := hA
          have hz : r_92 = nI (w (c * 6 + t)) := hz
          subst hz
          have hG := fr_t hF hG
          refine lv_istore (lv' := [(8, .int (nI (w (c * 6 + t)))), (7, .int (nI (w (c * 6 + t)))), (6, .int (nI 1)), (5, .int (nI 1)), (0, .ref (ad 0)), (1, .int (nI 1)), (2, .int (nI (c))), (3, .int (nI (t))), (4, .int (nI (v)))]) hx hb dL_isGiven_95 hl (by decide) rfl (fun ls hl => ?_)
          refine lv_iload hx hb dL_isGiven_97 (lv_at hl 3 rfl) ?_
          refine q_ine (tgt := 120) hx hb dL_isGiven_99 (by decide) (by first | omega | exact Nat.lt_of_le_of_lt (hw3 _) (by decide) | exact Nat.lt_of_lt_of_le (hr4 _) (by decide) | exact Nat.lt_of_le_of_lt (bp_le _) (by decide) | assumption) (fun c_99 => ?_) (fun c_99 => absurd c_99 (by decide))
          refine lv_iload hx hb dL_isGiven_120 (lv_at hl 2 rfl) ?_
          refine q_ieq (tgt := 150) hx hb dL_isGiven_122 (by decide) (by first | omega | exact Nat.lt_of_le_of_lt (hw3 _) (by decide) | exact Nat.lt_of_lt_of_le (hr4 _) (by decide) | exact Nat.lt_of_le_of_lt (bp_le _) (by decide) | assumption) (fun c_122 => absurd c_122 (by decide)) (fun c_122 => ?_)
          refine lv_iload hx hb dL_isGiven_125 (lv_at hl 8 rfl) ?_
          refine q_ile (tgt := 150) hx hb dL_isGiven_127 (by decide) (by first | omega | exact Nat.lt_of_le_of_lt (hw3 _) (by decide) | exact Nat.lt_of_lt_of_le (hr4 _) (by decide) | exact Nat.lt_of_le_of_lt (bp_le _) (by decide) | assumption) (fun c_127 => ?_) (fun c_127 => absurd c_127 (by have := hv0; omega))
          refine lv_iload hx hb dL_isGiven_150 (lv_at hl 0 rfl) ?_
          refine lv_iload hx hb dL_isGiven_152 (lv_at hl 1 rfl) ?_
          refine q_cne (tgt := 173) hx hb dL_isGiven_154 (by decide) (by first | omega | exact Nat.lt_of_le_of_lt (hw3 _) (by decide) | exact Nat.lt_of_lt_of_le (hr4 _) (by decide) | exact Nat.lt_of_le_of_lt (bp_le _) (by decide) | assumption) (by first | omega | exact Nat.lt_of_le_of_lt (hw3 _) (by decide) | exact Nat.lt_of_lt_of_le (hr4 _) (by decide) | exact Nat.lt_of_le_of_lt (bp_le _) (by decide) | assumption) (fun c_154 => absurd rfl c_154) (fun c_154 => ?_)
          refine lv_aload_n hx hb dL_isGiven_157 rfl (lv_at hl 4 rfl) ?_
          refine lv_iload_n hx hb dL_isGiven_158 rfl (lv_at hl 5 rfl) ?_
          refine lv_iload_n hx hb dL_isGiven_159 rfl (lv_at hl 6 rfl) ?_
          refine lv_iload_n hx hb dL_isGiven_160 rfl (lv_at hl 7 rfl) ?_
          refine q_kI2 (q_rV (As := [.int (nI 1), .int (nI (c)), .int (nI (t))]) (rest := []) (x := 0) hC hW mw_X5_weight gw_156 (k_weight l G n ad H.size I_92 L_92 R_92 (nI 1) (nI c) (nI t) (upN w (c * 6 + t) v) K ro (hcN hc) (hiN hc hi (w, K, ro)) sv pn ch hA) (by omega) (ct_o5 kd_0) rfl ⟨rfl, rfl⟩ ⟨Nat.le_of_ble_eq_true rfl, Nat.le_of_ble_eq_true rfl⟩ ⟨(Nat.le_of_ble_eq_true rfl), (Nat.le_of_ble_eq_true rfl)⟩ hl.1 rfl rfl (Nat.le_of_ble_eq_true rfl) dL_isGiven_161) hW (fun r_161 n_161 ad_161 I_161 L_161 R_161 H locs hp hW => ?_)
          obtain ⟨hz, rfl, rfl, hA, hF⟩ := PR_use hp
          have hG := fr_t hF hG
          have hz : r_161 = nI v := (hz.trans (aW1 (f := c) (t := t) hc6 ht6)).trans (congrArg nI (if_pos rfl))
          subst hz
          refine lv_iload hx hb dL_isGiven_164 (lv_at hl 8 rfl) ?_
          refine q_cne (tgt := 173) hx hb dL_isGiven_166 (by decide) (by first | omega | exact Nat.lt_of_le_of_lt (hw3 _) (by decide) | exact Nat.lt_of_lt_of_le (hr4 _) (by decide) | exact Nat.lt_of_le_of_lt (bp_le _) (by decide) | assumption) (by first | omega | exact Nat.lt_of_le_of_lt (hw3 _) (by decide) | exact Nat.lt_of_lt_of_le (hr4 _) (by decide) | exact Nat.lt_of_le_of_lt (bp_le _) (by decide) | assumption) (fun c_166 => absurd rfl c_166) (fun c_166 => ?_)
          refine q_ic 1 hx hb dL_isGiven_169 (by decide) ?_
          refine lv_goto (tgt := 174) hx hb dL_isGiven_170 (by decide) ?_
          exact q_zret2 hC hW hr hlk0 rfl ⟨rfl, _, hA, ⟨rfl, rfl⟩, hG⟩ dL_isGiven_174
        ·
          have hft : aGive ((w, K, ro), hc, hi, sv, pn, ch) (nI 1) (nI c) (nI t) (nI v) = ((-5), ((w, K, ro), hc, hi, sv, pn, ch)) := aG_b (by decide) hv4 (ix1 (f := c) (t := t) hc6 ht6) ⟨hv0, hbr⟩
          rw [hft] at hz hA
          have hA : InvA n I_92 L_92 R_92 ((w, K, ro), hc, hi, sv, pn, ch) := hA
          have hz : r_92 = (-5) := hz
          subst hz
          have hG := fr_t hF hG
          refine lv_istore (lv' := [(8, .int (-5)), (7, .int (nI (w (c * 6 + t)))), (6, .int (nI 1)), (5, .int (nI 1)), (0, .ref (ad 0)), (1, .int (nI 1)), (2, .int (nI (c))), (3, .int (nI (t))), (4, .int (nI (v)))]) hx hb dL_isGiven_95 hl (by decide) rfl (fun ls hl => ?_)
          refine lv_iload hx hb dL_isGiven_97 (lv_at hl 3 rfl) ?_
          refine q_ine (tgt := 120) hx hb dL_isGiven_99 (by decide) (by first | omega | exact Nat.lt_of_le_of_lt (hw3 _) (by decide) | exact Nat.lt_of_lt_of_le (hr4 _) (by decide) | exact Nat.lt_of_le_of_lt (bp_le _) (by decide) | assumption) (fun c_99 => ?_) (fun c_99 => absurd c_99 (by decide))
          refine lv_iload hx hb dL_isGiven_120 (lv_at hl 2 rfl) ?_
          refine q_ieq (tgt := 150) hx hb dL_isGiven_122 (by decide) (by first | omega | exact Nat.lt_of_le_of_lt (hw3 _) (by decide) | exact Nat.lt_of_lt_of_le (hr4 _) (by decide) | exact Nat.lt_of_le_of_lt (bp_le _) (by decide) | assumption) (fun c_122 => absurd c_122 (by decide)) (fun c_122 => ?_)
          refine lv_iload hx hb dL_isGiven_125 (lv_at hl 8 rfl) ?_
          refine q_ile (tgt := 150) hx hb dL_isGiven_127 (by decide) (by first | omega | exact Nat.lt_of_le_of_lt (hw3 _) (by decide) | exact Nat.lt_of_lt_of_le (hr4 _) (by decide) | exact Nat.lt_of_le_of_lt (bp_le _) (by decide) | assumption) (fun c_127 => absurd c_127 (by have := hv0; omega)) (fun c_127 => ?_)
          refine lv_iload hx hb dL_isGiven_130 (lv_at hl 0 rfl) ?_
          refine lv_bipush (v := -5) hx hb dL_isGiven_132 (by decide) ?_
          refine lv_icmp_ne (tgt := 146) hx hb dL_isGiven_134 (by decide) (fun c_134 => absurd c_134 (by decide)) (fun c_134 => ?_)
          refine lv_iload hx hb dL_isGiven_137 (lv_at hl 1 rfl) ?_
          refine q_ine (tgt := 146) hx hb dL_isGiven_139 (by decide) (by first | omega | exact Nat.lt_of_le_of_lt (hw3 _) (by decide) | exact Nat.lt_of_lt_of_le (hr4 _) (by decide) | exact Nat.lt_of_le_of_lt (bp_le _) (by decide) | assumption) (fun c_139 => absurd hw0 c_139) (fun c_139 => ?_)
          refine q_ic 1 hx hb dL_isGiven_142 (by decide) ?_
          refine lv_goto (tgt := 174) hx hb dL_isGiven_143 (by decide) ?_
          exact q_zret2 hC hW hr hlk0 rfl ⟨rfl, _, hA, ⟨rfl, rfl⟩, hG⟩ dL_isGiven_174
  ·
    refine lv_iload_n hx hb dL_isGiven_55 rfl (lv_at hl 3 rfl) ?_
    refine q_ic 3 hx hb dL_isGiven_56 (by decide) ?_
    refine q_cgt (tgt := 70) hx hb dL_isGiven_57 (by decide) (by first | omega | exact Nat.lt_of_le_of_lt (hw3 _) (by decide) | exact Nat.lt_of_lt_of_le (hr4 _) (by decide) | exact Nat.lt_of_le_of_lt (bp_le _) (by decide) | assumption) (by first | omega | exact Nat.lt_of_le_of_lt (hw3 _) (by decide) | exact Nat.lt_of_lt_of_le (hr4 _) (by decide) | exact Nat.lt_of_le_of_lt (bp_le _) (by decide) | assumption) (fun c_57 => ?_) (fun c_57 => ?_)
    ·
      refine q_ic 1 hx hb dL_isGiven_70 (by decide) ?_
      refine lv_goto (tgt := 75) hx hb dL_isGiven_71 (by decide) ?_
      refine lv_istore (lv' := [(6, .int (nI 1)), (5, .int (nI 1)), (0, .ref (ad 0)), (1, .int (nI 1)), (2, .int (nI (c))), (3, .int (nI (t))), (4, .int (nI (v)))]) hx hb dL_isGiven_75 hl (by decide) rfl (fun ls hl => ?_)
      refine lv_aload_n hx hb dL_isGiven_77 rfl (lv_at hl 2 rfl) ?_
      refine lv_iload_n hx hb dL_isGiven_78 rfl (lv_at hl 3 rfl) ?_
      refine lv_iload_n hx hb dL_isGiven_79 rfl (lv_at hl 4 rfl) ?_
      refine lv_iload_n hx hb dL_isGiven_80 rfl (lv_at hl 5 rfl) ?_
      refine q_kI2 (q_rV (As := [.int (nI 1), .int (nI (c)), .int (nI (t))]) (rest := []) (x := 0) hC hW mw_X5_weight gw_156 (k_weight l G n ad s.heap.size I L R (nI 1) (nI c) (nI t) w K ro hc hi sv pn ch hA) (by omega) (ct_o5 kd_0) rfl ⟨rfl, rfl⟩ ⟨Nat.le_of_ble_eq_true rfl, Nat.le_of_ble_eq_true rfl⟩ ⟨(Nat.le_of_ble_eq_true rfl), (Nat.le_of_ble_eq_true rfl)⟩ hl.1 rfl rfl (Nat.le_of_ble_eq_true rfl) dL_isGiven_81) hW (fun r_81 n_81 ad_81 I_81 L_81 R_81 H locs hp hW => ?_)
      obtain ⟨hz, rfl, rfl, hA, hF⟩ := PR_use hp
      have hG := fr_t hF hG
      have hz : r_81 = nI (w (c * 6 + t)) := hz.trans (aW1 (S := ((w, K, ro), hc, hi, sv, pn, ch)) (f := c) (t := t) (by first | omega | assumption) (by first | omega | assumption))
      subst hz
      refine lv_istore (lv' := [(7, .int (nI (w (c * 6 + t)))), (6, .int (nI 1)), (5, .int (nI 1)), (0, .ref (ad 0)), (1, .int (nI 1)), (2, .int (nI (c))), (3, .int (nI (t))), (4, .int (nI (v)))]) hx hb dL_isGiven_84 hl (by decide) rfl (fun ls hl => ?_)
      refine lv_aload_n hx hb dL_isGiven_86 rfl (lv_at hl 3 rfl) ?_
      refine lv_iload_n hx hb dL_isGiven_87 rfl (lv_at hl 4 rfl) ?_
      refine lv_iload_n hx hb dL_isGiven_88 rfl (lv_at hl 5 rfl) ?_
      refine lv_iload_n hx hb dL_isGiven_89 rfl (lv_at hl 6 rfl) ?_
      refine lv_iload hx hb dL_isGiven_90 (lv_at hl 7 rfl) ?_
      refine q_kI2 (q_rV (As := [.int (nI 1), .int (nI (c)), .int (nI (t)), .int (nI (v))]) (rest := []) (x := 0) hC hW mw_X5_give gw_370 (k_give l G n ad H.size I_81 L_81 R_81 (nI 1) (nI c) (nI t) (nI v) w K ro hc hi sv pn ch hA) (by omega) (ct_o5 kd_0) rfl ⟨rfl, rfl⟩ ⟨Nat.le_of_ble_eq_true rfl, Nat.le_of_ble_eq_true rfl⟩ ⟨(Nat.le_of_ble_eq_true rfl), (Nat.le_of_ble_eq_true rfl)⟩ hl.1 rfl rfl (Nat.le_of_ble_eq_true rfl) dL_isGiven_92) hW (fun r_92 n_92 ad_92 I_92 L_92 R_92 H locs hp hW => ?_)
      obtain ⟨hz, rfl, rfl, hA, hF⟩ := PR_use hp
      have hbr : c * 6 + t = 28 ∨ c * 6 + t = 34 ∨ c * 6 + t = 35 := by omega
      have hw0 : w (c * 6 + t) = 0 := by rcases hbr with e | e | e <;> rw [e]; exact hw.2.1; exact hw.2.2.1; exact hw.2.2.2
      rcases Nat.eq_zero_or_pos v with hv0 | hv0
      ·
        have hft : aGive ((w, K, ro), hc, hi, sv, pn, ch) (nI 1) (nI c) (nI t) (nI v) = (nI (w (c * 6 + t)), (((upN w (c * 6 + t) v), K, ro), hcN hc, hiN hc hi (w, K, ro), sv, pn, ch)) := aG_s (by decide) hv4 (ix1 (f := c) (t := t) hc6 ht6) (by omega)
        rw [hft] at hz hA
        have hA : InvA n I_92 L_92 R_92 (((upN w (c * 6 + t) v), K, ro), hcN hc, hiN hc hi (w, K, ro), sv, pn, ch) := hA
        have hz : r_92 = nI (w (c * 6 + t)) := hz
        subst hz
        have hG := fr_t hF hG
        refine lv_istore (lv' := [(8, .int (nI (w (c * 6 + t)))), (7, .int (nI (w (c * 6 + t)))), (6, .int (nI 1)), (5, .int (nI 1)), (0, .ref (ad 0)), (1, .int (nI 1)), (2, .int (nI (c))), (3, .int (nI (t))), (4, .int (nI (v)))]) hx hb dL_isGiven_95 hl (by decide) rfl (fun ls hl => ?_)
        refine lv_iload hx hb dL_isGiven_97 (lv_at hl 3 rfl) ?_
        refine q_ine (tgt := 120) hx hb dL_isGiven_99 (by decide) (by first | omega | exact Nat.lt_of_le_of_lt (hw3 _) (by decide) | exact Nat.lt_of_lt_of_le (hr4 _) (by decide) | exact Nat.lt_of_le_of_lt (bp_le _) (by decide) | assumption) (fun c_99 => ?_) (fun c_99 => absurd c_99 (by decide))
        refine lv_iload hx hb dL_isGiven_120 (lv_at hl 2 rfl) ?_
        refine q_ieq (tgt := 150) hx hb dL_isGiven_122 (by decide) (by first | omega | exact Nat.lt_of_le_of_lt (hw3 _) (by decide) | exact Nat.lt_of_lt_of_le (hr4 _) (by decide) | exact Nat.lt_of_le_of_lt (bp_le _) (by decide) | assumption) (fun c_122 => absurd c_122 (by decide)) (fun c_122 => ?_)
        refine lv_iload hx hb dL_isGiven_125 (lv_at hl 8 rfl) ?_
        refine q_ile (tgt := 150) hx hb dL_isGiven_127 (by decide) (by first | omega | exact Nat.lt_of_le_of_lt (hw3 _) (by decide) | exact Nat.lt_of_lt_of_le (hr4 _) (by decide) | exact Nat.lt_of_le_of_lt (bp_le _) (by decide) | assumption) (fun c_127 => ?_) (fun c_127 => absurd c_127 (by have := hv0; omega))
        refine lv_iload hx hb dL_isGiven_150 (lv_at hl 0 rfl) ?_
        refine lv_iload hx hb dL_isGiven_152 (lv_at hl 1 rfl) ?_
        refine q_cne (tgt := 173) hx hb dL_isGiven_154 (by decide) (by first | omega | exact Nat.lt_of_le_of_lt (hw3 _) (by decide) | exact Nat.lt_of_lt_of_le (hr4 _) (by decide) | exact Nat.lt_of_le_of_lt (bp_le _) (by decide) | assumption) (by first | omega | exact Nat.lt_of_le_of_lt (hw3 _) (by decide) | exact Nat.lt_of_lt_of_le (hr4 _) (by decide) | exact Nat.lt_of_le_of_lt (bp_le _) (by decide) | assumption) (fun c_154 => absurd rfl c_154) (fun c_154 => ?_)
        refine lv_aload_n hx hb dL_isGiven_157 rfl (lv_at hl 4 rfl) ?_
        refine lv_iload_n hx hb dL_isGiven_158 rfl (lv_at hl 5 rfl) ?_
        refine lv_iload_n hx hb dL_isGiven_159 rfl (lv_at hl 6 rfl) ?_
        refine lv_iload_n hx hb dL_isGiven_160 rfl (lv_at hl 7 rfl) ?_
        refine q_kI2 (q_rV (As := [.int (nI 1), .int (nI (c)), .int (nI (t))]) (rest := []) (x := 0) hC hW mw_X5_weight gw_156 (k_weight l G n ad H.size I_92 L_92 R_92 (nI 1) (nI c) (nI t) (upN w (c * 6 + t) v) K ro (hcN hc) (hiN hc hi (w, K, ro)) sv pn ch hA) (by omega) (ct_o5 kd_0) rfl ⟨rfl, rfl⟩ ⟨Nat.le_of_ble_eq_true rfl, Nat.le_of_ble_eq_true rfl⟩ ⟨(Nat.le_of_ble_eq_true rfl), (Nat.le_of_ble_eq_true rfl)⟩ hl.1 rfl rfl (Nat.le_of_ble_eq_true rfl) dL_isGiven_161) hW (fun r_161 n_161 ad_161 I_161 L_161 R_161 H locs hp hW => ?_)
        obtain ⟨hz, rfl, rfl, hA, hF⟩ := PR_use hp
        have hG := fr_t hF hG
        have hz : r_161 = nI v := (hz.trans (aW1 (f := c) (t := t) hc6 ht6)).trans (congrArg nI (if_pos rfl))
        subst hz
        refine lv_iload hx hb dL_isGiven_164 (lv_at hl 8 rfl) ?_
        refine q_cne (tgt := 173) hx hb dL_isGiven_166 (by decide) (by first | omega | exact Nat.lt_of_le_of_lt (hw3 _) (by decide) | exact Nat.lt_of_lt_of_le (hr4 _) (by decide) | exact Nat.lt_of_le_of_lt (bp_le _) (by decide) | assumption) (by first | omega | exact Nat.lt_of_le_of_lt (hw3 _) (by decide) | exact Nat.lt_of_lt_of_le (hr4 _) (by decide) | exact Nat.lt_of_le_of_lt (bp_le _) (by decide) | assumption) (fun c_166 => absurd rfl c_166) (fun c_166 => ?_)
        refine q_ic 1 hx hb dL_isGiven_169 (by decide) ?_
        refine lv_goto (tgt := 174) hx hb dL_isGiven_170 (by decide) ?_
        exact q_zret2 hC hW hr hlk0 rfl ⟨rfl, _, hA, ⟨rfl, rfl⟩, hG⟩ dL_isGiven_174
      ·
        have hft : aGive ((w, K, ro), hc, hi, sv, pn, ch) (nI 1) (nI c) (nI t) (nI v) = ((-5), ((w, K, ro), hc, hi, sv, pn, ch)) := aG_b (by decide) hv4 (ix1 (f := c) (t := t) hc6 ht6) ⟨hv0, hbr⟩
        rw [hft] at hz hA
        have hA : InvA n I_92 L_92 R_92 ((w, K, ro), hc, hi, sv, pn, ch) := hA
        have hz : r_92 = (-5) := hz
        subst hz
        have hG := fr_t hF hG
        refine lv_istore (lv' := [(8, .int (-5)), (7, .int (nI (w (c * 6 + t)))), (6, .int (nI 1)), (5, .int (nI 1)), (0, .ref (ad 0)), (1, .int (nI 1)), (2, .int (nI (c))), (3, .int (nI (t))), (4, .int (nI (v)))]) hx hb dL_isGiven_95 hl (by decide) rfl (fun ls hl => ?_)
        refine lv_iload hx hb dL_isGiven_97 (lv_at hl 3 rfl) ?_
        refine q_ine (tgt := 120) hx hb dL_isGiven_99 (by decide) (by first | omega | exact Nat.lt_of_le_of_lt (hw3 _) (by decide) | exact Nat.lt_of_lt_of_le (hr4 _) (by decide) | exact Nat.lt_of_le_of_lt (bp_le _) (by decide) | assumption) (fun c_99 => ?_) (fun c_99 => absurd c_99 (by decide))
        refine lv_iload hx hb dL_isGiven_120 (lv_at hl 2 rfl) ?_
        refine q_ieq (tgt := 150) hx hb dL_isGiven_122 (by decide) (by first | omega | exact Nat.lt_of_le_of_lt (hw3 _) (by decide) | exact Nat.lt_of_lt_of_le (hr4 _) (by decide) | exact Nat.lt_of_le_of_lt (bp_le _) (by decide) | assumption) (fun c_122 => absurd c_122 (by decide)) (fun c_122 => ?_)
        refine lv_iload hx hb dL_isGiven_125 (lv_at hl 8 rfl) ?_
        refine q_ile (tgt := 150) hx hb dL_isGiven_127 (by decide) (by first | omega | exact Nat.lt_of_le_of_lt (hw3 _) (by decide) | exact Nat.lt_of_lt_of_le (hr4 _) (by decide) | exact Nat.lt_of_le_of_lt (bp_le _) (by decide) | assumption) (fun c_127 => absurd c_127 (by have := hv0; omega)) (fun c_127 => ?_)
        refine lv_iload hx hb dL_isGiven_130 (lv_at hl 0 rfl) ?_
        refine lv_bipush (v := -5) hx hb dL_isGiven_132 (by decide) ?_
        refine lv_icmp_ne (tgt := 146) hx hb dL_isGiven_134 (by decide) (fun c_134 => absurd c_134 (by decide)) (fun c_134 => ?_)
        refine lv_iload hx hb dL_isGiven_137 (lv_at hl 1 rfl) ?_
        refine q_ine (tgt := 146) hx hb dL_isGiven_139 (by decide) (by first | omega | exact Nat.lt_of_le_of_lt (hw3 _) (by decide) | exact Nat.lt_of_lt_of_le (hr4 _) (by decide) | exact Nat.lt_of_le_of_lt (bp_le _) (by decide) | assumption) (fun c_139 => absurd hw0 c_139) (fun c_139 => ?_)
        refine q_ic 1 hx hb dL_isGiven_142 (by decide) ?_
        refine lv_goto (tgt := 174) hx hb dL_isGiven_143 (by decide) ?_
        exact q_zret2 hC hW hr hlk0 rfl ⟨rfl, _, hA, ⟨rfl, rfl⟩, hG⟩ dL_isGiven_174
    ·
      refine lv_iload_n hx hb dL_isGiven_60 rfl (lv_at hl 3 rfl) ?_
      refine q_ic 5 hx hb dL_isGiven_61 (by decide) ?_
      refine q_cne (tgt := 74) hx hb dL_isGiven_62 (by decide) (by first | omega | exact Nat.lt_of_le_of_lt (hw3 _) (by decide) | exact Nat.lt_of_lt_of_le (hr4 _) (by decide) | exact Nat.lt_of_le_of_lt (bp_le _) (by decide) | assumption) (by first | omega | exact Nat.lt_of_le_of_lt (hw3 _) (by decide) | exact Nat.lt_of_lt_of_le (hr4 _) (by decide) | exact Nat.lt_of_le_of_lt (bp_le _) (by decide) | assumption) (fun c_62 => ?_) (fun c_62 => ?_)
      ·
        refine q_ic 0 hx hb dL_isGiven_74 (by decide) ?_
        refine lv_istore (lv' := [(6, .int (nI 0)), (5, .int (nI 1)), (0, .ref (ad 0)), (1, .int (nI 1)), (2, .int (nI (c))), (3, .int (nI (t))), (4, .int (nI (v)))]) hx hb dL_isGiven_75 hl (by decide) rfl (fun ls hl => ?_)
        refine lv_aload_n hx hb dL_isGiven_77 rfl (lv_at hl 2 rfl) ?_
        refine lv_iload_n hx hb dL_isGiven_78 rfl (lv_at hl 3 rfl) ?_
        refine lv_iload_n hx hb dL_isGiven_79 rfl (lv_at hl 4 rfl) ?_
        refine lv_iload_n hx hb dL_isGiven_80 rfl (lv_at hl 5 rfl) ?_
        refine q_kI2 (q_rV (As := [.int (nI 1), .int (nI (c)), .int (nI (t))]) (rest := []) (x := 0) hC hW mw_X5_weight gw_156 (k_weight l G n ad s.heap.size I L R (nI 1) (nI c) (nI t) w K ro hc hi sv pn ch hA) (by omega) (ct_o5 kd_0) rfl ⟨rfl, rfl⟩ ⟨Nat.le_of_ble_eq_true rfl, Nat.le_of_ble_eq_true rfl⟩ ⟨(Nat.le_of_ble_eq_true rfl), (Nat.le_of_ble_eq_true rfl)⟩ hl.1 rfl rfl (Nat.le_of_ble_eq_true rfl) dL_isGiven_81) hW (fun r_81 n_81 ad_81 I_81 L_81 R_81 H locs hp hW => ?_)
        obtain ⟨hz, rfl, rfl, hA, hF⟩ := PR_use hp
        have hG := fr_t hF hG
        have hz : r_81 = nI (w (c * 6 + t)) := hz.trans (aW1 (S := ((w, K, ro), hc, hi, sv, pn, ch)) (f := c) (t := t) (by first | omega | assumption) (by first | omega | assumption))
        subst hz
        refine lv_istore (lv' := [(7, .int (nI (w (c * 6 + t)))), (6, .int (nI 0)), (5, .int (nI 1)), (0, .ref (ad 0)), (1, .int (nI 1)), (2, .int (nI (c))), (3, .int (nI (t))), (4, .int (nI (v)))]) hx hb dL_isGiven_84 hl (by decide) rfl (fun ls hl => ?_)
        refine lv_aload_n hx hb dL_isGiven_86 rfl (lv_at hl 3 rfl) ?_
        refine lv_iload_n hx hb dL_isGiven_87 rfl (lv_at hl 4 rfl) ?_
        refine lv_iload_n hx hb dL_isGiven_88 rfl (lv_at hl 5 rfl) ?_
        refine lv_iload_n hx hb dL_isGiven_89 rfl (lv_at hl 6 rfl) ?_
        refine lv_iload hx hb dL_isGiven_90 (lv_at hl 7 rfl) ?_
        refine q_kI2 (q_rV (As := [.int (nI 1), .int (nI (c)), .int (nI (t)), .int (nI (v))]) (rest := []) (x := 0) hC hW mw_X5_give gw_370 (k_give l G n ad H.size I_81 L_81 R_81 (nI 1) (nI c) (nI t) (nI v) w K ro hc hi sv pn ch hA) (by omega) (ct_o5 kd_0) rfl ⟨rfl, rfl⟩ ⟨Nat.le_of_ble_eq_true rfl, Nat.le_of_ble_eq_true rfl⟩ ⟨(Nat.le_of_ble_eq_true rfl), (Nat.le_of_ble_eq_true rfl)⟩ hl.1 rfl rfl (Nat.le_of_ble_eq_true rfl) dL_isGiven_92) hW (fun r_92 n_92 ad_92 I_92 L_92 R_92 H locs hp hW => ?_)
        obtain ⟨hz, rfl, rfl, hA, hF⟩ := PR_use hp
        have hft : aGive ((w, K, ro), hc, hi, sv, pn, ch) (nI 1) (nI c) (nI t) (nI v) = (nI (w (c * 6 + t)), (((upN w (c * 6 + t) v), K, ro), hcN hc, hiN hc hi (w, K, ro), sv, pn, ch)) := aG_s (by decide) hv4 (ix1 (f := c) (t := t) hc6 ht6) (by omega)
        rw [hft] at hz hA
        have hA : InvA n I_92 L_92 R_92 (((upN w (c * 6 + t) v), K, ro), hcN hc, hiN hc hi (w, K, ro), sv, pn, ch) := hA
        have hz : r_92 = nI (w (c * 6 + t)) := hz
        subst hz
        have hG := fr_t hF hG
        refine lv_istore (lv' := [(8, .int (nI (w (c * 6 + t)))), (7, .int (nI (w (c * 6 + t)))), (6, .int (nI 0)), (5, .int (nI 1)), (0, .ref (ad 0)), (1, .int (nI 1)), (2, .int (nI (c))), (3, .int (nI (t))), (4, .int (nI (v)))]) hx hb dL_isGiven_95 hl (by decide) rfl (fun ls hl => ?_)
        refine lv_iload hx hb dL_isGiven_97 (lv_at hl 3 rfl) ?_
        refine q_ine (tgt := 120) hx hb dL_isGiven_99 (by decide) (by first | omega | exact Nat.lt_of_le_of_lt (hw3 _) (by decide) | exact Nat.lt_of_lt_of_le (hr4 _) (by decide) | exact Nat.lt_of_le_of_lt (bp_le _) (by decide) | assumption) (fun c_99 => ?_) (fun c_99 => absurd c_99 (by decide))
        refine lv_iload hx hb dL_isGiven_120 (lv_at hl 2 rfl) ?_
        refine q_ieq (tgt := 150) hx hb dL_isGiven_122 (by decide) (by first | omega | exact Nat.lt_of_le_of_lt (hw3 _) (by decide) | exact Nat.lt_of_lt_of_le (hr4 _) (by decide) | exact Nat.lt_of_le_of_lt (bp_le _) (by decide) | assumption) (fun c_122 => ?_) (fun c_122 => absurd c_122 (by decide))
        refine lv_iload hx hb dL_isGiven_150 (lv_at hl 0 rfl) ?_
        refine lv_iload hx hb dL_isGiven_152 (lv_at hl 1 rfl) ?_
        refine q_cne (tgt := 173) hx hb dL_isGiven_154 (by decide) (by first | omega | exact Nat.lt_of_le_of_lt (hw3 _) (by decide) | exact Nat.lt_of_lt_of_le (hr4 _) (by decide) | exact Nat.lt_of_le_of_lt (bp_le _) (by decide) | assumption) (by first | omega | exact Nat.lt_of_le_of_lt (hw3 _) (by decide) | exact Nat.lt_of_lt_of_le (hr4 _) (by decide) | exact Nat.lt_of_le_of_lt (bp_le _) (by decide) | assumption) (fun c_154 => absurd rfl c_154) (fun c_154 => ?_)
        refine lv_aload_n hx hb dL_isGiven_157 rfl (lv_at hl 4 rfl) ?_
        refine lv_iload_n hx hb dL_isGiven_158 rfl (lv_at hl 5 rfl) ?_
        refine lv_iload_n hx hb dL_isGiven_159 rfl (lv_at hl 6 rfl) ?_
        refine lv_iload_n hx hb dL_isGiven_160 rfl (lv_at hl 7 rfl) ?_
        refine q_kI2 (q_rV (As := [.int (nI 1), .int (nI (c)), .int (nI (t))]) (rest := []) (x := 0) hC hW mw_X5_weight gw_156 (k_weight l G n ad H.size I_92 L_92 R_92 (nI 1) (nI c) (nI t) (upN w (c * 6 + t) v) K ro (hcN hc) (hiN hc hi (w, K, ro)) sv pn ch hA) (by omega) (ct_o5 kd_0) rfl ⟨rfl, rfl⟩ ⟨Nat.le_of_ble_eq_true rfl, Nat.le_of_ble_eq_true rfl⟩ ⟨(Nat.le_of_ble_eq_true rfl), (Nat.le_of_ble_eq_true rfl)⟩ hl.1 rfl rfl (Nat.le_of_ble_eq_true rfl) dL_isGiven_161) hW (fun r_161 n_161 ad_161 I_161 L_161 R_161 H locs hp hW => ?_)
        obtain ⟨hz, rfl, rfl, hA, hF⟩ := PR_use hp
        have hG := fr_t hF hG
        have hz : r_161 = nI v := (hz.trans (aW1 (f := c) (t := t) hc6 ht6)).trans (congrArg nI (if_pos rfl))
        subst hz
        refine lv_iload hx hb dL_isGiven_164 (lv_at hl 8 rfl) ?_
        refine q_cne (tgt := 173) hx hb dL_isGiven_166 (by decide) (by first | omega | exact Nat.lt_of_le_of_lt (hw3 _) (by decide) | exact Nat.lt_of_lt_of_le (hr4 _) (by decide) | exact Nat.lt_of_le_of_lt (bp_le _) (by decide) | assumption) (by first | omega | exact Nat.lt_of_le_of_lt (hw3 _) (by decide) | exact Nat.lt_of_lt_of_le (hr4 _) (by decide) | exact Nat.lt_of_le_of_lt (bp_le _) (by decide) | assumption) (fun c_166 => absurd rfl c_166) (fun c_166 => ?_)
        refine q_ic 1 hx hb dL_isGiven_169 (by decide) ?_
        refine lv_goto (tgt := 174) hx hb dL_isGiven_170 (by decide) ?_
        exact q_zret2 hC hW hr hlk0 rfl ⟨rfl, _, hA, ⟨rfl, rfl⟩, hG⟩ dL_isGiven_174
      ·
        refine lv_iload_n hx hb dL_isGiven_65 rfl (lv_at hl 4 rfl) ?_
        refine q_ic 4 hx hb dL_isGiven_66 (by decide) ?_
        refine q_cne (tgt := 74) hx hb dL_isGiven_67 (by decide) (by first | omega | exact Nat.lt_of_le_of_lt (hw3 _) (by decide) | exact Nat.lt_of_lt_of_le (hr4 _) (by decide) | exact Nat.lt_of_le_of_lt (bp_le _) (by decide) | assumption) (by first | omega | exact Nat.lt_of_le_of_lt (hw3 _) (by decide) | exact Nat.lt_of_lt_of_le (hr4 _) (by decide) | exact Nat.lt_of_le_of_lt (bp_le _) (by decide) | assumption) (fun c_67 => ?_) (fun c_67 => ?_)
        ·
          refine q_ic 0 hx hb dL_isGiven_74 (by decide) ?_
          refine lv_istore (lv' := [(6, .int (nI 0)), (5, .int (nI 1)), (0, .ref (ad 0)), (1, .int (nI 1)), (2, .int (nI (c))), (3, .int (nI (t))), (4, .int (nI (v)))]) hx hb dL_isGiven_75 hl (by decide) rfl (fun ls hl => ?_)
          refine lv_aload_n hx hb dL_isGiven_77 rfl (lv_at hl 2 rfl) ?_
          refine lv_iload_n hx hb dL_isGiven_78 rfl (lv_at hl 3 rfl) ?_
          refine lv_iload_n hx hb dL_isGiven_79 rfl (lv_at hl 4 rfl) ?_
          refine lv_iload_n hx hb dL_isGiven_80 rfl (lv_at hl 5 rfl) ?_
          refine q_kI2 (q_rV (As := [.int (nI 1), .int (nI (c)), .int (nI (t))]) (rest := []) (x := 0) hC hW mw_X5_weight gw_156 (k_weight l G n ad s.heap.size I L R (nI 1) (nI c) (nI t) w K ro hc hi sv pn ch hA) (by omega) (ct_o5 kd_0) rfl ⟨rfl, rfl⟩ ⟨Nat.le_of_ble_eq_true rfl, Nat.le_of_ble_eq_true rfl⟩ ⟨(Nat.le_of_ble_eq_true rfl), (Nat.le_of_ble_eq_true rfl)⟩ hl.1 rfl rfl (Nat.le_of_ble_eq_true rfl) dL_isGiven_81) hW (fun r_81 n_81 ad_81 I_81 L_81 R_81 H locs hp hW => ?_)
          obtain ⟨hz, rfl, rfl, hA, hF⟩ := PR_use hp
          have hG := fr_t hF hG
          have hz : r_81 = nI (w (c * 6 + t)) := hz.trans (aW1 (S := ((w, K, ro), hc, hi, sv, pn, ch)) (f := c) (t := t) (by first | omega | assumption) (by first | omega | assumption))
          subst hz
          refine lv_istore (lv' := [(7, .int (nI (w (c * 6 + t)))), (6, .int (nI 0)), (5, .int (nI 1)), (0, .ref (ad 0)), (1, .int (nI 1)), (2, .int (nI (c))), (3, .int (nI (t))), (4, .int (nI (v)))]) hx hb dL_isGiven_84 hl (by decide) rfl (fun ls hl => ?_)
          refine lv_aload_n hx hb dL_isGiven_86 rfl (lv_at hl 3 rfl) ?_
          refine lv_iload_n hx hb dL_isGiven_87 rfl (lv_at hl 4 rfl) ?_
          refine lv_iload_n hx hb dL_isGiven_88 rfl (lv_at hl 5 rfl) ?_
          refine lv_iload_n hx hb dL_isGiven_89 rfl (lv_at hl 6 rfl) ?_
          refine lv_iload hx hb dL_isGiven_90 (lv_at hl 7 rfl) ?_
          refine q_kI2 (q_rV (As := [.int (nI 1), .int (nI (c)), .int (nI (t)), .int (nI (v))]) (rest := []) (x := 0) hC hW mw_X5_give gw_370 (k_give l G n ad H.size I_81 L_81 R_81 (nI 1) (nI c) (nI t) (nI v) w K ro hc hi sv pn ch hA) (by omega) (ct_o5 kd_0) rfl ⟨rfl, rfl⟩ ⟨Nat.le_of_ble_eq_true rfl, Nat.le_of_ble_eq_true rfl⟩ ⟨(Nat.le_of_ble_eq_true rfl), (Nat.le_of_ble_eq_true rfl)⟩ hl.1 rfl rfl (Nat.le_of_ble_eq_true rfl) dL_isGiven_92) hW (fun r_92 n_92 ad_92 I_92 L_92 R_92 H locs hp hW => ?_)
          obtain ⟨hz, rfl, rfl, hA, hF⟩ := PR_use hp
          have hft : aGive ((w, K, ro), hc, hi, sv, pn, ch) (nI 1) (nI c) (nI t) (nI v) = (nI (w (c * 6 + t)), (((upN w (c * 6 + t) v), K, ro), hcN hc, hiN hc hi (w, K, ro), sv, pn, ch)) := aG_s (by decide) hv4 (ix1 (f := c) (t := t) hc6 ht6) (by omega)
          rw [hft] at hz hA
          have hA : InvA n I_92 L_92 R_92 (((upN w (c * 6 + t) v), K, ro), hcN hc, hiN hc hi (w, K, ro), sv, pn, ch) := hA
          have hz : r_92 = nI (w (c * 6 + t)) := hz
          subst hz
          have hG := fr_t hF hG
          refine lv_istore (lv' := [(8, .int (nI (w (c * 6 + t)))), (7, .int (nI (w (c * 6 + t)))), (6, .int (nI 0)), (5, .int (nI 1)), (0, .ref (ad 0)), (1, .int (nI 1)), (2, .int (nI (c))), (3, .int (nI (t))), (4, .int (nI (v)))]) hx hb dL_isGiven_95 hl (by decide) rfl (fun ls hl => ?_)
          refine lv_iload hx hb dL_isGiven_97 (lv_at hl 3 rfl) ?_
          refine q_ine (tgt := 120) hx hb dL_isGiven_99 (by decide) (by first | omega | exact Nat.lt_of_le_of_lt (hw3 _) (by decide) | exact Nat.lt_of_lt_of_le (hr4 _) (by decide) | exact Nat.lt_of_le_of_lt (bp_le _) (by decide) | assumption) (fun c_99 => ?_) (fun c_99 => absurd c_99 (by decide))
          refine lv_iload hx hb dL_isGiven_120 (lv_at hl 2 rfl) ?_
          refine q_ieq (tgt := 150) hx hb dL_isGiven_122 (by decide) (by first | omega | exact Nat.lt_of_le_of_lt (hw3 _) (by decide) | exact Nat.lt_of_lt_of_le (hr4 _) (by decide) | exact Nat.lt_of_le_of_lt (bp_le _) (by decide) | assumption) (fun c_122 => ?_) (fun c_122 => absurd c_122 (by decide))
          refine lv_iload hx hb dL_isGiven_150 (lv_at hl 0 rfl) ?_
          refine lv_iload hx hb dL_isGiven_152 (lv_at hl 1 rfl) ?_
          refine q_cne (tgt := 173) hx hb dL_isGiven_154 (by decide) (by first | omega | exact Nat.lt_of_le_of_lt (hw3 _) (by decide) | exact Nat.lt_of_lt_of_le (hr4 _) (by decide) | exact Nat.lt_of_le_of_lt (bp_le _) (by decide) | assumption) (by first | omega | exact Nat.lt_of_le_of_lt (hw3 _) (by decide) | exact Nat.lt_of_lt_of_le (hr4 _) (by decide) | exact Nat.lt_of_le_of_lt (bp_le _) (by decide) | assumption) (fun c_154 => absurd rfl c_154) (fun c_154 => ?_)
          refine lv_aload_n hx hb dL_isGiven_157 rfl (lv_at hl 4 rfl) ?_
          refine lv_iload_n hx hb dL_isGiven_158 rfl (lv_at hl 5 rfl) ?_
          refine lv_iload_n hx hb dL_isGiven_159 rfl (lv_at hl 6 rfl) ?_
          refine lv_iload_n hx hb dL_isGiven_160 rfl (lv_at hl 7 rfl) ?_
          refine q_kI2 (q_rV (As := [.int (nI 1), .int (nI (c)), .int (nI (t))]) (rest := []) (x := 0) hC hW mw_X5_weight gw_156 (k_weight l G n ad H.size I_92 L_92 R_92 (nI 1) (nI c) (nI t) (upN w (c * 6 + t) v) K ro (hcN hc) (hiN hc hi (w, K, ro)) sv pn ch hA) (by omega) (ct_o5 kd_0) rfl ⟨rfl, rfl⟩ ⟨Nat.le_of_ble_eq_true rfl, Nat.le_of_ble_eq_true rfl⟩ ⟨(Nat.le_of_ble_eq_true rfl), (Nat.le_of_ble_eq_true rfl)⟩ hl.1 rfl rfl (Nat.le_of_ble_eq_true rfl) dL_isGiven_161) hW (fun r_161 n_161 ad_161 I_161 L_161 R_161 H locs hp hW => ?_)
          obtain ⟨hz, rfl, rfl, hA, hF⟩ := PR_use hp
          have hG := fr_t hF hG
          have hz : r_161 = nI v := (hz.trans (aW1 (f := c) (t := t) hc6 ht6)).trans (congrArg nI (if_pos rfl))
          subst hz
          refine lv_iload hx hb dL_isGiven_164 (lv_at hl 8 rfl) ?_
          refine q_cne (tgt := 173) hx hb dL_isGiven_166 (by decide) (by first | omega | exact Nat.lt_of_le_of_lt (hw3 _) (by decide) | exact Nat.lt_of_lt_of_le (hr4 _) (by decide) | exact Nat.lt_of_le_of_lt (bp_le _) (by decide) | assumption) (by first | omega | exact Nat.lt_of_le_of_lt (hw3 _) (by decide) | exact Nat.lt_of_lt_of_le (hr4 _) (by decide) | exact Nat.lt_of_le_of_lt (bp_le _) (by decide) | assumption) (fun c_166 => absurd rfl c_166) (fun c_166 => ?_)
          refine q_ic 1 hx hb dL_isGiven_169 (by decide) ?_
          refine lv_goto (tgt := 174) hx hb dL_isGiven_170 (by decide) ?_
          exact q_zret2 hC hW hr hlk0 rfl ⟨rfl, _, hA, ⟨rfl, rfl⟩, hG⟩ dL_isGiven_174
        ·
          refine q_ic 1 hx hb dL_isGiven_70 (by decide) ?_
          refine lv_goto (tgt := 75) hx hb dL_isGiven_71 (by decide) ?_
          refine lv_istore (lv' := [(6, .int (nI 1)), (5, .int (nI 1)), (0, .ref (ad 0)), (1, .int (nI 1)), (2, .int (nI (c))), (3, .int (nI (t))), (4, .int (nI (v)))]) hx hb dL_isGiven_75 hl (by decide) rfl (fun ls hl => ?_)
          refine lv_aload_n hx hb dL_isGiven_77 rfl (lv_at hl 2 rfl) ?_
          refine lv_iload_n hx hb dL_isGiven_78 rfl (lv_at hl 3 rfl) ?_
          refine lv_iload_n hx hb dL_isGiven_79 rfl (lv_at hl 4 rfl) ?_
          refine lv_iload_n hx hb dL_isGiven_80 rfl (lv_at hl 5 rfl) ?_
          refine q_kI2 (q_rV (As := [.int (nI 1), .int (nI (c)), .int (nI (t))]) (rest := []) (x := 0) hC hW mw_X5_weight gw_156 (k_weight l G n ad s.heap.size I L R (nI 1) (nI c) (nI t) w K ro hc hi sv pn ch hA) (by omega) (ct_o5 kd_0) rfl ⟨rfl, rfl⟩ ⟨Nat.le_of_ble_eq_true rfl, Nat.le_of_ble_eq_true rfl⟩ ⟨(Nat.le_of_ble_eq_true rfl), (Nat.le_of_ble_eq_true rfl)⟩ hl.1 rfl rfl (Nat.le_of_ble_eq_true rfl) dL_isGiven_81) hW (fun r_81 n_81 ad_81 I_81 L_81 R_81 H locs hp hW => ?_)
          obtain ⟨hz, rfl, rfl, hA, hF⟩ := PR_use hp
          have hG := fr_t hF hG
          have hz : r_81 = nI (w (c * 6 + t)) := hz.trans (aW1 (S := ((w, K, ro), hc, hi, sv, pn, ch)) (f := c) (t := t) (by first | omega | assumption) (by first | omega | assumption))
          subst hz
          refine lv_istore (lv' := [(7, .int (nI (w (c * 6 + t)))), (6, .int (nI 1)), (5, .int (nI 1)), (0, .ref (ad 0)), (1, .int (nI 1)), (2, .int (nI (c))), (3, .int (nI (t))), (4, .int (nI (v)))]) hx hb dL_isGiven_84 hl (by decide) rfl (fun ls hl => ?_)
          refine lv_aload_n hx hb dL_isGiven_86 rfl (lv_at hl 3 rfl) ?_
          refine lv_iload_n hx hb dL_isGiven_87 rfl (lv_at hl 4 rfl) ?_
          refine lv_iload_n hx hb dL_isGiven_88 rfl (lv_at hl 5 rfl) ?_
          refine lv_iload_n hx hb dL_isGiven_89 rfl (lv_at hl 6 rfl) ?_
          refine lv_iload hx hb dL_isGiven_90 (lv_at hl 7 rfl) ?_
          refine q_kI2 (q_rV (As := [.int (nI 1), .int (nI (c)), .int (nI (t)), .int (nI (v))]) (rest := []) (x := 0) hC hW mw_X5_give gw_370 (k_give l G n ad H.size I_81 L_81 R_81 (nI 1) (nI c) (nI t) (nI v) w K ro hc hi sv pn ch hA) (by omega) (ct_o5 kd_0) rfl ⟨rfl, rfl⟩ ⟨Nat.le_of_ble_eq_true rfl, Nat.le_of_ble_eq_true rfl⟩ ⟨(Nat.le_of_ble_eq_true rfl), (Nat.le_of_ble_eq_true rfl)⟩ hl.1 rfl rfl (Nat.le_of_ble_eq_true rfl) dL_isGiven_92) hW (fun r_92 n_92 ad_92 I_92 L_92 R_92 H locs hp hW => ?_)
          obtain ⟨hz, rfl, rfl, hA, hF⟩ := PR_use hp
          have hbr : c * 6 + t = 28 ∨ c * 6 + t = 34 ∨ c * 6 + t = 35 := by omega
          have hw0 : w (c * 6 + t) = 0 := by rcases hbr with e | e | e <;> rw [e]; exact hw.2.1; exact hw.2.2.1; exact hw.2.2.2
          rcases Nat.eq_zero_or_pos v with hv0 | hv0
          ·
            have hft : aGive ((w, K, ro), hc, hi, sv, pn, ch) (nI 1) (nI c) (nI t) (nI v) = (nI (w (c * 6 + t)), (((upN w (c * 6 + t) v), K, ro), hcN hc, hiN hc hi (w, K, ro), sv, pn, ch)) := aG_s (by decide) hv4 (ix1 (f := c) (t := t) hc6 ht6) (by omega)
            rw [hft] at hz hA
            have hA : InvA n I_92 L_92 R_92 (((upN w (c * 6 + t) v), K, ro), hcN hc, hiN hc hi (w, K, ro), sv, pn, ch) := hA
            have hz : r_92 = nI (w (c * 6 + t)) := hz
            subst hz
            have hG := fr_t hF hG
            refine lv_istore (lv' := [(8, .int (nI (w (c * 6 + t)))), (7, .int (nI (w (c * 6 + t)))), (6, .int (nI 1)), (5, .int (nI 1)), (0, .ref (ad 0)), (1, .int (nI 1)), (2, .int (nI (c))), (3, .int (nI (t))), (4, .int (nI (v)))]) hx hb dL_isGiven_95 hl (by decide) rfl (fun ls hl => ?_)
            refine lv_iload hx hb dL_isGiven_97 (lv_at hl 3 rfl) ?_
            refine q_ine (tgt := 120) hx hb dL_isGiven_99 (by decide) (by first | omega | exact Nat.lt_of_le_of_lt (hw3 _) (by decide) | exact Nat.lt_of_lt_of_le (hr4 _) (by decide) | exact Nat.lt_of_le_of_lt (bp_le _) (by decide) | assumption) (fun c_99 => ?_) (fun c_99 => absurd c_99 (by decide))
            refine lv_iload hx hb dL_isGiven_120 (lv_at hl 2 rfl) ?_
            refine q_ieq (tgt := 150) hx hb dL_isGiven_122 (by decide) (by first | omega | exact Nat.lt_of_le_of_lt (hw3 _) (by decide) | exact Nat.lt_of_lt_of_le (hr4 _) (by decide) | exact Nat.lt_of_le_of_lt (bp_le _) (by decide) | assumption) (fun c_122 => absurd c_122 (by decide)) (fun c_122 => ?_)
            refine lv_iload hx hb dL_isGiven_125 (lv_at hl 8 rfl) ?_
            refine q_ile (tgt := 150) hx hb dL_isGiven_127 (by decide) (by first | omega | exact Nat.lt_of_le_of_lt (hw3 _) (by decide) | exact Nat.lt_of_lt_of_le (hr4 _) (by decide) | exact Nat.lt_of_le_of_lt (bp_le _) (by decide) | assumption) (fun c_127 => ?_) (fun c_127 => absurd c_127 (by have := hv0; omega))
            refine lv_iload hx hb dL_isGiven_150 (lv_at hl 0 rfl) ?_
            refine lv_iload hx hb dL_isGiven_152 (lv_at hl 1 rfl) ?_
            refine q_cne (tgt := 173) hx hb dL_isGiven_154 (by decide) (by first | omega | exact Nat.lt_of_le_of_lt (hw3 _) (by decide) | exact Nat.lt_of_lt_of_le (hr4 _) (by decide) | exact Nat.lt_of_le_of_lt (bp_le _) (by decide) | assumption) (by first | omega | exact Nat.lt_of_le_of_lt (hw3 _) (by decide) | exact Nat.lt_of_lt_of_le (hr4 _) (by decide) | exact Nat.lt_of_le_of_lt (bp_le _) (by decide) | assumption) (fun c_154 => absurd rfl c_154) (fun c_154 => ?_)
            refine lv_aload_n hx hb dL_isGiven_157 rfl (lv_at hl 4 rfl) ?_
            refine lv_iload_n hx hb dL_isGiven_158 rfl (lv_at hl 5 rfl) ?_
            refine lv_iload_n hx hb dL_isGiven_159 rfl (lv_at hl 6 rfl) ?_
            refine lv_iload_n hx hb dL_isGiven_160 rfl (lv_at hl 7 rfl) ?_
            refine q_kI2 (q_rV (As := [.int (nI 1), .int (nI (c)), .int (nI (t))]) (rest := []) (x := 0) hC hW mw_X5_weight gw_156 (k_weight l G n ad H.size I_92 L_92 R_92 (nI 1) (nI c) (nI t) (upN w (c * 6 + t) v) K ro (hcN hc) (hiN hc hi (w, K, ro)) sv pn ch hA) (by omega) (ct_o5 kd_0) rfl ⟨rfl, rfl⟩ ⟨Nat.le_of_ble_eq_true rfl, Nat.le_of_ble_eq_true rfl⟩ ⟨(Nat.le_of_ble_eq_true rfl), (Nat.le_of_ble_eq_true rfl)⟩ hl.1 rfl rfl (Nat.le_of_ble_eq_true rfl) dL_isGiven_161) hW (fun r_161 n_161 ad_161 I_161 L_161 R_161 H locs hp hW => ?_)
            obtain ⟨hz, rfl, rfl, hA, hF⟩ := PR_use hp
            have hG := fr_t hF hG
            have hz : r_161 = nI v := (hz.trans (aW1 (f := c) (t := t) hc6 ht6)).trans (congrArg nI (if_pos rfl))
            subst hz
            refine lv_iload hx hb dL_isGiven_164 (lv_at hl 8 rfl) ?_
            refine q_cne (tgt := 173) hx hb dL_isGiven_166 (by decide) (by first | omega | exact Nat.lt_of_le_of_lt (hw3 _) (by decide) | exact Nat.lt_of_lt_of_le (hr4 _) (by decide) | exact Nat.lt_of_le_of_lt (bp_le _) (by decide) | assumption) (by first | omega | exact Nat.lt_of_le_of_lt (hw3 _) (by decide) | exact Nat.lt_of_lt_of_le (hr4 _) (by decide) | exact Nat.lt_of_le_of_lt (bp_le _) (by decide) | assumption) (fun c_166 => absurd rfl c_166) (fun c_166 => ?_)
            refine q_ic 1 hx hb dL_isGiven_169 (by decide) ?_
            refine lv_goto (tgt := 174) hx hb dL_isGiven_170 (by decide) ?_
            exact q_zret2 hC hW hr hlk0 rfl ⟨rfl, _, hA, ⟨rfl, rfl⟩, hG⟩ dL_isGiven_174
          ·
            have hft : aGive ((w, K, ro), hc, hi, sv, pn, ch) (nI 1) (nI c) (nI t) (nI v) = ((-5), ((w, K, ro), hc, hi, sv, pn, ch)) := aG_b (by decide) hv4 (ix1 (f := c) (t := t) hc6 ht6) ⟨hv0, hbr⟩
            rw [hft] at hz hA
            have hA : InvA n I_92 L_92 R_92 ((w, K, ro), hc, hi, sv, pn, ch) := hA
            have hz : r_92 = (-5) := hz
            subst hz
            have hG := fr_t hF hG
            refine lv_istore (lv' := [(8, .int (-5)), (7, .int (nI (w (c * 6 + t)))), (6, .int (nI 1)), (5, .int (nI 1)), (0, .ref (ad 0)), (1, .int (nI 1)), (2, .int (nI (c))), (3, .int (nI (t))), (4, .int (nI (v)))]) hx hb dL_isGiven_95 hl (by decide) rfl (fun ls hl => ?_)
            refine lv_iload hx hb dL_isGiven_97 (lv_at hl 3 rfl) ?_
            refine q_ine (tgt := 120) hx hb dL_isGiven_99 (by decide) (by first | omega | exact Nat.lt_of_le_of_lt (hw3 _) (by decide) | exact Nat.lt_of_lt_of_le (hr4 _) (by decide) | exact Nat.lt_of_le_of_lt (bp_le _) (by decide) | assumption) (fun c_99 => ?_) (fun c_99 => absurd c_99 (by decide))
            refine lv_iload hx hb dL_isGiven_120 (lv_at hl 2 rfl) ?_
            refine q_ieq (tgt := 150) hx hb dL_isGiven_122 (by decide) (by first | omega | exact Nat.lt_of_le_of_lt (hw3 _) (by decide) | exact Nat.lt_of_lt_of_le (hr4 _) (by decide) | exact Nat.lt_of_le_of_lt (bp_le _) (by decide) | assumption) (fun c_122 => absurd c_122 (by decide)) (fun c_122 => ?_)
            refine lv_iload hx hb dL_isGiven_125 (lv_at hl 8 rfl) ?_
            refine q_ile (tgt := 150) hx hb dL_isGiven_127 (by decide) (by first | omega | exact Nat.lt_of_le_of_lt (hw3 _) (by decide) | exact Nat.lt_of_lt_of_le (hr4 _) (by decide) | exact Nat.lt_of_le_of_lt (bp_le _) (by decide) | assumption) (fun c_127 => absurd c_127 (by have := hv0; omega)) (fun c_127 => ?_)
            refine lv_iload hx hb dL_isGiven_130 (lv_at hl 0 rfl) ?_
            refine lv_bipush (v := -5) hx hb dL_isGiven_132 (by decide) ?_
            refine lv_icmp_ne (tgt := 146) hx hb dL_isGiven_134 (by decide) (fun c_134 => absurd c_134 (by decide)) (fun c_134 => ?_)
            refine lv_iload hx hb dL_isGiven_137 (lv_at hl 1 rfl) ?_
            refine q_ine (tgt := 146) hx hb dL_isGiven_139 (by decide) (by first | omega | exact Nat.lt_of_le_of_lt (hw3 _) (by decide) | exact Nat.lt_of_lt_of_le (hr4 _) (by decide) | exact Nat.lt_of_le_of_lt (bp_le _) (by decide) | assumption) (fun c_139 => absurd hw0 c_139) (fun c_139 => ?_)
            refine q_ic 1 hx hb dL_isGiven_142 (by decide) ?_
            refine lv_goto (tgt := 174) hx hb dL_isGiven_143 (by decide) ?_
            exact q_zret2 hC hW hr hlk0 rfl ⟨rfl, _, hA, ⟨rfl, rfl⟩, hG⟩ dL_isGiven_174
set_option maxRecDepth 100000 in
set_option maxHeartbeats 4000000 in
theorem k_isGiven2a (l : Launch) (G : Gx) (n : Nat) (ad : Nat → Nat) (sz : Nat) (I : Ic) (L : Lc) (R : Rc) (c t v : Nat) (w : Nat → Nat) (K : Nat) (ro : Nat → Nat) (hc : Nat) (hi : Nat → CM) (sv : Nat → Option CM) (pn : Nat) (ch : Nat → Nat) (hA : InvA n I L R ((w, K, ro), hc, hi, sv, pn, ch)) (hno : c < 4 ∧ t < 4) (hv4 : v < 4) : Met l yL_isGiven (Cond.code yL_isGiven cL_isGiven 9 (some .boolean) :: GW) ({ frames := 7, cells := 0, slots := 0, locals := 252 } : Room) (qPre G n ad sz I L R [.ref (ad 0), .int (nI 2), .int (nI (c)), .int (nI (t)), .int (nI (v))]) (qI2 G (qA n ad sz) (fun z u => z = nI 1 ∧ GvP n ad I L R u)) 0 0 (qA n ad sz) := by
  refine q_met (by decide) (Nat.le_of_ble_eq_true rfl) ?_
  intro p_ e_ s m_ below meth c_ hC hr hlk0 hin hsz hW ls hl
  subst hsz
  have hC : CallFix p_ m_ c_ cL_isGiven 9 s ([.ref (ad 0), .int (nI 2), .int (nI (c)), .int (nI (t)), .int (nI (v))] : List Value).toArray GW "CoinRowsLaw" := hC
  have hx := hC.1
  have hb := hC.2.1
  have hw : Wok w := hA.2.2.1.2.2.2.2.1
  have hw3 : ∀ i, w i ≤ 3 := hw.1
  have hk6 : K ≤ 6 := hA.2.2.1.2.2.2.1
  have hr4 : ∀ j, ro j < 4 := hA.2.2.1.2.2.2.2.2
  have hn : 71 ≤ n := hA.1
  have hT63 : Sx' w K ro K 6 < 2 ^ 63 := Nat.lt_of_le_of_lt (Sx_b hw K K 6 hk6) (by decide)
  have hC31 : Cx' w K ro K 6 < 2 ^ 31 := Nat.lt_of_le_of_lt (Cx_b hw K K 6 hk6) (by decide)
  have hG : Fr7 I I L L R R := fr_0
  have hl : lv_has ls 9 [(0, .ref (ad 0)), (1, .int (nI 2)), (2, .int (nI (c))), (3, .int (nI (t))), (4, .int (nI (v)))] := hl
  refine lv_iload_n hx hb dL_isGiven_0 rfl (lv_at hl 2 rfl) ?_
  refine lv_iload_n hx hb dL_isGiven_1 rfl (lv_at hl 1 rfl) ?_
  refine q_ic 2 hx hb dL_isGiven_2 (by decide) ?_
  refine q_cne (tgt := 10) hx hb dL_isGiven_3 (by decide) (by first | omega | exact Nat.lt_of_le_of_lt (hw3 _) (by decide) | exact Nat.lt_of_lt_of_le (hr4 _) (by decide) | exact Nat.lt_of_le_of_lt (bp_le _) (by decide) | assumption) (by first | omega | exact Nat.lt_of_le_of_lt (hw3 _) (by decide) | exact Nat.lt_of_lt_of_le (hr4 _) (by decide) | exact Nat.lt_of_le_of_lt (bp_le _) (by decide) | assumption) (fun c_3 => absurd c_3 (by decide)) (fun c_3 => ?_)
  refine q_ic 4 hx hb dL_isGiven_6 (by decide) ?_
  refine lv_goto (tgt := 12) hx hb dL_isGiven_7 (by decide) ?_
  refine q_cge (tgt := 42) hx hb dL_isGiven_12 (by decide) (by first | omega | exact Nat.lt_of_le_of_lt (hw3 _) (by decide) | exact Nat.lt_of_lt_of_le (hr4 _) (by decide) | exact Nat.lt_of_le_of_lt (bp_le _) (by decide) | assumption) (by first | omega | exact Nat.lt_of_le_of_lt (hw3 _) (by decide) | exact Nat.lt_of_lt_of_le (hr4 _) (by decide) | exact Nat.lt_of_le_of_lt (bp_le _) (by decide) | assumption) (fun c_12 => absurd c_12 (by omega)) (fun c_12 => ?_)
  refine lv_iload_n hx hb dL_isGiven_15 rfl (lv_at hl 3 rfl) ?_
  refine lv_iload_n hx hb dL_isGiven_16 rfl (lv_at hl 1 rfl) ?_
  refine q_ine (tgt := 24) hx hb dL_isGiven_17 (by decide) (by first | omega | exact Nat.lt_of_le_of_lt (hw3 _) (by decide) | exact Nat.lt_of_lt_of_le (hr4 _) (by decide) | exact Nat.lt_of_le_of_lt (bp_le _) (by decide) | assumption) (fun c_17 => ?_) (fun c_17 => absurd c_17 (by decide))
  refine lv_iload_n hx hb dL_isGiven_24 rfl (lv_at hl 1 rfl) ?_
  refine q_ic 1 hx hb dL_isGiven_25 (by decide) ?_
  refine q_cne (tgt := 34) hx hb dL_isGiven_26 (by decide) (by first | omega | exact Nat.lt_of_le_of_lt (hw3 _) (by decide) | exact Nat.lt_of_lt_of_le (hr4 _) (by decide) | exact Nat.lt_of_le_of_lt (bp_le _) (by decide) | assumption) (by first | omega | exact Nat.lt_of_le_of_lt (hw3 _) (by decide) | exact Nat.lt_of_lt_of_le (hr4 _) (by decide) | exact Nat.lt_of_le_of_lt (bp_le _) (by decide) | assumption) (fun c_26 => ?_) (fun c_26 => absurd c_26 (by decide))
  refine q_ic 4 hx hb dL_isGiven_34 (by decide) ?_
  refine q_cge (tgt := 42) hx hb dL_isGiven_35 (by decide) (by first | omega | exact Nat.lt_of_le_of_lt (hw3 _) (by decide) | exact Nat.lt_of_lt_of_le (hr4 _) (by decide) | exact Nat.lt_of_le_of_lt (bp_le _) (by decide) | assumption) (by first | omega | exact Nat.lt_of_le_of_lt (hw3 _) (by decide) | exact Nat.lt_of_lt_of_le (hr4 _) (by decide) | exact Nat.lt_of_le_of_lt (bp_le _) (by decide) | assumption) (fun c_35 => absurd c_35 (by omega)) (fun c_35 => ?_)
  refine q_ic 1 hx hb dL_isGiven_38 (by decide) ?_
  refine lv_goto (tgt := 43) hx hb dL_isGiven_39 (by decide) ?_
  refine lv_istore (lv' := [(5, .int (nI 1)), (0, .ref (ad 0)), (1, .int (nI 2)), (2, .int (nI (c))), (3, .int (nI (t))), (4, .int (nI (v)))]) hx hb dL_isGiven_43 hl (by decide) rfl (fun ls hl => ?_)
  refine lv_iload_n hx hb dL_isGiven_45 rfl (lv_at hl 2 rfl) ?_
  refine q_ic 1 hx hb dL_isGiven_46 (by decide) ?_
  refine q_cne (tgt := 74) hx hb dL_isGiven_47 (by decide) (by first | omega | exact Nat.lt_of_le_of_lt (hw3 _) (by decide) | exact Nat.lt_of_lt_of_le (hr4 _) (by decide) | exact Nat.lt_of_le_of_lt (bp_le _) (by decide) | assumption) (by first | omega | exact Nat.lt_of_le_of_lt (hw3 _) (by decide) | exact Nat.lt_of_lt_of_le (hr4 _) (by decide) | exact Nat.lt_of_le_of_lt (bp_le _) (by decide) | assumption) (fun c_47 => ?_) (fun c_47 => absurd c_47 (by decide))
  refine q_ic 0 hx hb dL_isGiven_74 (by decide) ?_
  refine lv_istore (lv' := [(6, .int (nI 0)), (5, .int (nI 1)), (0, .ref (ad 0)), (1, .int (nI 2)), (2, .int (nI (c))), (3, .int (nI (t))), (4, .int (nI (v)))]) hx hb dL_isGiven_75 hl (by decide) rfl (fun ls hl => ?_)
  refine lv_aload_n hx hb dL_isGiven_77 rfl (lv_at hl 2 rfl) ?_
  refine lv_iload_n hx hb dL_isGiven_78 rfl (lv_at hl 3 rfl) ?_
  refine lv_iload_n hx hb dL_isGiven_79 rfl (lv_at hl 4 rfl) ?_
  refine lv_iload_n hx hb dL_isGiven_80 rfl (lv_at hl 5 rfl) ?_
  refine q_kI2 (q_rV (As := [.int (nI 2), .int (nI (c)), .int (nI (t))]) (rest := []) (x := 0) hC hW mw_X5_weight gw_156 (k_weight l G n ad s.heap.size I L R (nI 2) (nI c) (nI t) w K ro hc hi sv pn ch hA) (by omega) (ct_o5 kd_0) rfl ⟨rfl, rfl⟩ ⟨Nat.le_of_ble_eq_true rfl, Nat.le_of_ble_eq_true rfl⟩ ⟨(Nat.le_of_ble_eq_true rfl), (Nat.le_of_ble_eq_true rfl)⟩ hl.1 rfl rfl (Nat.le_of_ble_eq_true rfl) dL_isGiven_81) hW (fun r_81 n_81 ad_81 I_81 L_81 R_81 H locs hp hW => ?_)
  obtain ⟨hz, rfl, rfl, hA, hF⟩ := PR_use hp
  have hG := fr_t hF hG
  have hz : r_81 = nI (w (42 + c * 4 + t)) := hz.trans (aW2 (S := ((w, K, ro), hc, hi, sv, pn, ch)) (c := c) (t := t) (by first | omega | assumption) (by first | omega | assumption))
  subst hz
  refine lv_istore (lv' := [(7, .int (nI (w (42 + c * 4 + t)))), (6, .int (nI 0)), (5, .int (nI 1)), (0, .ref (ad 0)), (1, .int (nI 2)), (2, .int (nI (c))), (3, .int (nI (t))), (4, .int (nI (v)))]) hx hb dL_isGiven_84 hl (by decide) rfl (fun ls hl => ?_)
  refine lv_aload_n hx hb dL_isGiven_86 rfl (lv_at hl 3 rfl) ?_
  refine lv_iload_n hx hb dL_isGiven_87 rfl (lv_at hl 4 rfl) ?_
  refine lv_iload_n hx hb dL_isGiven_88 rfl (lv_at hl 5 rfl) ?_
  refine lv_iload_n hx hb dL_isGiven_89 rfl (lv_at hl 6 rfl) ?_
  refine lv_iload hx hb dL_isGiven_90 (lv_at hl 7 rfl) ?_
  refine q_kI2 (q_rV (As := [.int (nI 2), .int (nI (c)), .int (nI (t)), .int (nI (v))]) (rest := []) (x := 0) hC hW mw_X5_give gw_370 (k_give l G n ad H.size I_81 L_81 R_81 (nI 2) (nI c) (nI t) (nI v) w K ro hc hi sv pn ch hA) (by omega) (ct_o5 kd_0) rfl ⟨rfl, rfl⟩ ⟨Nat.le_of_ble_eq_true rfl, Nat.le_of_ble_eq_true rfl⟩ ⟨(Nat.le_of_ble_eq_true rfl), (Nat.le_of_ble_eq_true rfl)⟩ hl.1 rfl rfl (Nat.le_of_ble_eq_true rfl) dL_isGiven_92) hW (fun r_92 n_92 ad_92 I_92 L_92 R_92 H locs hp hW => ?_)
  obtain ⟨hz, rfl, rfl, hA, hF⟩ := PR_use hp
  have hft : aGive ((w, K, ro), hc, hi, sv, pn, ch) (nI 2) (nI c) (nI t) (nI v) = (nI (w (42 + c * 4 + t)), (((upN w (42 + c * 4 + t) v), K, ro), hcN hc, hiN hc hi (w, K, ro), sv, pn, ch)) := aG_s (by decide) hv4 (ix2 (c := c) (t := t) hno.1 hno.2) (by omega)
  rw [hft] at hz hA
  have hA : InvA n I_92 L_92 R_92 (((upN w (42 + c * 4 + t) v), K, ro), hcN hc, hiN hc hi (w, K, ro), sv, pn, ch) := hA
  have hz : r_92 = nI (w (42 + c * 4 + t)) := hz
  subst hz
  have hG := fr_t hF hG
  refine lv_istore (lv' := [(8, .int (nI (w (42 + c * 4 + t)))), (7, .int (nI (w (42 + c * 4 + t)))), (6, .int (nI 0)), (5, .int (nI 1)), (0, .ref (ad 0)), (1, .int (nI 2)), (2, .int (nI (c))), (3, .int (nI (t))), (4, .int (nI (v)))]) hx hb dL_isGiven_95 hl (by decide) rfl (fun ls hl => ?_)
  refine lv_iload hx hb dL_isGiven_97 (lv_at hl 3 rfl) ?_
  refine q_ine (tgt := 120) hx hb dL_isGiven_99 (by decide) (by first | omega | exact Nat.lt_of_le_of_lt (hw3 _) (by decide) | exact Nat.lt_of_lt_of_le (hr4 _) (by decide) | exact Nat.lt_of_le_of_lt (bp_le _) (by decide) | assumption) (fun c_99 => ?_) (fun c_99 => absurd c_99 (by decide))
  refine lv_iload hx hb dL_isGiven_120 (lv_at hl 2 rfl) ?_
  refine q_ieq (tgt := 150) hx hb dL_isGiven_122 (by decide) (by first | omega | exact Nat.lt_of_le_of_lt (hw3 _) (by decide) | exact Nat.lt_of_lt_of_le (hr4 _) (by decide) | exact Nat.lt_of_le_of_lt (bp_le _) (by decide) | assumption) (fun c_122 => ?_) (fun c_122 => absurd c_122 (by decide))
  refine lv_iload hx hb dL_isGiven_150 (lv_at hl 0 rfl) ?_
  refine lv_iload hx hb dL_isGiven_152 (lv_at hl 1 rfl) ?_
  refine q_cne (tgt := 173) hx hb dL_isGiven_154 (by decide) (by first | omega | exact Nat.lt_of_le_of_lt (hw3 _) (by decide) | exact Nat.lt_of_lt_of_le (hr4 _) (by decide) | exact Nat.lt_of_le_of_lt (bp_le _) (by decide) | assumption) (by first | omega | exact Nat.lt_of_le_of_lt (hw3 _) (by decide) | exact Nat.lt_of_lt_of_le (hr4 _) (by decide) | exact Nat.lt_of_le_of_lt (bp_le _) (by decide) | assumption) (fun c_154 => absurd rfl c_154) (fun c_154 => ?_)
  refine lv_aload_n hx hb dL_isGiven_157 rfl (lv_at hl 4 rfl) ?_
  refine lv_iload_n hx hb dL_isGiven_158 rfl (lv_at hl 5 rfl) ?_
  refine lv_iload_n hx hb dL_isGiven_159 rfl (lv_at hl 6 rfl) ?_
  refine lv_iload_n hx hb dL_isGiven_160 rfl (lv_at hl 7 rfl) ?_
  refine q_kI2 (q_rV (As := [.int (nI 2), .int (nI (c)), .int (nI (t))]) (rest := []) (x := 0) hC hW mw_X5_weight gw_156 (k_weight l G n ad H.size I_92 L_92 R_92 (nI 2) (nI c) (nI t) (upN w (42 + c * 4 + t) v) K ro (hcN hc) (hiN hc hi (w, K, ro)) sv pn ch hA) (by omega) (ct_o5 kd_0) rfl ⟨rfl, rfl⟩ ⟨Nat.le_of_ble_eq_true rfl, Nat.le_of_ble_eq_true rfl⟩ ⟨(Nat.le_of_ble_eq_true rfl), (Nat.le_of_ble_eq_true rfl)⟩ hl.1 rfl rfl (Nat.le_of_ble_eq_true rfl) dL_isGiven_161) hW (fun r_161 n_161 ad_161 I_161 L_161 R_161 H locs hp hW => ?_)
  obtain ⟨hz, rfl, rfl, hA, hF⟩ := PR_use hp
  have hG := fr_t hF hG
  have hz : r_161 = nI v := (hz.trans (aW2 (c := c) (t := t) hno.1 hno.2)).trans (congrArg nI (if_pos rfl))
  subst hz
  refine lv_iload hx hb dL_isGiven_164 (lv_at hl 8 rfl) ?_
  refine q_cne (tgt := 173) hx hb dL_isGiven_166 (by decide) (by first | omega | exact Nat.lt_of_le_of_lt (hw3 _) (by decide) | exact Nat.lt_of_lt_of_le (hr4 _) (by decide) | exact Nat.lt_of_le_of_lt (bp_le _) (by decide) | assumption) (by first | omega | exact Nat.lt_of_le_of_lt (hw3 _) (by decide) | exact Nat.lt_of_lt_of_le (hr4 _) (by decide) | exact Nat.lt_of_le_of_lt (bp_le _) (by decide) | assumption) (fun c_166 => absurd rfl c_166) (fun c_166 => ?_)
  refine q_ic 1 hx hb dL_isGiven_169 (by decide) ?_
  refine lv_goto (tgt := 174) hx hb dL_isGiven_170 (by decide) ?_
  exact q_zret2 hC hW hr hlk0 rfl ⟨rfl, _, hA, ⟨rfl, rfl⟩, hG⟩ dL_isGiven_174
set_option maxRecDepth 100000 in
set_option maxHeartbeats 4000000 in
theorem k_isGiven2b (l : Launch) (G : Gx) (n : Nat) (ad : Nat → Nat) (sz : Nat) (I : Ic) (L : Lc) (R : Rc) (c t v : Nat) (w : Nat → Nat) (K : Nat) (ro : Nat → Nat) (hc : Nat) (hi : Nat → CM) (sv : Nat → Option CM) (pn : Nat) (ch : Nat → Nat) (hA : InvA n I L R ((w, K, ro), hc, hi, sv, pn, ch)) (hc6 : c < 6) (ht6 : t < 6) (hno : ¬ (c < 4 ∧ t < 4)) (hv4 : v < 4) : Met l yL_isGiven (Cond.code yL_isGiven cL_isGiven 9 (some .boolean) :: GW) ({ frames := 7, cells := 0, slots := 0, locals := 252 } : Room) (qPre G n ad sz I L R [.ref (ad 0), .int (nI 2), .int (nI (c)), .int (nI (t)), .int (nI (v))]) (qI2 G (qA n ad sz) (fun z u => z = nI 1 ∧ GvP n ad I L R u)) 0 0 (qA n ad sz) := by
  refine q_met (by decide) (Nat.le_of_ble_eq_true rfl) ?_
  intro p_ e_ s m_ below meth c_ hC hr hlk0 hin hsz hW ls hl
  subst hsz
  have hC : CallFix p_ m_ c_ cL_isGiven 9 s ([.ref (ad 0), .int (nI 2), .int (nI (c)), .int (nI (t)), .int (nI (v))] : List Value).toArray GW "CoinRowsLaw" := hC
  have hx := hC.1
  have hb := hC.2.1
  have hw : Wok w := hA.2.2.1.2.2.2.2.1
  have hw3 : ∀ i, w i ≤ 3 := hw.1
  have hk6 : K ≤ 6 := hA.2.2.1.2.2.2.1
  have hr4 : ∀ j, ro j < 4 := hA.2.2.1.2.2.2.2.2
  have hn : 71 ≤ n := hA.1
  have hT63 : Sx' w K ro K 6 < 2 ^ 63 := Nat.lt_of_le_of_lt (Sx_b hw K K 6 hk6) (by decide)
  have hC31 : Cx' w K ro K 6 < 2 ^ 31 := Nat.lt_of_le_of_lt (Cx_b hw K K 6 hk6) (by decide)
  have hG : Fr7 I I L L R R := fr_0
  have hl : lv_has ls 9 [(0, .ref (ad 0)), (1, .int (nI 2)), (2, .int (nI (c))), (3, .int (nI (t))), (4, .int (nI (v)))] := hl
  refine lv_iload_n hx hb dL_isGiven_0 rfl (lv_at hl 2 rfl) ?_
  refine lv_iload_n hx hb dL_isGiven_1 rfl (lv_at hl 1 rfl) ?_
  refine q_ic 2 hx hb dL_isGiven_2 (by decide) ?_
  refine q_cne (tgt := 10) hx hb dL_isGiven_3 (by decide) (by first | omega | exact Nat.lt_of_le_of_lt (hw3 _) (by decide) | exact Nat.lt_of_lt_of_le (hr4 _) (by decide) | exact Nat.lt_of_le_of_lt (bp_le _) (by decide) | assumption) (by first | omega | exact Nat.lt_of_le_of_lt (hw3 _) (by decide) | exact Nat.lt_of_lt_of_le (hr4 _) (by decide) | exact Nat.lt_of_le_of_lt (bp_le _) (by decide) | assumption) (fun c_3 => absurd c_3 (by decide)) (fun c_3 => ?_)
  refine q_ic 4 hx hb dL_isGiven_6 (by decide) ?_
  refine lv_goto (tgt := 12) hx hb dL_isGiven_7 (by decide) ?_
  refine q_cge (tgt := 42) hx hb dL_isGiven_12 (by decide) (by first | omega | exact Nat.lt_of_le_of_lt (hw3 _) (by decide) | exact Nat.lt_of_lt_of_le (hr4 _) (by decide) | exact Nat.lt_of_le_of_lt (bp_le _) (by decide) | assumption) (by first | omega | exact Nat.lt_of_le_of_lt (hw3 _) (by decide) | exact Nat.lt_of_lt_of_le (hr4 _) (by decide) | exact Nat.lt_of_le_of_lt (bp_le _) (by decide) | assumption) (fun c_12 => ?_) (fun c_12 => ?_)
  ·
    refine q_ic 0 hx hb dL_isGiven_42 (by decide) ?_
    refine lv_istore (lv' := [(5, .int (nI 0)), (0, .ref (ad 0)), (1, .int (nI 2)), (2, .int (nI (c))), (3, .int (nI (t))), (4, .int (nI (v)))]) hx hb dL_isGiven_43 hl (by decide) rfl (fun ls hl => ?_)
    refine lv_iload_n hx hb dL_isGiven_45 rfl (lv_at hl 2 rfl) ?_
    refine q_ic 1 hx hb dL_isGiven_46 (by decide) ?_
    refine q_cne (tgt := 74) hx hb dL_isGiven_47 (by decide) (by first | omega | exact Nat.lt_of_le_of_lt (hw3 _) (by decide) | exact Nat.lt_of_lt_of_le (hr4 _) (by decide) | exact Nat.lt_of_le_of_lt (bp_le _) (by decide) | assumption) (by first | omega | exact Nat.lt_of_le_of_lt (hw3 _) (by decide) | exact Nat.lt_of_lt_of_le (hr4 _) (by decide) | exact Nat.lt_of_le_of_lt (bp_le _) (by decide) | assumption) (fun c_47 => ?_) (fun c_47 => absurd c_47 (by decide))
    refine q_ic 0 hx hb dL_isGiven_74 (by decide) ?_
    refine lv_istore (lv' := [(6, .int (nI 0)), (5, .int (nI 0)), (0, .ref (ad 0)), (1, .int (nI 2)), (2, .int (nI (c))), (3, .int (nI (t))), (4, .int (nI (v)))]) hx hb dL_isGiven_75 hl (by decide) rfl (fun ls hl => ?_)
    refine lv_aload_n hx hb dL_isGiven_77 rfl (lv_at hl 2 rfl) ?_
    refine lv_iload_n hx hb dL_isGiven_78 rfl (lv_at hl 3 rfl) ?_
    refine lv_iload_n hx hb dL_isGiven_79 rfl (lv_at hl 4 rfl) ?_
    refine lv_iload_n hx hb dL_isGiven_80 rfl (lv_at hl 5 rfl) ?_
    refine q_kI2 (q_rV (As := [.int (nI 2), .int (nI (c)), .int (nI (t))]) (rest := []) (x := 0) hC hW mw_X5_weight gw_156 (k_weight l G n ad s.heap.size I L R (nI 2) (nI c) (nI t) w K ro hc hi sv pn ch hA) (by omega) (ct_o5 kd_0) rfl ⟨rfl, rfl⟩ ⟨Nat.le_of_ble_eq_true rfl, Nat.le_of_ble_eq_true rfl⟩ ⟨(Nat.le_of_ble_eq_true rfl), (Nat.le_of_ble_eq_true rfl)⟩ hl.1 rfl rfl (Nat.le_of_ble_eq_true rfl) dL_isGiven_81) hW (fun r_81 n_81 ad_81 I_81 L_81 R_81 H locs hp hW => ?_)
    obtain ⟨hz, rfl, rfl, hA, hF⟩ := PR_use hp
    have hG := fr_t hF hG
    have hz : r_81 = (-1) := hz.trans (aW_n (by decide) (ix2n (by omega) (by omega) hno))
    subst hz
    refine lv_istore (lv' := [(7, .int (-1)), (6, .int (nI 0)), (5, .int (nI 0)), (0, .ref (ad 0)), (1, .int (nI 2)), (2, .int (nI (c))), (3, .int (nI (t))), (4, .int (nI (v)))]) hx hb dL_isGiven_84 hl (by decide) rfl (fun ls hl => ?_)
    refine lv_aload_n hx hb dL_isGiven_86 rfl (lv_at hl 3 rfl) ?_
    refine lv_iload_n hx hb dL_isGiven_87 rfl (lv_at hl 4 rfl) ?_
    refine lv_iload_n hx hb dL_isGiven_88 rfl (lv_at hl 5 rfl) ?_
    refine lv_iload_n hx hb dL_isGiven_89 rfl (lv_at hl 6 rfl) ?_
    refine lv_iload hx hb dL_isGiven_90 (lv_at hl 7 rfl) ?_
    refine q_kI2 (q_rV (As := [.int (nI 2), .int (nI (c)), .int (nI (t)), .int (nI (v))]) (rest := []) (x := 0) hC hW mw_X5_give gw_370 (k_give l G n ad H.size I_81 L_81 R_81 (nI 2) (nI c) (nI t) (nI v) w K ro hc hi sv pn ch hA) (by omega) (ct_o5 kd_0) rfl ⟨rfl, rfl⟩ ⟨Nat.le_of_ble_eq_true rfl, Nat.le_of_ble_eq_true rfl⟩ ⟨(Nat.le_of_ble_eq_true rfl), (Nat.le_of_ble_eq_true rfl)⟩ hl.1 rfl rfl (Nat.le_of_ble_eq_true rfl) dL_isGiven_92) hW (fun r_92 n_92 ad_92 I_92 L_92 R_92 H locs hp hW => ?_)
    obtain ⟨hz, rfl, rfl, hA, hF⟩ := PR_use hp
    have hft : aGive ((w, K, ro), hc, hi, sv, pn, ch) (nI 2) (nI c) (nI t) (nI v) = ((-1), ((w, K, ro), hc, hi, sv, pn, ch)) := aG_n (by decide) hv4 (ix2n (by omega) (by omega) hno)
    rw [hft] at hz hA
    have hA : InvA n I_92 L_92 R_92 ((w, K, ro), hc, hi, sv, pn, ch) := hA
    have hz : r_92 = (-1) := hz
    subst hz
    have hG := fr_t hF hG
    refine lv_istore (lv' := [(8, .int (-1)), (7, .int (-1)), (6, .int (nI 0)), (5, .int (nI 0)), (0, .ref (ad 0)), (1, .int (nI 2)), (2, .int (nI (c))), (3, .int (nI (t))), (4, .int (nI (v)))]) hx hb dL_isGiven_95 hl (by decide) rfl (fun ls hl => ?_)
    refine lv_iload hx hb dL_isGiven_97 (lv_at hl 3 rfl) ?_
    refine q_ine (tgt := 120) hx hb dL_isGiven_99 (by decide) (by first | omega | exact Nat.lt_of_le_of_lt (hw3 _) (by decide) | exact Nat.lt_of_lt_of_le (hr4 _) (by decide) | exact Nat.lt_of_le_of_lt (bp_le _) (by decide) | assumption) (fun c_99 => absurd c_99 (by decide)) (fun c_99 => ?_)
    refine lv_iload hx hb dL_isGiven_102 (lv_at hl 1 rfl) ?_
    refine lv_iconst (v := -1) hx hb dL_isGiven_104 (by decide) ?_
    refine lv_icmp_ne (tgt := 118) hx hb dL_isGiven_105 (by decide) (fun c_105 => absurd c_105 (by decide)) (fun c_105 => ?_)
    refine lv_iload hx hb dL_isGiven_108 (lv_at hl 0 rfl) ?_
    refine lv_iconst (v := -1) hx hb dL_isGiven_110 (by decide) ?_
    refine lv_icmp_ne (tgt := 118) hx hb dL_isGiven_111 (by decide) (fun c_111 => absurd c_111 (by decide)) (fun c_111 => ?_)
    refine q_ic 1 hx hb dL_isGiven_114 (by decide) ?_
    refine lv_goto (tgt := 119) hx hb dL_isGiven_115 (by decide) ?_
    exact q_zret2 hC hW hr hlk0 rfl ⟨rfl, _, hA, ⟨rfl, rfl⟩, hG⟩ dL_isGiven_119
  ·
    refine lv_iload_n hx hb dL_isGiven_15 rfl (lv_at hl 3 rfl) ?_
    refine lv_iload_n hx hb dL_isGiven_16 rfl (lv_at hl 1 rfl) ?_
    refine q_ine (tgt := 24) hx hb dL_isGiven_17 (by decide) (by first | omega | exact Nat.lt_of_le_of_lt (hw3 _) (by decide) | exact Nat.lt_of_lt_of_le (hr4 _) (by decide) | exact Nat.lt_of_le_of_lt (bp_le _) (by decide) | assumption) (fun c_17 => ?_) (fun c_17 => absurd c_17 (by decide))
    refine lv_iload_n hx hb dL_isGiven_24 rfl (lv_at hl 1 rfl) ?_
    refine q_ic 1 hx hb dL_isGiven_25 (by decide) ?_
    refine q_cne (tgt := 34) hx hb dL_isGiven_26 (by decide) (by first | omega | exact Nat.lt_of_le_of_lt (hw3 _) (by decide) | exact Nat.lt_of_lt_of_le (hr4 _) (by decide) | exact Nat.lt_of_le_of_lt (bp_le _) (by decide) | assumption) (by first | omega | exact Nat.lt_of_le_of_lt (hw3 _) (by decide) | exact Nat.lt_of_lt_of_le (hr4 _) (by decide) | exact Nat.lt_of_le_of_lt (bp_le _) (by decide) | assumption) (fun c_26 => ?_) (fun c_26 => absurd c_26 (by decide))
    refine q_ic 4 hx hb dL_isGiven_34 (by decide) ?_
    refine q_cge (tgt := 42) hx hb dL_isGiven_35 (by decide) (by first | omega | exact Nat.lt_of_le_of_lt (hw3 _) (by decide) | exact Nat.lt_of_lt_of_le (hr4 _) (by decide) | exact Nat.lt_of_le_of_lt (bp_le _) (by decide) | assumption) (by first | omega | exact Nat.lt_of_le_of_lt (hw3 _) (by decide) | exact Nat.lt_of_lt_of_le (hr4 _) (by decide) | exact Nat.lt_of_le_of_lt (bp_le _) (by decide) | assumption) (fun c_35 => ?_) (fun c_35 => ?_)
    ·
      refine q_ic 0 hx hb dL_isGiven_42 (by decide) ?_
      refine lv_istore (lv' := [(5, .int (nI 0)), (0, .ref (ad 0)), (1, .int (nI 2)), (2, .int (nI (c))), (3, .int (nI (t))), (4, .int (nI (v)))]) hx hb dL_isGiven_43 hl (by decide) rfl (fun ls hl => ?_)
      refine lv_iload_n hx hb dL_isGiven_45 rfl (lv_at hl 2 rfl) ?_
      refine q_ic 1 hx hb dL_isGiven_46 (by decide) ?_
      refine q_cne (tgt := 74) hx hb dL_isGiven_47 (by decide) (by first | omega | exact Nat.lt_of_le_of_lt (hw3 _) (by decide) | exact Nat.lt_of_lt_of_le (hr4 _) (by decide) | exact Nat.lt_of_le_of_lt (bp_le _) (by decide) | assumption) (by first | omega | exact Nat.lt_of_le_of_lt (hw3 _) (by decide) | exact Nat.lt_of_lt_of_le (hr4 _) (by decide) | exact Nat.lt_of_le_of_lt (bp_le _) (by decide) | assumption) (fun c_47 => ?_) (fun c_47 => absurd c_47 (by decide))
      refine q_ic 0 hx hb dL_isGiven_74 (by decide) ?_
      refine lv_istore (lv' := [(6, .int (nI 0)), (5, .int (nI 0)), (0, .ref (ad 0)), (1, .int (nI 2)), (2, .int (nI (c))), (3, .int (nI (t))), (4, .int (nI (v)))]) hx hb dL_isGiven_75 hl (by decide) rfl (fun ls hl => ?_)
      refine lv_aload_n hx hb dL_isGiven_77 rfl (lv_at hl 2 rfl) ?_
      refine lv_iload_n hx hb dL_isGiven_78 rfl (lv_at hl 3 rfl) ?_
      refine lv_iload_n hx hb dL_isGiven_79 rfl (lv_at hl 4 rfl) ?_
      refine lv_iload_n hx hb dL_isGiven_80 rfl (lv_at hl 5 rfl) ?_
      refine q_kI2 (q_rV (As := [.int (nI 2), .int (nI (c)), .int (nI (t))]) (rest := []) (x := 0) hC hW mw_X5_weight gw_156 (k_weight l G n ad s.heap.size I L R (nI 2) (nI c) (nI t) w K ro hc hi sv pn ch hA) (by omega) (ct_o5 kd_0) rfl ⟨rfl, rfl⟩ ⟨Nat.le_of_ble_eq_true rfl, Nat.le_of_ble_eq_true rfl⟩ ⟨(Nat.le_of_ble_eq_true rfl), (Nat.le_of_ble_eq_true rfl)⟩ hl.1 rfl rfl (Nat.le_of_ble_eq_true rfl) dL_isGiven_81) hW (fun r_81 n_81 ad_81 I_81 L_81 R_81 H locs hp hW => ?_)
      obtain ⟨hz, rfl, rfl, hA, hF⟩ := PR_use hp
      have hG := fr_t hF hG
      have hz : r_81 = (-1) := hz.trans (aW_n (by decide) (ix2n (by omega) (by omega) hno))
      subst hz
      refine lv_istore (lv' := [(7, .int (-1)), (6, .int (nI 0)), (5, .int (nI 0)), (0, .ref (ad 0)), (1, .int (nI 2)), (2, .int (nI (c))), (3, .int (nI (t))), (4, .int (nI (v)))]) hx hb dL_isGiven_84 hl (by decide) rfl (fun ls hl => ?_)
      refine lv_aload_n hx hb dL_isGiven_86 rfl (lv_at hl 3 rfl) ?_
      refine lv_iload_n hx hb dL_isGiven_87 rfl (lv_at hl 4 rfl) ?_
      refine lv_iload_n hx hb dL_isGiven_88 rfl (lv_at hl 5 rfl) ?_
      refine lv_iload_n hx hb dL_isGiven_89 rfl (lv_at hl 6 rfl) ?_
      refine lv_iload hx hb dL_isGiven_90 (lv_at hl 7 rfl) ?_
      refine q_kI2 (q_rV (As := [.int (nI 2), .int (nI (c)), .int (nI (t)), .int (nI (v))]) (rest := []) (x := 0) hC hW mw_X5_give gw_370 (k_give l G n ad H.size I_81 L_81 R_81 (nI 2) (nI c) (nI t) (nI v) w K ro hc hi sv pn ch hA) (by omega) (ct_o5 kd_0) rfl ⟨rfl, rfl⟩ ⟨Nat.le_of_ble_eq_true rfl, Nat.le_of_ble_eq_true rfl⟩ ⟨(Nat.le_of_ble_eq_true rfl), (Nat.le_of_ble_eq_true rfl)⟩ hl.1 rfl rfl (Nat.le_of_ble_eq_true rfl) dL_isGiven_92) hW (fun r_92 n_92 ad_92 I_92 L_92 R_92 H locs hp hW => ?_)
      obtain ⟨hz, rfl, rfl, hA, hF⟩ := PR_use hp
      have hft : aGive ((w, K, ro), hc, hi, sv, pn, ch) (nI 2) (nI c) (nI t) (nI v) = ((-1), ((w, K, ro), hc, hi, sv, pn, ch)) := aG_n (by decide) hv4 (ix2n (by omega) (by omega) hno)
      rw [hft] at hz hA
      have hA : InvA n I_92 L_92 R_92 ((w, K, ro), hc, hi, sv, pn, ch) := hA
      have hz : r_92 = (-1) := hz
      subst hz
      have hG := fr_t hF hG
      refine lv_istore (lv' := [(8, .int (-1)), (7, .int (-1)), (6, .int (nI 0)), (5, .int (nI 0)), (0, .ref (ad 0)), (1, .int (nI 2)), (2, .int (nI (c))), (3, .int (nI (t))), (4, .int (nI (v)))]) hx hb dL_isGiven_95 hl (by decide) rfl (fun ls hl => ?_)
      refine lv_iload hx hb dL_isGiven_97 (lv_at hl 3 rfl) ?_
      refine q_ine (tgt := 120) hx hb dL_isGiven_99 (by decide) (by first | omega | exact Nat.lt_of_le_of_lt (hw3 _) (by decide) | exact Nat.lt_of_lt_of_le (hr4 _) (by decide) | exact Nat.lt_of_le_of_lt (bp_le _) (by decide) | assumption) (fun c_99 => absurd c_99 (by decide)) (fun c_99 => ?_)
      refine lv_iload hx hb dL_isGiven_102 (lv_at hl 1 rfl) ?_
      refine lv_iconst (v := -1) hx hb dL_isGiven_104 (by decide) ?_
      refine lv_icmp_ne (tgt := 118) hx hb dL_isGiven_105 (by decide) (fun c_105 => absurd c_105 (by decide)) (fun c_105 => ?_)
      refine lv_iload hx hb dL_isGiven_108 (lv_at hl 0 rfl) ?_
      refine lv_iconst (v := -1) hx hb dL_isGiven_110 (by decide) ?_
      refine lv_icmp_ne (tgt := 118) hx hb dL_isGiven_111 (by decide) (fun c_111 => absurd c_111 (by decide)) (fun c_111 => ?_)
      refine q_ic 1 hx hb dL_isGiven_114 (by decide) ?_
      refine lv_goto (tgt := 119) hx hb dL_isGiven_115 (by decide) ?_
      exact q_zret2 hC hW hr hlk0 rfl ⟨rfl, _, hA, ⟨rfl, rfl⟩, hG⟩ dL_isGiven_119
    ·
      exact absurd ⟨c_12, c_35⟩ hno
theorem k_isGiven2 (l : Launch) (G : Gx) (n : Nat) (ad : Nat → Nat) (sz : Nat) (I : Ic) (L : Lc) (R : Rc) (c t v : Nat) (w : Nat → Nat) (K : Nat) (ro : Nat → Nat) (hc : Nat) (hi : Nat → CM) (sv : Nat → Option CM) (pn : Nat) (ch : Nat → Nat) (hA : InvA n I L R ((w, K, ro), hc, hi, sv, pn, ch)) (hc6 : c < 6) (ht6 : t < 6) (hv4 : v < 4) : Met l yL_isGiven (Cond.code yL_isGiven cL_isGiven 9 (some .boolean) :: GW) ({ frames := 7, cells := 0, slots := 0, locals := 252 } : Room) (qPre G n ad sz I L R [.ref (ad 0), .int (nI 2), .int (nI (c)), .int (nI (t)), .int (nI (v))]) (qI2 G (qA n ad sz) (fun z u => z = nI 1 ∧ GvP n ad I L R u)) 0 0 (qA n ad sz) := by
  by_cases hno : c < 4 ∧ t < 4
  · exact k_isGiven2a l G n ad sz I L R c t v w K ro hc hi sv pn ch hA hno hv4
  · exact k_isGiven2b l G n ad sz I L R c t v w K ro hc hi sv pn ch hA hc6 ht6 hno hv4
