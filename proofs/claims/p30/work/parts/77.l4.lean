set_option maxRecDepth 100000 in
set_option maxHeartbeats 4000000 in
theorem k_isBehind (l : Launch) (G : Gx) (n : Nat) (ad : Nat → Nat) (sz : Nat) (I : Ic) (L : Lc) (R : Rc) (q : Nat) (w : Nat → Nat) (K : Nat) (ro : Nat → Nat) (hc : Nat) (hi : Nat → CM) (sv : Nat → Option CM) (pn : Nat) (ch : Nat → Nat) (hA : InvA n I L R ((w, K, ro), hc, hi, sv, pn, ch)) (hq0 : 0 < q) (hq : q < Cx' w K ro K 6) : Met l yL_isBehind (Cond.code yL_isBehind cL_isBehind 3 (some .boolean) :: GW) ({ frames := 7, cells := 0, slots := 0, locals := 252 } : Room) (qPre G n ad sz I L R [.ref (ad 0), .int (nI (q))]) (qI2 G (qA n ad sz) (fun z u => PR n ad I L R (nI 1, ((w, K, ro), hc, hi, sv, pn, ch)) z u)) 0 0 (qA n ad sz) := by
  refine q_met (by decide) (Nat.le_of_ble_eq_true rfl) ?_
  intro p_ e_ s m_ below meth c_ hC hr hlk0 hin hsz hW ls hl
  subst hsz
  have hC : CallFix p_ m_ c_ cL_isBehind 3 s ([.ref (ad 0), .int (nI (q))] : List Value).toArray GW "CoinRowsLaw" := hC
  have hx := hC.1
  have hb := hC.2.1
  have hw : Wok w := hA.2.2.1.2.2.2.2.1
  have hw3 : ∀ i, w i ≤ 3 := hw.1
  have hk6 : K ≤ 6 := hA.2.2.1.2.2.2.1
  have hr4 : ∀ j, ro j < 4 := hA.2.2.1.2.2.2.2.2
  have hn : 71 ≤ n := hA.1
  have hT63 : Sx' w K ro K 6 < 2 ^ 63 := Nat.lt_of_le_of_lt (Sx_b hw K K 6 hk6) (by decide)
  have hC31 : Cx' w K ro K 6 < 2 ^ 31 := Nat.lt_of_le_of_lt (Cx_b hw K K 6 hk6) (by decide)
  have hG : Fr7 I I L L R R := fr_0
  obtain ⟨k0, hk1, hk2, hk3, hk4⟩ := way_lxN (r := ro) hw hk6 hq0 hq
  have hwk := way_okN (r := ro) hw hk6 hq
  have hwp := way_okN (r := ro) hw hk6 (show q - 1 < Cx' w K ro K 6 by omega)
  have hlen : (wayN w ro K q).length ≤ 18 := Nat.le_trans hwk.2.2.2.1 (by rw [mu_0]; omega)
  have hlenp : (wayN w ro K (q - 1)).length ≤ 18 := Nat.le_trans hwp.2.2.2.1 (by rw [mu_0]; omega)
  have hl : lv_has ls 3 [(0, .ref (ad 0)), (1, .int (nI (q)))] := hl
  refine q_ic 0 hx hb dL_isBehind_0 (by decide) ?_
  refine lv_istore_n (lv' := [(2, .int (nI 0)), (0, .ref (ad 0)), (1, .int (nI (q)))]) hx hb dL_isBehind_1 rfl hl (by decide) rfl (fun ls hl => ?_)
  have lp_2 : ∀ (fu_2 : Nat) (k : Nat) (J2 : Ic) (M2 : Lc) (Q2 : Rc), k0 - k < fu_2 → (k ≤ k0) → (InvA n J2 M2 Q2 ((w, K, ro), hc, hi, sv, pn, ch)) → (Fr7 I J2 L M2 R Q2) → ∀ (H : Heap) (locs : List Loc), Wd G n ad J2 M2 Q2 (qA n ad s.heap.size) s.heap H locs s → ∀ ls : Array Slot, lv_has ls 3 [(0, .ref (ad 0)), (1, .int (nI (q))), (2, .int (nI (k)))] → W p_ l e_ ({ frames := 7, cells := 0, slots := 0, locals := 252 } : Room) s m_ ([.ref (ad 0), .int (nI (q))] : List Value).toArray below meth c_ H locs 0 0 (MQ below (qI2 G (qA n ad s.heap.size) (fun z u => PR n ad I L R (nI 1, ((w, K, ro), hc, hi, sv, pn, ch)) z u)) ([.ref (ad 0), .int (nI (q))] : List Value).toArray s 0 0 (qA n ad s.heap.size)) (F0 m_ 2 ls []) := by
    intro fu_2
    induction fu_2 with
    | zero =>
      intro k J2 M2 Q2 hm; exact absurd hm (Nat.not_lt_zero _)
    | succ fu_2 ih_2 =>
      intro k J2 M2 Q2 hm_2 hkk hA hG H locs hW ls hl
      have hb1 := hwk.2.2.1 k (by omega)
      have hb2 := hwp.2.2.1 k (by omega)
      refine lv_aload_n hx hb dL_isBehind_2 rfl (lv_at hl 0 rfl) ?_
      refine lv_iload_n hx hb dL_isBehind_3 rfl (lv_at hl 1 rfl) ?_
      refine lv_iload_n hx hb dL_isBehind_4 rfl (lv_at hl 2 rfl) ?_
      refine q_kI2 (q_rV (As := [.int (nI (q)), .int (nI (k))]) (rest := []) (x := 0) hC hW mw_X5_way gw_331 (k_way l G n ad H.size J2 M2 Q2 (nI q) (nI k) w K ro hc hi sv pn ch hA) (by omega) (ct_o5 kd_0) rfl ⟨rfl, rfl⟩ ⟨Nat.le_of_ble_eq_true rfl, Nat.le_of_ble_eq_true rfl⟩ ⟨(Nat.le_of_ble_eq_true rfl), (Nat.le_of_ble_eq_true rfl)⟩ hl.1 rfl rfl (Nat.le_of_ble_eq_true rfl) dL_isBehind_5) hW (fun r_5 n_5 ad_5 I_5 L_5 R_5 H locs hp hW => ?_)
      obtain ⟨hz, rfl, rfl, hA, hF⟩ := PR_use hp
      have hG := fr_t hF hG
      have hz : r_5 = nI ((wayN w ro K q).getD k 0) := hz.trans ((aWy1 (m := (w, K, ro)) (q := q) (x := nI k) (show q < Cx' w K ro K 6 by first | omega | assumption) hC31 (nI_nn (by omega))).trans (tS1 (l := wayN w ro K q) (k := k) (by omega) hlen))
      subst hz
      refine lv_aload_n hx hb dL_isBehind_8 rfl (lv_at hl 0 rfl) ?_
      refine lv_iload_n hx hb dL_isBehind_9 rfl (lv_at hl 1 rfl) ?_
      refine q_ic 1 hx hb dL_isBehind_10 (by decide) ?_
      refine q_isub hx hb dL_isBehind_11 (by omega) ?_
      refine lv_iload_n hx hb dL_isBehind_12 rfl (lv_at hl 2 rfl) ?_
      refine q_kI2 (q_rV (As := [.int (nI (q - 1)), .int (nI (k))]) (rest := [.int (nI ((wayN w ro K q).getD k 0))]) (x := 0) hC hW mw_X5_way gw_331 (k_way l G n ad H.size I_5 L_5 R_5 (nI (q - 1)) (nI k) w K ro hc hi sv pn ch hA) (by omega) (ct_o5 kd_0) rfl ⟨rfl, rfl⟩ ⟨Nat.le_of_ble_eq_true rfl, Nat.le_of_ble_eq_true rfl⟩ ⟨(Nat.le_of_ble_eq_true rfl), (Nat.le_of_ble_eq_true rfl)⟩ hl.1 rfl rfl (Nat.le_of_ble_eq_true rfl) dL_isBehind_13) hW (fun r_13 n_13 ad_13 I_13 L_13 R_13 H locs hp hW => ?_)
      obtain ⟨hz, rfl, rfl, hA, hF⟩ := PR_use hp
      have hG := fr_t hF hG
      have hz : r_13 = nI ((wayN w ro K (q - 1)).getD k 0) := hz.trans ((aWy1 (m := (w, K, ro)) (q := q - 1) (x := nI k) (show q - 1 < Cx' w K ro K 6 by first | omega | assumption) hC31 (nI_nn (by omega))).trans (tS1 (l := wayN w ro K (q - 1)) (k := k) (by omega) hlenp))
      subst hz
      refine q_cne (tgt := 34) hx hb dL_isBehind_16 (by decide) (by first | omega | exact Nat.lt_of_le_of_lt (hw3 _) (by decide) | exact Nat.lt_of_lt_of_le (hr4 _) (by decide) | exact Nat.lt_of_le_of_lt (bp_le _) (by decide) | assumption) (by first | omega | exact Nat.lt_of_le_of_lt (hw3 _) (by decide) | exact Nat.lt_of_lt_of_le (hr4 _) (by decide) | exact Nat.lt_of_le_of_lt (bp_le _) (by decide) | assumption) (fun c_16 => ?_) (fun c_16 => ?_)
      ·
        have ek : k = k0 := Nat.le_antisymm hkk (Nat.le_of_not_lt (fun z => c_16 (hk3 k z).symm))
        refine lv_aload_n hx hb dL_isBehind_34 rfl (lv_at hl 0 rfl) ?_
        refine lv_iload_n hx hb dL_isBehind_35 rfl (lv_at hl 1 rfl) ?_
        refine q_ic 1 hx hb dL_isBehind_36 (by decide) ?_
        refine q_isub hx hb dL_isBehind_37 (by omega) ?_
        refine lv_iload_n hx hb dL_isBehind_38 rfl (lv_at hl 2 rfl) ?_
        refine q_kI2 (q_rV (As := [.int (nI (q - 1)), .int (nI (k))]) (rest := []) (x := 0) hC hW mw_X5_way gw_331 (k_way l G n ad H.size I_13 L_13 R_13 (nI (q - 1)) (nI k) w K ro hc hi sv pn ch hA) (by omega) (ct_o5 kd_0) rfl ⟨rfl, rfl⟩ ⟨Nat.le_of_ble_eq_true rfl, Nat.le_of_ble_eq_true rfl⟩ ⟨(Nat.le_of_ble_eq_true rfl), (Nat.le_of_ble_eq_true rfl)⟩ hl.1 rfl rfl (Nat.le_of_ble_eq_true rfl) dL_isBehind_39) hW (fun r_39 n_39 ad_39 I_39 L_39 R_39 H locs hp hW => ?_)
        obtain ⟨hz, rfl, rfl, hA, hF⟩ := PR_use hp
        have hG := fr_t hF hG
        have hz : r_39 = nI ((wayN w ro K (q - 1)).getD k 0) := hz.trans ((aWy1 (m := (w, K, ro)) (q := q - 1) (x := nI k) (show q - 1 < Cx' w K ro K 6 by first | omega | assumption) hC31 (nI_nn (by omega))).trans (tS1 (l := wayN w ro K (q - 1)) (k := k) (by omega) hlenp))
        subst hz
        refine lv_if_lt (tgt := 66) hx hb dL_isBehind_42 (by decide) (fun c_42 => absurd c_42 (nI_pos (by first | omega | assumption))) (fun c_42 => ?_)
        refine lv_aload_n hx hb dL_isBehind_45 rfl (lv_at hl 0 rfl) ?_
        refine lv_iload_n hx hb dL_isBehind_46 rfl (lv_at hl 1 rfl) ?_
        refine lv_iload_n hx hb dL_isBehind_47 rfl (lv_at hl 2 rfl) ?_
        refine q_kI2 (q_rV (As := [.int (nI (q)), .int (nI (k))]) (rest := []) (x := 0) hC hW mw_X5_way gw_331 (k_way l G n ad H.size I_39 L_39 R_39 (nI q) (nI k) w K ro hc hi sv pn ch hA) (by omega) (ct_o5 kd_0) rfl ⟨rfl, rfl⟩ ⟨Nat.le_of_ble_eq_true rfl, Nat.le_of_ble_eq_true rfl⟩ ⟨(Nat.le_of_ble_eq_true rfl), (Nat.le_of_ble_eq_true rfl)⟩ hl.1 rfl rfl (Nat.le_of_ble_eq_true rfl) dL_isBehind_48) hW (fun r_48 n_48 ad_48 I_48 L_48 R_48 H locs hp hW => ?_)
        obtain ⟨hz, rfl, rfl, hA, hF⟩ := PR_use hp
        have hG := fr_t hF hG
        have hz : r_48 = nI ((wayN w ro K q).getD k 0) := hz.trans ((aWy1 (m := (w, K, ro)) (q := q) (x := nI k) (show q < Cx' w K ro K 6 by first | omega | assumption) hC31 (nI_nn (by omega))).trans (tS1 (l := wayN w ro K q) (k := k) (by omega) hlen))
        subst hz
        refine lv_aload_n hx hb dL_isBehind_51 rfl (lv_at hl 0 rfl) ?_
        refine lv_iload_n hx hb dL_isBehind_52 rfl (lv_at hl 1 rfl) ?_
        refine q_ic 1 hx hb dL_isBehind_53 (by decide) ?_
        refine q_isub hx hb dL_isBehind_54 (by omega) ?_
        refine lv_iload_n hx hb dL_isBehind_55 rfl (lv_at hl 2 rfl) ?_
        refine q_kI2 (q_rV (As := [.int (nI (q - 1)), .int (nI (k))]) (rest := [.int (nI ((wayN w ro K q).getD k 0))]) (x := 0) hC hW mw_X5_way gw_331 (k_way l G n ad H.size I_48 L_48 R_48 (nI (q - 1)) (nI k) w K ro hc hi sv pn ch hA) (by omega) (ct_o5 kd_0) rfl ⟨rfl, rfl⟩ ⟨Nat.le_of_ble_eq_true rfl, Nat.le_of_ble_eq_true rfl⟩ ⟨(Nat.le_of_ble_eq_true rfl), (Nat.le_of_ble_eq_true rfl)⟩ hl.1 rfl rfl (Nat.le_of_ble_eq_true rfl) dL_isBehind_56) hW (fun r_56 n_56 ad_56 I_56 L_56 R_56 H locs hp hW => ?_)
        obtain ⟨hz, rfl, rfl, hA, hF⟩ := PR_use hp
        have hG := fr_t hF hG
        have hz : r_56 = nI ((wayN w ro K (q - 1)).getD k 0) := hz.trans ((aWy1 (m := (w, K, ro)) (q := q - 1) (x := nI k) (show q - 1 < Cx' w K ro K 6 by first | omega | assumption) hC31 (nI_nn (by omega))).trans (tS1 (l := wayN w ro K (q - 1)) (k := k) (by omega) hlenp))
        subst hz
        refine q_cle (tgt := 66) hx hb dL_isBehind_59 (by decide) (by first | omega | exact Nat.lt_of_le_of_lt (hw3 _) (by decide) | exact Nat.lt_of_lt_of_le (hr4 _) (by decide) | exact Nat.lt_of_le_of_lt (bp_le _) (by decide) | assumption) (by first | omega | exact Nat.lt_of_le_of_lt (hw3 _) (by decide) | exact Nat.lt_of_lt_of_le (hr4 _) (by decide) | exact Nat.lt_of_le_of_lt (bp_le _) (by decide) | assumption) (fun c_59 => absurd c_59 (by have h9 := hk4; rw [← ek] at h9; omega)) (fun c_59 => ?_)
        refine q_ic 1 hx hb dL_isBehind_62 (by decide) ?_
        refine lv_goto (tgt := 67) hx hb dL_isBehind_63 (by decide) ?_
        exact q_zret2 hC hW hr hlk0 rfl (PR_q hA hG) dL_isBehind_67
      ·
        have hlt : k < k0 := Nat.lt_of_le_of_ne hkk (fun z => by rw [← z] at hk4; omega)
        refine lv_aload_n hx hb dL_isBehind_19 rfl (lv_at hl 0 rfl) ?_
        refine lv_iload_n hx hb dL_isBehind_20 rfl (lv_at hl 1 rfl) ?_
        refine lv_iload_n hx hb dL_isBehind_21 rfl (lv_at hl 2 rfl) ?_
        refine q_kI2 (q_rV (As := [.int (nI (q)), .int (nI (k))]) (rest := []) (x := 0) hC hW mw_X5_way gw_331 (k_way l G n ad H.size I_13 L_13 R_13 (nI q) (nI k) w K ro hc hi sv pn ch hA) (by omega) (ct_o5 kd_0) rfl ⟨rfl, rfl⟩ ⟨Nat.le_of_ble_eq_true rfl, Nat.le_of_ble_eq_true rfl⟩ ⟨(Nat.le_of_ble_eq_true rfl), (Nat.le_of_ble_eq_true rfl)⟩ hl.1 rfl rfl (Nat.le_of_ble_eq_true rfl) dL_isBehind_22) hW (fun r_22 n_22 ad_22 I_22 L_22 R_22 H locs hp hW => ?_)
        obtain ⟨hz, rfl, rfl, hA, hF⟩ := PR_use hp
        have hG := fr_t hF hG
        have hz : r_22 = nI ((wayN w ro K q).getD k 0) := hz.trans ((aWy1 (m := (w, K, ro)) (q := q) (x := nI k) (show q < Cx' w K ro K 6 by first | omega | assumption) hC31 (nI_nn (by omega))).trans (tS1 (l := wayN w ro K q) (k := k) (by omega) hlen))
        subst hz
        refine lv_if_lt (tgt := 34) hx hb dL_isBehind_25 (by decide) (fun c_25 => absurd c_25 (nI_pos (by first | omega | assumption))) (fun c_25 => ?_)
        refine q_iinc (z2 := k + 1) (lv' := [(2, .int (nI (k + 1))), (0, .ref (ad 0)), (1, .int (nI (q)))]) hx hb dL_isBehind_28 hl (k := 2) rfl (inc_up _ 1 (by decide)) (by decide) rfl (fun ls hl => ?_)
        refine lv_goto (tgt := 2) hx hb dL_isBehind_31 (by decide) ?_
        exact ih_2 (k + 1) I_22 L_22 R_22 (by omega) hlt hA hG _ _ hW _ (lv_sub hl [1, 2, 0] rfl)
  exact lp_2 (k0 + 1) 0 I L R (by omega) (Nat.zero_le _) hA hG _ _ hW _ (lv_sub hl [1, 2, 0] rfl)
set_option maxRecDepth 100000 in
set_option maxHeartbeats 4000000 in
theorem k_areWays0 (l : Launch) (G : Gx) (n : Nat) (ad : Nat → Nat) (sz : Nat) (I : Ic) (L : Lc) (R : Rc)  (w : Nat → Nat) (K : Nat) (ro : Nat → Nat) (hc : Nat) (hi : Nat → CM) (sv : Nat → Option CM) (pn : Nat) (ch : Nat → Nat) (hA : InvA n I L R ((w, K, ro), hc, hi, sv, pn, ch)) (hT : aTot (w, K, ro) = 0) : Met l yL_areWays (Cond.code yL_areWays cL_areWays 17 (some .boolean) :: GW) ({ frames := 8, cells := 0, slots := 0, locals := 288 } : Room) (qPre G n ad sz I L R [.ref (ad 0), .long (lN (Sx' w K ro K 6))]) (qI2 G (qA n ad sz) (fun z u => PR n ad I L R (nI 1, ((w, K, ro), hc, hi, sv, pn, ch)) z u)) 0 0 (qA n ad sz) := by
  refine q_met (by decide) (Nat.le_of_ble_eq_true rfl) ?_
  intro p_ e_ s m_ below meth c_ hC hr hlk0 hin hsz hW ls hl
  subst hsz
  have hC : CallFix p_ m_ c_ cL_areWays 17 s ([.ref (ad 0), .long (lN (Sx' w K ro K 6))] : List Value).toArray GW "CoinRowsLaw" := hC
  have hx := hC.1
  have hb := hC.2.1
  have hw : Wok w := hA.2.2.1.2.2.2.2.1
  have hw3 : ∀ i, w i ≤ 3 := hw.1
  have hk6 : K ≤ 6 := hA.2.2.1.2.2.2.1
  have hr4 : ∀ j, ro j < 4 := hA.2.2.1.2.2.2.2.2
  have hn : 71 ≤ n := hA.1
  have hT63 : Sx' w K ro K 6 < 2 ^ 63 := Nat.lt_of_le_of_lt (Sx_b hw K K 6 hk6) (by decide)
  have hC31 : Cx' w K ro K 6 < 2 ^ 31 := Nat.lt_of_le_of_lt (Cx_b hw K K 6 hk6) (by decide)
  have hG : Fr7 I I L L R R := fr_0
  have hTz : Sx' w K ro K 6 = 0 := hT
  have hCz : Cx' w K ro K 6 = 0 := Nat.eq_zero_of_not_pos (fun z => by have := (SC_pos w K ro K 6).mpr z; omega)
  have hl : lv_has ls 17 [(0, .ref (ad 0)), (1, .long (lN (Sx' w K ro K 6)))] := hl
  refine lv_aload_n hx hb dL_areWays_0 rfl (lv_at hl 0 rfl) ?_
  refine q_kI2 (q_rV (As := []) (rest := []) (x := 0) hC hW mw_X5_ways gw_251 (k_ways l G n ad s.heap.size I L R w K ro hc hi sv pn ch hA) (by omega) (ct_o5 kd_0) rfl ⟨rfl, rfl⟩ ⟨Nat.le_of_ble_eq_true rfl, Nat.le_of_ble_eq_true rfl⟩ ⟨(Nat.le_of_ble_eq_true rfl), (Nat.le_of_ble_eq_true rfl)⟩ hl.1 rfl rfl (Nat.le_of_ble_eq_true rfl) dL_areWays_1) hW (fun r_1 n_1 ad_1 I_1 L_1 R_1 H locs hp hW => ?_)
  obtain ⟨hz, rfl, rfl, hA, hF⟩ := PR_use hp
  have hG := fr_t hF hG
  have hz : r_1 = nI (Cx' w K ro K 6) := hz
  subst hz
  refine lv_istore_n (lv' := [(3, .int (nI (Cx' w K ro K 6))), (0, .ref (ad 0)), (1, .long (lN (Sx' w K ro K 6)))]) hx hb dL_areWays_4 rfl hl (by decide) rfl (fun ls hl => ?_)
  refine lv_aload_n hx hb dL_areWays_5 rfl (lv_at hl 1 rfl) ?_
  refine q_ic 0 hx hb dL_areWays_6 (by decide) ?_
  refine q_kI2 (q_rV (As := [.int (nI 0)]) (rest := []) (x := 0) hC hW mw_X5_count gw_172 (k_count l G n ad H.size I_1 L_1 R_1 (nI 0) w K ro hc hi sv pn ch hA) (by omega) (ct_o5 kd_0) rfl ⟨rfl, rfl⟩ ⟨Nat.le_of_ble_eq_true rfl, Nat.le_of_ble_eq_true rfl⟩ ⟨(Nat.le_of_ble_eq_true rfl), (Nat.le_of_ble_eq_true rfl)⟩ hl.1 rfl rfl (Nat.le_of_ble_eq_true rfl) dL_areWays_7) hW (fun r_7 n_7 ad_7 I_7 L_7 R_7 H locs hp hW => ?_)
  obtain ⟨hz, rfl, rfl, hA, hF⟩ := PR_use hp
  have hG := fr_t hF hG
  have hz : r_7 = nI K := hz.trans (aC0 (S := ((w, K, ro), hc, hi, sv, pn, ch)))
  subst hz
  refine lv_istore (lv' := [(4, .int (nI (K))), (3, .int (nI (Cx' w K ro K 6))), (0, .ref (ad 0)), (1, .long (lN (Sx' w K ro K 6)))]) hx hb dL_areWays_10 hl (by decide) rfl (fun ls hl => ?_)
  refine lv_iload_n hx hb dL_areWays_12 rfl (lv_at hl 1 rfl) ?_
  refine q_bp 24 hx hb dL_areWays_13 (by decide) ?_
  refine q_cle (tgt := 46) hx hb dL_areWays_15 (by decide) (by first | omega | exact Nat.lt_of_le_of_lt (hw3 _) (by decide) | exact Nat.lt_of_lt_of_le (hr4 _) (by decide) | exact Nat.lt_of_le_of_lt (bp_le _) (by decide) | assumption) (by first | omega | exact Nat.lt_of_le_of_lt (hw3 _) (by decide) | exact Nat.lt_of_lt_of_le (hr4 _) (by decide) | exact Nat.lt_of_le_of_lt (bp_le _) (by decide) | assumption) (fun c_15 => ?_) (fun c_15 => absurd c_15 (by omega))
  refine q_lc 0 hx hb dL_areWays_46 (by decide) ?_
  refine lv_lstore (lv' := [(5, .long (lN 0)), (4, .int (nI (K))), (3, .int (nI (Cx' w K ro K 6))), (0, .ref (ad 0)), (1, .long (lN (Sx' w K ro K 6)))]) hx hb dL_areWays_47 hl (by decide) rfl (fun ls hl => ?_)
  refine q_lc 0 hx hb dL_areWays_49 (by decide) ?_
  refine lv_lstore (lv' := [(7, .long (lN 0)), (5, .long (lN 0)), (4, .int (nI (K))), (3, .int (nI (Cx' w K ro K 6))), (0, .ref (ad 0)), (1, .long (lN (Sx' w K ro K 6)))]) hx hb dL_areWays_50 hl (by decide) rfl (fun ls hl => ?_)
  refine lv_bipush (v := -5) hx hb dL_areWays_52 (by decide) ?_
  refine lv_istore (lv' := [(9, .int (-5)), (7, .long (lN 0)), (5, .long (lN 0)), (4, .int (nI (K))), (3, .int (nI (Cx' w K ro K 6))), (0, .ref (ad 0)), (1, .long (lN (Sx' w K ro K 6)))]) hx hb dL_areWays_54 hl (by decide) rfl (fun ls hl => ?_)
  refine q_ic 0 hx hb dL_areWays_56 (by decide) ?_
  refine lv_istore (lv' := [(10, .int (nI 0)), (9, .int (-5)), (7, .long (lN 0)), (5, .long (lN 0)), (4, .int (nI (K))), (3, .int (nI (Cx' w K ro K 6))), (0, .ref (ad 0)), (1, .long (lN (Sx' w K ro K 6)))]) hx hb dL_areWays_57 hl (by decide) rfl (fun ls hl => ?_)
  refine lv_iload hx hb dL_areWays_59 (lv_at hl 0 rfl) ?_
  refine lv_iload_n hx hb dL_areWays_61 rfl (lv_at hl 5 rfl) ?_
  refine q_cge (tgt := 312) hx hb dL_areWays_62 (by decide) (by first | omega | exact Nat.lt_of_le_of_lt (hw3 _) (by decide) | exact Nat.lt_of_lt_of_le (hr4 _) (by decide) | exact Nat.lt_of_le_of_lt (bp_le _) (by decide) | assumption) (by first | omega | exact Nat.lt_of_le_of_lt (hw3 _) (by decide) | exact Nat.lt_of_lt_of_le (hr4 _) (by decide) | exact Nat.lt_of_le_of_lt (bp_le _) (by decide) | assumption) (fun c_62 => ?_) (fun c_62 => absurd c_62 (by omega))
  refine lv_aload_n hx hb dL_areWays_312 rfl (lv_at hl 6 rfl) ?_
  refine lv_bipush (v := -2) hx hb dL_areWays_313 (by decide) ?_
  refine q_kI2 (q_rV (As := [.int (-2)]) (rest := []) (x := 0) hC hW mw_X5_likeliest gw_342 (k_likeliest l G n ad H.size I_7 L_7 R_7 ((-2)) w K ro hc hi sv pn ch hA) (by omega) (ct_o5 kd_0) rfl ⟨rfl, rfl⟩ ⟨Nat.le_of_ble_eq_true rfl, Nat.le_of_ble_eq_true rfl⟩ ⟨(Nat.le_of_ble_eq_true rfl), (Nat.le_of_ble_eq_true rfl)⟩ hl.1 rfl rfl (Nat.le_of_ble_eq_true rfl) dL_areWays_315) hW (fun r_315 n_315 ad_315 I_315 L_315 R_315 H locs hp hW => ?_)
  obtain ⟨hz, rfl, rfl, hA, hF⟩ := PR_use hp
  have hG := fr_t hF hG
  have hz : r_315 = (-5) := hz.trans (aLk0 (m := (w, K, ro)) hT)
  subst hz
  refine lv_iload hx hb dL_areWays_318 (lv_at hl 1 rfl) ?_
  refine lv_icmp_ne (tgt := 342) hx hb dL_areWays_320 (by decide) (fun c_320 => absurd c_320 (by decide)) (fun c_320 => ?_)
  refine lv_lload hx hb dL_areWays_323 (lv_at hl 3 rfl) ?_
  refine lv_lload_n hx hb dL_areWays_325 rfl (lv_at hl 7 rfl) ?_
  refine q_lcmp hx hb dL_areWays_326 ?_
  refine q_Lne (tgt := 342) hx hb dL_areWays_327 (by decide) (fun c_327 => absurd (congrArg lN hTz.symm) c_327) (fun c_327 => ?_)
  refine lv_aload_n hx hb dL_areWays_330 rfl (lv_at hl 6 rfl) ?_
  refine lv_iload_n hx hb dL_areWays_331 rfl (lv_at hl 5 rfl) ?_
  refine q_kL2 (q_rV (As := [.int (nI (Cx' w K ro K 6))]) (rest := []) (x := 0) hC hW mw_X5_weighs gw_315 (k_weighs l G n ad H.size I_315 L_315 R_315 (nI (Cx' w K ro K 6)) w K ro hc hi sv pn ch hA) (by omega) (ct_o5 kd_0) rfl ⟨rfl, rfl⟩ ⟨Nat.le_of_ble_eq_true rfl, Nat.le_of_ble_eq_true rfl⟩ ⟨(Nat.le_of_ble_eq_true rfl), (Nat.le_of_ble_eq_true rfl)⟩ hl.1 rfl rfl (Nat.le_of_ble_eq_true rfl) dL_areWays_332) hW (fun r_332 n_332 ad_332 I_332 L_332 R_332 H locs hp hW => ?_)
  obtain ⟨hz, rfl, rfl, hA, hF⟩ := PRl_use hp
  have hG := fr_t hF hG
  have hz : r_332 = (-1) := hz.trans (aWen (m := (w, K, ro)) (q := Cx' w K ro K 6) (Nat.le_refl _) hC31)
  subst hz
  refine lv_ldc2 (v := -1) hx hb hC.2.2.2.1 (hC.2.2.2.2 _ gw_292) dL_areWays_335 ?_
  refine W.lcmp hx hb dL_areWays_338 ?_
  refine q_Leq (tgt := 344) hx hb dL_areWays_339 (by decide) (fun c_339 => ?_) (fun c_339 => absurd rfl c_339)
  refine lv_iconst (v := -1) hx hb dL_areWays_344 (by decide) ?_
  refine lv_istore (lv' := [(10, .int (-1)), (9, .int (-5)), (7, .long (lN 0)), (5, .long (lN 0)), (4, .int (nI (K))), (3, .int (nI (Cx' w K ro K 6))), (0, .ref (ad 0)), (1, .long (lN (Sx' w K ro K 6)))]) hx hb dL_areWays_345 hl (by decide) rfl (fun ls hl => ?_)
  refine lv_iload hx hb dL_areWays_347 (lv_at hl 1 rfl) ?_
  refine lv_if_lt (tgt := 389) hx hb dL_areWays_349 (by decide) (fun c_349 => ?_) (fun c_349 => absurd c_349 (by decide))
  refine lv_aload_n hx hb dL_areWays_389 rfl (lv_at hl 6 rfl) ?_
  refine q_kI2 (q_rV (As := []) (rest := []) (x := 0) hC hW mw_X5_shareBits gw_354 (k_shareBits l G n ad H.size I_332 L_332 R_332 w K ro hc hi sv pn ch hA) (by omega) (ct_o5 kd_0) rfl ⟨rfl, rfl⟩ ⟨Nat.le_of_ble_eq_true rfl, Nat.le_of_ble_eq_true rfl⟩ ⟨(Nat.le_of_ble_eq_true rfl), (Nat.le_of_ble_eq_true rfl)⟩ hl.1 rfl rfl (Nat.le_of_ble_eq_true rfl) dL_areWays_390) hW (fun r_390 n_390 ad_390 I_390 L_390 R_390 H locs hp hW => ?_)
  obtain ⟨hz, rfl, rfl, hA, hF⟩ := PR_use hp
  have hG := fr_t hF hG
  have hz : r_390 = (-5) := hz.trans (if_pos hT)
  subst hz
  refine lv_bipush (v := -5) hx hb dL_areWays_393 (by decide) ?_
  refine lv_icmp_ne (tgt := 402) hx hb dL_areWays_395 (by decide) (fun c_395 => absurd c_395 (by decide)) (fun c_395 => ?_)
  refine q_ic 1 hx hb dL_areWays_398 (by decide) ?_
  refine lv_goto (tgt := 403) hx hb dL_areWays_399 (by decide) ?_
  refine lv_lload_n hx hb dL_areWays_403 rfl (lv_at hl 7 rfl) ?_
  refine q_lc 0 hx hb dL_areWays_404 (by decide) ?_
  refine q_lcmp hx hb dL_areWays_405 ?_
  refine q_lne (tgt := 413) hx hb dL_areWays_406 (by decide) hT63 (by decide) (fun c_406 => absurd c_406 (by omega)) (fun c_406 => ?_)
  refine q_ic 1 hx hb dL_areWays_409 (by decide) ?_
  refine lv_goto (tgt := 414) hx hb dL_areWays_410 (by decide) ?_
  refine q_cne (tgt := 435) hx hb dL_areWays_414 (by decide) (by first | omega | exact Nat.lt_of_le_of_lt (hw3 _) (by decide) | exact Nat.lt_of_lt_of_le (hr4 _) (by decide) | exact Nat.lt_of_le_of_lt (bp_le _) (by decide) | assumption) (by first | omega | exact Nat.lt_of_le_of_lt (hw3 _) (by decide) | exact Nat.lt_of_lt_of_le (hr4 _) (by decide) | exact Nat.lt_of_le_of_lt (bp_le _) (by decide) | assumption) (fun c_414 => absurd c_414 (by decide)) (fun c_414 => ?_)
  refine lv_iload_n hx hb dL_areWays_417 rfl (lv_at hl 5 rfl) ?_
  refine q_ic 1 hx hb dL_areWays_418 (by decide) ?_
  refine q_cne (tgt := 431) hx hb dL_areWays_419 (by decide) (by first | omega | exact Nat.lt_of_le_of_lt (hw3 _) (by decide) | exact Nat.lt_of_lt_of_le (hr4 _) (by decide) | exact Nat.lt_of_le_of_lt (bp_le _) (by decide) | assumption) (by first | omega | exact Nat.lt_of_le_of_lt (hw3 _) (by decide) | exact Nat.lt_of_lt_of_le (hr4 _) (by decide) | exact Nat.lt_of_le_of_lt (bp_le _) (by decide) | assumption) (fun c_419 => ?_) (fun c_419 => absurd c_419 (by omega))
  refine q_ic 1 hx hb dL_areWays_431 (by decide) ?_
  refine lv_goto (tgt := 436) hx hb dL_areWays_432 (by decide) ?_
  exact q_zret2 hC hW hr hlk0 rfl (PR_q hA hG) dL_areWays_436
set_option maxRecDepth 100000 in
set_option maxHeartbeats 4000000 in
theorem k_areWays1 (l : Launch) (G : Gx) (n : Nat) (ad : Nat → Nat) (sz : Nat) (I : Ic) (L : Lc) (R : Rc)  (w : Nat → Nat) (K : Nat) (ro : Nat → Nat) (hc : Nat) (hi : Nat → CM) (sv : Nat → Option CM) (pn : Nat) (ch : Nat → Nat) (hA : InvA n I L R ((w, K, ro), hc, hi, sv, pn, ch)) (hT0 : 0 < Sx' w K ro K 6) : Met l yL_areWays (Cond.code yL_areWays cL_areWays 17 (some .boolean) :: GW) ({ frames := 8, cells := 0, slots := 0, locals := 288 } : Room) (qPre G n ad sz I L R [.ref (ad 0), .long (lN (Sx' w K ro K 6))]) (qI2 G (qA n ad sz) (fun z u => PR n ad I L R (nI 1, ((w, K, ro), hc, hi, sv, pn, ch)) z u)) 0 0 (qA n ad sz) := by
  refine q_met (by decide) (Nat.le_of_ble_eq_true rfl) ?_
  intro p_ e_ s m_ below meth c_ hC hr hlk0 hin hsz hW ls hl
  subst hsz
  have hC : CallFix p_ m_ c_ cL_areWays 17 s ([.ref (ad 0), .long (lN (Sx' w K ro K 6))] : List Value).toArray GW "CoinRowsLaw" := hC
  have hx := hC.1
  have hb := hC.2.1
  have hw : Wok w := hA.2.2.1.2.2.2.2.1
  have hw3 : ∀ i, w i ≤ 3 := hw.1
  have hk6 : K ≤ 6 := hA.2.2.1.2.2.2.1
  have hr4 : ∀ j, ro j < 4 := hA.2.2.1.2.2.2.2.2
  have hn : 71 ≤ n := hA.1
  have hT63 : Sx' w K ro K 6 < 2 ^ 63 := Nat.lt_of_le_of_lt (Sx_b hw K K 6 hk6) (by decide)
  have hC31 : Cx' w K ro K 6 < 2 ^ 31 := Nat.lt_of_le_of_lt (Cx_b hw K K 6 hk6) (by decide)
  have hG : Fr7 I I L L R R := fr_0
  have hT : ¬ aTot (w, K, ro) = 0 := Nat.ne_of_gt hT0
  have hC0 : 0 < Cx' w K ro K 6 := (SC_pos w K ro K 6).mp hT0
  have hrk : rkN w ro K 0 6 (wayM w ro K) < Cx' w K ro K 6 := rk_lt hw hk6 hC0
  have hrkl : (wayN w ro K (rkN w ro K 0 6 (wayM w ro K))).length ≤ 18 := Nat.le_trans (way_okN (r := ro) hw hk6 hrk).2.2.2.1 (by rw [mu_0]; omega)
  have hb31 : rkN w ro K 0 6 (wayM w ro K) < 2 ^ 31 := by omega
  have hM0 : 0 < Mx' w K ro K 6 := (MC_pos w K ro K 6).mpr hC0
  have hMS : Mx' w K ro K 6 ≤ Sx' w K ro K 6 := AxM_le K ro K 6
  have hSb : Sx' w K ro K 6 < 2 ^ 56 := Nat.lt_of_le_of_lt (Sx_b hw K K 6 hk6) (by decide)
  have hl : lv_has ls 17 [(0, .ref (ad 0)), (1, .long (lN (Sx' w K ro K 6)))] := hl
  refine lv_aload_n hx hb dL_areWays_0 rfl (lv_at hl 0 rfl) ?_
  refine q_kI2 (q_rV (As := []) (rest := []) (x := 0) hC hW mw_X5_ways gw_251 (k_ways l G n ad s.heap.size I L R w K ro hc hi sv pn ch hA) (by omega) (ct_o5 kd_0) rfl ⟨rfl, rfl⟩ ⟨Nat.le_of_ble_eq_true rfl, Nat.le_of_ble_eq_true rfl⟩ ⟨(Nat.le_of_ble_eq_true rfl), (Nat.le_of_ble_eq_true rfl)⟩ hl.1 rfl rfl (Nat.le_of_ble_eq_true rfl) dL_areWays_1) hW (fun r_1 n_1 ad_1 I_1 L_1 R_1 H locs hp hW => ?_)
  obtain ⟨hz, rfl, rfl, hA, hF⟩ := PR_use hp
  have hG := fr_t hF hG
  have hz : r_1 = nI (Cx' w K ro K 6) := hz
  subst hz
  refine lv_istore_n (lv' := [(3, .int (nI (Cx' w K ro K 6))), (0, .ref (ad 0)), (1, .long (lN (Sx' w K ro K 6)))]) hx hb dL_areWays_4 rfl hl (by decide) rfl (fun ls hl => ?_)
  refine lv_aload_n hx hb dL_areWays_5 rfl (lv_at hl 1 rfl) ?_
  refine q_ic 0 hx hb dL_areWays_6 (by decide) ?_
  refine q_kI2 (q_rV (As := [.int (nI 0)]) (rest := []) (x := 0) hC hW mw_X5_count gw_172 (k_count l G n ad H.size I_1 L_1 R_1 (nI 0) w K ro hc hi sv pn ch hA) (by omega) (ct_o5 kd_0) rfl ⟨rfl, rfl⟩ ⟨Nat.le_of_ble_eq_true rfl, Nat.le_of_ble_eq_true rfl⟩ ⟨(Nat.le_of_ble_eq_true rfl), (Nat.le_of_ble_eq_true rfl)⟩ hl.1 rfl rfl (Nat.le_of_ble_eq_true rfl) dL_areWays_7) hW (fun r_7 n_7 ad_7 I_7 L_7 R_7 H locs hp hW => ?_)
  obtain ⟨hz, rfl, rfl, hA, hF⟩ := PR_use hp
  have hG := fr_t hF hG
  have hz : r_7 = nI K := hz.trans (aC0 (S := ((w, K, ro), hc, hi, sv, pn, ch)))
  subst hz
  refine lv_istore (lv' := [(4, .int (nI (K))), (3, .int (nI (Cx' w K ro K 6))), (0, .ref (ad 0)), (1, .long (lN (Sx' w K ro K 6)))]) hx hb dL_areWays_10 hl (by decide) rfl (fun ls hl => ?_)
  refine lv_iload_n hx hb dL_areWays_12 rfl (lv_at hl 1 rfl) ?_
  refine q_bp 24 hx hb dL_areWays_13 (by decide) ?_
  refine q_cle (tgt := 46) hx hb dL_areWays_15 (by decide) (by first | omega | exact Nat.lt_of_le_of_lt (hw3 _) (by decide) | exact Nat.lt_of_lt_of_le (hr4 _) (by decide) | exact Nat.lt_of_le_of_lt (bp_le _) (by decide) | assumption) (by first | omega | exact Nat.lt_of_le_of_lt (hw3 _) (by decide) | exact Nat.lt_of_lt_of_le (hr4 _) (by decide) | exact Nat.lt_of_le_of_lt (bp_le _) (by decide) | assumption) (fun c_15 => ?_) (fun c_15 => ?_)
  ·
    refine q_lc 0 hx hb dL_areWays_46 (by decide) ?_
    refine lv_lstore (lv' := [(5, .long (lN 0)), (4, .int (nI (K))), (3, .int (nI (Cx' w K ro K 6))), (0, .ref (ad 0)), (1, .long (lN (Sx' w K ro K 6)))]) hx hb dL_areWays_47 hl (by decide) rfl (fun ls hl => ?_)
    refine q_lc 0 hx hb dL_areWays_49 (by decide) ?_
    refine lv_lstore (lv' := [(7, .long (lN 0)), (5, .long (lN 0)), (4, .int (nI (K))), (3, .int (nI (Cx' w K ro K 6))), (0, .ref (ad 0)), (1, .long (lN (Sx' w K ro K 6)))]) hx hb dL_areWays_50 hl (by decide) rfl (fun ls hl => ?_)
    refine lv_bipush (v := -5) hx hb dL_areWays_52 (by decide) ?_
    refine lv_istore (lv' := [(9, .int (-5)), (7, .long (lN 0)), (5, .long (lN 0)), (4, .int (nI (K))), (3, .int (nI (Cx' w K ro K 6))), (0, .ref (ad 0)), (1, .long (lN (Sx' w K ro K 6)))]) hx hb dL_areWays_54 hl (by decide) rfl (fun ls hl => ?_)
    refine q_ic 0 hx hb dL_areWays_56 (by decide) ?_
    have hl : lv_has ls 17 [(9, .int (bsW w ro K 0)), (7, .long (lN ((mostN (fun q => prN w ro K 0 6 (wayN w ro K q)) 0).2))), (5, .long (lN (fb_sm (fun q => prN w ro K 0 6 (wayN w ro K q)) 0))), (4, .int (nI (K))), (3, .int (nI (Cx' w K ro K 6))), (0, .ref (ad 0)), (1, .long (lN (Sx' w K ro K 6)))] := by rw [show fb_sm (fun q => prN w ro K 0 6 (wayN w ro K q)) 0 = 0 from rfl, show (mostN (fun q => prN w ro K 0 6 (wayN w ro K q)) 0).2 = 0 from rfl, show bsW w ro K 0 = -5 from rfl]; exact hl
    refine lv_istore (lv' := [(10, .int (nI 0)), (9, .int (bsW w ro K 0)), (7, .long (lN ((mostN (fun q => prN w ro K 0 6 (wayN w ro K q)) 0).2))), (5, .long (lN (fb_sm (fun q => prN w ro K 0 6 (wayN w ro K q)) 0))), (4, .int (nI (K))), (3, .int (nI (Cx' w K ro K 6))), (0, .ref (ad 0)), (1, .long (lN (Sx' w K ro K 6)))]) hx hb dL_areWays_57 hl (by decide) rfl (fun ls hl => ?_)
    have lp_59 : ∀ (fu_59 : Nat) (q : Nat) (J59 : Ic) (M59 : Lc) (Q59 : Rc), Cx' w K ro K 6 - q < fu_59 → (q ≤ Cx' w K ro K 6) → (InvA n J59 M59 Q59 ((w, K, ro), hc, hi, sv, pn, ch)) → (Fr7 I J59 L M59 R Q59) → ∀ (H : Heap) (locs : List Loc), Wd G n ad J59 M59 Q59 (qA n ad s.heap.size) s.heap H locs s → ∀ ls : Array Slot, lv_has ls 17 [(0, .ref (ad 0)), (1, .long (lN (Sx' w K ro K 6))), (3, .int (nI (Cx' w K ro K 6))), (4, .int (nI (K))), (5, .long (lN (fb_sm (fun q => prN w ro K 0 6 (wayN w ro K q)) q))), (7, .long (lN ((mostN (fun q => prN w ro K 0 6 (wayN w ro K q)) q).2))), (9, .int (bsW w ro K q)), (10, .int (nI (q)))] → W p_ l e_ ({ frames := 8, cells := 0, slots := 0, locals := 288 } : Room) s m_ ([.ref (ad 0), .long (lN (Sx' w K ro K 6))] : List Value).toArray below meth c_ H locs 0 0 (MQ below (qI2 G (qA n ad s.heap.size) (fun z u => PR n ad I L R (nI 1, ((w, K, ro), hc, hi, sv, pn, ch)) z u)) ([.ref (ad 0), .long (lN (Sx' w K ro K 6))] : List Value).toArray s 0 0 (qA n ad s.heap.size)) (F0 m_ 59 ls []) := by
      intro fu_59
      induction fu_59 with
      | zero =>
        intro q J59 M59 Q59 hm; exact absurd hm (Nat.not_lt_zero _)
      | succ fu_59 ih_59 =>
        intro q J59 M59 Q59 hm_59 hqC hA hG H locs hW ls hl
        refine lv_iload hx hb dL_areWays_59 (lv_at hl 7 rfl) ?_
        refine lv_iload_n hx hb dL_areWays_61 rfl (lv_at hl 2 rfl) ?_
        refine q_cge (tgt := 312) hx hb dL_areWays_62 (by decide) (by first | omega | exact Nat.lt_of_le_of_lt (hw3 _) (by decide) | exact Nat.lt_of_lt_of_le (hr4 _) (by decide) | exact Nat.lt_of_le_of_lt (bp_le _) (by decide) | assumption) (by first | omega | exact Nat.lt_of_le_of_lt (hw3 _) (by decide) | exact Nat.lt_of_lt_of_le (hr4 _) (by decide) | exact Nat.lt_of_le_of_lt (bp_le _) (by decide) | assumption) (fun c_62 => ?_) (fun c_62 => ?_)
        ·
          have eqC : q = Cx' w K ro K 6 := by omega
          have hl : lv_has ls 17 [(0, .ref (ad 0)), (1, .long (lN (Sx' w K ro K 6))), (3, .int (nI (Cx' w K ro K 6))), (4, .int (nI (K))), (5, .long (lN (fb_sm (fun q => prN w ro K 0 6 (wayN w ro K q)) q))), (7, .long (lN ((mostN (fun q => prN w ro K 0 6 (wayN w ro K q)) q).2))), (9, .int (nI (rkN w ro K 0 6 (wayM w ro K)))), (10, .int (nI (q)))] := by rw [show nI (rkN w ro K 0 6 (wayM w ro K)) = bsW w ro K q from by rw [eqC]; exact (bs_e hw hk6 hC0).symm]; exact hl
          refine lv_aload_n hx hb dL_areWays_312 rfl (lv_at hl 0 rfl) ?_
          refine lv_bipush (v := -2) hx hb dL_areWays_313 (by decide) ?_
          refine q_kI2 (q_rV (As := [.int (-2)]) (rest := []) (x := 0) hC hW mw_X5_likeliest gw_342 (k_likeliest l G n ad H.size J59 M59 Q59 ((-2)) w K ro hc hi sv pn ch hA) (by omega) (ct_o5 kd_0) rfl ⟨rfl, rfl⟩ ⟨Nat.le_of_ble_eq_true rfl, Nat.le_of_ble_eq_true rfl⟩ ⟨(Nat.le_of_ble_eq_true rfl), (Nat.le_of_ble_eq_true rfl)⟩ hl.1 rfl rfl (Nat.le_of_ble_eq_true rfl) dL_areWays_315) hW (fun r_315 n_315 ad_315 I_315 L_315 R_315 H locs hp hW => ?_)
          obtain ⟨hz, rfl, rfl, hA, hF⟩ := PR_use hp
          have hG := fr_t hF hG
          have hz : r_315 = nI (rkN w ro K 0 6 (wayM w ro K)) := hz.trans (aLk2 (m := (w, K, ro)) hT)
          subst hz
          refine lv_iload hx hb dL_areWays_318 (lv_at hl 6 rfl) ?_
          refine q_cne (tgt := 342) hx hb dL_areWays_320 (by decide) (by first | omega | exact Nat.lt_of_le_of_lt (hw3 _) (by decide) | exact Nat.lt_of_lt_of_le (hr4 _) (by decide) | exact Nat.lt_of_le_of_lt (bp_le _) (by decide) | assumption) (by first | omega | exact Nat.lt_of_le_of_lt (hw3 _) (by decide) | exact Nat.lt_of_lt_of_le (hr4 _) (by decide) | exact Nat.lt_of_le_of_lt (bp_le _) (by decide) | assumption) (fun c_320 => absurd rfl c_320) (fun c_320 => ?_)
          refine lv_lload hx hb dL_areWays_323 (lv_at hl 4 rfl) ?_
          refine lv_lload_n hx hb dL_areWays_325 rfl (lv_at hl 1 rfl) ?_
          refine q_lcmp hx hb dL_areWays_326 ?_
          refine q_Lne (tgt := 342) hx hb dL_areWays_327 (by decide) (fun c_327 => absurd (congrArg lN (show fb_sm (fun q => prN w ro K 0 6 (wayN w ro K q)) q = Sx' w K ro K 6 from by rw [eqC]; exact (way_T hw).resolve_right (by omega))) c_327) (fun c_327 => ?_)
          refine lv_aload_n hx hb dL_areWays_330 rfl (lv_at hl 0 rfl) ?_
          refine lv_iload_n hx hb dL_areWays_331 rfl (lv_at hl 2 rfl) ?_
          refine q_kL2 (q_rV (As := [.int (nI (Cx' w K ro K 6))]) (rest := []) (x := 0) hC hW mw_X5_weighs gw_315 (k_weighs l G n ad H.size I_315 L_315 R_315 (nI (Cx' w K ro K 6)) w K ro hc hi sv pn ch hA) (by omega) (ct_o5 kd_0) rfl ⟨rfl, rfl⟩ ⟨Nat.le_of_ble_eq_true rfl, Nat.le_of_ble_eq_true rfl⟩ ⟨(Nat.le_of_ble_eq_true rfl), (Nat.le_of_ble_eq_true rfl)⟩ hl.1 rfl rfl (Nat.le_of_ble_eq_true rfl) dL_areWays_332) hW (fun r_332 n_332 ad_332 I_332 L_332 R_332 H locs hp hW => ?_)
          obtain ⟨hz, rfl, rfl, hA, hF⟩ := PRl_use hp
          have hG := fr_t hF hG
          have hz : r_332 = (-1) := hz.trans (aWen (m := (w, K, ro)) (q := Cx' w K ro K 6) (Nat.le_refl _) hC31)
          subst hz
          refine lv_ldc2 (v := -1) hx hb hC.2.2.2.1 (hC.2.2.2.2 _ gw_292) dL_areWays_335 ?_
          refine W.lcmp hx hb dL_areWays_338 ?_
          refine q_Leq (tgt := 344) hx hb dL_areWays_339 (by decide) (fun c_339 => ?_) (fun c_339 => absurd rfl c_339)
          refine lv_iconst (v := -1) hx hb dL_areWays_344 (by decide) ?_
          refine q_top (v2 := .int (nI 0 - nI 1)) (congrArg Value.int (show (-1 : Int32) = nI 0 - nI 1 by decide)) ?_
          refine lv_istore (lv' := [(10, .int (nI 0 - nI 1)), (0, .ref (ad 0)), (1, .long (lN (Sx' w K ro K 6))), (3, .int (nI (Cx' w K ro K 6))), (4, .int (nI (K))), (5, .long (lN (fb_sm (fun q => prN w ro K 0 6 (wayN w ro K q)) q))), (7, .long (lN ((mostN (fun q => prN w ro K 0 6 (wayN w ro K q)) q).2))), (9, .int (nI (rkN w ro K 0 6 (wayM w ro K))))]) hx hb dL_areWays_345 hl (by decide) rfl (fun ls hl => ?_)
          have lp_347 : ∀ (fu_347 : Nat) (j : Nat) (J347 : Ic) (M347 : Lc) (Q347 : Rc), (wayN w ro K (rkN w ro K 0 6 (wayM w ro K))).length + 3 - j < fu_347 → (j ≤ (wayN w ro K (rkN w ro K 0 6 (wayM w ro K))).length + 2) → (InvA n J347 M347 Q347 ((w, K, ro), hc, hi, sv, pn, ch)) → (Fr7 I J347 L M347 R Q347) → ∀ (H : Heap) (locs : List Loc), Wd G n ad J347 M347 Q347 (qA n ad s.heap.size) s.heap H locs s → ∀ ls : Array Slot, lv_has ls 17 [(0, .ref (ad 0)), (1, .long (lN (Sx' w K ro K 6))), (3, .int (nI (Cx' w K ro K 6))), (4, .int (nI (K))), (9, .int (nI (rkN w ro K 0 6 (wayM w ro K)))), (10, .int (nI j - nI 1))] → W p_ l e_ ({ frames := 8, cells := 0, slots := 0, locals := 288 } : Room) s m_ ([.ref (ad 0), .long (lN (Sx' w K ro K 6))] : List Value).toArray below meth c_ H locs 0 0 (MQ below (qI2 G (qA n ad s.heap.size) (fun z u => PR n ad I L R (nI 1, ((w, K, ro), hc, hi, sv, pn, ch)) z u)) ([.ref (ad 0), .long (lN (Sx' w K ro K 6))] : List Value).toArray s 0 0 (qA n ad s.heap.size)) (F0 m_ 347 ls []) := by
            intro fu_347
            induction fu_347 with
            | zero =>
              intro j J347 M347 Q347 hm; exact absurd hm (Nat.not_lt_zero _)
            | succ fu_347 ih_347 =>
              intro j J347 M347 Q347 hm_347 hj2 hA hG H locs hW ls hl
              refine lv_iload hx hb dL_areWays_347 (lv_at hl 4 rfl) ?_
              refine lv_if_lt (tgt := 389) hx hb dL_areWays_349 (by decide) (fun c_349 => absurd c_349 (nI_pos (by first | omega | assumption))) (fun c_349 => ?_)
              refine lv_iload hx hb dL_areWays_352 (lv_at hl 5 rfl) ?_
              refine lv_aload_n hx hb dL_areWays_354 rfl (lv_at hl 0 rfl) ?_
              refine lv_iload hx hb dL_areWays_355 (lv_at hl 4 rfl) ?_
              refine lv_iconst (v := -1) hx hb dL_areWays_357 (by decide) ?_
              refine q_kI2 (q_rV (As := [.int (nI (rkN w ro K 0 6 (wayM w ro K))), .int (-1)]) (rest := [.int (nI j - nI 1)]) (x := 0) hC hW mw_X5_way gw_331 (k_way l G n ad H.size J347 M347 Q347 (nI (rkN w ro K 0 6 (wayM w ro K))) ((-1)) w K ro hc hi sv pn ch hA) (by omega) (ct_o5 kd_0) rfl ⟨rfl, rfl⟩ ⟨Nat.le_of_ble_eq_true rfl, Nat.le_of_ble_eq_true rfl⟩ ⟨(Nat.le_of_ble_eq_true rfl), (Nat.le_of_ble_eq_true rfl)⟩ hl.1 rfl rfl (Nat.le_of_ble_eq_true rfl) dL_areWays_358) hW (fun r_358 n_358 ad_358 I_358 L_358 R_358 H locs hp hW => ?_)
              obtain ⟨hz, rfl, rfl, hA, hF⟩ := PR_use hp
              have hG := fr_t hF hG
              have hz : r_358 = nI ((wayN w ro K (rkN w ro K 0 6 (wayM w ro K))).length) := hz.trans ((aWy1 (m := (w, K, ro)) (q := rkN w ro K 0 6 (wayM w ro K)) (x := -1) (show rkN w ro K 0 6 (wayM w ro K) < Cx' w K ro K 6 by first | omega | assumption) hC31 (by decide)).trans (tell_m _))
              subst hz
              refine lv_icmp_gt (tgt := 389) hx hb dL_areWays_361 (by decide) (fun c_361 => ?_) (fun c_361 => ?_)
              ·
                refine lv_aload_n hx hb dL_areWays_389 rfl (lv_at hl 0 rfl) ?_
                refine q_kI2 (q_rV (As := []) (rest := []) (x := 0) hC hW mw_X5_shareBits gw_354 (k_shareBits l G n ad H.size I_358 L_358 R_358 w K ro hc hi sv pn ch hA) (by omega) (ct_o5 kd_0) rfl ⟨rfl, rfl⟩ ⟨Nat.le_of_ble_eq_true rfl, Nat.le_of_ble_eq_true rfl⟩ ⟨(Nat.le_of_ble_eq_true rfl), (Nat.le_of_ble_eq_true rfl)⟩ hl.1 rfl rfl (Nat.le_of_ble_eq_true rfl) dL_areWays_390) hW (fun r_390 n_390 ad_390 I_390 L_390 R_390 H locs hp hW => ?_)
                obtain ⟨hz, rfl, rfl, hA, hF⟩ := PR_use hp
                have hG := fr_t hF hG
                have hz : r_390 = shI (Mx' w K ro K 6) (Sx' w K ro K 6) := hz.trans (if_neg hT)
                subst hz
                refine lv_bipush (v := -5) hx hb dL_areWays_393 (by decide) ?_
                refine lv_icmp_ne (tgt := 402) hx hb dL_areWays_395 (by decide) (fun c_395 => ?_) (fun c_395 => absurd c_395 (sh_ne hM0 hMS hSb))
                refine q_ic 0 hx hb dL_areWays_402 (by decide) ?_
                refine lv_lload_n hx hb dL_areWays_403 rfl (lv_at hl 1 rfl) ?_
                refine q_lc 0 hx hb dL_areWays_404 (by decide) ?_
                refine q_lcmp hx hb dL_areWays_405 ?_
                refine q_lne (tgt := 413) hx hb dL_areWays_406 (by decide) hT63 (by decide) (fun c_406 => ?_) (fun c_406 => absurd c_406 (by omega))
                refine q_ic 0 hx hb dL_areWays_413 (by decide) ?_
                refine q_cne (tgt := 435) hx hb dL_areWays_414 (by decide) (by first | omega | exact Nat.lt_of_le_of_lt (hw3 _) (by decide) | exact Nat.lt_of_lt_of_le (hr4 _) (by decide) | exact Nat.lt_of_le_of_lt (bp_le _) (by decide) | assumption) (by first | omega | exact Nat.lt_of_le_of_lt (hw3 _) (by decide) | exact Nat.lt_of_lt_of_le (hr4 _) (by decide) | exact Nat.lt_of_le_of_lt (bp_le _) (by decide) | assumption) (fun c_414 => absurd c_414 (by decide)) (fun c_414 => ?_)
                refine lv_iload_n hx hb dL_areWays_417 rfl (lv_at hl 2 rfl) ?_
                refine q_ic 1 hx hb dL_areWays_418 (by decide) ?_
                refine q_cne (tgt := 431) hx hb dL_areWays_419 (by decide) (by first | omega | exact Nat.lt_of_le_of_lt (hw3 _) (by decide) | exact Nat.lt_of_lt_of_le (hr4 _) (by decide) | exact Nat.lt_of_le_of_lt (bp_le _) (by decide) | assumption) (by first | omega | exact Nat.lt_of_le_of_lt (hw3 _) (by decide) | exact Nat.lt_of_lt_of_le (hr4 _) (by decide) | exact Nat.lt_of_le_of_lt (bp_le _) (by decide) | assumption) (fun c_419 => ?_) (fun c_419 => ?_)
                ·
                  refine q_ic 1 hx hb dL_areWays_431 (by decide) ?_
                  refine lv_goto (tgt := 436) hx hb dL_areWays_432 (by decide) ?_
                  exact q_zret2 hC hW hr hlk0 rfl (PR_q hA hG) dL_areWays_436
                ·
                  refine lv_aload_n hx hb dL_areWays_422 rfl (lv_at hl 0 rfl) ?_
                  refine q_kI2 (q_rV (As := []) (rest := []) (x := 0) hC hW mw_X5_shareBits gw_354 (k_shareBits l G n ad H.size I_390 L_390 R_390 w K ro hc hi sv pn ch hA) (by omega) (ct_o5 kd_0) rfl ⟨rfl, rfl⟩ ⟨Nat.le_of_ble_eq_true rfl, Nat.le_of_ble_eq_true rfl⟩ ⟨(Nat.le_of_ble_eq_true rfl), (Nat.le_of_ble_eq_true rfl)⟩ hl.1 rfl rfl (Nat.le_of_ble_eq_true rfl) dL_areWays_423) hW (fun r_423 n_423 ad_423 I_423 L_423 R_423 H locs hp hW => ?_)
                  obtain ⟨hz, rfl, rfl, hA, hF⟩ := PR_use hp
                  have hG := fr_t hF hG
                  have hz : r_423 = shI (Mx' w K ro K 6) (Sx' w K ro K 6) := hz.trans (if_neg hT)
                  subst hz
                  refine lv_ldc (v := 1065353216) hx hb hC.2.2.2.1 (hC.2.2.2.2 _ gw_366) dL_areWays_426 ?_
                  refine lv_icmp_ne (tgt := 435) hx hb dL_areWays_428 (by decide) (fun c_428 => absurd (by rw [one_way hw hk6 c_419]; exact sh_I1 hT0 hSb) c_428) (fun c_428 => ?_)
                  refine q_ic 1 hx hb dL_areWays_431 (by decide) ?_
                  refine lv_goto (tgt := 436) hx hb dL_areWays_432 (by decide) ?_
                  exact q_zret2 hC hW hr hlk0 rfl (PR_q hA hG) dL_areWays_436
              ·
                have hjl : j ≤ (wayN w ro K (rkN w ro K 0 6 (wayM w ro K))).length + 1 := jm_le (by omega) (by omega) c_361
                refine lv_aload_n hx hb dL_areWays_364 rfl (lv_at hl 0 rfl) ?_
                refine lv_iload hx hb dL_areWays_365 (lv_at hl 5 rfl) ?_
                refine q_kI2 (q_rV (As := [.int (nI j - nI 1)]) (rest := []) (x := 0) hC hW mw_X5_likeliest gw_342 (k_likeliest l G n ad H.size I_358 L_358 R_358 (nI j - nI 1) w K ro hc hi sv pn ch hA) (by omega) (ct_o5 kd_0) rfl ⟨rfl, rfl⟩ ⟨Nat.le_of_ble_eq_true rfl, Nat.le_of_ble_eq_true rfl⟩ ⟨(Nat.le_of_ble_eq_true rfl), (Nat.le_of_ble_eq_true rfl)⟩ hl.1 rfl rfl (Nat.le_of_ble_eq_true rfl) dL_areWays_367) hW (fun r_367 n_367 ad_367 I_367 L_367 R_367 H locs hp hW => ?_)
                obtain ⟨hz, rfl, rfl, hA, hF⟩ := PR_use hp
                have hG := fr_t hF hG
                have hz : r_367 = tellS (wayN w ro K (rkN w ro K 0 6 (wayM w ro K))) (nI j - nI 1) := hz.trans (aLk (m := (w, K, ro)) (x := nI j - nI 1) hT (jm_2 (by omega)))
                subst hz
                refine lv_aload_n hx hb dL_areWays_370 rfl (lv_at hl 0 rfl) ?_
                refine lv_iload hx hb dL_areWays_371 (lv_at hl 4 rfl) ?_
                refine lv_iload hx hb dL_areWays_373 (lv_at hl 5 rfl) ?_
                refine q_kI2 (q_rV (As := [.int (nI (rkN w ro K 0 6 (wayM w ro K))), .int (nI j - nI 1)]) (rest := [.int (tellS (wayN w ro K (rkN w ro K 0 6 (wayM w ro K))) (nI j - nI 1))]) (x := 0) hC hW mw_X5_way gw_331 (k_way l G n ad H.size I_367 L_367 R_367 (nI (rkN w ro K 0 6 (wayM w ro K))) (nI j - nI 1) w K ro hc hi sv pn ch hA) (by omega) (ct_o5 kd_0) rfl ⟨rfl, rfl⟩ ⟨Nat.le_of_ble_eq_true rfl, Nat.le_of_ble_eq_true rfl⟩ ⟨(Nat.le_of_ble_eq_true rfl), (Nat.le_of_ble_eq_true rfl)⟩ hl.1 rfl rfl (Nat.le_of_ble_eq_true rfl) dL_areWays_375) hW (fun r_375 n_375 ad_375 I_375 L_375 R_375 H locs hp hW => ?_)
                obtain ⟨hz, rfl, rfl, hA, hF⟩ := PR_use hp
                have hG := fr_t hF hG
                have hz : r_375 = tellS (wayN w ro K (rkN w ro K 0 6 (wayM w ro K))) (nI j - nI 1) := hz.trans (aWy1 (m := (w, K, ro)) (q := rkN w ro K 0 6 (wayM w ro K)) (x := nI j - nI 1) (show rkN w ro K 0 6 (wayM w ro K) < Cx' w K ro K 6 by first | omega | assumption) hC31 (jm_1 (by omega)))
                subst hz
                refine lv_icmp_eq (tgt := 383) hx hb dL_areWays_378 (by decide) (fun c_378 => ?_) (fun c_378 => absurd rfl c_378)
                refine lv_iinc (v := (nI j - nI 1) + Int32.ofInt (1)) (lv' := [(10, .int ((nI j - nI 1) + Int32.ofInt (1))), (0, .ref (ad 0)), (1, .long (lN (Sx' w K ro K 6))), (3, .int (nI (Cx' w K ro K 6))), (4, .int (nI (K))), (9, .int (nI (rkN w ro K 0 6 (wayM w ro K))))]) hx hb dL_areWays_383 hl (k := 5) rfl rfl (by decide) rfl (fun ls hl => ?_)
                have hl : lv_has ls 17 [(10, .int (nI (j + 1) - nI 1)), (0, .ref (ad 0)), (1, .long (lN (Sx' w K ro K 6))), (3, .int (nI (Cx' w K ro K 6))), (4, .int (nI (K))), (9, .int (nI (rkN w ro K 0 6 (wayM w ro K))))] := by rw [show nI (j + 1) - nI 1 = nI j - nI 1 + Int32.ofInt (1) from jp1 j]; exact hl
                refine lv_goto (tgt := 347) hx hb dL_areWays_386 (by decide) ?_
                exact ih_347 (j + 1) I_375 L_375 R_375 (by omega) (by omega) hA hG _ _ hW _ (lv_sub hl [1, 2, 3, 4, 5, 0] rfl)
          exact lp_347 ((wayN w ro K (rkN w ro K 0 6 (wayM w ro K))).length + 3 + 1) 0 I_332 L_332 R_332 (by omega) (Nat.zero_le _) hA hG _ _ hW _ (lv_sub hl [1, 2, 3, 4, 7, 0] rfl)
        ·
          have hq : q < Cx' w K ro K 6 := c_62
          have hwk := way_okN (r := ro) hw hk6 hq
          have hlen : (wayN w ro K q).length ≤ 18 := Nat.le_trans hwk.2.2.2.1 (by rw [mu_0]; omega)
          have hpr63 : prN w ro K 0 6 (wayN w ro K q) < 2 ^ 63 := Nat.lt_of_le_of_lt (Nat.le_trans hwk.2.2.2.2.2.2 (AxM_le K ro K 6)) hT63
          have hpr0 : 0 < prN w ro K 0 6 (wayN w ro K q) := hwk.1
          have hms63 : (mostN (fun q => prN w ro K 0 6 (wayN w ro K q)) q).2 < 2 ^ 63 := Nat.lt_of_le_of_lt (mostN_le2 (B := Sx' w K ro K 6) q (fun i hi => Nat.le_trans (way_okN (r := ro) hw hk6 (Nat.lt_trans hi hq)).2.2.2.2.2.2 (AxM_le K ro K 6))) hT63
          refine lv_aload_n hx hb dL_areWays_65 rfl (lv_at hl 0 rfl) ?_
          refine lv_iload hx hb dL_areWays_66 (lv_at hl 7 rfl) ?_
          refine lv_iconst (v := -1) hx hb dL_areWays_68 (by decide) ?_
          refine q_kI2 (q_rV (As := [.int (nI (q)), .int (-1)]) (rest := []) (x := 0) hC hW mw_X5_way gw_331 (k_way l G n ad H.size J59 M59 Q59 (nI q) ((-1)) w K ro hc hi sv pn ch hA) (by omega) (ct_o5 kd_0) rfl ⟨rfl, rfl⟩ ⟨Nat.le_of_ble_eq_true rfl, Nat.le_of_ble_eq_true rfl⟩ ⟨(Nat.le_of_ble_eq_true rfl), (Nat.le_of_ble_eq_true rfl)⟩ hl.1 rfl rfl (Nat.le_of_ble_eq_true rfl) dL_areWays_69) hW (fun r_69 n_69 ad_69 I_69 L_69 R_69 H locs hp hW => ?_)
          obtain ⟨hz, rfl, rfl, hA, hF⟩ := PR_use hp
          have hG := fr_t hF hG
          have hz : r_69 = nI ((wayN w ro K q).length) := hz.trans ((aWy1 (m := (w, K, ro)) (q := q) (x := -1) (show q < Cx' w K ro K 6 by first | omega | assumption) hC31 (by decide)).trans (tell_m _))
          subst hz
          refine lv_istore (lv' := [(11, .int (nI ((wayN w ro K q).length))), (0, .ref (ad 0)), (1, .long (lN (Sx' w K ro K 6))), (3, .int (nI (Cx' w K ro K 6))), (4, .int (nI (K))), (5, .long (lN (fb_sm (fun q => prN w ro K 0 6 (wayN w ro K q)) q))), (7, .long (lN ((mostN (fun q => prN w ro K 0 6 (wayN w ro K q)) q).2))), (9, .int (bsW w ro K q)), (10, .int (nI (q)))]) hx hb dL_areWays_72 hl (by decide) rfl (fun ls hl => ?_)
          refine q_lc 1 hx hb dL_areWays_74 (by decide) ?_
          refine lv_lstore (lv' := [(12, .long (lN 1)), (11, .int (nI ((wayN w ro K q).length))), (0, .ref (ad 0)), (1, .long (lN (Sx' w K ro K 6))), (3, .int (nI (Cx' w K ro K 6))), (4, .int (nI (K))), (5, .long (lN (fb_sm (fun q => prN w ro K 0 6 (wayN w ro K q)) q))), (7, .long (lN ((mostN (fun q => prN w ro K 0 6 (wayN w ro K q)) q).2))), (9, .int (bsW w ro K q)), (10, .int (nI (q)))]) hx hb dL_areWays_75 hl (by decide) rfl (fun ls hl => ?_)
          refine q_ic 0 hx hb dL_areWays_77 (by decide) ?_
          refine lv_istore (lv' := [(14, .int (nI 0)), (12, .long (lN 1)), (11, .int (nI ((wayN w ro K q).length))), (0, .ref (ad 0)), (1, .long (lN (Sx' w K ro K 6))), (3, .int (nI (Cx' w K ro K 6))), (4, .int (nI (K))), (5, .long (lN (fb_sm (fun q => prN w ro K 0 6 (wayN w ro K q)) q))), (7, .long (lN ((mostN (fun q => prN w ro K 0 6 (wayN w ro K q)) q).2))), (9, .int (bsW w ro K q)), (10, .int (nI (q)))]) hx hb dL_areWays_78 hl (by decide) rfl (fun ls hl => ?_)
          refine q_ic 0 hx hb dL_areWays_80 (by decide) ?_
          have hl : lv_has ls 17 [(14, .int (nI (dkN (wayN w ro K q) 0))), (12, .long (lN (ppN w ro K (wayN w ro K q) 0))), (11, .int (nI ((wayN w ro K q).length))), (0, .ref (ad 0)), (1, .long (lN (Sx' w K ro K 6))), (3, .int (nI (Cx' w K ro K 6))), (4, .int (nI (K))), (5, .long (lN (fb_sm (fun q => prN w ro K 0 6 (wayN w ro K q)) q))), (7, .long (lN ((mostN (fun q => prN w ro K 0 6 (wayN w ro K q)) q).2))), (9, .int (bsW w ro K q)), (10, .int (nI (q)))] := by rw [show ppN w ro K (wayN w ro K q) 0 = 1 from rfl, show dkN (wayN w ro K q) 0 = 0 from rfl]; exact hl
          refine lv_istore (lv' := [(15, .int (nI 0)), (14, .int (nI (dkN (wayN w ro K q) 0))), (12, .long (lN (ppN w ro K (wayN w ro K q) 0))), (11, .int (nI ((wayN w ro K q).length))), (0, .ref (ad 0)), (1, .long (lN (Sx' w K ro K 6))), (3, .int (nI (Cx' w K ro K 6))), (4, .int (nI (K))), (5, .long (lN (fb_sm (fun q => prN w ro K 0 6 (wayN w ro K q)) q))), (7, .long (lN ((mostN (fun q => prN w ro K 0 6 (wayN w ro K q)) q).2))), (9, .int (bsW w ro K q)), (10, .int (nI (q)))]) hx hb dL_areWays_81 hl (by decide) rfl (fun ls hl => ?_)
          have lp_83 : ∀ (fu_83 : Nat) (k : Nat) (J83 : Ic) (M83 : Lc) (Q83 : Rc), (wayN w ro K q).length - k < fu_83 → (k ≤ (wayN w ro K q).length) → (InvA n J83 M83 Q83 ((w, K, ro), hc, hi, sv, pn, ch)) → (Fr7 I J83 L M83 R Q83) → ∀ (H : Heap) (locs : List Loc), Wd G n ad J83 M83 Q83 (qA n ad s.heap.size) s.heap H locs s → ∀ ls : Array Slot, lv_has ls 17 [(0, .ref (ad 0)), (1, .long (lN (Sx' w K ro K 6))), (3, .int (nI (Cx' w K ro K 6))), (4, .int (nI (K))), (5, .long (lN (fb_sm (fun q => prN w ro K 0 6 (wayN w ro K q)) q))), (7, .long (lN ((mostN (fun q => prN w ro K 0 6 (wayN w ro K q)) q).2))), (9, .int (bsW w ro K q)), (10, .int (nI (q))), (11, .int (nI ((wayN w ro K q).length))), (12, .long (lN (ppN w ro K (wayN w ro K q) k))), (14, .int (nI (dkN (wayN w ro K q) k))), (15, .int (nI (k)))] → W p_ l e_ ({ frames := 8, cells := 0, slots := 0, locals := 288 } : Room) s m_ ([.ref (ad 0), .long (lN (Sx' w K ro K 6))] : List Value).toArray below meth c_ H locs 0 0 (MQ below (qI2 G (qA n ad s.heap.size) (fun z u => PR n ad I L R (nI 1, ((w, K, ro), hc, hi, sv, pn, ch)) z u)) ([.ref (ad 0), .long (lN (Sx' w K ro K 6))] : List Value).toArray s 0 0 (qA n ad s.heap.size)) (F0 m_ 83 ls []) := by
            intro fu_83
            induction fu_83 with
            | zero =>
              intro k J83 M83 Q83 hm; exact absurd hm (Nat.not_lt_zero _)
            | succ fu_83 ih_83 =>
              intro k J83 M83 Q83 hm_83 hkl hA hG H locs hW ls hl
              refine lv_iload hx hb dL_areWays_83 (lv_at hl 11 rfl) ?_
              refine lv_iload hx hb dL_areWays_85 (lv_at hl 8 rfl) ?_
              refine q_cge (tgt := 191) hx hb dL_areWays_87 (by decide) (by first | omega | exact Nat.lt_of_le_of_lt (hw3 _) (by decide) | exact Nat.lt_of_lt_of_le (hr4 _) (by decide) | exact Nat.lt_of_le_of_lt (bp_le _) (by decide) | assumption) (by first | omega | exact Nat.lt_of_le_of_lt (hw3 _) (by decide) | exact Nat.lt_of_lt_of_le (hr4 _) (by decide) | exact Nat.lt_of_le_of_lt (bp_le _) (by decide) | assumption) (fun c_87 => ?_) (fun c_87 => ?_)
              ·
                have ekl : k = (wayN w ro K q).length := by omega
                have hdkb : dkN (wayN w ro K q) k ≤ K := dk_le (w := w) (r := ro) hwk.2.1 (by omega)
                have hl : lv_has ls 17 [(0, .ref (ad 0)), (1, .long (lN (Sx' w K ro K 6))), (3, .int (nI (Cx' w K ro K 6))), (4, .int (nI (K))), (5, .long (lN (fb_sm (fun q => prN w ro K 0 6 (wayN w ro K q)) q))), (7, .long (lN ((mostN (fun q => prN w ro K 0 6 (wayN w ro K q)) q).2))), (9, .int (bsW w ro K q)), (10, .int (nI (q))), (11, .int (nI ((wayN w ro K q).length))), (12, .long (lN (prN w ro K 0 6 (wayN w ro K q)))), (14, .int (nI (dkN (wayN w ro K q) k))), (15, .int (nI (k)))] := by rw [show prN w ro K 0 6 (wayN w ro K q) = ppN w ro K (wayN w ro K q) k from by rw [ekl]; exact (pp_e w ro K (wayN w ro K q)).1.symm]; exact hl
                refine lv_lload hx hb dL_areWays_191 (lv_at hl 9 rfl) ?_
                refine q_lc 0 hx hb dL_areWays_193 (by decide) ?_
                refine q_lcmp hx hb dL_areWays_194 ?_
                refine q_lle (tgt := 263) hx hb dL_areWays_195 (by decide) hpr63 (by decide) (fun c_195 => absurd c_195 (by omega)) (fun c_195 => ?_)
                refine lv_aload_n hx hb dL_areWays_198 rfl (lv_at hl 0 rfl) ?_
                refine lv_iload hx hb dL_areWays_199 (lv_at hl 7 rfl) ?_
                refine q_kL2 (q_rV (As := [.int (nI (q))]) (rest := []) (x := 0) hC hW mw_X5_weighs gw_315 (k_weighs l G n ad H.size J83 M83 Q83 (nI q) w K ro hc hi sv pn ch hA) (by omega) (ct_o5 kd_0) rfl ⟨rfl, rfl⟩ ⟨Nat.le_of_ble_eq_true rfl, Nat.le_of_ble_eq_true rfl⟩ ⟨(Nat.le_of_ble_eq_true rfl), (Nat.le_of_ble_eq_true rfl)⟩ hl.1 rfl rfl (Nat.le_of_ble_eq_true rfl) dL_areWays_201) hW (fun r_201 n_201 ad_201 I_201 L_201 R_201 H locs hp hW => ?_)
                obtain ⟨hz, rfl, rfl, hA, hF⟩ := PRl_use hp
                have hG := fr_t hF hG
                have hz : r_201 = lN (prN w ro K 0 6 (wayN w ro K q)) := hz.trans (aWe1 (m := (w, K, ro)) (q := q) (show q < Cx' w K ro K 6 by first | omega | assumption) hC31)
                subst hz
                refine lv_lload hx hb dL_areWays_204 (lv_at hl 9 rfl) ?_
                refine q_lcmp hx hb dL_areWays_206 ?_
                refine q_Lne (tgt := 263) hx hb dL_areWays_207 (by decide) (fun c_207 => absurd rfl c_207) (fun c_207 => ?_)
                refine lv_iload hx hb dL_areWays_210 (lv_at hl 10 rfl) ?_
                refine lv_iload hx hb dL_areWays_212 (lv_at hl 3 rfl) ?_
                refine q_cne (tgt := 263) hx hb dL_areWays_214 (by decide) (by first | omega | exact Nat.lt_of_le_of_lt (hw3 _) (by decide) | exact Nat.lt_of_lt_of_le (hr4 _) (by decide) | exact Nat.lt_of_le_of_lt (bp_le _) (by decide) | assumption) (by first | omega | exact Nat.lt_of_le_of_lt (hw3 _) (by decide) | exact Nat.lt_of_lt_of_le (hr4 _) (by decide) | exact Nat.lt_of_le_of_lt (bp_le _) (by decide) | assumption) (fun c_214 => absurd (by rw [ekl]; exact ((pp_e w ro K (wayN w ro K q)).2).trans hwk.2.1) c_214) (fun c_214 => ?_)
                refine lv_iload hx hb dL_areWays_217 (lv_at hl 8 rfl) ?_
                refine q_ile (tgt := 236) hx hb dL_areWays_219 (by decide) (by first | omega | exact Nat.lt_of_le_of_lt (hw3 _) (by decide) | exact Nat.lt_of_lt_of_le (hr4 _) (by decide) | exact Nat.lt_of_le_of_lt (bp_le _) (by decide) | assumption) (fun c_219 => ?_) (fun c_219 => ?_)
                ·
                  refine lv_aload_n hx hb dL_areWays_236 rfl (lv_at hl 0 rfl) ?_
                  refine lv_iload hx hb dL_areWays_237 (lv_at hl 7 rfl) ?_
                  refine lv_iload hx hb dL_areWays_239 (lv_at hl 8 rfl) ?_
                  refine q_kI2 (q_rV (As := [.int (nI (q)), .int (nI ((wayN w ro K q).length))]) (rest := []) (x := 0) hC hW mw_X5_way gw_331 (k_way l G n ad H.size I_201 L_201 R_201 (nI q) (nI ((wayN w ro K q).length)) w K ro hc hi sv pn ch hA) (by omega) (ct_o5 kd_0) rfl ⟨rfl, rfl⟩ ⟨Nat.le_of_ble_eq_true rfl, Nat.le_of_ble_eq_true rfl⟩ ⟨(Nat.le_of_ble_eq_true rfl), (Nat.le_of_ble_eq_true rfl)⟩ hl.1 rfl rfl (Nat.le_of_ble_eq_true rfl) dL_areWays_241) hW (fun r_241 n_241 ad_241 I_241 L_241 R_241 H locs hp hW => ?_)
                  obtain ⟨hz, rfl, rfl, hA, hF⟩ := PR_use hp
                  have hG := fr_t hF hG
                  have hz : r_241 = (-6) := hz.trans ((aWy1 (m := (w, K, ro)) (q := q) (x := nI ((wayN w ro K q).length)) (show q < Cx' w K ro K 6 by first | omega | assumption) hC31 (nI_nn (by omega))).trans (tSn (l := wayN w ro K q) (k := (wayN w ro K q).length) (Nat.le_refl _) (by omega)))
                  subst hz
                  refine lv_bipush (v := -6) hx hb dL_areWays_244 (by decide) ?_
                  refine lv_icmp_ne (tgt := 263) hx hb dL_areWays_246 (by decide) (fun c_246 => absurd c_246 (by decide)) (fun c_246 => ?_)
                  refine lv_iload hx hb dL_areWays_249 (lv_at hl 7 rfl) ?_
                  refine q_ile (tgt := 265) hx hb dL_areWays_251 (by decide) (by first | omega | exact Nat.lt_of_le_of_lt (hw3 _) (by decide) | exact Nat.lt_of_lt_of_le (hr4 _) (by decide) | exact Nat.lt_of_le_of_lt (bp_le _) (by decide) | assumption) (fun c_251 => ?_) (fun c_251 => ?_)
                  ·
                    refine lv_lload hx hb dL_areWays_265 (lv_at hl 4 rfl) ?_
                    refine lv_lload hx hb dL_areWays_267 (lv_at hl 9 rfl) ?_
                    refine q_ladd hx hb dL_areWays_269 ?_
                    refine q_top (v2 := .long (lN (fb_sm (fun q => prN w ro K 0 6 (wayN w ro K q)) (q + 1)))) rfl ?_
                    refine lv_lstore (lv' := [(5, .long (lN (fb_sm (fun q => prN w ro K 0 6 (wayN w ro K q)) (q + 1)))), (0, .ref (ad 0)), (1, .long (lN (Sx' w K ro K 6))), (3, .int (nI (Cx' w K ro K 6))), (4, .int (nI (K))), (7, .long (lN ((mostN (fun q => prN w ro K 0 6 (wayN w ro K q)) q).2))), (9, .int (bsW w ro K q)), (10, .int (nI (q))), (11, .int (nI ((wayN w ro K q).length))), (12, .long (lN (prN w ro K 0 6 (wayN w ro K q)))), (14, .int (nI (dkN (wayN w ro K q) k))), (15, .int (nI (k)))]) hx hb dL_areWays_270 hl (by decide) rfl (fun ls hl => ?_)
                    refine lv_lload hx hb dL_areWays_272 (lv_at hl 9 rfl) ?_
                    refine lv_lload hx hb dL_areWays_274 (lv_at hl 5 rfl) ?_
                    refine q_lcmp hx hb dL_areWays_276 ?_
                    refine q_lle (tgt := 285) hx hb dL_areWays_277 (by decide) hpr63 hms63 (fun c_277 => ?_) (fun c_277 => ?_)
                    ·
                      refine lv_iload hx hb dL_areWays_285 (lv_at hl 6 rfl) ?_
                      refine lv_istore (lv' := [(9, .int (bsW w ro K q)), (5, .long (lN (fb_sm (fun q => prN w ro K 0 6 (wayN w ro K q)) (q + 1)))), (0, .ref (ad 0)), (1, .long (lN (Sx' w K ro K 6))), (3, .int (nI (Cx' w K ro K 6))), (4, .int (nI (K))), (7, .long (lN ((mostN (fun q => prN w ro K 0 6 (wayN w ro K q)) q).2))), (10, .int (nI (q))), (11, .int (nI ((wayN w ro K q).length))), (12, .long (lN (prN w ro K 0 6 (wayN w ro K q)))), (14, .int (nI (dkN (wayN w ro K q) k))), (15, .int (nI (k)))]) hx hb dL_areWays_287 hl (by decide) rfl (fun ls hl => ?_)
                      refine lv_lload hx hb dL_areWays_289 (lv_at hl 9 rfl) ?_
                      refine lv_lload hx hb dL_areWays_291 (lv_at hl 6 rfl) ?_
                      refine q_lcmp hx hb dL_areWays_293 ?_
                      refine q_lle (tgt := 302) hx hb dL_areWays_294 (by decide) hpr63 hms63 (fun c_294 => ?_) (fun c_294 => absurd c_294 (by omega))
                      refine lv_lload hx hb dL_areWays_302 (lv_at hl 6 rfl) ?_
                      refine lv_lstore (lv' := [(7, .long (lN ((mostN (fun q => prN w ro K 0 6 (wayN w ro K q)) q).2))), (9, .int (bsW w ro K q)), (5, .long (lN (fb_sm (fun q => prN w ro K 0 6 (wayN w ro K q)) (q + 1)))), (0, .ref (ad 0)), (1, .long (lN (Sx' w K ro K 6))), (3, .int (nI (Cx' w K ro K 6))), (4, .int (nI (K))), (10, .int (nI (q))), (11, .int (nI ((wayN w ro K q).length))), (12, .long (lN (prN w ro K 0 6 (wayN w ro K q)))), (14, .int (nI (dkN (wayN w ro K q) k))), (15, .int (nI (k)))]) hx hb dL_areWays_304 hl (by decide) rfl (fun ls hl => ?_)
                      have hmy := mostN_n (g := (fun q => prN w ro K 0 6 (wayN w ro K q))) (t := q) (Nat.not_lt.mpr c_277)
                      have hqn : q ≠ 0 := fun z => by rw [z] at c_277 hpr0; have h7 : prN w ro K 0 6 (wayN w ro K 0) ≤ 0 := c_277; omega
                      have hl : lv_has ls 17 [(7, .long (lN ((mostN (fun q => prN w ro K 0 6 (wayN w ro K q)) (q + 1)).2))), (9, .int (bsW w ro K (q + 1))), (5, .long (lN (fb_sm (fun q => prN w ro K 0 6 (wayN w ro K q)) (q + 1)))), (0, .ref (ad 0)), (1, .long (lN (Sx' w K ro K 6))), (3, .int (nI (Cx' w K ro K 6))), (4, .int (nI (K))), (10, .int (nI (q))), (11, .int (nI ((wayN w ro K q).length))), (12, .long (lN (prN w ro K 0 6 (wayN w ro K q)))), (14, .int (nI (dkN (wayN w ro K q) k))), (15, .int (nI (k)))] := by rw [show bsW w ro K (q + 1) = bsW w ro K q from by unfold bsW; rw [if_neg (by omega), if_neg hqn, hmy], show (mostN (fun q => prN w ro K 0 6 (wayN w ro K q)) (q + 1)).2 = (mostN (fun q => prN w ro K 0 6 (wayN w ro K q)) q).2 from by rw [hmy]]; exact hl
                      refine q_iinc (z2 := q + 1) (lv' := [(10, .int (nI (q + 1))), (7, .long (lN ((mostN (fun q => prN w ro K 0 6 (wayN w ro K q)) (q + 1)).2))), (9, .int (bsW w ro K (q + 1))), (5, .long (lN (fb_sm (fun q => prN w ro K 0 6 (wayN w ro K q)) (q + 1)))), (0, .ref (ad 0)), (1, .long (lN (Sx' w K ro K 6))), (3, .int (nI (Cx' w K ro K 6))), (4, .int (nI (K))), (11, .int (nI ((wayN w ro K q).length))), (12, .long (lN (prN w ro K 0 6 (wayN w ro K q)))), (14, .int (nI (dkN (wayN w ro K q) k))), (15, .int (nI (k)))]) hx hb dL_areWays_306 hl (k := 7) rfl (inc_up _ 1 (by decide)) (by decide) rfl (fun ls hl => ?_)
                      refine lv_goto (tgt := 59) hx hb dL_areWays_309 (by decide) ?_
                      exact ih_59 (q + 1) I_241 L_241 R_241 (by omega) hq hA hG _ _ hW _ (lv_sub hl [4, 5, 6, 7, 3, 1, 2, 0] rfl)
                    ·
                      refine lv_iload hx hb dL_areWays_280 (lv_at hl 7 rfl) ?_
                      refine lv_goto (tgt := 287) hx hb dL_areWays_282 (by decide) ?_
                      refine lv_istore (lv' := [(9, .int (nI (q))), (5, .long (lN (fb_sm (fun q => prN w ro K 0 6 (wayN w ro K q)) (q + 1)))), (0, .ref (ad 0)), (1, .long (lN (Sx' w K ro K 6))), (3, .int (nI (Cx' w K ro K 6))), (4, .int (nI (K))), (7, .long (lN ((mostN (fun q => prN w ro K 0 6 (wayN w ro K q)) q).2))), (10, .int (nI (q))), (11, .int (nI ((wayN w ro K q).length))), (12, .long (lN (prN w ro K 0 6 (wayN w ro K q)))), (14, .int (nI (dkN (wayN w ro K q) k))), (15, .int (nI (k)))]) hx hb dL_areWays_287 hl (by decide) rfl (fun ls hl => ?_)
                      refine lv_lload hx hb dL_areWays_289 (lv_at hl 9 rfl) ?_
                      refine lv_lload hx hb dL_areWays_291 (lv_at hl 6 rfl) ?_
                      refine q_lcmp hx hb dL_areWays_293 ?_
                      refine q_lle (tgt := 302) hx hb dL_areWays_294 (by decide) hpr63 hms63 (fun c_294 => absurd c_294 (by omega)) (fun c_294 => ?_)
                      refine lv_lload hx hb dL_areWays_297 (lv_at hl 9 rfl) ?_
                      refine lv_goto (tgt := 304) hx hb dL_areWays_299 (by decide) ?_
                      refine lv_lstore (lv' := [(7, .long (lN (prN w ro K 0 6 (wayN w ro K q)))), (9, .int (nI (q))), (5, .long (lN (fb_sm (fun q => prN w ro K 0 6 (wayN w ro K q)) (q + 1)))), (0, .ref (ad 0)), (1, .long (lN (Sx' w K ro K 6))), (3, .int (nI (Cx' w K ro K 6))), (4, .int (nI (K))), (10, .int (nI (q))), (11, .int (nI ((wayN w ro K q).length))), (12, .long (lN (prN w ro K 0 6 (wayN w ro K q)))), (14, .int (nI (dkN (wayN w ro K q) k))), (15, .int (nI (k)))]) hx hb dL_areWays_304 hl (by decide) rfl (fun ls hl => ?_)
                      have hmy := mostN_y (g := (fun q => prN w ro K 0 6 (wayN w ro K q))) (t := q) c_277
                      have hl : lv_has ls 17 [(7, .long (lN ((mostN (fun q => prN w ro K 0 6 (wayN w ro K q)) (q + 1)).2))), (9, .int (bsW w ro K (q + 1))), (5, .long (lN (fb_sm (fun q => prN w ro K 0 6 (wayN w ro K q)) (q + 1)))), (0, .ref (ad 0)), (1, .long (lN (Sx' w K ro K 6))), (3, .int (nI (Cx' w K ro K 6))), (4, .int (nI (K))), (10, .int (nI (q))), (11, .int (nI ((wayN w ro K q).length))), (12, .long (lN (prN w ro K 0 6 (wayN w ro K q)))), (14, .int (nI (dkN (wayN w ro K q) k))), (15, .int (nI (k)))] := by rw [show bsW w ro K (q + 1) = nI q from by unfold bsW; rw [if_neg (by omega), hmy], show (mostN (fun q => prN w ro K 0 6 (wayN w ro K q)) (q + 1)).2 = prN w ro K 0 6 (wayN w ro K q) from by rw [hmy]]; exact hl
                      refine q_iinc (z2 := q + 1) (lv' := [(10, .int (nI (q + 1))), (7, .long (lN ((mostN (fun q => prN w ro K 0 6 (wayN w ro K q)) (q + 1)).2))), (9, .int (bsW w ro K (q + 1))), (5, .long (lN (fb_sm (fun q => prN w ro K 0 6 (wayN w ro K q)) (q + 1)))), (0, .ref (ad 0)), (1, .long (lN (Sx' w K ro K 6))), (3, .int (nI (Cx' w K ro K 6))), (4, .int (nI (K))), (11, .int (nI ((wayN w ro K q).length))), (12, .long (lN (prN w ro K 0 6 (wayN w ro K q)))), (14, .int (nI (dkN (wayN w ro K q) k))), (15, .int (nI (k)))]) hx hb dL_areWays_306 hl (k := 7) rfl (inc_up _ 1 (by decide)) (by decide) rfl (fun ls hl => ?_)
                      refine lv_goto (tgt := 59) hx hb dL_areWays_309 (by decide) ?_
                      exact ih_59 (q + 1) I_241 L_241 R_241 (by omega) hq hA hG _ _ hW _ (lv_sub hl [4, 5, 6, 7, 3, 1, 2, 0] rfl)
                  ·
                    refine lv_aload_n hx hb dL_areWays_254 rfl (lv_at hl 0 rfl) ?_
                    refine lv_iload hx hb dL_areWays_255 (lv_at hl 7 rfl) ?_
                    refine q_kI2 (q_rS (As := [.ref (ad 0), .int (nI (q))]) (rest := []) hC hW mw_L_isBehind gw_339 (k_isBehind l G n ad H.size I_241 L_241 R_241 q w K ro hc hi sv pn ch hA (by omega) hq) ⟨rfl, rfl⟩ ⟨Nat.le_of_ble_eq_true rfl, Nat.le_of_ble_eq_true rfl⟩ ⟨(Nat.le_of_ble_eq_true rfl), (Nat.le_of_ble_eq_true rfl)⟩ hl.1 rfl rfl (Nat.le_of_ble_eq_true rfl) dL_areWays_257) hW (fun r_257 n_257 ad_257 I_257 L_257 R_257 H locs hp hW => ?_)
                    obtain ⟨hz, rfl, rfl, hA, hF⟩ := PR_use hp
                    have hG := fr_t hF hG
                    have hz : r_257 = nI 1 := hz
                    subst hz
                    refine q_ine (tgt := 265) hx hb dL_areWays_260 (by decide) (by first | omega | exact Nat.lt_of_le_of_lt (hw3 _) (by decide) | exact Nat.lt_of_lt_of_le (hr4 _) (by decide) | exact Nat.lt_of_le_of_lt (bp_le _) (by decide) | assumption) (fun c_260 => ?_) (fun c_260 => absurd c_260 (by decide))
                    refine lv_lload hx hb dL_areWays_265 (lv_at hl 4 rfl) ?_
                    refine lv_lload hx hb dL_areWays_267 (lv_at hl 9 rfl) ?_
                    refine q_ladd hx hb dL_areWays_269 ?_
                    refine q_top (v2 := .long (lN (fb_sm (fun q => prN w ro K 0 6 (wayN w ro K q)) (q + 1)))) rfl ?_
                    refine lv_lstore (lv' := [(5, .long (lN (fb_sm (fun q => prN w ro K 0 6 (wayN w ro K q)) (q + 1)))), (0, .ref (ad 0)), (1, .long (lN (Sx' w K ro K 6))), (3, .int (nI (Cx' w K ro K 6))), (4, .int (nI (K))), (7, .long (lN ((mostN (fun q => prN w ro K 0 6 (wayN w ro K q)) q).2))), (9, .int (bsW w ro K q)), (10, .int (nI (q))), (11, .int (nI ((wayN w ro K q).length))), (12, .long (lN (prN w ro K 0 6 (wayN w ro K q)))), (14, .int (nI (dkN (wayN w ro K q) k))), (15, .int (nI (k)))]) hx hb dL_areWays_270 hl (by decide) rfl (fun ls hl => ?_)
                    refine lv_lload hx hb dL_areWays_272 (lv_at hl 9 rfl) ?_
                    refine lv_lload hx hb dL_areWays_274 (lv_at hl 5 rfl) ?_
                    refine q_lcmp hx hb dL_areWays_276 ?_
                    refine q_lle (tgt := 285) hx hb dL_areWays_277 (by decide) hpr63 hms63 (fun c_277 => ?_) (fun c_277 => ?_)
                    ·
                      refine lv_iload hx hb dL_areWays_285 (lv_at hl 6 rfl) ?_
                      refine lv_istore (lv' := [(9, .int (bsW w ro K q)), (5, .long (lN (fb_sm (fun q => prN w ro K 0 6 (wayN w ro K q)) (q + 1)))), (0, .ref (ad 0)), (1, .long (lN (Sx' w K ro K 6))), (3, .int (nI (Cx' w K ro K 6))), (4, .int (nI (K))), (7, .long (lN ((mostN (fun q => prN w ro K 0 6 (wayN w ro K q)) q).2))), (10, .int (nI (q))), (11, .int (nI ((wayN w ro K q).length))), (12, .long (lN (prN w ro K 0 6 (wayN w ro K q)))), (14, .int (nI (dkN (wayN w ro K q) k))), (15, .int (nI (k)))]) hx hb dL_areWays_287 hl (by decide) rfl (fun ls hl => ?_)
                      refine lv_lload hx hb dL_areWays_289 (lv_at hl 9 rfl) ?_
                      refine lv_lload hx hb dL_areWays_291 (lv_at hl 6 rfl) ?_
                      refine q_lcmp hx hb dL_areWays_293 ?_
                      refine q_lle (tgt := 302) hx hb dL_areWays_294 (by decide) hpr63 hms63 (fun c_294 => ?_) (fun c_294 => absurd c_294 (by omega))
                      refine lv_lload hx hb dL_areWays_302 (lv_at hl 6 rfl) ?_
                      refine lv_lstore (lv' := [(7, .long (lN ((mostN (fun q => prN w ro K 0 6 (wayN w ro K q)) q).2))), (9, .int (bsW w ro K q)), (5, .long (lN (fb_sm (fun q => prN w ro K 0 6 (wayN w ro K q)) (q + 1)))), (0, .ref (ad 0)), (1, .long (lN (Sx' w K ro K 6))), (3, .int (nI (Cx' w K ro K 6))), (4, .int (nI (K))), (10, .int (nI (q))), (11, .int (nI ((wayN w ro K q).length))), (12, .long (lN (prN w ro K 0 6 (wayN w ro K q)))), (14, .int (nI (dkN (wayN w ro K q) k))), (15, .int (nI (k)))]) hx hb dL_areWays_304 hl (by decide) rfl (fun ls hl => ?_)
                      have hmy := mostN_n (g := (fun q => prN w ro K 0 6 (wayN w ro K q))) (t := q) (Nat.not_lt.mpr c_277)
                      have hqn : q ≠ 0 := fun z => by rw [z] at c_277 hpr0; have h7 : prN w ro K 0 6 (wayN w ro K 0) ≤ 0 := c_277; omega
                      have hl : lv_has ls 17 [(7, .long (lN ((mostN (fun q => prN w ro K 0 6 (wayN w ro K q)) (q + 1)).2))), (9, .int (bsW w ro K (q + 1))), (5, .long (lN (fb_sm (fun q => prN w ro K 0 6 (wayN w ro K q)) (q + 1)))), (0, .ref (ad 0)), (1, .long (lN (Sx' w K ro K 6))), (3, .int (nI (Cx' w K ro K 6))), (4, .int (nI (K))), (10, .int (nI (q))), (11, .int (nI ((wayN w ro K q).length))), (12, .long (lN (prN w ro K 0 6 (wayN w ro K q)))), (14, .int (nI (dkN (wayN w ro K q) k))), (15, .int (nI (k)))] := by rw [show bsW w ro K (q + 1) = bsW w ro K q from by unfold bsW; rw [if_neg (by omega), if_neg hqn, hmy], show (mostN (fun q => prN w ro K 0 6 (wayN w ro K q)) (q + 1)).2 = (mostN (fun q => prN w ro K 0 6 (wayN w ro K q)) q).2 from by rw [hmy]]; exact hl
                      refine q_iinc (z2 := q + 1) (lv' := [(10, .int (nI (q + 1))), (7, .long (lN ((mostN (fun q => prN w ro K 0 6 (wayN w ro K q)) (q + 1)).2))), (9, .int (bsW w ro K (q + 1))), (5, .long (lN (fb_sm (fun q => prN w ro K 0 6 (wayN w ro K q)) (q + 1)))), (0, .ref (ad 0)), (1, .long (lN (Sx' w K ro K 6))), (3, .int (nI (Cx' w K ro K 6))), (4, .int (nI (K))), (11, .int (nI ((wayN w ro K q).length))), (12, .long (lN (prN w ro K 0 6 (wayN w ro K q)))), (14, .int (nI (dkN (wayN w ro K q) k))), (15, .int (nI (k)))]) hx hb dL_areWays_306 hl (k := 7) rfl (inc_up _ 1 (by decide)) (by decide) rfl (fun ls hl => ?_)
                      refine lv_goto (tgt := 59) hx hb dL_areWays_309 (by decide) ?_
                      exact ih_59 (q + 1) I_257 L_257 R_257 (by omega) hq hA hG _ _ hW _ (lv_sub hl [4, 5, 6, 7, 3, 1, 2, 0] rfl)
                    ·
                      refine lv_iload hx hb dL_areWays_280 (lv_at hl 7 rfl) ?_
                      refine lv_goto (tgt := 287) hx hb dL_areWays_282 (by decide) ?_
                      refine lv_istore (lv' := [(9, .int (nI (q))), (5, .long (lN (fb_sm (fun q => prN w ro K 0 6 (wayN w ro K q)) (q + 1)))), (0, .ref (ad 0)), (1, .long (lN (Sx' w K ro K 6))), (3, .int (nI (Cx' w K ro K 6))), (4, .int (nI (K))), (7, .long (lN ((mostN (fun q => prN w ro K 0 6 (wayN w ro K q)) q).2))), (10, .int (nI (q))), (11, .int (nI ((wayN w ro K q).length))), (12, .long (lN (prN w ro K 0 6 (wayN w ro K q)))), (14, .int (nI (dkN (wayN w ro K q) k))), (15, .int (nI (k)))]) hx hb dL_areWays_287 hl (by decide) rfl (fun ls hl => ?_)
                      refine lv_lload hx hb dL_areWays_289 (lv_at hl 9 rfl) ?_
                      refine lv_lload hx hb dL_areWays_291 (lv_at hl 6 rfl) ?_
                      refine q_lcmp hx hb dL_areWays_293 ?_
                      refine q_lle (tgt := 302) hx hb dL_areWays_294 (by decide) hpr63 hms63 (fun c_294 => absurd c_294 (by omega)) (fun c_294 => ?_)
                      refine lv_lload hx hb dL_areWays_297 (lv_at hl 9 rfl) ?_
                      refine lv_goto (tgt := 304) hx hb dL_areWays_299 (by decide) ?_
                      refine lv_lstore (lv' := [(7, .long (lN (prN w ro K 0 6 (wayN w ro K q)))), (9, .int (nI (q))), (5, .long (lN (fb_sm (fun q => prN w ro K 0 6 (wayN w ro K q)) (q + 1)))), (0, .ref (ad 0)), (1, .long (lN (Sx' w K ro K 6))), (3, .int (nI (Cx' w K ro K 6))), (4, .int (nI (K))), (10, .int (nI (q))), (11, .int (nI ((wayN w ro K q).length))), (12, .long (lN (prN w ro K 0 6 (wayN w ro K q)))), (14, .int (nI (dkN (wayN w ro K q) k))), (15, .int (nI (k)))]) hx hb dL_areWays_304 hl (by decide) rfl (fun ls hl => ?_)
                      have hmy := mostN_y (g := (fun q => prN w ro K 0 6 (wayN w ro K q))) (t := q) c_277
                      have hl : lv_has ls 17 [(7, .long (lN ((mostN (fun q => prN w ro K 0 6 (wayN w ro K q)) (q + 1)).2))), (9, .int (bsW w ro K (q + 1))), (5, .long (lN (fb_sm (fun q => prN w ro K 0 6 (wayN w ro K q)) (q + 1)))), (0, .ref (ad 0)), (1, .long (lN (Sx' w K ro K 6))), (3, .int (nI (Cx' w K ro K 6))), (4, .int (nI (K))), (10, .int (nI (q))), (11, .int (nI ((wayN w ro K q).length))), (12, .long (lN (prN w ro K 0 6 (wayN w ro K q)))), (14, .int (nI (dkN (wayN w ro K q) k))), (15, .int (nI (k)))] := by rw [show bsW w ro K (q + 1) = nI q from by unfold bsW; rw [if_neg (by omega), hmy], show (mostN (fun q => prN w ro K 0 6 (wayN w ro K q)) (q + 1)).2 = prN w ro K 0 6 (wayN w ro K q) from by rw [hmy]]; exact hl
                      refine q_iinc (z2 := q + 1) (lv' := [(10, .int (nI (q + 1))), (7, .long (lN ((mostN (fun q => prN w ro K 0 6 (wayN w ro K q)) (q + 1)).2))), (9, .int (bsW w ro K (q + 1))), (5, .long (lN (fb_sm (fun q => prN w ro K 0 6 (wayN w ro K q)) (q + 1)))), (0, .ref (ad 0)), (1, .long (lN (Sx' w K ro K 6))), (3, .int (nI (Cx' w K ro K 6))), (4, .int (nI (K))), (11, .int (nI ((wayN w ro K q).length))), (12, .long (lN (prN w ro K 0 6 (wayN w ro K q)))), (14, .int (nI (dkN (wayN w ro K q) k))), (15, .int (nI (k)))]) hx hb dL_areWays_306 hl (k := 7) rfl (inc_up _ 1 (by decide)) (by decide) rfl (fun ls hl => ?_)
                      refine lv_goto (tgt := 59) hx hb dL_areWays_309 (by decide) ?_
                      exact ih_59 (q + 1) I_257 L_257 R_257 (by omega) hq hA hG _ _ hW _ (lv_sub hl [4, 5, 6, 7, 3, 1, 2, 0] rfl)
                ·
                  have hl4 := hwk.2.2.2.2.2.1 (by omega)
                  refine lv_aload_n hx hb dL_areWays_222 rfl (lv_at hl 0 rfl) ?_
                  refine lv_iload hx hb dL_areWays_223 (lv_at hl 7 rfl) ?_
                  refine lv_iload hx hb dL_areWays_225 (lv_at hl 8 rfl) ?_
                  refine q_ic 1 hx hb dL_areWays_227 (by decide) ?_
                  refine q_isub hx hb dL_areWays_228 (by omega) ?_
                  refine q_kI2 (q_rV (As := [.int (nI (q)), .int (nI (((wayN w ro K q).length) - 1))]) (rest := []) (x := 0) hC hW mw_X5_way gw_331 (k_way l G n ad H.size I_201 L_201 R_201 (nI q) (nI (((wayN w ro K q).length) - 1)) w K ro hc hi sv pn ch hA) (by omega) (ct_o5 kd_0) rfl ⟨rfl, rfl⟩ ⟨Nat.le_of_ble_eq_true rfl, Nat.le_of_ble_eq_true rfl⟩ ⟨(Nat.le_of_ble_eq_true rfl), (Nat.le_of_ble_eq_true rfl)⟩ hl.1 rfl rfl (Nat.le_of_ble_eq_true rfl) dL_areWays_229) hW (fun r_229 n_229 ad_229 I_229 L_229 R_229 H locs hp hW => ?_)
                  obtain ⟨hz, rfl, rfl, hA, hF⟩ := PR_use hp
                  have hG := fr_t hF hG
                  have hz : r_229 = nI ((wayN w ro K q).getD (((wayN w ro K q).length) - 1) 0) := hz.trans ((aWy1 (m := (w, K, ro)) (q := q) (x := nI (((wayN w ro K q).length) - 1)) (show q < Cx' w K ro K 6 by first | omega | assumption) hC31 (nI_nn (by omega))).trans (tS1 (l := wayN w ro K q) (k := ((wayN w ro K q).length) - 1) (by omega) hlen))
                  subst hz
                  refine q_ic 3 hx hb dL_areWays_232 (by decide) ?_
                  refine q_cgt (tgt := 263) hx hb dL_areWays_233 (by decide) (by first | omega | exact Nat.lt_of_le_of_lt (hw3 _) (by decide) | exact Nat.lt_of_lt_of_le (hr4 _) (by decide) | exact Nat.lt_of_le_of_lt (bp_le _) (by decide) | assumption) (by first | omega | exact Nat.lt_of_le_of_lt (hw3 _) (by decide) | exact Nat.lt_of_lt_of_le (hr4 _) (by decide) | exact Nat.lt_of_le_of_lt (bp_le _) (by decide) | assumption) (fun c_233 => absurd c_233 (by omega)) (fun c_233 => ?_)
                  refine lv_aload_n hx hb dL_areWays_236 rfl (lv_at hl 0 rfl) ?_
                  refine lv_iload hx hb dL_areWays_237 (lv_at hl 7 rfl) ?_
                  refine lv_iload hx hb dL_areWays_239 (lv_at hl 8 rfl) ?_
                  refine q_kI2 (q_rV (As := [.int (nI (q)), .int (nI ((wayN w ro K q).length))]) (rest := []) (x := 0) hC hW mw_X5_way gw_331 (k_way l G n ad H.size I_229 L_229 R_229 (nI q) (nI ((wayN w ro K q).length)) w K ro hc hi sv pn ch hA) (by omega) (ct_o5 kd_0) rfl ⟨rfl, rfl⟩ ⟨Nat.le_of_ble_eq_true rfl, Nat.le_of_ble_eq_true rfl⟩ ⟨(Nat.le_of_ble_eq_true rfl), (Nat.le_of_ble_eq_true rfl)⟩ hl.1 rfl rfl (Nat.le_of_ble_eq_true rfl) dL_areWays_241) hW (fun r_241 n_241 ad_241 I_241 L_241 R_241 H locs hp hW => ?_)
                  obtain ⟨hz, rfl, rfl, hA, hF⟩ := PR_use hp
                  have hG := fr_t hF hG
                  have hz : r_241 = (-6) := hz.trans ((aWy1 (m := (w, K, ro)) (q := q) (x := nI ((wayN w ro K q).length)) (show q < Cx' w K ro K 6 by first | omega | assumption) hC31 (nI_nn (by omega))).trans (tSn (l := wayN w ro K q) (k := (wayN w ro K q).length) (Nat.le_refl _) (by omega)))
                  subst hz
                  refine lv_bipush (v := -6) hx hb dL_areWays_244 (by decide) ?_
                  refine lv_icmp_ne (tgt := 263) hx hb dL_areWays_246 (by decide) (fun c_246 => absurd c_246 (by decide)) (fun c_246 => ?_)
                  refine lv_iload hx hb dL_areWays_249 (lv_at hl 7 rfl) ?_
                  refine q_ile (tgt := 265) hx hb dL_areWays_251 (by decide) (by first | omega | exact Nat.lt_of_le_of_lt (hw3 _) (by decide) | exact Nat.lt_of_lt_of_le (hr4 _) (by decide) | exact Nat.lt_of_le_of_lt (bp_le _) (by decide) | assumption) (fun c_251 => ?_) (fun c_251 => ?_)
                  ·
                    refine lv_lload hx hb dL_areWays_265 (lv_at hl 4 rfl) ?_
                    refine lv_lload hx hb dL_areWays_267 (lv_at hl 9 rfl) ?_
                    refine q_ladd hx hb dL_areWays_269 ?_
                    refine q_top (v2 := .long (lN (fb_sm (fun q => prN w ro K 0 6 (wayN w ro K q)) (q + 1)))) rfl ?_
                    refine lv_lstore (lv' := [(5, .long (lN (fb_sm (fun q => prN w ro K 0 6 (wayN w ro K q)) (q + 1)))), (0, .ref (ad 0)), (1, .long (lN (Sx' w K ro K 6))), (3, .int (nI (Cx' w K ro K 6))), (4, .int (nI (K))), (7, .long (lN ((mostN (fun q => prN w ro K 0 6 (wayN w ro K q)) q).2))), (9, .int (bsW w ro K q)), (10, .int (nI (q))), (11, .int (nI ((wayN w ro K q).length))), (12, .long (lN (prN w ro K 0 6 (wayN w ro K q)))), (14, .int (nI (dkN (wayN w ro K q) k))), (15, .int (nI (k)))]) hx hb dL_areWays_270 hl (by decide) rfl (fun ls hl => ?_)
                    refine lv_lload hx hb dL_areWays_272 (lv_at hl 9 rfl) ?_
                    refine lv_lload hx hb dL_areWays_274 (lv_at hl 5 rfl) ?_
                    refine q_lcmp hx hb dL_areWays_276 ?_
                    refine q_lle (tgt := 285) hx hb dL_areWays_277 (by decide) hpr63 hms63 (fun c_277 => ?_) (fun c_277 => ?_)
                    ·
                      refine lv_iload hx hb dL_areWays_285 (lv_at hl 6 rfl) ?_
                      refine lv_istore (lv' := [(9, .int (bsW w ro K q)), (5, .long (lN (fb_sm (fun q => prN w ro K 0 6 (wayN w ro K q)) (q + 1)))), (0, .ref (ad 0)), (1, .long (lN (Sx' w K ro K 6))), (3, .int (nI (Cx' w K ro K 6))), (4, .int (nI (K))), (7, .long (lN ((mostN (fun q => prN w ro K 0 6 (wayN w ro K q)) q).2))), (10, .int (nI (q))), (11, .int (nI ((wayN w ro K q).length))), (12, .long (lN (prN w ro K 0 6 (wayN w ro K q)))), (14, .int (nI (dkN (wayN w ro K q) k))), (15, .int (nI (k)))]) hx hb dL_areWays_287 hl (by decide) rfl (fun ls hl => ?_)
                      refine lv_lload hx hb dL_areWays_289 (lv_at hl 9 rfl) ?_
                      refine lv_lload hx hb dL_areWays_291 (lv_at hl 6 rfl) ?_
                      refine q_lcmp hx hb dL_areWays_293 ?_
                      refine q_lle (tgt := 302) hx hb dL_areWays_294 (by decide) hpr63 hms63 (fun c_294 => ?_) (fun c_294 => absurd c_294 (by omega))
                      refine lv_lload hx hb dL_areWays_302 (lv_at hl 6 rfl) ?_
                      refine lv_lstore (lv' := [(7, .long (lN ((mostN (fun q => prN w ro K 0 6 (wayN w ro K q)) q).2))), (9, .int (bsW w ro K q)), (5, .long (lN (fb_sm (fun q => prN w ro K 0 6 (wayN w ro K q)) (q + 1)))), (0, .ref (ad 0)), (1, .long (lN (Sx' w K ro K 6))), (3, .int (nI (Cx' w K ro K 6))), (4, .int (nI (K))), (10, .int (nI (q))), (11, .int (nI ((wayN w ro K q).length))), (12, .long (lN (prN w ro K 0 6 (wayN w ro K q)))), (14, .int (nI (dkN (wayN w ro K q) k))), (15, .int (nI (k)))]) hx hb dL_areWays_304 hl (by decide) rfl (fun ls hl => ?_)
                      have hmy := mostN_n (g := (fun q => prN w ro K 0 6 (wayN w ro K q))) (t := q) (Nat.not_lt.mpr c_277)
                      have hqn : q ≠ 0 := fun z => by rw [z] at c_277 hpr0; have h7 : prN w ro K 0 6 (wayN w ro K 0) ≤ 0 := c_277; omega
                      have hl : lv_has ls 17 [(7, .long (lN ((mostN (fun q => prN w ro K 0 6 (wayN w ro K q)) (q + 1)).2))), (9, .int (bsW w ro K (q + 1))), (5, .long (lN (fb_sm (fun q => prN w ro K 0 6 (wayN w ro K q)) (q + 1)))), (0, .ref (ad 0)), (1, .long (lN (Sx' w K ro K 6))), (3, .int (nI (Cx' w K ro K 6))), (4, .int (nI (K))), (10, .int (nI (q))), (11, .int (nI ((wayN w ro K q).length))), (12, .long (lN (prN w ro K 0 6 (wayN w ro K q)))), (14, .int (nI (dkN (wayN w ro K q) k))), (15, .int (nI (k)))] := by rw [show bsW w ro K (q + 1) = bsW w ro K q from by unfold bsW; rw [if_neg (by omega), if_neg hqn, hmy], show (mostN (fun q => prN w ro K 0 6 (wayN w ro K q)) (q + 1)).2 = (mostN (fun q => prN w ro K 0 6 (wayN w ro K q)) q).2 from by rw [hmy]]; exact hl
                      refine q_iinc (z2 := q + 1) (lv' := [(10, .int (nI (q + 1))), (7, .long (lN ((mostN (fun q => prN w ro K 0 6 (wayN w ro K q)) (q + 1)).2))), (9, .int (bsW w ro K (q + 1))), (5, .long (lN (fb_sm (fun q => prN w ro K 0 6 (wayN w ro K q)) (q + 1)))), (0, .ref (ad 0)), (1, .long (lN (Sx' w K ro K 6))), (3, .int (nI (Cx' w K ro K 6))), (4, .int (nI (K))), (11, .int (nI ((wayN w ro K q).length))), (12, .long (lN (prN w ro K 0 6 (wayN w ro K q)))), (14, .int (nI (dkN (wayN w ro K q) k))), (15, .int (nI (k)))]) hx hb dL_areWays_306 hl (k := 7) rfl (inc_up _ 1 (by decide)) (by decide) rfl (fun ls hl => ?_)
                      refine lv_goto (tgt := 59) hx hb dL_areWays_309 (by decide) ?_
                      exact ih_59 (q + 1) I_241 L_241 R_241 (by omega) hq hA hG _ _ hW _ (lv_sub hl [4, 5, 6, 7, 3, 1, 2, 0] rfl)
                    ·
                      refine lv_iload hx hb dL_areWays_280 (lv_at hl 7 rfl) ?_
                      refine lv_goto (tgt := 287) hx hb dL_areWays_282 (by decide) ?_
                      refine lv_istore (lv' := [(9, .int (nI (q))), (5, .long (lN (fb_sm (fun q => prN w ro K 0 6 (wayN w ro K q)) (q + 1)))), (0, .ref (ad 0)), (1, .long (lN (Sx' w K ro K 6))), (3, .int (nI (Cx' w K ro K 6))), (4, .int (nI (K))), (7, .long (lN ((mostN (fun q => prN w ro K 0 6 (wayN w ro K q)) q).2))), (10, .int (nI (q))), (11, .int (nI ((wayN w ro K q).length))), (12, .long (lN (prN w ro K 0 6 (wayN w ro K q)))), (14, .int (nI (dkN (wayN w ro K q) k))), (15, .int (nI (k)))]) hx hb dL_areWays_287 hl (by decide) rfl (fun ls hl => ?_)
                      refine lv_lload hx hb dL_areWays_289 (lv_at hl 9 rfl) ?_
                      refine lv_lload hx hb dL_areWays_291 (lv_at hl 6 rfl) ?_
                      refine q_lcmp hx hb dL_areWays_293 ?_
                      refine q_lle (tgt := 302) hx hb dL_areWays_294 (by decide) hpr63 hms63 (fun c_294 => absurd c_294 (by omega)) (fun c_294 => ?_)
                      refine lv_lload hx hb dL_areWays_297 (lv_at hl 9 rfl) ?_
                      refine lv_goto (tgt := 304) hx hb dL_areWays_299 (by decide) ?_
                      refine lv_lstore (lv' := [(7, .long (lN (prN w ro K 0 6 (wayN w ro K q)))), (9, .int (nI (q))), (5, .long (lN (fb_sm (fun q => prN w ro K 0 6 (wayN w ro K q)) (q + 1)))), (0, .ref (ad 0)), (1, .long (lN (Sx' w K ro K 6))), (3, .int (nI (Cx' w K ro K 6))), (4, .int (nI (K))), (10, .int (nI (q))), (11, .int (nI ((wayN w ro K q).length))), (12, .long (lN (prN w ro K 0 6 (wayN w ro K q)))), (14, .int (nI (dkN (wayN w ro K q) k))), (15, .int (nI (k)))]) hx hb dL_areWays_304 hl (by decide) rfl (fun ls hl => ?_)
                      have hmy := mostN_y (g := (fun q => prN w ro K 0 6 (wayN w ro K q))) (t := q) c_277
                      have hl : lv_has ls 17 [(7, .long (lN ((mostN (fun q => prN w ro K 0 6 (wayN w ro K q)) (q + 1)).2))), (9, .int (bsW w ro K (q + 1))), (5, .long (lN (fb_sm (fun q => prN w ro K 0 6 (wayN w ro K q)) (q + 1)))), (0, .ref (ad 0)), (1, .long (lN (Sx' w K ro K 6))), (3, .int (nI (Cx' w K ro K 6))), (4, .int (nI (K))), (10, .int (nI (q))), (11, .int (nI ((wayN w ro K q).length))), (12, .long (lN (prN w ro K 0 6 (wayN w ro K q)))), (14, .int (nI (dkN (wayN w ro K q) k))), (15, .int (nI (k)))] := by rw [show bsW w ro K (q + 1) = nI q from by unfold bsW; rw [if_neg (by omega), hmy], show (mostN (fun q => prN w ro K 0 6 (wayN w ro K q)) (q + 1)).2 = prN w ro K 0 6 (wayN w ro K q) from by rw [hmy]]; exact hl
                      refine q_iinc (z2 := q + 1) (lv' := [(10, .int (nI (q + 1))), (7, .long (lN ((mostN (fun q => prN w ro K 0 6 (wayN w ro K q)) (q + 1)).2))), (9, .int (bsW w ro K (q + 1))), (5, .long (lN (fb_sm (fun q => prN w ro K 0 6 (wayN w ro K q)) (q + 1)))), (0, .ref (ad 0)), (1, .long (lN (Sx' w K ro K 6))), (3, .int (nI (Cx' w K ro K 6))), (4, .int (nI (K))), (11, .int (nI ((wayN w ro K q).length))), (12, .long (lN (prN w ro K 0 6 (wayN w ro K q)))), (14, .int (nI (dkN (wayN w ro K q) k))), (15, .int (nI (k)))]) hx hb dL_areWays_306 hl (k := 7) rfl (inc_up _ 1 (by decide)) (by decide) rfl (fun ls hl => ?_)
                      refine lv_goto (tgt := 59) hx hb dL_areWays_309 (by decide) ?_
                      exact ih_59 (q + 1) I_241 L_241 R_241 (by omega) hq hA hG _ _ hW _ (lv_sub hl [4, 5, 6, 7, 3, 1, 2, 0] rfl)
                  ·
                    refine lv_aload_n hx hb dL_areWays_254 rfl (lv_at hl 0 rfl) ?_
                    refine lv_iload hx hb dL_areWays_255 (lv_at hl 7 rfl) ?_
                    refine q_kI2 (q_rS (As := [.ref (ad 0), .int (nI (q))]) (rest := []) hC hW mw_L_isBehind gw_339 (k_isBehind l G n ad H.size I_241 L_241 R_241 q w K ro hc hi sv pn ch hA (by omega) hq) ⟨rfl, rfl⟩ ⟨Nat.le_of_ble_eq_true rfl, Nat.le_of_ble_eq_true rfl⟩ ⟨(Nat.le_of_ble_eq_true rfl), (Nat.le_of_ble_eq_true rfl)⟩ hl.1 rfl rfl (Nat.le_of_ble_eq_true rfl) dL_areWays_257) hW (fun r_257 n_257 ad_257 I_257 L_257 R_257 H locs hp hW => ?_)
                    obtain ⟨hz, rfl, rfl, hA, hF⟩ := PR_use hp
                    have hG := fr_t hF hG
                    have hz : r_257 = nI 1 := hz
                    subst hz
                    refine q_ine (tgt := 265) hx hb dL_areWays_260 (by decide) (by first | omega | exact Nat.lt_of_le_of_lt (hw3 _) (by decide) | exact Nat.lt_of_lt_of_le (hr4 _) (by decide) | exact Nat.lt_of_le_of_lt (bp_le _) (by decide) | assumption) (fun c_260 => ?_) (fun c_260 => absurd c_260 (by decide))
                    refine lv_lload hx hb dL_areWays_265 (lv_at hl 4 rfl) ?_
                    refine lv_lload hx hb dL_areWays_267 (lv_at hl 9 rfl) ?_
                    refine q_ladd hx hb dL_areWays_269 ?_
                    refine q_top (v2 := .long (lN (fb_sm (fun q => prN w ro K 0 6 (wayN w ro K q)) (q + 1)))) rfl ?_
                    refine lv_lstore (lv' := [(5, .long (lN (fb_sm (fun q => prN w ro K 0 6 (wayN w ro K q)) (q + 1)))), (0, .ref (ad 0)), (1, .long (lN (Sx' w K ro K 6))), (3, .int (nI (Cx' w K ro K 6))), (4, .int (nI (K))), (7, .long (lN ((mostN (fun q => prN w ro K 0 6 (wayN w ro K q)) q).2))), (9, .int (bsW w ro K q)), (10, .int (nI (q))), (11, .int (nI ((wayN w ro K q).length))), (12, .long (lN (prN w ro K 0 6 (wayN w ro K q)))), (14, .int (nI (dkN (wayN w ro K q) k))), (15, .int (nI (k)))]) hx hb dL_areWays_270 hl (by decide) rfl (fun ls hl => ?_)
                    refine lv_lload hx hb dL_areWays_272 (lv_at hl 9 rfl) ?_
                    refine lv_lload hx hb dL_areWays_274 (lv_at hl 5 rfl) ?_
                    refine q_lcmp hx hb dL_areWays_276 ?_
                    refine q_lle (tgt := 285) hx hb dL_areWays_277 (by decide) hpr63 hms63 (fun c_277 => ?_) (fun c_277 => ?_)
                    ·
                      refine lv_iload hx hb dL_areWays_285 (lv_at hl 6 rfl) ?_
                      refine lv_istore (lv' := [(9, .int (bsW w ro K q)), (5, .long (lN (fb_sm (fun q => prN w ro K 0 6 (wayN w ro K q)) (q + 1)))), (0, .ref (ad 0)), (1, .long (lN (Sx' w K ro K 6))), (3, .int (nI (Cx' w K ro K 6))), (4, .int (nI (K))), (7, .long (lN ((mostN (fun q => prN w ro K 0 6 (wayN w ro K q)) q).2))), (10, .int (nI (q))), (11, .int (nI ((wayN w ro K q).length))), (12, .long (lN (prN w ro K 0 6 (wayN w ro K q)))), (14, .int (nI (dkN (wayN w ro K q) k))), (15, .int (nI (k)))]) hx hb dL_areWays_287 hl (by decide) rfl (fun ls hl => ?_)
                      refine lv_lload hx hb dL_areWays_289 (lv_at hl 9 rfl) ?_
                      refine lv_lload hx hb dL_areWays_291 (lv_at hl 6 rfl) ?_
                      refine q_lcmp hx hb dL_areWays_293 ?_
                      refine q_lle (tgt := 302) hx hb dL_areWays_294 (by decide) hpr63 hms63 (fun c_294 => ?_) (fun c_294 => absurd c_294 (by omega))
                      refine lv_lload hx hb dL_areWays_302 (lv_at hl 6 rfl) ?_
                      refine lv_lstore (lv' := [(7, .long (lN ((mostN (fun q => prN w ro K 0 6 (wayN w ro K q)) q).2))), (9, .int (bsW w ro K q)), (5, .long (lN (fb_sm (fun q => prN w ro K 0 6 (wayN w ro K q)) (q + 1)))), (0, .ref (ad 0)), (1, .long (lN (Sx' w K ro K 6))), (3, .int (nI (Cx' w K ro K 6))), (4, .int (nI (K))), (10, .int (nI (q))), (11, .int (nI ((wayN w ro K q).length))), (12, .long (lN (prN w ro K 0 6 (wayN w ro K q)))), (14, .int (nI (dkN (wayN w ro K q) k))), (15, .int (nI (k)))]) hx hb dL_areWays_304 hl (by decide) rfl (fun ls hl => ?_)
                      have hmy := mostN_n (g := (fun q => prN w ro K 0 6 (wayN w ro K q))) (t := q) (Nat.not_lt.mpr c_277)
                      have hqn : q ≠ 0 := fun z => by rw [z] at c_277 hpr0; have h7 : prN w ro K 0 6 (wayN w ro K 0) ≤ 0 := c_277; omega
                      have hl : lv_has ls 17 [(7, .long (lN ((mostN (fun q => prN w ro K 0 6 (wayN w ro K q)) (q + 1)).2))), (9, .int (bsW w ro K (q + 1))), (5, .long (lN (fb_sm (fun q => prN w ro K 0 6 (wayN w ro K q)) (q + 1)))), (0, .ref (ad 0)), (1, .long (lN (Sx' w K ro K 6))), (3, .int (nI (Cx' w K ro K 6))), (4, .int (nI (K))), (10, .int (nI (q))), (11, .int (nI ((wayN w ro K q).length))), (12, .long (lN (prN w ro K 0 6 (wayN w ro K q)))), (14, .int (nI (dkN (wayN w ro K q) k))), (15, .int (nI (k)))] := by rw [show bsW w ro K (q + 1) = bsW w ro K q from by unfold bsW; rw [if_neg (by omega), if_neg hqn, hmy], show (mostN (fun q => prN w ro K 0 6 (wayN w ro K q)) (q + 1)).2 = (mostN (fun q => prN w ro K 0 6 (wayN w ro K q)) q).2 from by rw [hmy]]; exact hl
                      refine q_iinc (z2 := q + 1) (lv' := [(10, .int (nI (q + 1))), (7, .long (lN ((mostN (fun q => prN w ro K 0 6 (wayN w ro K q)) (q + 1)).2))), (9, .int (bsW w ro K (q + 1))), (5, .long (lN (fb_sm (fun q => prN w ro K 0 6 (wayN w ro K q)) (q + 1)))), (0, .ref (ad 0)), (1, .long (lN (Sx' w K ro K 6))), (3, .int (nI (Cx' w K ro K 6))), (4, .int (nI (K))), (11, .int (nI ((wayN w ro K q).length))), (12, .long (lN (prN w ro K 0 6 (wayN w ro K q)))), (14, .int (nI (dkN (wayN w ro K q) k))), (15, .int (nI (k)))]) hx hb dL_areWays_306 hl (k := 7) rfl (inc_up _ 1 (by decide)) (by decide) rfl (fun ls hl => ?_)
                      refine lv_goto (tgt := 59) hx hb dL_areWays_309 (by decide) ?_
                      exact ih_59 (q + 1) I_257 L_257 R_257 (by omega) hq hA hG _ _ hW _ (lv_sub hl [4, 5, 6, 7, 3, 1, 2, 0] rfl)
                    ·
                      refine lv_iload hx hb dL_areWays_280 (lv_at hl 7 rfl) ?_
                      refine lv_goto (tgt := 287) hx hb dL_areWays_282 (by decide) ?_
                      refine lv_istore (lv' := [(9, .int (nI (q))), (5, .long (lN (fb_sm (fun q => prN w ro K 0 6 (wayN w ro K q)) (q + 1)))), (0, .ref (ad 0)), (1, .long (lN (Sx' w K ro K 6))), (3, .int (nI (Cx' w K ro K 6))), (4, .int (nI (K))), (7, .long (lN ((mostN (fun q => prN w ro K 0 6 (wayN w ro K q)) q).2))), (10, .int (nI (q))), (11, .int (nI ((wayN w ro K q).length))), (12, .long (lN (prN w ro K 0 6 (wayN w ro K q)))), (14, .int (nI (dkN (wayN w ro K q) k))), (15, .int (nI (k)))]) hx hb dL_areWays_287 hl (by decide) rfl (fun ls hl => ?_)
                      refine lv_lload hx hb dL_areWays_289 (lv_at hl 9 rfl) ?_
                      refine lv_lload hx hb dL_areWays_291 (lv_at hl 6 rfl) ?_
                      refine q_lcmp hx hb dL_areWays_293 ?_
                      refine q_lle (tgt := 302) hx hb dL_areWays_294 (by decide) hpr63 hms63 (fun c_294 => absurd c_294 (by omega)) (fun c_294 => ?_)
                      refine lv_lload hx hb dL_areWays_297 (lv_at hl 9 rfl) ?_
                      refine lv_goto (tgt := 304) hx hb dL_areWays_299 (by decide) ?_
                      refine lv_lstore (lv' := [(7, .long (lN (prN w ro K 0 6 (wayN w ro K q)))), (9, .int (nI (q))), (5, .long (lN (fb_sm (fun q => prN w ro K 0 6 (wayN w ro K q)) (q + 1)))), (0, .ref (ad 0)), (1, .long (lN (Sx' w K ro K 6))), (3, .int (nI (Cx' w K ro K 6))), (4, .int (nI (K))), (10, .int (nI (q))), (11, .int (nI ((wayN w ro K q).length))), (12, .long (lN (prN w ro K 0 6 (wayN w ro K q)))), (14, .int (nI (dkN (wayN w ro K q) k))), (15, .int (nI (k)))]) hx hb dL_areWays_304 hl (by decide) rfl (fun ls hl => ?_)
                      have hmy := mostN_y (g := (fun q => prN w ro K 0 6 (wayN w ro K q))) (t := q) c_277
                      have hl : lv_has ls 17 [(7, .long (lN ((mostN (fun q => prN w ro K 0 6 (wayN w ro K q)) (q + 1)).2))), (9, .int (bsW w ro K (q + 1))), (5, .long (lN (fb_sm (fun q => prN w ro K 0 6 (wayN w ro K q)) (q + 1)))), (0, .ref (ad 0)), (1, .long (lN (Sx' w K ro K 6))), (3, .int (nI (Cx' w K ro K 6))), (4, .int (nI (K))), (10, .int (nI (q))), (11, .int (nI ((wayN w ro K q).length))), (12, .long (lN (prN w ro K 0 6 (wayN w ro K q)))), (14, .int (nI (dkN (wayN w ro K q) k))), (15, .int (nI (k)))] := by rw [show bsW w ro K (q + 1) = nI q from by unfold bsW; rw [if_neg (by omega), hmy], show (mostN (fun q => prN w ro K 0 6 (wayN w ro K q)) (q + 1)).2 = prN w ro K 0 6 (wayN w ro K q) from by rw [hmy]]; exact hl
                      refine q_iinc (z2 := q + 1) (lv' := [(10, .int (nI (q + 1))), (7, .long (lN ((mostN (fun q => prN w ro K 0 6 (wayN w ro K q)) (q + 1)).2))), (9, .int (bsW w ro K (q + 1))), (5, .long (lN (fb_sm (fun q => prN w ro K 0 6 (wayN w ro K q)) (q + 1)))), (0, .ref (ad 0)), (1, .long (lN (Sx' w K ro K 6))), (3, .int (nI (Cx' w K ro K 6))), (4, .int (nI (K))), (11, .int (nI ((wayN w ro K q).length))), (12, .long (lN (prN w ro K 0 6 (wayN w ro K q)))), (14, .int (nI (dkN (wayN w ro K q) k))), (15, .int (nI (k)))]) hx hb dL_areWays_306 hl (k := 7) rfl (inc_up _ 1 (by decide)) (by decide) rfl (fun ls hl => ?_)
                      refine lv_goto (tgt := 59) hx hb dL_areWays_309 (by decide) ?_
                      exact ih_59 (q + 1) I_257 L_257 R_257 (by omega) hq hA hG _ _ hW _ (lv_sub hl [4, 5, 6, 7, 3, 1, 2, 0] rfl)
              ·
                have hc6 := hwk.2.2.1 k (show k < (wayN w ro K q).length by omega)
                refine lv_aload_n hx hb dL_areWays_90 rfl (lv_at hl 0 rfl) ?_
                refine lv_iload hx hb dL_areWays_91 (lv_at hl 7 rfl) ?_
                refine lv_iload hx hb dL_areWays_93 (lv_at hl 11 rfl) ?_
                refine q_kI2 (q_rV (As := [.int (nI (q)), .int (nI (k))]) (rest := []) (x := 0) hC hW mw_X5_way gw_331 (k_way l G n ad H.size J83 M83 Q83 (nI q) (nI k) w K ro hc hi sv pn ch hA) (by omega) (ct_o5 kd_0) rfl ⟨rfl, rfl⟩ ⟨Nat.le_of_ble_eq_true rfl, Nat.le_of_ble_eq_true rfl⟩ ⟨(Nat.le_of_ble_eq_true rfl), (Nat.le_of_ble_eq_true rfl)⟩ hl.1 rfl rfl (Nat.le_of_ble_eq_true rfl) dL_areWays_95) hW (fun r_95 n_95 ad_95 I_95 L_95 R_95 H locs hp hW => ?_)
                obtain ⟨hz, rfl, rfl, hA, hF⟩ := PR_use hp
                have hG := fr_t hF hG
                have hz : r_95 = nI ((wayN w ro K q).getD k 0) := hz.trans ((aWy1 (m := (w, K, ro)) (q := q) (x := nI k) (show q < Cx' w K ro K 6 by first | omega | assumption) hC31 (nI_nn (by omega))).trans (tS1 (l := wayN w ro K q) (k := k) (by omega) hlen))
                subst hz
                refine lv_istore (lv' := [(16, .int (nI ((wayN w ro K q).getD k 0))), (0, .ref (ad 0)), (1, .long (lN (Sx' w K ro K 6))), (3, .int (nI (Cx' w K ro K 6))), (4, .int (nI (K))), (5, .long (lN (fb_sm (fun q => prN w ro K 0 6 (wayN w ro K q)) q))), (7, .long (lN ((mostN (fun q => prN w ro K 0 6 (wayN w ro K q)) q).2))), (9, .int (bsW w ro K q)), (10, .int (nI (q))), (11, .int (nI ((wayN w ro K q).length))), (12, .long (lN (ppN w ro K (wayN w ro K q) k))), (14, .int (nI (dkN (wayN w ro K q) k))), (15, .int (nI (k)))]) hx hb dL_areWays_98 hl (by decide) rfl (fun ls hl => ?_)
                refine lv_lload hx hb dL_areWays_100 (lv_at hl 10 rfl) ?_
                refine lv_iload hx hb dL_areWays_102 (lv_at hl 12 rfl) ?_
                refine q_ine (tgt := 119) hx hb dL_areWays_104 (by decide) (by first | omega | exact Nat.lt_of_le_of_lt (hw3 _) (by decide) | exact Nat.lt_of_lt_of_le (hr4 _) (by decide) | exact Nat.lt_of_le_of_lt (bp_le _) (by decide) | assumption) (fun c_104 => ?_) (fun c_104 => ?_)
                ·
                  have hp6 := hwk.2.2.1 (k - 1) (show k - 1 < (wayN w ro K q).length by omega)
                  refine lv_aload_n hx hb dL_areWays_119 rfl (lv_at hl 1 rfl) ?_
                  refine q_ic 1 hx hb dL_areWays_120 (by decide) ?_
                  refine lv_aload_n hx hb dL_areWays_121 rfl (lv_at hl 1 rfl) ?_
                  refine lv_iload hx hb dL_areWays_122 (lv_at hl 8 rfl) ?_
                  refine lv_iload hx hb dL_areWays_124 (lv_at hl 12 rfl) ?_
                  refine q_ic 1 hx hb dL_areWays_126 (by decide) ?_
                  refine q_isub hx hb dL_areWays_127 (by omega) ?_
                  refine q_kI2 (q_rV (As := [.int (nI (q)), .int (nI (k - 1))]) (rest := [.int (nI 1), .ref (ad 0), .long (lN (ppN w ro K (wayN w ro K q) k))]) (x := 0) hC hW mw_X5_way gw_331 (k_way l G n ad H.size I_95 L_95 R_95 (nI q) (nI (k - 1)) w K ro hc hi sv pn ch hA) (by omega) (ct_o5 kd_0) rfl ⟨rfl, rfl⟩ ⟨Nat.le_of_ble_eq_true rfl, Nat.le_of_ble_eq_true rfl⟩ ⟨(Nat.le_of_ble_eq_true rfl), (Nat.le_of_ble_eq_true rfl)⟩ hl.1 rfl rfl (Nat.le_of_ble_eq_true rfl) dL_areWays_128) hW (fun r_128 n_128 ad_128 I_128 L_128 R_128 H locs hp hW => ?_)
                  obtain ⟨hz, rfl, rfl, hA, hF⟩ := PR_use hp
                  have hG := fr_t hF hG
                  have hz : r_128 = nI ((wayN w ro K q).getD (k - 1) 0) := hz.trans ((aWy1 (m := (w, K, ro)) (q := q) (x := nI (k - 1)) (show q < Cx' w K ro K 6 by first | omega | assumption) hC31 (nI_nn (by omega))).trans (tS1 (l := wayN w ro K q) (k := k - 1) (by omega) hlen))
                  subst hz
                  refine lv_iload hx hb dL_areWays_131 (lv_at hl 0 rfl) ?_
                  refine q_kI2 (q_rV (As := [.int (nI 1), .int (nI ((wayN w ro K q).getD (k - 1) 0)), .int (nI ((wayN w ro K q).getD k 0))]) (rest := [.long (lN (ppN w ro K (wayN w ro K q) k))]) (x := 0) hC hW mw_X5_weight gw_156 (k_weight l G n ad H.size I_128 L_128 R_128 (nI 1) (nI ((wayN w ro K q).getD (k - 1) 0)) (nI ((wayN w ro K q).getD k 0)) w K ro hc hi sv pn ch hA) (by omega) (ct_o5 kd_0) rfl ⟨rfl, rfl⟩ ⟨Nat.le_of_ble_eq_true rfl, Nat.le_of_ble_eq_true rfl⟩ ⟨(Nat.le_of_ble_eq_true rfl), (Nat.le_of_ble_eq_true rfl)⟩ hl.1 rfl rfl (Nat.le_of_ble_eq_true rfl) dL_areWays_133) hW (fun r_133 n_133 ad_133 I_133 L_133 R_133 H locs hp hW => ?_)
                  obtain ⟨hz, rfl, rfl, hA, hF⟩ := PR_use hp
                  have hG := fr_t hF hG
                  have hz : r_133 = nI (w (((wayN w ro K q).getD (k - 1) 0) * 6 + ((wayN w ro K q).getD k 0))) := hz.trans (aW1 (S := ((w, K, ro), hc, hi, sv, pn, ch)) (f := (wayN w ro K q).getD (k - 1) 0) (t := (wayN w ro K q).getD k 0) (by first | omega | assumption) (by first | omega | assumption))
                  subst hz
                  refine q_i2l hx hb dL_areWays_136 (by first | omega | exact Nat.lt_of_le_of_lt (hw3 _) (by decide) | exact Nat.lt_of_lt_of_le (hr4 _) (by decide) | exact Nat.lt_of_le_of_lt (bp_le _) (by decide) | assumption) ?_
                  refine q_top (v2 := .long (lN (w (pv (wayN w ro K q) k * 6 + (wayN w ro K q).getD k 0)))) (congrArg (fun z => Value.long (lN z)) (by rw [(show pv (wayN w ro K q) k = (wayN w ro K q).getD (k - 1) 0 from if_neg c_104)])) ?_
                  refine q_lmul hx hb dL_areWays_137 ?_
                  refine lv_lstore (lv' := [(12, .long (lN ((ppN w ro K (wayN w ro K q) k) * (w (pv (wayN w ro K q) k * 6 + (wayN w ro K q).getD k 0))))), (16, .int (nI ((wayN w ro K q).getD k 0))), (0, .ref (ad 0)), (1, .long (lN (Sx' w K ro K 6))), (3, .int (nI (Cx' w K ro K 6))), (4, .int (nI (K))), (5, .long (lN (fb_sm (fun q => prN w ro K 0 6 (wayN w ro K q)) q))), (7, .long (lN ((mostN (fun q => prN w ro K 0 6 (wayN w ro K q)) q).2))), (9, .int (bsW w ro K q)), (10, .int (nI (q))), (11, .int (nI ((wayN w ro K q).length))), (14, .int (nI (dkN (wayN w ro K q) k))), (15, .int (nI (k)))]) hx hb dL_areWays_138 hl (by decide) rfl (fun ls hl => ?_)
                  refine lv_lload hx hb dL_areWays_140 (lv_at hl 0 rfl) ?_
                  refine lv_iload hx hb dL_areWays_142 (lv_at hl 1 rfl) ?_
                  refine q_ic 4 hx hb dL_areWays_144 (by decide) ?_
                  refine q_cge (tgt := 165) hx hb dL_areWays_145 (by decide) (by first | omega | exact Nat.lt_of_le_of_lt (hw3 _) (by decide) | exact Nat.lt_of_lt_of_le (hr4 _) (by decide) | exact Nat.lt_of_le_of_lt (bp_le _) (by decide) | assumption) (by first | omega | exact Nat.lt_of_le_of_lt (hw3 _) (by decide) | exact Nat.lt_of_lt_of_le (hr4 _) (by decide) | exact Nat.lt_of_le_of_lt (bp_le _) (by decide) | assumption) (fun c_145 => ?_) (fun c_145 => ?_)
                  ·
                    refine q_lc 1 hx hb dL_areWays_165 (by decide) ?_
                    refine q_lmul hx hb dL_areWays_166 ?_
                    refine q_top (v2 := .long (lN (ppN w ro K (wayN w ro K q) (k + 1)))) (congrArg (fun z => Value.long (lN z)) (by show _ = ppN w ro K (wayN w ro K q) k * mv w K ro (pv (wayN w ro K q) k) ((wayN w ro K q).getD k 0) (dkN (wayN w ro K q) k); unfold mv; rw [if_pos (by omega), Nat.mul_one])) ?_
                    refine lv_lstore (lv' := [(12, .long (lN (ppN w ro K (wayN w ro K q) (k + 1)))), (16, .int (nI ((wayN w ro K q).getD k 0))), (0, .ref (ad 0)), (1, .long (lN (Sx' w K ro K 6))), (3, .int (nI (Cx' w K ro K 6))), (4, .int (nI (K))), (5, .long (lN (fb_sm (fun q => prN w ro K 0 6 (wayN w ro K q)) q))), (7, .long (lN ((mostN (fun q => prN w ro K 0 6 (wayN w ro K q)) q).2))), (9, .int (bsW w ro K q)), (10, .int (nI (q))), (11, .int (nI ((wayN w ro K q).length))), (14, .int (nI (dkN (wayN w ro K q) k))), (15, .int (nI (k)))]) hx hb dL_areWays_167 hl (by decide) rfl (fun ls hl => ?_)
                    refine lv_iload hx hb dL_areWays_169 (lv_at hl 11 rfl) ?_
                    refine lv_iload hx hb dL_areWays_171 (lv_at hl 1 rfl) ?_
                    refine q_ic 4 hx hb dL_areWays_173 (by decide) ?_
                    refine q_cge (tgt := 181) hx hb dL_areWays_174 (by decide) (by first | omega | exact Nat.lt_of_le_of_lt (hw3 _) (by decide) | exact Nat.lt_of_lt_of_le (hr4 _) (by decide) | exact Nat.lt_of_le_of_lt (bp_le _) (by decide) | assumption) (by first | omega | exact Nat.lt_of_le_of_lt (hw3 _) (by decide) | exact Nat.lt_of_lt_of_le (hr4 _) (by decide) | exact Nat.lt_of_le_of_lt (bp_le _) (by decide) | assumption) (fun c_174 => ?_) (fun c_174 => absurd c_174 (by omega))
                    refine q_ic 0 hx hb dL_areWays_181 (by decide) ?_
                    refine q_iadd hx hb dL_areWays_182 ?_
                    refine q_top (v2 := .int (nI (dkN (wayN w ro K q) (k + 1)))) (congrArg (fun z => Value.int (nI z)) (show dkN (wayN w ro K q) k + 0 = nx ((wayN w ro K q).getD k 0) (dkN (wayN w ro K q) k) from by unfold nx; split <;> omega)) ?_
                    refine lv_istore (lv' := [(14, .int (nI (dkN (wayN w ro K q) (k + 1)))), (12, .long (lN (ppN w ro K (wayN w ro K q) (k + 1)))), (16, .int (nI ((wayN w ro K q).getD k 0))), (0, .ref (ad 0)), (1, .long (lN (Sx' w K ro K 6))), (3, .int (nI (Cx' w K ro K 6))), (4, .int (nI (K))), (5, .long (lN (fb_sm (fun q => prN w ro K 0 6 (wayN w ro K q)) q))), (7, .long (lN ((mostN (fun q => prN w ro K 0 6 (wayN w ro K q)) q).2))), (9, .int (bsW w ro K q)), (10, .int (nI (q))), (11, .int (nI ((wayN w ro K q).length))), (15, .int (nI (k)))]) hx hb dL_areWays_183 hl (by decide) rfl (fun ls hl => ?_)
                    refine q_iinc (z2 := k + 1) (lv' := [(15, .int (nI (k + 1))), (14, .int (nI (dkN (wayN w ro K q) (k + 1)))), (12, .long (lN (ppN w ro K (wayN w ro K q) (k + 1)))), (16, .int (nI ((wayN w ro K q).getD k 0))), (0, .ref (ad 0)), (1, .long (lN (Sx' w K ro K 6))), (3, .int (nI (Cx' w K ro K 6))), (4, .int (nI (K))), (5, .long (lN (fb_sm (fun q => prN w ro K 0 6 (wayN w ro K q)) q))), (7, .long (lN ((mostN (fun q => prN w ro K 0 6 (wayN w ro K q)) q).2))), (9, .int (bsW w ro K q)), (10, .int (nI (q))), (11, .int (nI ((wayN w ro K q).length)))]) hx hb dL_areWays_185 hl (k := 12) rfl (inc_up _ 1 (by decide)) (by decide) rfl (fun ls hl => ?_)
                    refine lv_goto (tgt := 83) hx hb dL_areWays_188 (by decide) ?_
                    exact ih_83 (k + 1) I_133 L_133 R_133 (by omega) (by omega) hA hG _ _ hW _ (lv_sub hl [4, 5, 6, 7, 8, 9, 10, 11, 12, 2, 1, 0] rfl)
                  ·
                    have hdk : dkN (wayN w ro K q) k < K := dk_lt (w := w) (r := ro) hwk.2.1 (show k < (wayN w ro K q).length by omega) c_145
                    refine lv_aload_n hx hb dL_areWays_148 rfl (lv_at hl 2 rfl) ?_
                    refine q_ic 2 hx hb dL_areWays_149 (by decide) ?_
                    refine lv_iload hx hb dL_areWays_150 (lv_at hl 1 rfl) ?_
                    refine lv_aload_n hx hb dL_areWays_152 rfl (lv_at hl 2 rfl) ?_
                    refine lv_iload hx hb dL_areWays_153 (lv_at hl 11 rfl) ?_
                    refine q_kI2 (q_rV (As := [.int (nI (dkN (wayN w ro K q) k))]) (rest := [.int (nI ((wayN w ro K q).getD k 0)), .int (nI 2), .ref (ad 0), .long (lN ((ppN w ro K (wayN w ro K q) k) * (w (pv (wayN w ro K q) k * 6 + (wayN w ro K q).getD k 0))))]) (x := 0) hC hW mw_X5_letter gw_183 (k_letter l G n ad H.size I_133 L_133 R_133 (nI (dkN (wayN w ro K q) k)) w K ro hc hi sv pn ch hA) (by omega) (ct_o5 kd_0) rfl ⟨rfl, rfl⟩ ⟨Nat.le_of_ble_eq_true rfl, Nat.le_of_ble_eq_true rfl⟩ ⟨(Nat.le_of_ble_eq_true rfl), (Nat.le_of_ble_eq_true rfl)⟩ hl.1 rfl rfl (Nat.le_of_ble_eq_true rfl) dL_areWays_155) hW (fun r_155 n_155 ad_155 I_155 L_155 R_155 H locs hp hW => ?_)
                    obtain ⟨hz, rfl, rfl, hA, hF⟩ := PR_use hp
                    have hG := fr_t hF hG
                    have hz : r_155 = nI (ro (dkN (wayN w ro K q) k)) := hz.trans (aL1 (S := ((w, K, ro), hc, hi, sv, pn, ch)) (p := dkN (wayN w ro K q) k) (show dkN (wayN w ro K q) k < K by omega) hk6)
                    subst hz
                    refine q_kI2 (q_rV (As := [.int (nI 2), .int (nI ((wayN w ro K q).getD k 0)), .int (nI (ro (dkN (wayN w ro K q) k)))]) (rest := [.long (lN ((ppN w ro K (wayN w ro K q) k) * (w (pv (wayN w ro K q) k * 6 + (wayN w ro K q).getD k 0))))]) (x := 0) hC hW mw_X5_weight gw_156 (k_weight l G n ad H.size I_155 L_155 R_155 (nI 2) (nI ((wayN w ro K q).getD k 0)) (nI (ro (dkN (wayN w ro K q) k))) w K ro hc hi sv pn ch hA) (by omega) (ct_o5 kd_0) rfl ⟨rfl, rfl⟩ ⟨Nat.le_of_ble_eq_true rfl, Nat.le_of_ble_eq_true rfl⟩ ⟨(Nat.le_of_ble_eq_true rfl), (Nat.le_of_ble_eq_true rfl)⟩ hl.1 rfl rfl (Nat.le_of_ble_eq_true rfl) dL_areWays_158) hW (fun r_158 n_158 ad_158 I_158 L_158 R_158 H locs hp hW => ?_)
                    obtain ⟨hz, rfl, rfl, hA, hF⟩ := PR_use hp
                    have hG := fr_t hF hG
                    have hz : r_158 = nI (w (42 + ((wayN w ro K q).getD k 0) * 4 + (ro (dkN (wayN w ro K q) k)))) := hz.trans (aW2 (S := ((w, K, ro), hc, hi, sv, pn, ch)) (c := (wayN w ro K q).getD k 0) (t := ro (dkN (wayN w ro K q) k)) (by first | omega | assumption) (hr4 _))
                    subst hz
                    refine q_i2l hx hb dL_areWays_161 (by first | omega | exact Nat.lt_of_le_of_lt (hw3 _) (by decide) | exact Nat.lt_of_lt_of_le (hr4 _) (by decide) | exact Nat.lt_of_le_of_lt (bp_le _) (by decide) | assumption) ?_
                    refine lv_goto (tgt := 166) hx hb dL_areWays_162 (by decide) ?_
                    refine q_lmul hx hb dL_areWays_166 ?_
                    refine q_top (v2 := .long (lN (ppN w ro K (wayN w ro K q) (k + 1)))) (congrArg (fun z => Value.long (lN z)) (by show _ = ppN w ro K (wayN w ro K q) k * mv w K ro (pv (wayN w ro K q) k) ((wayN w ro K q).getD k 0) (dkN (wayN w ro K q) k); unfold mv; rw [if_neg (by omega), if_pos hdk, Nat.mul_assoc])) ?_
                    refine lv_lstore (lv' := [(12, .long (lN (ppN w ro K (wayN w ro K q) (k + 1)))), (16, .int (nI ((wayN w ro K q).getD k 0))), (0, .ref (ad 0)), (1, .long (lN (Sx' w K ro K 6))), (3, .int (nI (Cx' w K ro K 6))), (4, .int (nI (K))), (5, .long (lN (fb_sm (fun q => prN w ro K 0 6 (wayN w ro K q)) q))), (7, .long (lN ((mostN (fun q => prN w ro K 0 6 (wayN w ro K q)) q).2))), (9, .int (bsW w ro K q)), (10, .int (nI (q))), (11, .int (nI ((wayN w ro K q).length))), (14, .int (nI (dkN (wayN w ro K q) k))), (15, .int (nI (k)))]) hx hb dL_areWays_167 hl (by decide) rfl (fun ls hl => ?_)
                    refine lv_iload hx hb dL_areWays_169 (lv_at hl 11 rfl) ?_
                    refine lv_iload hx hb dL_areWays_171 (lv_at hl 1 rfl) ?_
                    refine q_ic 4 hx hb dL_areWays_173 (by decide) ?_
                    refine q_cge (tgt := 181) hx hb dL_areWays_174 (by decide) (by first | omega | exact Nat.lt_of_le_of_lt (hw3 _) (by decide) | exact Nat.lt_of_lt_of_le (hr4 _) (by decide) | exact Nat.lt_of_le_of_lt (bp_le _) (by decide) | assumption) (by first | omega | exact Nat.lt_of_le_of_lt (hw3 _) (by decide) | exact Nat.lt_of_lt_of_le (hr4 _) (by decide) | exact Nat.lt_of_le_of_lt (bp_le _) (by decide) | assumption) (fun c_174 => absurd c_174 (by omega)) (fun c_174 => ?_)
                    refine q_ic 1 hx hb dL_areWays_177 (by decide) ?_
                    refine lv_goto (tgt := 182) hx hb dL_areWays_178 (by decide) ?_
                    refine q_iadd hx hb dL_areWays_182 ?_
                    refine q_top (v2 := .int (nI (dkN (wayN w ro K q) (k + 1)))) (congrArg (fun z => Value.int (nI z)) (show dkN (wayN w ro K q) k + 1 = nx ((wayN w ro K q).getD k 0) (dkN (wayN w ro K q) k) from by unfold nx; split <;> omega)) ?_
                    refine lv_istore (lv' := [(14, .int (nI (dkN (wayN w ro K q) (k + 1)))), (12, .long (lN (ppN w ro K (wayN w ro K q) (k + 1)))), (16, .int (nI ((wayN w ro K q).getD k 0))), (0, .ref (ad 0)), (1, .long (lN (Sx' w K ro K 6))), (3, .int (nI (Cx' w K ro K 6))), (4, .int (nI (K))), (5, .long (lN (fb_sm (fun q => prN w ro K 0 6 (wayN w ro K q)) q))), (7, .long (lN ((mostN (fun q => prN w ro K 0 6 (wayN w ro K q)) q).2))), (9, .int (bsW w ro K q)), (10, .int (nI (q))), (11, .int (nI ((wayN w ro K q).length))), (15, .int (nI (k)))]) hx hb dL_areWays_183 hl (by decide) rfl (fun ls hl => ?_)
                    refine q_iinc (z2 := k + 1) (lv' := [(15, .int (nI (k + 1))), (14, .int (nI (dkN (wayN w ro K q) (k + 1)))), (12, .long (lN (ppN w ro K (wayN w ro K q) (k + 1)))), (16, .int (nI ((wayN w ro K q).getD k 0))), (0, .ref (ad 0)), (1, .long (lN (Sx' w K ro K 6))), (3, .int (nI (Cx' w K ro K 6))), (4, .int (nI (K))), (5, .long (lN (fb_sm (fun q => prN w ro K 0 6 (wayN w ro K q)) q))), (7, .long (lN ((mostN (fun q => prN w ro K 0 6 (wayN w ro K q)) q).2))), (9, .int (bsW w ro K q)), (10, .int (nI (q))), (11, .int (nI ((wayN w ro K q).length)))]) hx hb dL_areWays_185 hl (k := 12) rfl (inc_up _ 1 (by decide)) (by decide) rfl (fun ls hl => ?_)
                    refine lv_goto (tgt := 83) hx hb dL_areWays_188 (by decide) ?_
                    exact ih_83 (k + 1) I_158 L_158 R_158 (by omega) (by omega) hA hG _ _ hW _ (lv_sub hl [4, 5, 6, 7, 8, 9, 10, 11, 12, 2, 1, 0] rfl)
                ·
                  refine lv_aload_n hx hb dL_areWays_107 rfl (lv_at hl 1 rfl) ?_
                  refine q_ic 0 hx hb dL_areWays_108 (by decide) ?_
                  refine lv_iload hx hb dL_areWays_109 (lv_at hl 0 rfl) ?_
                  refine q_ic 0 hx hb dL_areWays_111 (by decide) ?_
                  refine q_kI2 (q_rV (As := [.int (nI 0), .int (nI ((wayN w ro K q).getD k 0)), .int (nI 0)]) (rest := [.long (lN (ppN w ro K (wayN w ro K q) k))]) (x := 0) hC hW mw_X5_weight gw_156 (k_weight l G n ad H.size I_95 L_95 R_95 (nI 0) (nI ((wayN w ro K q).getD k 0)) (nI 0) w K ro hc hi sv pn ch hA) (by omega) (ct_o5 kd_0) rfl ⟨rfl, rfl⟩ ⟨Nat.le_of_ble_eq_true rfl, Nat.le_of_ble_eq_true rfl⟩ ⟨(Nat.le_of_ble_eq_true rfl), (Nat.le_of_ble_eq_true rfl)⟩ hl.1 rfl rfl (Nat.le_of_ble_eq_true rfl) dL_areWays_112) hW (fun r_112 n_112 ad_112 I_112 L_112 R_112 H locs hp hW => ?_)
                  obtain ⟨hz, rfl, rfl, hA, hF⟩ := PR_use hp
                  have hG := fr_t hF hG
                  have hz : r_112 = nI (w (6 * 6 + ((wayN w ro K q).getD k 0))) := hz.trans (aW0 (S := ((w, K, ro), hc, hi, sv, pn, ch)) (c := (wayN w ro K q).getD k 0) (by first | omega | assumption))
                  subst hz
                  refine q_i2l hx hb dL_areWays_115 (by first | omega | exact Nat.lt_of_le_of_lt (hw3 _) (by decide) | exact Nat.lt_of_lt_of_le (hr4 _) (by decide) | exact Nat.lt_of_le_of_lt (bp_le _) (by decide) | assumption) ?_
                  refine lv_goto (tgt := 137) hx hb dL_areWays_116 (by decide) ?_
                  refine q_top (v2 := .long (lN (w (pv (wayN w ro K q) k * 6 + (wayN w ro K q).getD k 0)))) (congrArg (fun z => Value.long (lN z)) (by rw [(show pv (wayN w ro K q) k = 6 from if_pos c_104)])) ?_
                  refine q_lmul hx hb dL_areWays_137 ?_
                  refine lv_lstore (lv' := [(12, .long (lN ((ppN w ro K (wayN w ro K q) k) * (w (pv (wayN w ro K q) k * 6 + (wayN w ro K q).getD k 0))))), (16, .int (nI ((wayN w ro K q).getD k 0))), (0, .ref (ad 0)), (1, .long (lN (Sx' w K ro K 6))), (3, .int (nI (Cx' w K ro K 6))), (4, .int (nI (K))), (5, .long (lN (fb_sm (fun q => prN w ro K 0 6 (wayN w ro K q)) q))), (7, .long (lN ((mostN (fun q => prN w ro K 0 6 (wayN w ro K q)) q).2))), (9, .int (bsW w ro K q)), (10, .int (nI (q))), (11, .int (nI ((wayN w ro K q).length))), (14, .int (nI (dkN (wayN w ro K q) k))), (15, .int (nI (k)))]) hx hb dL_areWays_138 hl (by decide) rfl (fun ls hl => ?_)
                  refine lv_lload hx hb dL_areWays_140 (lv_at hl 0 rfl) ?_
                  refine lv_iload hx hb dL_areWays_142 (lv_at hl 1 rfl) ?_
                  refine q_ic 4 hx hb dL_areWays_144 (by decide) ?_
                  refine q_cge (tgt := 165) hx hb dL_areWays_145 (by decide) (by first | omega | exact Nat.lt_of_le_of_lt (hw3 _) (by decide) | exact Nat.lt_of_lt_of_le (hr4 _) (by decide) | exact Nat.lt_of_le_of_lt (bp_le _) (by decide) | assumption) (by first | omega | exact Nat.lt_of_le_of_lt (hw3 _) (by decide) | exact Nat.lt_of_lt_of_le (hr4 _) (by decide) | exact Nat.lt_of_le_of_lt (bp_le _) (by decide) | assumption) (fun c_145 => ?_) (fun c_145 => ?_)
                  ·
                    refine q_lc 1 hx hb dL_areWays_165 (by decide) ?_
                    refine q_lmul hx hb dL_areWays_166 ?_
                    refine q_top (v2 := .long (lN (ppN w ro K (wayN w ro K q) (k + 1)))) (congrArg (fun z => Value.long (lN z)) (by show _ = ppN w ro K (wayN w ro K q) k * mv w K ro (pv (wayN w ro K q) k) ((wayN w ro K q).getD k 0) (dkN (wayN w ro K q) k); unfold mv; rw [if_pos (by omega), Nat.mul_one])) ?_
                    refine lv_lstore (lv' := [(12, .long (lN (ppN w ro K (wayN w ro K q) (k + 1)))), (16, .int (nI ((wayN w ro K q).getD k 0))), (0, .ref (ad 0)), (1, .long (lN (Sx' w K ro K 6))), (3, .int (nI (Cx' w K ro K 6))), (4, .int (nI (K))), (5, .long (lN (fb_sm (fun q => prN w ro K 0 6 (wayN w ro K q)) q))), (7, .long (lN ((mostN (fun q => prN w ro K 0 6 (wayN w ro K q)) q).2))), (9, .int (bsW w ro K q)), (10, .int (nI (q))), (11, .int (nI ((wayN w ro K q).length))), (14, .int (nI (dkN (wayN w ro K q) k))), (15, .int (nI (k)))]) hx hb dL_areWays_167 hl (by decide) rfl (fun ls hl => ?_)
                    refine lv_iload hx hb dL_areWays_169 (lv_at hl 11 rfl) ?_
                    refine lv_iload hx hb dL_areWays_171 (lv_at hl 1 rfl) ?_
                    refine q_ic 4 hx hb dL_areWays_173 (by decide) ?_
                    refine q_cge (tgt := 181) hx hb dL_areWays_174 (by decide) (by first | omega | exact Nat.lt_of_le_of_lt (hw3 _) (by decide) | exact Nat.lt_of_lt_of_le (hr4 _) (by decide) | exact Nat.lt_of_le_of_lt (bp_le _) (by decide) | assumption) (by first | omega | exact Nat.lt_of_le_of_lt (hw3 _) (by decide) | exact Nat.lt_of_lt_of_le (hr4 _) (by decide) | exact Nat.lt_of_le_of_lt (bp_le _) (by decide) | assumption) (fun c_174 => ?_) (fun c_174 => absurd c_174 (by omega))
                    refine q_ic 0 hx hb dL_areWays_181 (by decide) ?_
                    refine q_iadd hx hb dL_areWays_182 ?_
                    refine q_top (v2 := .int (nI (dkN (wayN w ro K q) (k + 1)))) (congrArg (fun z => Value.int (nI z)) (show dkN (wayN w ro K q) k + 0 = nx ((wayN w ro K q).getD k 0) (dkN (wayN w ro K q) k) from by unfold nx; split <;> omega)) ?_
                    refine lv_istore (lv' := [(14, .int (nI (dkN (wayN w ro K q) (k + 1)))), (12, .long (lN (ppN w ro K (wayN w ro K q) (k + 1)))), (16, .int (nI ((wayN w ro K q).getD k 0))), (0, .ref (ad 0)), (1, .long (lN (Sx' w K ro K 6))), (3, .int (nI (Cx' w K ro K 6))), (4, .int (nI (K))), (5, .long (lN (fb_sm (fun q => prN w ro K 0 6 (wayN w ro K q)) q))), (7, .long (lN ((mostN (fun q => prN w ro K 0 6 (wayN w ro K q)) q).2))), (9, .int (bsW w ro K q)), (10, .int (nI (q))), (11, .int (nI ((wayN w ro K q).length))), (15, .int (nI (k)))]) hx hb dL_areWays_183 hl (by decide) rfl (fun ls hl => ?_)
                    refine q_iinc (z2 := k + 1) (lv' := [(15, .int (nI (k + 1))), (14, .int (nI (dkN (wayN w ro K q) (k + 1)))), (12, .long (lN (ppN w ro K (wayN w ro K q) (k + 1)))), (16, .int (nI ((wayN w ro K q).getD k 0))), (0, .ref (ad 0)), (1, .long (lN (Sx' w K ro K 6))), (3, .int (nI (Cx' w K ro K 6))), (4, .int (nI (K))), (5, .long (lN (fb_sm (fun q => prN w ro K 0 6 (wayN w ro K q)) q))), (7, .long (lN ((mostN (fun q => prN w ro K 0 6 (wayN w ro K q)) q).2))), (9, .int (bsW w ro K q)), (10, .int (nI (q))), (11, .int (nI ((wayN w ro K q).length)))]) hx hb dL_areWays_185 hl (k := 12) rfl (inc_up _ 1 (by decide)) (by decide) rfl (fun ls hl => ?_)
                    refine lv_goto (tgt := 83) hx hb dL_areWays_188 (by decide) ?_
                    exact ih_83 (k + 1) I_112 L_112 R_112 (by omega) (by omega) hA hG _ _ hW _ (lv_sub hl [4, 5, 6, 7, 8, 9, 10, 11, 12, 2, 1, 0] rfl)
                  ·
                    have hdk : dkN (wayN w ro K q) k < K := dk_lt (w := w) (r := ro) hwk.2.1 (show k < (wayN w ro K q).length by omega) c_145
                    refine lv_aload_n hx hb dL_areWays_148 rfl (lv_at hl 2 rfl) ?_
                    refine q_ic 2 hx hb dL_areWays_149 (by decide) ?_
                    refine lv_iload hx hb dL_areWays_150 (lv_at hl 1 rfl) ?_
                    refine lv_aload_n hx hb dL_areWays_152 rfl (lv_at hl 2 rfl) ?_
                    refine lv_iload hx hb dL_areWays_153 (lv_at hl 11 rfl) ?_
                    refine q_kI2 (q_rV (As := [.int (nI (dkN (wayN w ro K q) k))]) (rest := [.int (nI ((wayN w ro K q).getD k 0)), .int (nI 2), .ref (ad 0), .long (lN ((ppN w ro K (wayN w ro K q) k) * (w (pv (wayN w ro K q) k * 6 + (wayN w ro K q).getD k 0))))]) (x := 0) hC hW mw_X5_letter gw_183 (k_letter l G n ad H.size I_112 L_112 R_112 (nI (dkN (wayN w ro K q) k)) w K ro hc hi sv pn ch hA) (by omega) (ct_o5 kd_0) rfl ⟨rfl, rfl⟩ ⟨Nat.le_of_ble_eq_true rfl, Nat.le_of_ble_eq_true rfl⟩ ⟨(Nat.le_of_ble_eq_true rfl), (Nat.le_of_ble_eq_true rfl)⟩ hl.1 rfl rfl (Nat.le_of_ble_eq_true rfl) dL_areWays_155) hW (fun r_155 n_155 ad_155 I_155 L_155 R_155 H locs hp hW => ?_)
                    obtain ⟨hz, rfl, rfl, hA, hF⟩ := PR_use hp
                    have hG := fr_t hF hG
                    have hz : r_155 = nI (ro (dkN (wayN w ro K q) k)) := hz.trans (aL1 (S := ((w, K, ro), hc, hi, sv, pn, ch)) (p := dkN (wayN w ro K q) k) (show dkN (wayN w ro K q) k < K by omega) hk6)
                    subst hz
                    refine q_kI2 (q_rV (As := [.int (nI 2), .int (nI ((wayN w ro K q).getD k 0)), .int (nI (ro (dkN (wayN w ro K q) k)))]) (rest := [.long (lN ((ppN w ro K (wayN w ro K q) k) * (w (pv (wayN w ro K q) k * 6 + (wayN w ro K q).getD k 0))))]) (x := 0) hC hW mw_X5_weight gw_156 (k_weight l G n ad H.size I_155 L_155 R_155 (nI 2) (nI ((wayN w ro K q).getD k 0)) (nI (ro (dkN (wayN w ro K q) k))) w K ro hc hi sv pn ch hA) (by omega) (ct_o5 kd_0) rfl ⟨rfl, rfl⟩ ⟨Nat.le_of_ble_eq_true rfl, Nat.le_of_ble_eq_true rfl⟩ ⟨(Nat.le_of_ble_eq_true rfl), (Nat.le_of_ble_eq_true rfl)⟩ hl.1 rfl rfl (Nat.le_of_ble_eq_true rfl) dL_areWays_158) hW (fun r_158 n_158 ad_158 I_158 L_158 R_158 H locs hp hW => ?_)
                    obtain ⟨hz, rfl, rfl, hA, hF⟩ := PR_use hp
                    have hG := fr_t hF hG
                    have hz : r_158 = nI (w (42 + ((wayN w ro K q).getD k 0) * 4 + (ro (dkN (wayN w ro K q) k)))) := hz.trans (aW2 (S := ((w, K, ro), hc, hi, sv, pn, ch)) (c := (wayN w ro K q).getD k 0) (t := ro (dkN (wayN w ro K q) k)) (by first | omega | assumption) (hr4 _))
                    subst hz
                    refine q_i2l hx hb dL_areWays_161 (by first | omega | exact Nat.lt_of_le_of_lt (hw3 _) (by decide) | exact Nat.lt_of_lt_of_le (hr4 _) (by decide) | exact Nat.lt_of_le_of_lt (bp_le _) (by decide) | assumption) ?_
                    refine lv_goto (tgt := 166) hx hb dL_areWays_162 (by decide) ?_
                    refine q_lmul hx hb dL_areWays_166 ?_
                    refine q_top (v2 := .long (lN (ppN w ro K (wayN w ro K q) (k + 1)))) (congrArg (fun z => Value.long (lN z)) (by show _ = ppN w ro K (wayN w ro K q) k * mv w K ro (pv (wayN w ro K q) k) ((wayN w ro K q).getD k 0) (dkN (wayN w ro K q) k); unfold mv; rw [if_neg (by omega), if_pos hdk, Nat.mul_assoc])) ?_
                    refine lv_lstore (lv' := [(12, .long (lN (ppN w ro K (wayN w ro K q) (k + 1)))), (16, .int (nI ((wayN w ro K q).getD k 0))), (0, .ref (ad 0)), (1, .long (lN (Sx' w K ro K 6))), (3, .int (nI (Cx' w K ro K 6))), (4, .int (nI (K))), (5, .long (lN (fb_sm (fun q => prN w ro K 0 6 (wayN w ro K q)) q))), (7, .long (lN ((mostN (fun q => prN w ro K 0 6 (wayN w ro K q)) q).2))), (9, .int (bsW w ro K q)), (10, .int (nI (q))), (11, .int (nI ((wayN w ro K q).length))), (14, .int (nI (dkN (wayN w ro K q) k))), (15, .int (nI (k)))]) hx hb dL_areWays_167 hl (by decide) rfl (fun ls hl => ?_)
                    refine lv_iload hx hb dL_areWays_169 (lv_at hl 11 rfl) ?_
                    refine lv_iload hx hb dL_areWays_171 (lv_at hl 1 rfl) ?_
                    refine q_ic 4 hx hb dL_areWays_173 (by decide) ?_
                    refine q_cge (tgt := 181) hx hb dL_areWays_174 (by decide) (by first | omega | exact Nat.lt_of_le_of_lt (hw3 _) (by decide) | exact Nat.lt_of_lt_of_le (hr4 _) (by decide) | exact Nat.lt_of_le_of_lt (bp_le _) (by decide) | assumption) (by first | omega | exact Nat.lt_of_le_of_lt (hw3 _) (by decide) | exact Nat.lt_of_lt_of_le (hr4 _) (by decide) | exact Nat.lt_of_le_of_lt (bp_le _) (by decide) | assumption) (fun c_174 => absurd c_174 (by omega)) (fun c_174 => ?_)
                    refine q_ic 1 hx hb dL_areWays_177 (by decide) ?_
                    refine lv_goto (tgt := 182) hx hb dL_areWays_178 (by decide) ?_
                    refine q_iadd hx hb dL_areWays_182 ?_
                    refine q_top (v2 := .int (nI (dkN (wayN w ro K q) (k + 1)))) (congrArg (fun z => Value.int (nI z)) (show dkN (wayN w ro K q) k + 1 = nx ((wayN w ro K q).getD k 0) (dkN (wayN w ro K q) k) from by unfold nx; split <;> omega)) ?_
                    refine lv_istore (lv' := [(14, .int (nI (dkN (wayN w ro K q) (k + 1)))), (12, .long (lN (ppN w ro K (wayN w ro K q) (k + 1)))), (16, .int (nI ((wayN w ro K q).getD k 0))), (0, .ref (ad 0)), (1, .long (lN (Sx' w K ro K 6))), (3, .int (nI (Cx' w K ro K 6))), (4, .int (nI (K))), (5, .long (lN (fb_sm (fun q => prN w ro K 0 6 (wayN w ro K q)) q))), (7, .long (lN ((mostN (fun q => prN w ro K 0 6 (wayN w ro K q)) q).2))), (9, .int (bsW w ro K q)), (10, .int (nI (q))), (11, .int (nI ((wayN w ro K q).length))), (15, .int (nI (k)))]) hx hb dL_areWays_183 hl (by decide) rfl (fun ls hl => ?_)
                    refine q_iinc (z2 := k + 1) (lv' := [(15, .int (nI (k + 1))), (14, .int (nI (dkN (wayN w ro K q) (k + 1)))), (12, .long (lN (ppN w ro K (wayN w ro K q) (k + 1)))), (16, .int (nI ((wayN w ro K q).getD k 0))), (0, .ref (ad 0)), (1, .long (lN (Sx' w K ro K 6))), (3, .int (nI (Cx' w K ro K 6))), (4, .int (nI (K))), (5, .long (lN (fb_sm (fun q => prN w ro K 0 6 (wayN w ro K q)) q))), (7, .long (lN ((mostN (fun q => prN w ro K 0 6 (wayN w ro K q)) q).2))), (9, .int (bsW w ro K q)), (10, .int (nI (q))), (11, .int (nI ((wayN w ro K q).length)))]) hx hb dL_areWays_185 hl (k := 12) rfl (inc_up _ 1 (by decide)) (by decide) rfl (fun ls hl => ?_)
                    refine lv_goto (tgt := 83) hx hb dL_areWays_188 (by decide) ?_
                    exact ih_83 (k + 1) I_158 L_158 R_158 (by omega) (by omega) hA hG _ _ hW _ (lv_sub hl [4, 5, 6, 7, 8, 9, 10, 11, 12, 2, 1, 0] rfl)
          exact lp_83 ((wayN w ro K q).length + 1) 0 I_69 L_69 R_69 (by omega) (Nat.zero_le _) hA hG _ _ hW _ (lv_sub hl [4, 5, 6, 7, 8, 9, 10, 11, 3, 2, 1, 0] rfl)
    exact lp_59 (Cx' w K ro K 6 + 1) 0 I_7 L_7 R_7 (by omega) (Nat.zero_le _) hA hG _ _ hW _ (lv_sub hl [6, 7, 5, 4, 3, 2, 1, 0] rfl)
  ·
    refine lv_aload_n hx hb dL_areWays_18 rfl (lv_at hl 2 rfl) ?_
    refine lv_iload_n hx hb dL_areWays_19 rfl (lv_at hl 1 rfl) ?_
    refine q_kL2 (q_rV (As := [.int (nI (Cx' w K ro K 6))]) (rest := []) (x := 0) hC hW mw_X5_weighs gw_315 (k_weighs l G n ad H.size I_7 L_7 R_7 (nI (Cx' w K ro K 6)) w K ro hc hi sv pn ch hA) (by omega) (ct_o5 kd_0) rfl ⟨rfl, rfl⟩ ⟨Nat.le_of_ble_eq_true rfl, Nat.le_of_ble_eq_true rfl⟩ ⟨(Nat.le_of_ble_eq_true rfl), (Nat.le_of_ble_eq_true rfl)⟩ hl.1 rfl rfl (Nat.le_of_ble_eq_true rfl) dL_areWays_20) hW (fun r_20 n_20 ad_20 I_20 L_20 R_20 H locs hp hW => ?_)
    obtain ⟨hz, rfl, rfl, hA, hF⟩ := PRl_use hp
    have hG := fr_t hF hG
    have hz : r_20 = (-1) := hz.trans (aWen (m := (w, K, ro)) (q := Cx' w K ro K 6) (Nat.le_refl _) hC31)
    subst hz
    refine lv_ldc2 (v := -1) hx hb hC.2.2.2.1 (hC.2.2.2.2 _ gw_292) dL_areWays_23 ?_
    refine W.lcmp hx hb dL_areWays_26 ?_
    refine q_Lne (tgt := 44) hx hb dL_areWays_27 (by decide) (fun c_27 => absurd rfl c_27) (fun c_27 => ?_)
    refine lv_aload_n hx hb dL_areWays_30 rfl (lv_at hl 2 rfl) ?_
    refine lv_iload_n hx hb dL_areWays_31 rfl (lv_at hl 1 rfl) ?_
    refine q_ic 0 hx hb dL_areWays_32 (by decide) ?_
    refine q_kI2 (q_rV (As := [.int (nI (Cx' w K ro K 6)), .int (nI 0)]) (rest := []) (x := 0) hC hW mw_X5_way gw_331 (k_way l G n ad H.size I_20 L_20 R_20 (nI (Cx' w K ro K 6)) (nI 0) w K ro hc hi sv pn ch hA) (by omega) (ct_o5 kd_0) rfl ⟨rfl, rfl⟩ ⟨Nat.le_of_ble_eq_true rfl, Nat.le_of_ble_eq_true rfl⟩ ⟨(Nat.le_of_ble_eq_true rfl), (Nat.le_of_ble_eq_true rfl)⟩ hl.1 rfl rfl (Nat.le_of_ble_eq_true rfl) dL_areWays_33) hW (fun r_33 n_33 ad_33 I_33 L_33 R_33 H locs hp hW => ?_)
    obtain ⟨hz, rfl, rfl, hA, hF⟩ := PR_use hp
    have hG := fr_t hF hG
    have hz : r_33 = (-1) := hz.trans (aWyn (m := (w, K, ro)) (q := Cx' w K ro K 6) (x := nI 0) (Nat.le_refl _) hC31)
    subst hz
    refine lv_iconst (v := -1) hx hb dL_areWays_36 (by decide) ?_
    refine lv_icmp_ne (tgt := 44) hx hb dL_areWays_37 (by decide) (fun c_37 => absurd c_37 (by decide)) (fun c_37 => ?_)
    refine q_ic 1 hx hb dL_areWays_40 (by decide) ?_
    refine lv_goto (tgt := 45) hx hb dL_areWays_41 (by decide) ?_
    exact q_zret2 hC hW hr hlk0 rfl (PR_q hA hG) dL_areWays_45
