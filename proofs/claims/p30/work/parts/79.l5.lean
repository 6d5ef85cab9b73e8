theorem k_areOdds (l : Launch) (G : Gx) (ad : Nat → Nat) (sz : Nat) (I : Ic) (L : Lc) (R : Rc)  (w : Nat → Nat) (K : Nat) (ro : Nat → Nat) (hc : Nat) (hi : Nat → CM) (sv : Nat → Option CM) (pn : Nat) (ch : Nat → Nat) (hA : InvA 74 I L R ((w, K, ro), hc, hi, sv, pn, ch))  (hAh : ∀ p c, p < K → c < 4 → L 71 (4 * p + c) = lN (uB w ro (p + 1) c)) (hBe : ∀ p c, p < K → c < 4 → L 72 (4 * p + c) = lN (Sx' w K ro (K - (p + 1)) c)) : Met l yL_areOdds (Cond.code yL_areOdds cL_areOdds 11 (some .boolean) :: GW) ({ frames := 7, cells := 0, slots := 0, locals := 252 } : Room) (qPre G 74 ad sz I L R [.ref (ad 0), .ref (ad 71), .ref (ad 72), .long (lN (Sx' w K ro K 6))]) (qI2 G (qA 74 ad sz) (fun z u => PR 74 ad I L R (nI 1, ((w, K, ro), hc, hi, sv, pn, ch)) z u)) 0 0 (qA 74 ad sz) := by
  rcases Nat.eq_zero_or_pos (Sx' w K ro K 6) with h | h
  · exact k_areOdds0 l G ad sz I L R w K ro hc hi sv pn ch hA h hAh hBe
  · exact k_areOdds1 l G ad sz I L R w K ro hc hi sv pn ch hA h hAh hBe
theorem k_areExp (l : Launch) (G : Gx) (ad : Nat → Nat) (sz : Nat) (I : Ic) (L : Lc) (R : Rc)  (w : Nat → Nat) (K : Nat) (ro : Nat → Nat) (hc : Nat) (hi : Nat → CM) (sv : Nat → Option CM) (pn : Nat) (ch : Nat → Nat) (hA : InvA 74 I L R ((w, K, ro), hc, hi, sv, pn, ch))  (hAh : ∀ p c, p < K → c < 4 → L 71 (4 * p + c) = lN (uB w ro (p + 1) c)) (hBe : ∀ p c, p < K → c < 4 → L 72 (4 * p + c) = lN (Sx' w K ro (K - (p + 1)) c)) : Met l yL_areExpected (Cond.code yL_areExpected cL_areExpected 17 (some .boolean) :: GW) ({ frames := 8, cells := 0, slots := 0, locals := 288 } : Room) (qPre G 74 ad sz I L R [.ref (ad 0), .ref (ad 71), .ref (ad 72), .long (lN (Sx' w K ro K 6))]) (qI2 G (qA 74 ad sz) (fun z u => PR 74 ad I L R (nI 1, ((w, K, ro), hc, hi, sv, pn, ch)) z u)) 0 0 (qA 74 ad sz) := by
  rcases Nat.eq_zero_or_pos (Sx' w K ro K 6) with h | h
  · exact k_areExp0 l G ad sz I L R w K ro hc hi sv pn ch hA h hAh hBe
  · exact k_areExp1 l G ad sz I L R w K ro hc hi sv pn ch hA h hAh hBe
theorem k_areWays (l : Launch) (G : Gx) (n : Nat) (ad : Nat → Nat) (sz : Nat) (I : Ic) (L : Lc) (R : Rc)  (w : Nat → Nat) (K : Nat) (ro : Nat → Nat) (hc : Nat) (hi : Nat → CM) (sv : Nat → Option CM) (pn : Nat) (ch : Nat → Nat) (hA : InvA n I L R ((w, K, ro), hc, hi, sv, pn, ch))  : Met l yL_areWays (Cond.code yL_areWays cL_areWays 17 (some .boolean) :: GW) ({ frames := 8, cells := 0, slots := 0, locals := 288 } : Room) (qPre G n ad sz I L R [.ref (ad 0), .long (lN (Sx' w K ro K 6))]) (qI2 G (qA n ad sz) (fun z u => PR n ad I L R (nI 1, ((w, K, ro), hc, hi, sv, pn, ch)) z u)) 0 0 (qA n ad sz) := by
  rcases Nat.eq_zero_or_pos (Sx' w K ro K 6) with h | h
  · exact k_areWays0 l G n ad sz I L R w K ro hc hi sv pn ch hA h
  · exact k_areWays1 l G n ad sz I L R w K ro hc hi sv pn ch hA h
/-- what agree leaves -/
def AgP (S : ST) (ad : Nat → Nat) (u : Sx) : Prop := u.1 = 74 ∧ (∀ k, k < 71 → u.2.1 k = ad k) ∧ InvA 74 u.2.2.1 u.2.2.2.1 u.2.2.2.2 S ∧ NoR u.2.2.2.2 71 74
set_option maxRecDepth 100000 in
set_option maxHeartbeats 4000000 in
theorem k_agree (l : Launch) (G : Gx) (ad : Nat → Nat) (sz : Nat) (I : Ic) (L : Lc) (R : Rc)  (w : Nat → Nat) (K : Nat) (ro : Nat → Nat) (hc : Nat) (hi : Nat → CM) (sv : Nat → Option CM) (pn : Nat) (ch : Nat → Nat) (hA : InvA 71 I L R ((w, K, ro), hc, hi, sv, pn, ch))  : Met l yL_agree (Cond.code yL_agree cL_agree 6 (some .boolean) :: GW) ({ frames := 9, cells := 3, slots := 72, locals := 324 } : Room) (qPre G 71 ad sz I L R [.ref (ad 0)]) (qI2 G (qA 71 ad sz) (fun z u => z = nI 1 ∧ AgP ((w, K, ro), hc, hi, sv, pn, ch) ad u)) 3 72 (qA 71 ad sz) := by
  refine q_met (by decide) (Nat.le_of_ble_eq_true rfl) ?_
  intro p_ e_ s m_ below meth c_ hC hr hlk0 hin hsz hW ls hl
  subst hsz
  have hC : CallFix p_ m_ c_ cL_agree 6 s ([.ref (ad 0)] : List Value).toArray GW "CoinRowsLaw" := hC
  have hx := hC.1
  have hb := hC.2.1
  have hw : Wok w := hA.2.2.1.2.2.2.2.1
  have hw3 : ∀ i, w i ≤ 3 := hw.1
  have hk6 : K ≤ 6 := hA.2.2.1.2.2.2.1
  have hr4 : ∀ j, ro j < 4 := hA.2.2.1.2.2.2.2.2
  have hn71 := hA.1
  have hT63 : Sx' w K ro K 6 < 2 ^ 63 := Nat.lt_of_le_of_lt (Sx_b hw K K 6 hk6) (by decide)
  have hC31 : Cx' w K ro K 6 < 2 ^ 31 := Nat.lt_of_le_of_lt (Cx_b hw K K 6 hk6) (by decide)
  have hG : Fr7 I I L L R R := fr_0
  have hcl : Cl 71 R := InvA_cl hA
  have hl : lv_has ls 6 [(0, .ref (ad 0))] := hl
  refine q_bp 24 hx hb dL_agree_0 (by decide) ?_
  refine q_nwl hC hW hcl kd_71 (Nat.le_of_ble_eq_true rfl) (Nat.le_of_ble_eq_true rfl) dL_agree_2 (fun ad_2 H hag_2 hcl_2 hW => ?_)
  have hl : lv_has ls 6 [(0, .ref (ad_2 0))] := by rw [hag_2 0 (by omega)]; exact hl
  refine lv_astore_n (lv' := [(1, .ref (ad_2 71)), (0, .ref (ad_2 0))]) hx hb dL_agree_4 rfl hl (by decide) rfl (fun ls hl => ?_)
  refine q_bp 24 hx hb dL_agree_5 (by decide) ?_
  refine q_nwl hC hW hcl_2 kd_72 (Nat.le_of_ble_eq_true rfl) (Nat.le_of_ble_eq_true rfl) dL_agree_7 (fun ad_7 H hag_7 hcl_7 hW => ?_)
  have hl : lv_has ls 6 [(1, .ref (ad_7 71)), (0, .ref (ad_7 0))] := by rw [hag_7 71 (by omega), hag_7 0 (by omega)]; exact hl
  have hA : InvA 73 (zr (zr I 71 0) 72 0) (zr (zr L 71 0) 72 0) (zr (zr R 71 none) 72 none) ((w, K, ro), hc, hi, sv, pn, ch) := InvA_hi (InvA_n hA (by decide)) (fun a ha => (zr_ne (by omega)).trans (zr_ne (by omega))) (fun a ha => (zr_ne (by omega)).trans (zr_ne (by omega))) (fun a ha => (zr_ne (by omega)).trans (zr_ne (by omega)))
  have hNR : NoR (zr (zr R 71 none) 72 none) 71 73 := fun a h1 h2 j => by rw [zr_at, zr_at]; by_cases e : a = 72; (rw [if_pos e]); rw [if_neg e, if_pos (by omega)]
  have hG : Fr7 (zr (zr I 71 0) 72 0) (zr (zr I 71 0) 72 0) (zr (zr L 71 0) 72 0) (zr (zr L 71 0) 72 0) (zr (zr R 71 none) 72 none) (zr (zr R 71 none) 72 none) := fr_0
  refine lv_astore_n (lv' := [(2, .ref (ad_7 72)), (1, .ref (ad_7 71)), (0, .ref (ad_7 0))]) hx hb dL_agree_9 rfl hl (by decide) rfl (fun ls hl => ?_)
  refine q_ic 0 hx hb dL_agree_10 (by decide) ?_
  refine lv_istore_n (lv' := [(3, .int (nI 0)), (2, .ref (ad_7 72)), (1, .ref (ad_7 71)), (0, .ref (ad_7 0))]) hx hb dL_agree_11 rfl hl (by decide) rfl (fun ls hl => ?_)
  refine q_ic 0 hx hb dL_agree_12 (by decide) ?_
  have hl : lv_has ls 6 [(3, .int (nI (CW w 0))), (2, .ref (ad_7 72)), (1, .ref (ad_7 71)), (0, .ref (ad_7 0))] := by rw [show CW w 0 = 0 from rfl]; exact hl
  refine lv_istore (lv' := [(4, .int (nI 0)), (3, .int (nI (CW w 0))), (2, .ref (ad_7 72)), (1, .ref (ad_7 71)), (0, .ref (ad_7 0))]) hx hb dL_agree_13 hl (by decide) rfl (fun ls hl => ?_)
  have lp_15 : ∀ (fu_15 : Nat) (c : Nat) (J15 : Ic) (M15 : Lc) (Q15 : Rc), 6 - c < fu_15 → (c ≤ 6) → (InvA 73 J15 M15 Q15 ((w, K, ro), hc, hi, sv, pn, ch)) → (Fr7 (zr (zr I 71 0) 72 0) J15 (zr (zr L 71 0) 72 0) M15 (zr (zr R 71 none) 72 none) Q15) → ∀ (H : Heap) (locs : List Loc), Wd G 73 ad_7 J15 M15 Q15 (qA 71 ad s.heap.size) s.heap H locs s → ∀ ls : Array Slot, lv_has ls 6 [(0, .ref (ad_7 0)), (1, .ref (ad_7 71)), (2, .ref (ad_7 72)), (3, .int (nI (CW w c))), (4, .int (nI (c)))] → W p_ l e_ ({ frames := 9, cells := 3, slots := 72, locals := 324 } : Room) s m_ ([.ref (ad 0)] : List Value).toArray below meth c_ H locs 2 48 (MQ below (qI2 G (qA 71 ad s.heap.size) (fun z u => z = nI 1 ∧ AgP ((w, K, ro), hc, hi, sv, pn, ch) ad u)) ([.ref (ad 0)] : List Value).toArray s 3 72 (qA 71 ad s.heap.size)) (F0 m_ 15 ls []) := by
    intro fu_15
    induction fu_15 with
    | zero =>
      intro c J15 M15 Q15 hm; exact absurd hm (Nat.not_lt_zero _)
    | succ fu_15 ih_15 =>
      intro c J15 M15 Q15 hm_15 hc6 hA hG H locs hW ls hl
      refine lv_iload hx hb dL_agree_15 (lv_at hl 4 rfl) ?_
      refine q_bp 6 hx hb dL_agree_17 (by decide) ?_
      refine q_cge (tgt := 115) hx hb dL_agree_19 (by decide) (by first | omega | exact Nat.lt_of_le_of_lt (hw3 _) (by decide) | exact Nat.lt_of_lt_of_le (hr4 _) (by decide) | exact Nat.lt_of_le_of_lt (bp_le _) (by decide) | assumption) (by first | omega | exact Nat.lt_of_le_of_lt (hw3 _) (by decide) | exact Nat.lt_of_lt_of_le (hr4 _) (by decide) | exact Nat.lt_of_le_of_lt (bp_le _) (by decide) | assumption) (fun c_19 => ?_) (fun c_19 => ?_)
      ·
        have hcb : cntW w 58 < 2 ^ 31 := Nat.lt_of_le_of_lt (cntW_le w 58) (by decide)
        have hl : lv_has ls 6 [(0, .ref (ad_7 0)), (1, .ref (ad_7 71)), (2, .ref (ad_7 72)), (3, .int (nI (cntW w 58))), (4, .int (nI (c)))] := by rw [show cntW w 58 = CW w c from (CW_6 w).trans (by rw [show c = 6 by omega])]; exact hl
        refine lv_aload_n hx hb dL_agree_115 rfl (lv_at hl 0 rfl) ?_
        refine q_ic 1 hx hb dL_agree_116 (by decide) ?_
        refine q_kI2 (q_rV (As := [.int (nI 1)]) (rest := []) (x := 0) hC hW mw_X5_count gw_172 (k_count l G 73 ad_7 H.size J15 M15 Q15 (nI 1) w K ro hc hi sv pn ch hA) (by omega) (ct_o5 kd_0) rfl ⟨rfl, rfl⟩ ⟨Nat.le_of_ble_eq_true rfl, Nat.le_of_ble_eq_true rfl⟩ ⟨(Nat.le_of_ble_eq_true rfl), (Nat.le_of_ble_eq_true rfl)⟩ hl.1 rfl rfl (Nat.le_of_ble_eq_true rfl) dL_agree_117) hW (fun r_117 n_117 ad_117 I_117 L_117 R_117 H locs hp hW => ?_)
        obtain ⟨hz, rfl, rfl, hA, hF⟩ := PR_use hp
        have hG := fr_t hF hG
        have hz : r_117 = nI (cntW w 58) := hz.trans (aC1 (S := ((w, K, ro), hc, hi, sv, pn, ch)))
        subst hz
        refine lv_iload_n hx hb dL_agree_120 rfl (lv_at hl 3 rfl) ?_
        refine q_cne (tgt := 204) hx hb dL_agree_121 (by decide) (by first | omega | exact Nat.lt_of_le_of_lt (hw3 _) (by decide) | exact Nat.lt_of_lt_of_le (hr4 _) (by decide) | exact Nat.lt_of_le_of_lt (bp_le _) (by decide) | assumption) (by first | omega | exact Nat.lt_of_le_of_lt (hw3 _) (by decide) | exact Nat.lt_of_lt_of_le (hr4 _) (by decide) | exact Nat.lt_of_le_of_lt (bp_le _) (by decide) | assumption) (fun c_121 => absurd rfl c_121) (fun c_121 => ?_)
        refine lv_aload_n hx hb dL_agree_124 rfl (lv_at hl 0 rfl) ?_
        refine q_ic 1 hx hb dL_agree_125 (by decide) ?_
        refine q_ic 4 hx hb dL_agree_126 (by decide) ?_
        refine q_ic 4 hx hb dL_agree_127 (by decide) ?_
        refine q_kI2 (q_rV (As := [.int (nI 1), .int (nI 4), .int (nI 4)]) (rest := []) (x := 0) hC hW mw_X5_weight gw_156 (k_weight l G 73 ad_7 H.size I_117 L_117 R_117 (nI 1) (nI 4) (nI 4) w K ro hc hi sv pn ch hA) (by omega) (ct_o5 kd_0) rfl ⟨rfl, rfl⟩ ⟨Nat.le_of_ble_eq_true rfl, Nat.le_of_ble_eq_true rfl⟩ ⟨(Nat.le_of_ble_eq_true rfl), (Nat.le_of_ble_eq_true rfl)⟩ hl.1 rfl rfl (Nat.le_of_ble_eq_true rfl) dL_agree_128) hW (fun r_128 n_128 ad_128 I_128 L_128 R_128 H locs hp hW => ?_)
        obtain ⟨hz, rfl, rfl, hA, hF⟩ := PR_use hp
        have hG := fr_t hF hG
        have hz : r_128 = nI (w (4 * 6 + 4)) := hz.trans (aW1 (S := ((w, K, ro), hc, hi, sv, pn, ch)) (f := 4) (t := 4) (by first | omega | assumption) (by first | omega | assumption))
        subst hz
        refine q_ine (tgt := 204) hx hb dL_agree_131 (by decide) (by first | omega | exact Nat.lt_of_le_of_lt (hw3 _) (by decide) | exact Nat.lt_of_lt_of_le (hr4 _) (by decide) | exact Nat.lt_of_le_of_lt (bp_le _) (by decide) | assumption) (fun c_131 => absurd (show w (4 * 6 + 4) = 0 from hw.2.1) c_131) (fun c_131 => ?_)
        refine lv_aload_n hx hb dL_agree_134 rfl (lv_at hl 0 rfl) ?_
        refine q_ic 1 hx hb dL_agree_135 (by decide) ?_
        refine q_ic 5 hx hb dL_agree_136 (by decide) ?_
        refine q_ic 5 hx hb dL_agree_137 (by decide) ?_
        refine q_kI2 (q_rV (As := [.int (nI 1), .int (nI 5), .int (nI 5)]) (rest := []) (x := 0) hC hW mw_X5_weight gw_156 (k_weight l G 73 ad_7 H.size I_128 L_128 R_128 (nI 1) (nI 5) (nI 5) w K ro hc hi sv pn ch hA) (by omega) (ct_o5 kd_0) rfl ⟨rfl, rfl⟩ ⟨Nat.le_of_ble_eq_true rfl, Nat.le_of_ble_eq_true rfl⟩ ⟨(Nat.le_of_ble_eq_true rfl), (Nat.le_of_ble_eq_true rfl)⟩ hl.1 rfl rfl (Nat.le_of_ble_eq_true rfl) dL_agree_138) hW (fun r_138 n_138 ad_138 I_138 L_138 R_138 H locs hp hW => ?_)
        obtain ⟨hz, rfl, rfl, hA, hF⟩ := PR_use hp
        have hG := fr_t hF hG
        have hz : r_138 = nI (w (5 * 6 + 5)) := hz.trans (aW1 (S := ((w, K, ro), hc, hi, sv, pn, ch)) (f := 5) (t := 5) (by first | omega | assumption) (by first | omega | assumption))
        subst hz
        refine q_ine (tgt := 204) hx hb dL_agree_141 (by decide) (by first | omega | exact Nat.lt_of_le_of_lt (hw3 _) (by decide) | exact Nat.lt_of_lt_of_le (hr4 _) (by decide) | exact Nat.lt_of_le_of_lt (bp_le _) (by decide) | assumption) (fun c_141 => absurd (show w (5 * 6 + 5) = 0 from hw.2.2.2) c_141) (fun c_141 => ?_)
        refine lv_aload_n hx hb dL_agree_144 rfl (lv_at hl 0 rfl) ?_
        refine q_ic 1 hx hb dL_agree_145 (by decide) ?_
        refine q_ic 5 hx hb dL_agree_146 (by decide) ?_
        refine q_ic 4 hx hb dL_agree_147 (by decide) ?_
        refine q_kI2 (q_rV (As := [.int (nI 1), .int (nI 5), .int (nI 4)]) (rest := []) (x := 0) hC hW mw_X5_weight gw_156 (k_weight l G 73 ad_7 H.size I_138 L_138 R_138 (nI 1) (nI 5) (nI 4) w K ro hc hi sv pn ch hA) (by omega) (ct_o5 kd_0) rfl ⟨rfl, rfl⟩ ⟨Nat.le_of_ble_eq_true rfl, Nat.le_of_ble_eq_true rfl⟩ ⟨(Nat.le_of_ble_eq_true rfl), (Nat.le_of_ble_eq_true rfl)⟩ hl.1 rfl rfl (Nat.le_of_ble_eq_true rfl) dL_agree_148) hW (fun r_148 n_148 ad_148 I_148 L_148 R_148 H locs hp hW => ?_)
        obtain ⟨hz, rfl, rfl, hA, hF⟩ := PR_use hp
        have hG := fr_t hF hG
        have hz : r_148 = nI (w (5 * 6 + 4)) := hz.trans (aW1 (S := ((w, K, ro), hc, hi, sv, pn, ch)) (f := 5) (t := 4) (by first | omega | assumption) (by first | omega | assumption))
        subst hz
        refine q_ine (tgt := 204) hx hb dL_agree_151 (by decide) (by first | omega | exact Nat.lt_of_le_of_lt (hw3 _) (by decide) | exact Nat.lt_of_lt_of_le (hr4 _) (by decide) | exact Nat.lt_of_le_of_lt (bp_le _) (by decide) | assumption) (fun c_151 => absurd (show w (5 * 6 + 4) = 0 from hw.2.2.1) c_151) (fun c_151 => ?_)
        refine lv_aload_n hx hb dL_agree_154 rfl (lv_at hl 0 rfl) ?_
        refine lv_aload_n hx hb dL_agree_155 rfl (lv_at hl 1 rfl) ?_
        refine lv_aload_n hx hb dL_agree_156 rfl (lv_at hl 2 rfl) ?_
        refine q_kI2 (q_rS (As := [.ref (ad_7 0), .ref (ad_7 71), .ref (ad_7 72)]) (rest := []) hC hW mw_L_areAhead gw_180 (k_areAhead l G ad_7 H.size I_148 L_148 R_148 w K ro hc hi sv pn ch hA (fr_n hG hNR)) ⟨rfl, rfl⟩ ⟨Nat.le_of_ble_eq_true rfl, Nat.le_of_ble_eq_true rfl⟩ ⟨(Nat.le_of_ble_eq_true rfl), (Nat.le_of_ble_eq_true rfl)⟩ hl.1 rfl rfl (Nat.le_of_ble_eq_true rfl) dL_agree_157) hW (fun r_157 n_157 ad_157 I_157 L_157 R_157 H locs hp hW => ?_)
        obtain ⟨hz, hn_, hag_157, hA, hAh, hBe, hNR⟩ := hp
        have hn_ : n_157 = 74 := hn_
        subst hn_
        subst hz
        have hA : InvA 74 I_157 L_157 R_157 ((w, K, ro), hc, hi, sv, pn, ch) := hA
        have hag_157 : ∀ k, k < 73 → ad_157 k = ad_7 k := hag_157
        have hAh : ∀ p c, p < K → c < 4 → L_157 71 (4 * p + c) = lN (uB w ro (p + 1) c) := hAh
        have hBe : ∀ p c, p < K → c < 4 → L_157 72 (4 * p + c) = lN (Sx' w K ro (K - (p + 1)) c) := hBe
        have hNR : NoR R_157 71 74 := hNR
        have hG : Fr7 I_157 I_157 L_157 L_157 R_157 R_157 := fr_0
        have hl : lv_has ls 6 [(0, .ref (ad_157 0)), (1, .ref (ad_157 71)), (2, .ref (ad_157 72)), (3, .int (nI (cntW w 58))), (4, .int (nI (c)))] := by rw [hag_157 0 (by omega), hag_157 71 (by omega), hag_157 72 (by omega)]; exact hl
        refine q_ieq (tgt := 204) hx hb dL_agree_160 (by decide) (by first | omega | exact Nat.lt_of_le_of_lt (hw3 _) (by decide) | exact Nat.lt_of_lt_of_le (hr4 _) (by decide) | exact Nat.lt_of_le_of_lt (bp_le _) (by decide) | assumption) (fun c_160 => absurd c_160 (by decide)) (fun c_160 => ?_)
        refine lv_aload_n hx hb dL_agree_163 rfl (lv_at hl 0 rfl) ?_
        refine lv_aload_n hx hb dL_agree_164 rfl (lv_at hl 1 rfl) ?_
        refine lv_aload_n hx hb dL_agree_165 rfl (lv_at hl 2 rfl) ?_
        refine lv_aload_n hx hb dL_agree_166 rfl (lv_at hl 0 rfl) ?_
        refine q_kL2 (q_rV (As := []) (rest := [.ref (ad_157 72), .ref (ad_157 71), .ref (ad_157 0)]) (x := 0) hC hW mw_X5_total gw_243 (k_total l G 74 ad_157 H.size I_157 L_157 R_157 w K ro hc hi sv pn ch hA) (by omega) (ct_o5 kd_0) rfl ⟨rfl, rfl⟩ ⟨Nat.le_of_ble_eq_true rfl, Nat.le_of_ble_eq_true rfl⟩ ⟨(Nat.le_of_ble_eq_true rfl), (Nat.le_of_ble_eq_true rfl)⟩ hl.1 rfl rfl (Nat.le_of_ble_eq_true rfl) dL_agree_167) hW (fun r_167 n_167 ad_167 I_167 L_167 R_167 H locs hp hW => ?_)
        obtain ⟨hz, rfl, rfl, hA, hF⟩ := PRl_use hp
        have hG := fr_t hF hG
        have hz : r_167 = lN (Sx' w K ro K 6) := hz
        subst hz
        refine q_kI2 (q_rS (As := [.ref (ad_157 0), .ref (ad_157 71), .ref (ad_157 72), .long (lN (Sx' w K ro K 6))]) (rest := []) hC hW mw_L_areOdds gw_259 (k_areOdds l G ad_157 H.size I_167 L_167 R_167 w K ro hc hi sv pn ch hA (fun p c hp hc => (congrFun (hG 71 (by decide)).2.1 _).trans (hAh p c hp hc)) (fun p c hp hc => (congrFun (hG 72 (by decide)).2.1 _).trans (hBe p c hp hc))) ⟨rfl, rfl⟩ ⟨Nat.le_of_ble_eq_true rfl, Nat.le_of_ble_eq_true rfl⟩ ⟨(Nat.le_of_ble_eq_true rfl), (Nat.le_of_ble_eq_true rfl)⟩ hl.1 rfl rfl (Nat.le_of_ble_eq_true rfl) dL_agree_170) hW (fun r_170 n_170 ad_170 I_170 L_170 R_170 H locs hp hW => ?_)
        obtain ⟨hz, rfl, rfl, hA, hF⟩ := PR_use hp
        have hG := fr_t hF hG
        have hz : r_170 = nI 1 := hz
        subst hz
        refine q_ieq (tgt := 204) hx hb dL_agree_173 (by decide) (by first | omega | exact Nat.lt_of_le_of_lt (hw3 _) (by decide) | exact Nat.lt_of_lt_of_le (hr4 _) (by decide) | exact Nat.lt_of_le_of_lt (bp_le _) (by decide) | assumption) (fun c_173 => absurd c_173 (by decide)) (fun c_173 => ?_)
        refine lv_aload_n hx hb dL_agree_176 rfl (lv_at hl 0 rfl) ?_
        refine lv_aload_n hx hb dL_agree_177 rfl (lv_at hl 1 rfl) ?_
        refine lv_aload_n hx hb dL_agree_178 rfl (lv_at hl 2 rfl) ?_
        refine lv_aload_n hx hb dL_agree_179 rfl (lv_at hl 0 rfl) ?_
        refine q_kL2 (q_rV (As := []) (rest := [.ref (ad_157 72), .ref (ad_157 71), .ref (ad_157 0)]) (x := 0) hC hW mw_X5_total gw_243 (k_total l G 74 ad_157 H.size I_170 L_170 R_170 w K ro hc hi sv pn ch hA) (by omega) (ct_o5 kd_0) rfl ⟨rfl, rfl⟩ ⟨Nat.le_of_ble_eq_true rfl, Nat.le_of_ble_eq_true rfl⟩ ⟨(Nat.le_of_ble_eq_true rfl), (Nat.le_of_ble_eq_true rfl)⟩ hl.1 rfl rfl (Nat.le_of_ble_eq_true rfl) dL_agree_180) hW (fun r_180 n_180 ad_180 I_180 L_180 R_180 H locs hp hW => ?_)
        obtain ⟨hz, rfl, rfl, hA, hF⟩ := PRl_use hp
        have hG := fr_t hF hG
        have hz : r_180 = lN (Sx' w K ro K 6) := hz
        subst hz
        refine q_kI2 (q_rS (As := [.ref (ad_157 0), .ref (ad_157 71), .ref (ad_157 72), .long (lN (Sx' w K ro K 6))]) (rest := []) hC hW mw_L_areExpected gw_293 (k_areExp l G ad_157 H.size I_180 L_180 R_180 w K ro hc hi sv pn ch hA (fun p c hp hc => (congrFun (hG 71 (by decide)).2.1 _).trans (hAh p c hp hc)) (fun p c hp hc => (congrFun (hG 72 (by decide)).2.1 _).trans (hBe p c hp hc))) ⟨rfl, rfl⟩ ⟨Nat.le_of_ble_eq_true rfl, Nat.le_of_ble_eq_true rfl⟩ ⟨(Nat.le_of_ble_eq_true rfl), (Nat.le_of_ble_eq_true rfl)⟩ hl.1 rfl rfl (Nat.le_of_ble_eq_true rfl) dL_agree_183) hW (fun r_183 n_183 ad_183 I_183 L_183 R_183 H locs hp hW => ?_)
        obtain ⟨hz, rfl, rfl, hA, hF⟩ := PR_use hp
        have hG := fr_t hF hG
        have hz : r_183 = nI 1 := hz
        subst hz
        refine q_ieq (tgt := 204) hx hb dL_agree_186 (by decide) (by first | omega | exact Nat.lt_of_le_of_lt (hw3 _) (by decide) | exact Nat.lt_of_lt_of_le (hr4 _) (by decide) | exact Nat.lt_of_le_of_lt (bp_le _) (by decide) | assumption) (fun c_186 => absurd c_186 (by decide)) (fun c_186 => ?_)
        refine lv_aload_n hx hb dL_agree_189 rfl (lv_at hl 0 rfl) ?_
        refine lv_aload_n hx hb dL_agree_190 rfl (lv_at hl 0 rfl) ?_
        refine q_kL2 (q_rV (As := []) (rest := [.ref (ad_157 0)]) (x := 0) hC hW mw_X5_total gw_243 (k_total l G 74 ad_157 H.size I_183 L_183 R_183 w K ro hc hi sv pn ch hA) (by omega) (ct_o5 kd_0) rfl ⟨rfl, rfl⟩ ⟨Nat.le_of_ble_eq_true rfl, Nat.le_of_ble_eq_true rfl⟩ ⟨(Nat.le_of_ble_eq_true rfl), (Nat.le_of_ble_eq_true rfl)⟩ hl.1 rfl rfl (Nat.le_of_ble_eq_true rfl) dL_agree_191) hW (fun r_191 n_191 ad_191 I_191 L_191 R_191 H locs hp hW => ?_)
        obtain ⟨hz, rfl, rfl, hA, hF⟩ := PRl_use hp
        have hG := fr_t hF hG
        have hz : r_191 = lN (Sx' w K ro K 6) := hz
        subst hz
        refine q_kI2 (q_rS (As := [.ref (ad_157 0), .long (lN (Sx' w K ro K 6))]) (rest := []) hC hW mw_L_areWays gw_312 (k_areWays l G 74 ad_157 H.size I_191 L_191 R_191 w K ro hc hi sv pn ch hA) ⟨rfl, rfl⟩ ⟨Nat.le_of_ble_eq_true rfl, Nat.le_of_ble_eq_true rfl⟩ ⟨(Nat.le_of_ble_eq_true rfl), (Nat.le_of_ble_eq_true rfl)⟩ hl.1 rfl rfl (Nat.le_of_ble_eq_true rfl) dL_agree_194) hW (fun r_194 n_194 ad_194 I_194 L_194 R_194 H locs hp hW => ?_)
        obtain ⟨hz, rfl, rfl, hA, hF⟩ := PR_use hp
        have hG := fr_t hF hG
        have hz : r_194 = nI 1 := hz
        subst hz
        refine q_ieq (tgt := 204) hx hb dL_agree_197 (by decide) (by first | omega | exact Nat.lt_of_le_of_lt (hw3 _) (by decide) | exact Nat.lt_of_lt_of_le (hr4 _) (by decide) | exact Nat.lt_of_le_of_lt (bp_le _) (by decide) | assumption) (fun c_197 => absurd c_197 (by decide)) (fun c_197 => ?_)
        refine q_ic 1 hx hb dL_agree_200 (by decide) ?_
        refine lv_goto (tgt := 205) hx hb dL_agree_201 (by decide) ?_
        refine q_more (c2 := 3) (s2 := 72) (Nat.le_of_ble_eq_true rfl) (Nat.le_of_ble_eq_true rfl) ?_
        exact q_zret2 hC hW hr hlk0 rfl ⟨rfl, rfl, fun k hk => (hag_157 k (by omega)).trans ((hag_7 k (by omega)).trans (hag_2 k (by omega))), hA, fr_n hG hNR⟩ dL_agree_205
      ·
        refine lv_iload_n hx hb dL_agree_22 rfl (lv_at hl 3 rfl) ?_
        refine lv_aload_n hx hb dL_agree_23 rfl (lv_at hl 0 rfl) ?_
        refine q_ic 0 hx hb dL_agree_24 (by decide) ?_
        refine lv_iload hx hb dL_agree_25 (lv_at hl 4 rfl) ?_
        refine q_ic 0 hx hb dL_agree_27 (by decide) ?_
        refine q_kI2 (q_rV (As := [.int (nI 0), .int (nI (c)), .int (nI 0)]) (rest := [.int (nI (CW w c))]) (x := 0) hC hW mw_X5_weight gw_156 (k_weight l G 73 ad_7 H.size J15 M15 Q15 (nI 0) (nI c) (nI 0) w K ro hc hi sv pn ch hA) (by omega) (ct_o5 kd_0) rfl ⟨rfl, rfl⟩ ⟨Nat.le_of_ble_eq_true rfl, Nat.le_of_ble_eq_true rfl⟩ ⟨(Nat.le_of_ble_eq_true rfl), (Nat.le_of_ble_eq_true rfl)⟩ hl.1 rfl rfl (Nat.le_of_ble_eq_true rfl) dL_agree_28) hW (fun r_28 n_28 ad_28 I_28 L_28 R_28 H locs hp hW => ?_)
        obtain ⟨hz, rfl, rfl, hA, hF⟩ := PR_use hp
        have hG := fr_t hF hG
        have hz : r_28 = nI (w (6 * 6 + c)) := hz.trans (aW0 (S := ((w, K, ro), hc, hi, sv, pn, ch)) (c := c) (by first | omega | assumption))
        subst hz
        refine q_bple (t := 38) hx hb dL_agree_31 dL_agree_34 dL_agree_35 dL_agree_38 (by decide) (by decide) (by first | omega | exact Nat.lt_of_le_of_lt (hw3 _) (by decide) | exact Nat.lt_of_lt_of_le (hr4 _) (by decide) | exact Nat.lt_of_le_of_lt (bp_le _) (by decide) | assumption) ?_
        refine q_iadd hx hb dL_agree_39 ?_
        refine lv_istore_n (lv' := [(3, .int (nI ((CW w c) + (bp (w (6 * 6 + c)))))), (0, .ref (ad_7 0)), (1, .ref (ad_7 71)), (2, .ref (ad_7 72)), (4, .int (nI (c)))]) hx hb dL_agree_40 rfl hl (by decide) rfl (fun ls hl => ?_)
        refine q_ic 0 hx hb dL_agree_41 (by decide) ?_
        have hl : lv_has ls 6 [(3, .int (nI (CW w c + bp (w (6 * 6 + c)) + fb_sm (fun b => bp (w (c * 6 + b)) + (if c < 4 ∧ b < 4 then bp (w (42 + c * 4 + b)) else 0)) 0))), (0, .ref (ad_7 0)), (1, .ref (ad_7 71)), (2, .ref (ad_7 72)), (4, .int (nI (c)))] := by rw [show CW w c + bp (w (6 * 6 + c)) + fb_sm (fun b => bp (w (c * 6 + b)) + (if c < 4 ∧ b < 4 then bp (w (42 + c * 4 + b)) else 0)) 0 = CW w c + bp (w (6 * 6 + c)) from rfl]; exact hl
        refine lv_istore (lv' := [(5, .int (nI 0)), (3, .int (nI (CW w c + bp (w (6 * 6 + c)) + fb_sm (fun b => bp (w (c * 6 + b)) + (if c < 4 ∧ b < 4 then bp (w (42 + c * 4 + b)) else 0)) 0))), (0, .ref (ad_7 0)), (1, .ref (ad_7 71)), (2, .ref (ad_7 72)), (4, .int (nI (c)))]) hx hb dL_agree_42 hl (by decide) rfl (fun ls hl => ?_)
        have lp_44 : ∀ (fu_44 : Nat) (b : Nat) (J44 : Ic) (M44 : Lc) (Q44 : Rc), 6 - b < fu_44 → (b ≤ 6) → (InvA 73 J44 M44 Q44 ((w, K, ro), hc, hi, sv, pn, ch)) → (Fr7 (zr (zr I 71 0) 72 0) J44 (zr (zr L 71 0) 72 0) M44 (zr (zr R 71 none) 72 none) Q44) → ∀ (H : Heap) (locs : List Loc), Wd G 73 ad_7 J44 M44 Q44 (qA 71 ad s.heap.size) s.heap H locs s → ∀ ls : Array Slot, lv_has ls 6 [(0, .ref (ad_7 0)), (1, .ref (ad_7 71)), (2, .ref (ad_7 72)), (3, .int (nI (CW w c + bp (w (6 * 6 + c)) + fb_sm (fun b => bp (w (c * 6 + b)) + (if c < 4 ∧ b < 4 then bp (w (42 + c * 4 + b)) else 0)) b))), (4, .int (nI (c))), (5, .int (nI (b)))] → W p_ l e_ ({ frames := 9, cells := 3, slots := 72, locals := 324 } : Room) s m_ ([.ref (ad 0)] : List Value).toArray below meth c_ H locs 2 48 (MQ below (qI2 G (qA 71 ad s.heap.size) (fun z u => z = nI 1 ∧ AgP ((w, K, ro), hc, hi, sv, pn, ch) ad u)) ([.ref (ad 0)] : List Value).toArray s 3 72 (qA 71 ad s.heap.size)) (F0 m_ 44 ls []) := by
          intro fu_44
          induction fu_44 with
          | zero =>
            intro b J44 M44 Q44 hm; exact absurd hm (Nat.not_lt_zero _)
          | succ fu_44 ih_44 =>
            intro b J44 M44 Q44 hm_44 hb6 hA hG H locs hW ls hl
            refine lv_iload hx hb dL_agree_44 (lv_at hl 5 rfl) ?_
            refine q_bp 6 hx hb dL_agree_46 (by decide) ?_
            refine q_cge (tgt := 109) hx hb dL_agree_48 (by decide) (by first | omega | exact Nat.lt_of_le_of_lt (hw3 _) (by decide) | exact Nat.lt_of_lt_of_le (hr4 _) (by decide) | exact Nat.lt_of_le_of_lt (bp_le _) (by decide) | assumption) (by first | omega | exact Nat.lt_of_le_of_lt (hw3 _) (by decide) | exact Nat.lt_of_lt_of_le (hr4 _) (by decide) | exact Nat.lt_of_le_of_lt (bp_le _) (by decide) | assumption) (fun c_48 => ?_) (fun c_48 => ?_)
            ·
              have hl : lv_has ls 6 [(0, .ref (ad_7 0)), (1, .ref (ad_7 71)), (2, .ref (ad_7 72)), (3, .int (nI (CW w (c + 1)))), (4, .int (nI (c))), (5, .int (nI (b)))] := by rw [show CW w (c + 1) = CW w c + bp (w (6 * 6 + c)) + fb_sm (fun b => bp (w (c * 6 + b)) + (if c < 4 ∧ b < 4 then bp (w (42 + c * 4 + b)) else 0)) b from by rw [show b = 6 by omega]; unfold CW; simp only [fb_s]; omega]; exact hl
              refine q_iinc (z2 := c + 1) (lv' := [(4, .int (nI (c + 1))), (0, .ref (ad_7 0)), (1, .ref (ad_7 71)), (2, .ref (ad_7 72)), (3, .int (nI (CW w (c + 1)))), (5, .int (nI (b)))]) hx hb dL_agree_109 hl (k := 4) rfl (inc_up _ 1 (by decide)) (by decide) rfl (fun ls hl => ?_)
              refine lv_goto (tgt := 15) hx hb dL_agree_112 (by decide) ?_
              exact ih_15 (c + 1) J44 M44 Q44 (by omega) (by omega) hA hG _ _ hW _ (lv_sub hl [1, 2, 3, 4, 0] rfl)
            ·
              refine lv_iload_n hx hb dL_agree_51 rfl (lv_at hl 3 rfl) ?_
              refine lv_aload_n hx hb dL_agree_52 rfl (lv_at hl 0 rfl) ?_
              refine q_ic 1 hx hb dL_agree_53 (by decide) ?_
              refine lv_iload hx hb dL_agree_54 (lv_at hl 4 rfl) ?_
              refine lv_iload hx hb dL_agree_56 (lv_at hl 5 rfl) ?_
              refine q_kI2 (q_rV (As := [.int (nI 1), .int (nI (c)), .int (nI (b))]) (rest := [.int (nI (CW w c + bp (w (6 * 6 + c)) + fb_sm (fun b => bp (w (c * 6 + b)) + (if c < 4 ∧ b < 4 then bp (w (42 + c * 4 + b)) else 0)) b))]) (x := 0) hC hW mw_X5_weight gw_156 (k_weight l G 73 ad_7 H.size J44 M44 Q44 (nI 1) (nI c) (nI b) w K ro hc hi sv pn ch hA) (by omega) (ct_o5 kd_0) rfl ⟨rfl, rfl⟩ ⟨Nat.le_of_ble_eq_true rfl, Nat.le_of_ble_eq_true rfl⟩ ⟨(Nat.le_of_ble_eq_true rfl), (Nat.le_of_ble_eq_true rfl)⟩ hl.1 rfl rfl (Nat.le_of_ble_eq_true rfl) dL_agree_58) hW (fun r_58 n_58 ad_58 I_58 L_58 R_58 H locs hp hW => ?_)
              obtain ⟨hz, rfl, rfl, hA, hF⟩ := PR_use hp
              have hG := fr_t hF hG
              have hz : r_58 = nI (w (c * 6 + b)) := hz.trans (aW1 (S := ((w, K, ro), hc, hi, sv, pn, ch)) (f := c) (t := b) (by first | omega | assumption) (by first | omega | assumption))
              subst hz
              refine q_bple (t := 68) hx hb dL_agree_61 dL_agree_64 dL_agree_65 dL_agree_68 (by decide) (by decide) (by first | omega | exact Nat.lt_of_le_of_lt (hw3 _) (by decide) | exact Nat.lt_of_lt_of_le (hr4 _) (by decide) | exact Nat.lt_of_le_of_lt (bp_le _) (by decide) | assumption) ?_
              refine q_iadd hx hb dL_agree_69 ?_
              refine lv_istore_n (lv' := [(3, .int (nI ((CW w c + bp (w (6 * 6 + c)) + fb_sm (fun b => bp (w (c * 6 + b)) + (if c < 4 ∧ b < 4 then bp (w (42 + c * 4 + b)) else 0)) b) + (bp (w (c * 6 + b)))))), (0, .ref (ad_7 0)), (1, .ref (ad_7 71)), (2, .ref (ad_7 72)), (4, .int (nI (c))), (5, .int (nI (b)))]) hx hb dL_agree_70 rfl hl (by decide) rfl (fun ls hl => ?_)
              refine lv_iload_n hx hb dL_agree_71 rfl (lv_at hl 0 rfl) ?_
              refine lv_iload hx hb dL_agree_72 (lv_at hl 4 rfl) ?_
              refine q_ic 4 hx hb dL_agree_74 (by decide) ?_
              refine q_cge (tgt := 100) hx hb dL_agree_75 (by decide) (by first | omega | exact Nat.lt_of_le_of_lt (hw3 _) (by decide) | exact Nat.lt_of_lt_of_le (hr4 _) (by decide) | exact Nat.lt_of_le_of_lt (bp_le _) (by decide) | assumption) (by first | omega | exact Nat.lt_of_le_of_lt (hw3 _) (by decide) | exact Nat.lt_of_lt_of_le (hr4 _) (by decide) | exact Nat.lt_of_le_of_lt (bp_le _) (by decide) | assumption) (fun c_75 => ?_) (fun c_75 => ?_)
              ·
                refine q_ic 0 hx hb dL_agree_100 (by decide) ?_
                refine q_iadd hx hb dL_agree_101 ?_
                refine q_top (v2 := .int (nI (CW w c + bp (w (6 * 6 + c)) + fb_sm (fun b => bp (w (c * 6 + b)) + (if c < 4 ∧ b < 4 then bp (w (42 + c * 4 + b)) else 0)) (b + 1)))) (congrArg (fun z => Value.int (nI z)) (by simp only [fb_s]; rw [if_neg (by omega)]; omega)) ?_
                refine lv_istore_n (lv' := [(3, .int (nI (CW w c + bp (w (6 * 6 + c)) + fb_sm (fun b => bp (w (c * 6 + b)) + (if c < 4 ∧ b < 4 then bp (w (42 + c * 4 + b)) else 0)) (b + 1)))), (0, .ref (ad_7 0)), (1, .ref (ad_7 71)), (2, .ref (ad_7 72)), (4, .int (nI (c))), (5, .int (nI (b)))]) hx hb dL_agree_102 rfl hl (by decide) rfl (fun ls hl => ?_)
                refine q_iinc (z2 := b + 1) (lv' := [(5, .int (nI (b + 1))), (3, .int (nI (CW w c + bp (w (6 * 6 + c)) + fb_sm (fun b => bp (w (c * 6 + b)) + (if c < 4 ∧ b < 4 then bp (w (42 + c * 4 + b)) else 0)) (b + 1)))), (0, .ref (ad_7 0)), (1, .ref (ad_7 71)), (2, .ref (ad_7 72)), (4, .int (nI (c)))]) hx hb dL_agree_103 hl (k := 5) rfl (inc_up _ 1 (by decide)) (by decide) rfl (fun ls hl => ?_)
                refine lv_goto (tgt := 44) hx hb dL_agree_106 (by decide) ?_
                exact ih_44 (b + 1) I_58 L_58 R_58 (by omega) (by omega) hA hG _ _ hW _ (lv_sub hl [2, 3, 4, 1, 5, 0] rfl)
              ·
                refine lv_iload hx hb dL_agree_78 (lv_at hl 5 rfl) ?_
                refine q_ic 4 hx hb dL_agree_80 (by decide) ?_
                refine q_cge (tgt := 100) hx hb dL_agree_81 (by decide) (by first | omega | exact Nat.lt_of_le_of_lt (hw3 _) (by decide) | exact Nat.lt_of_lt_of_le (hr4 _) (by decide) | exact Nat.lt_of_le_of_lt (bp_le _) (by decide) | assumption) (by first | omega | exact Nat.lt_of_le_of_lt (hw3 _) (by decide) | exact Nat.lt_of_lt_of_le (hr4 _) (by decide) | exact Nat.lt_of_le_of_lt (bp_le _) (by decide) | assumption) (fun c_81 => ?_) (fun c_81 => ?_)
                ·
                  refine q_ic 0 hx hb dL_agree_100 (by decide) ?_
                  refine q_iadd hx hb dL_agree_101 ?_
                  refine q_top (v2 := .int (nI (CW w c + bp (w (6 * 6 + c)) + fb_sm (fun b => bp (w (c * 6 + b)) + (if c < 4 ∧ b < 4 then bp (w (42 + c * 4 + b)) else 0)) (b + 1)))) (congrArg (fun z => Value.int (nI z)) (by simp only [fb_s]; rw [if_neg (by omega)]; omega)) ?_
                  refine lv_istore_n (lv' := [(3, .int (nI (CW w c + bp (w (6 * 6 + c)) + fb_sm (fun b => bp (w (c * 6 + b)) + (if c < 4 ∧ b < 4 then bp (w (42 + c * 4 + b)) else 0)) (b + 1)))), (0, .ref (ad_7 0)), (1, .ref (ad_7 71)), (2, .ref (ad_7 72)), (4, .int (nI (c))), (5, .int (nI (b)))]) hx hb dL_agree_102 rfl hl (by decide) rfl (fun ls hl => ?_)
                  refine q_iinc (z2 := b + 1) (lv' := [(5, .int (nI (b + 1))), (3, .int (nI (CW w c + bp (w (6 * 6 + c)) + fb_sm (fun b => bp (w (c * 6 + b)) + (if c < 4 ∧ b < 4 then bp (w (42 + c * 4 + b)) else 0)) (b + 1)))), (0, .ref (ad_7 0)), (1, .ref (ad_7 71)), (2, .ref (ad_7 72)), (4, .int (nI (c)))]) hx hb dL_agree_103 hl (k := 5) rfl (inc_up _ 1 (by decide)) (by decide) rfl (fun ls hl => ?_)
                  refine lv_goto (tgt := 44) hx hb dL_agree_106 (by decide) ?_
                  exact ih_44 (b + 1) I_58 L_58 R_58 (by omega) (by omega) hA hG _ _ hW _ (lv_sub hl [2, 3, 4, 1, 5, 0] rfl)
                ·
                  refine lv_aload_n hx hb dL_agree_84 rfl (lv_at hl 1 rfl) ?_
                  refine q_ic 2 hx hb dL_agree_85 (by decide) ?_
                  refine lv_iload hx hb dL_agree_86 (lv_at hl 4 rfl) ?_
                  refine lv_iload hx hb dL_agree_88 (lv_at hl 5 rfl) ?_
                  refine q_kI2 (q_rV (As := [.int (nI 2), .int (nI (c)), .int (nI (b))]) (rest := [.int (nI ((CW w c + bp (w (6 * 6 + c)) + fb_sm (fun b => bp (w (c * 6 + b)) + (if c < 4 ∧ b < 4 then bp (w (42 + c * 4 + b)) else 0)) b) + (bp (w (c * 6 + b)))))]) (x := 0) hC hW mw_X5_weight gw_156 (k_weight l G 73 ad_7 H.size I_58 L_58 R_58 (nI 2) (nI c) (nI b) w K ro hc hi sv pn ch hA) (by omega) (ct_o5 kd_0) rfl ⟨rfl, rfl⟩ ⟨Nat.le_of_ble_eq_true rfl, Nat.le_of_ble_eq_true rfl⟩ ⟨(Nat.le_of_ble_eq_true rfl), (Nat.le_of_ble_eq_true rfl)⟩ hl.1 rfl rfl (Nat.le_of_ble_eq_true rfl) dL_agree_90) hW (fun r_90 n_90 ad_90 I_90 L_90 R_90 H locs hp hW => ?_)
                  obtain ⟨hz, rfl, rfl, hA, hF⟩ := PR_use hp
                  have hG := fr_t hF hG
                  have hz : r_90 = nI (w (42 + c * 4 + b)) := hz.trans (aW2 (S := ((w, K, ro), hc, hi, sv, pn, ch)) (c := c) (t := b) (by first | omega | assumption) (by first | omega | assumption))
                  subst hz
                  refine q_bple (t := 100) hx hb dL_agree_93 dL_agree_96 dL_agree_97 dL_agree_100 (by decide) (by decide) (by first | omega | exact Nat.lt_of_le_of_lt (hw3 _) (by decide) | exact Nat.lt_of_lt_of_le (hr4 _) (by decide) | exact Nat.lt_of_le_of_lt (bp_le _) (by decide) | assumption) ?_
                  refine q_iadd hx hb dL_agree_101 ?_
                  refine q_top (v2 := .int (nI (CW w c + bp (w (6 * 6 + c)) + fb_sm (fun b => bp (w (c * 6 + b)) + (if c < 4 ∧ b < 4 then bp (w (42 + c * 4 + b)) else 0)) (b + 1)))) (congrArg (fun z => Value.int (nI z)) (by simp only [fb_s]; rw [if_pos ⟨by omega, by omega⟩]; omega)) ?_
                  refine lv_istore_n (lv' := [(3, .int (nI (CW w c + bp (w (6 * 6 + c)) + fb_sm (fun b => bp (w (c * 6 + b)) + (if c < 4 ∧ b < 4 then bp (w (42 + c * 4 + b)) else 0)) (b + 1)))), (0, .ref (ad_7 0)), (1, .ref (ad_7 71)), (2, .ref (ad_7 72)), (4, .int (nI (c))), (5, .int (nI (b)))]) hx hb dL_agree_102 rfl hl (by decide) rfl (fun ls hl => ?_)
                  refine q_iinc (z2 := b + 1) (lv' := [(5, .int (nI (b + 1))), (3, .int (nI (CW w c + bp (w (6 * 6 + c)) + fb_sm (fun b => bp (w (c * 6 + b)) + (if c < 4 ∧ b < 4 then bp (w (42 + c * 4 + b)) else 0)) (b + 1)))), (0, .ref (ad_7 0)), (1, .ref (ad_7 71)), (2, .ref (ad_7 72)), (4, .int (nI (c)))]) hx hb dL_agree_103 hl (k := 5) rfl (inc_up _ 1 (by decide)) (by decide) rfl (fun ls hl => ?_)
                  refine lv_goto (tgt := 44) hx hb dL_agree_106 (by decide) ?_
                  exact ih_44 (b + 1) I_90 L_90 R_90 (by omega) (by omega) hA hG _ _ hW _ (lv_sub hl [2, 3, 4, 1, 5, 0] rfl)
        exact lp_44 (6 + 1) 0 I_28 L_28 R_28 (by omega) (by omega) hA hG _ _ hW _ (lv_sub hl [2, 3, 4, 1, 5, 0] rfl)
  exact lp_15 (6 + 1) 0 (zr (zr I 71 0) 72 0) (zr (zr L 71 0) 72 0) (zr (zr R 71 none) 72 none) (by omega) (by omega) hA hG _ _ hW _ (lv_sub hl [4, 3, 2, 1, 0] rfl)
