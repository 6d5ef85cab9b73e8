/-- what an act leaves -/
def AcP (ad : Nat → Nat) (u : Sx) : Prop := ∃ S : ST, 71 ≤ u.1 ∧ (∀ k, k < 71 → u.2.1 k = ad k) ∧ InvA 71 u.2.2.1 u.2.2.2.1 u.2.2.2.2 S
set_option maxRecDepth 100000 in
set_option maxHeartbeats 4000000 in
theorem k_isTrained (l : Launch) (G : Gx) (ad : Nat → Nat) (sz : Nat) (I : Ic) (L : Lc) (R : Rc)  (w : Nat → Nat) (K : Nat) (ro : Nat → Nat) (hc : Nat) (hi : Nat → CM) (sv : Nat → Option CM) (pn : Nat) (ch : Nat → Nat) (hA : InvA 74 I L R ((w, K, ro), hc, hi, sv, pn, ch)) (hNR : NoR R 71 74) : Met l yL_isTrained (Cond.code yL_isTrained cL_isTrained 15 (some .boolean) :: GW) ({ frames := 9, cells := 1, slots := 64, locals := 324 } : Room) (qPre G 74 ad sz I L R [.ref (ad 0)]) (qI2 G (qA 74 ad sz) (fun z u => z = nI 1 ∧ AcP ad u)) 1 64 (qA 74 ad sz) := by
  refine q_met (by decide) (Nat.le_of_ble_eq_true rfl) ?_
  intro p_ e_ s m_ below meth c_ hC hr hlk0 hin hsz hW ls hl
  subst hsz
  have hC : CallFix p_ m_ c_ cL_isTrained 15 s ([.ref (ad 0)] : List Value).toArray GW "CoinRowsLaw" := hC
  have hx := hC.1
  have hb := hC.2.1
  have hw : Wok w := hA.2.2.1.2.2.2.2.1
  have hw3 : ∀ i, w i ≤ 3 := hw.1
  have hk6 : K ≤ 6 := hA.2.2.1.2.2.2.1
  have hr4 : ∀ j, ro j < 4 := hA.2.2.1.2.2.2.2.2
  have hn71 := hA.1
  have hT63 : Sx' w K ro K 6 < 2 ^ 63 := Nat.lt_of_le_of_lt (Sx_b hw K K 6 hk6) (by decide)
  have hC31 : Cx' w K ro K 6 < 2 ^ 31 := Nat.lt_of_le_of_lt (Cx_b hw K K 6 hk6) (by decide)
  have hG : Fr7 I I L L R R := fr_0
  have hEB : ∀ j, exN w ro K j ≤ 1317000000000000000 := exN_BB hw hk6
  have hl : lv_has ls 15 [(0, .ref (ad 0))] := hl
  refine lv_aload_n hx hb dL_isTrained_0 rfl (lv_at hl 0 rfl) ?_
  refine q_kL2 (q_rV (As := []) (rest := []) (x := 0) hC hW mw_X5_total gw_243 (k_total l G 74 ad s.heap.size I L R w K ro hc hi sv pn ch hA) (by omega) (ct_o5 kd_0) rfl ⟨rfl, rfl⟩ ⟨Nat.le_of_ble_eq_true rfl, Nat.le_of_ble_eq_true rfl⟩ ⟨(Nat.le_of_ble_eq_true rfl), (Nat.le_of_ble_eq_true rfl)⟩ hl.1 rfl rfl (Nat.le_of_ble_eq_true rfl) dL_isTrained_1) hW (fun r_1 n_1 ad_1 I_1 L_1 R_1 H locs hp hW => ?_)
  obtain ⟨hz, rfl, rfl, hA, hF⟩ := PRl_use hp
  have hG := fr_t hF hG
  have hz : r_1 = lN (Sx' w K ro K 6) := hz
  subst hz
  refine lv_lstore_n (lv' := [(1, .long (lN (Sx' w K ro K 6))), (0, .ref (ad 0))]) hx hb dL_isTrained_4 rfl hl (by decide) rfl (fun ls hl => ?_)
  refine lv_aload_n hx hb dL_isTrained_5 rfl (lv_at hl 1 rfl) ?_
  refine q_ic 0 hx hb dL_isTrained_6 (by decide) ?_
  refine q_kI2 (q_rV (As := [.int (nI 0)]) (rest := []) (x := 0) hC hW mw_X5_count gw_172 (k_count l G 74 ad H.size I_1 L_1 R_1 (nI 0) w K ro hc hi sv pn ch hA) (by omega) (ct_o5 kd_0) rfl ⟨rfl, rfl⟩ ⟨Nat.le_of_ble_eq_true rfl, Nat.le_of_ble_eq_true rfl⟩ ⟨(Nat.le_of_ble_eq_true rfl), (Nat.le_of_ble_eq_true rfl)⟩ hl.1 rfl rfl (Nat.le_of_ble_eq_true rfl) dL_isTrained_7) hW (fun r_7 n_7 ad_7 I_7 L_7 R_7 H locs hp hW => ?_)
  obtain ⟨hz, rfl, rfl, hA, hF⟩ := PR_use hp
  have hG := fr_t hF hG
  have hz : r_7 = nI K := hz.trans (aC0 (S := ((w, K, ro), hc, hi, sv, pn, ch)))
  subst hz
  refine q_ieq (tgt := 19) hx hb dL_isTrained_10 (by decide) (by first | omega | exact Nat.lt_of_le_of_lt (hw3 _) (by decide) | exact Nat.lt_of_lt_of_le (hr4 _) (by decide) | exact Nat.lt_of_le_of_lt (bp_le _) (by decide) | assumption) (fun c_10 => ?_) (fun c_10 => ?_)
  ·
    refine lv_aload_n hx hb dL_isTrained_19 rfl (lv_at hl 1 rfl) ?_
    refine q_kI2 (q_rV (As := []) (rest := []) (x := 0) hC hW mw_X5_train gw_406 (k_train l G 74 ad H.size I_7 L_7 R_7 w K ro hc hi sv pn ch hA) (by omega) (ct_o5 kd_0) rfl ⟨rfl, rfl⟩ ⟨Nat.le_of_ble_eq_true rfl, Nat.le_of_ble_eq_true rfl⟩ ⟨(Nat.le_of_ble_eq_true rfl), (Nat.le_of_ble_eq_true rfl)⟩ hl.1 rfl rfl (Nat.le_of_ble_eq_true rfl) dL_isTrained_20) hW (fun r_20 n_20 ad_20 I_20 L_20 R_20 H locs hp hW => ?_)
    obtain ⟨hz, rfl, rfl, hA, hF⟩ := PR_use hp
    have hft : aTrain ((w, K, ro), hc, hi, sv, pn, ch) = (-5, ((w, K, ro), hc, hi, sv, pn, ch)) := if_pos (show K = 0 ∨ aTot (w, K, ro) = 0 from Or.inl c_10)
    rw [hft] at hz hA
    have hA : InvA 74 I_20 L_20 R_20 ((w, K, ro), hc, hi, sv, pn, ch) := hA
    have hz : r_20 = -5 := hz
    subst hz
    have hG := fr_t hF hG
    refine lv_bipush (v := -5) hx hb dL_isTrained_23 (by decide) ?_
    refine lv_icmp_ne (tgt := 32) hx hb dL_isTrained_25 (by decide) (fun c_25 => absurd c_25 (by decide)) (fun c_25 => ?_)
    refine q_ic 1 hx hb dL_isTrained_28 (by decide) ?_
    refine lv_goto (tgt := 33) hx hb dL_isTrained_29 (by decide) ?_
    refine q_more (c2 := 1) (s2 := 64) (Nat.le_of_ble_eq_true rfl) (Nat.le_of_ble_eq_true rfl) ?_
    exact q_zret2 hC hW hr hlk0 rfl ⟨rfl, ((w, K, ro), hc, hi, sv, pn, ch), (by decide : 71 ≤ 74), fun _ _ => rfl, InvA_n hA (by decide)⟩ dL_isTrained_33
  ·
    refine lv_lload_n hx hb dL_isTrained_13 rfl (lv_at hl 0 rfl) ?_
    refine q_lc 0 hx hb dL_isTrained_14 (by decide) ?_
    refine q_lcmp hx hb dL_isTrained_15 ?_
    refine q_lne (tgt := 34) hx hb dL_isTrained_16 (by decide) hT63 (by decide) (fun c_16 => ?_) (fun c_16 => ?_)
    ·
      have hcl : Cl 74 R_7 := Cl_of (InvA_cl hA) (fr_n hG hNR) (by decide)
      have hT0 : 0 < Sx' w K ro K 6 := Nat.pos_of_ne_zero c_16
      refine q_bp 64 hx hb dL_isTrained_34 (by decide) ?_
      refine q_nwi hC hW hcl kd_74 (Nat.le_of_ble_eq_true rfl) (Nat.le_of_ble_eq_true rfl) dL_isTrained_36 (fun ad_36 H hag_36 hcl_36 hW => ?_)
      have hl : lv_has ls 15 [(1, .long (lN (Sx' w K ro K 6))), (0, .ref (ad_36 0))] := by rw [hag_36 0 (by omega)]; exact hl
      have hA : InvA 75 (zr I_7 74 0) (zr L_7 74 0) (zr R_7 74 none) ((w, K, ro), hc, hi, sv, pn, ch) := InvA_hi (InvA_n hA (by decide)) (fun a ha => zr_ne (by omega)) (fun a ha => zr_ne (by omega)) (fun a ha => zr_ne (by omega))
      have hTh := ThC_0 (exN w ro K) w ((zr I_7 74 0) 74)
      have hG : Fr7 (zr I_7 74 0) (zr I_7 74 0) (zr L_7 74 0) (zr L_7 74 0) (zr R_7 74 none) (zr R_7 74 none) := fr_0
      refine lv_astore_n (lv' := [(3, .ref (ad_36 74)), (1, .long (lN (Sx' w K ro K 6))), (0, .ref (ad_36 0))]) hx hb dL_isTrained_38 rfl hl (by decide) rfl (fun ls hl => ?_)
      refine q_ic 0 hx hb dL_isTrained_39 (by decide) ?_
      refine lv_istore (lv' := [(4, .int (nI 0)), (3, .ref (ad_36 74)), (1, .long (lN (Sx' w K ro K 6))), (0, .ref (ad_36 0))]) hx hb dL_isTrained_40 hl (by decide) rfl (fun ls hl => ?_)
      refine q_ic 0 hx hb dL_isTrained_42 (by decide) ?_
      have hl : lv_has ls 15 [(4, .int (nI (DF (exN w ro K) w 0))), (3, .ref (ad_36 74)), (1, .long (lN (Sx' w K ro K 6))), (0, .ref (ad_36 0))] := by rw [show DF (exN w ro K) w 0 = 0 from rfl]; exact hl
      refine lv_istore (lv' := [(5, .int (nI 0)), (4, .int (nI (DF (exN w ro K) w 0))), (3, .ref (ad_36 74)), (1, .long (lN (Sx' w K ro K 6))), (0, .ref (ad_36 0))]) hx hb dL_isTrained_43 hl (by decide) rfl (fun ls hl => ?_)
      have lp_45 : ∀ (fu_45 : Nat) (g : Nat) (J45 : Ic) (M45 : Lc) (Q45 : Rc), 11 - g < fu_45 → (g ≤ 11) → (InvA 75 J45 M45 Q45 ((w, K, ro), hc, hi, sv, pn, ch)) → (ThC (exN w ro K) w g 0 (J45 74)) → ∀ (H : Heap) (locs : List Loc), Wd G 75 ad_36 J45 M45 Q45 (qA 74 ad s.heap.size) s.heap H locs s → ∀ ls : Array Slot, lv_has ls 15 [(0, .ref (ad_36 0)), (1, .long (lN (Sx' w K ro K 6))), (3, .ref (ad_36 74)), (4, .int (nI (DF (exN w ro K) w g))), (5, .int (nI (g)))] → W p_ l e_ ({ frames := 9, cells := 1, slots := 64, locals := 324 } : Room) s m_ ([.ref (ad 0)] : List Value).toArray below meth c_ H locs 1 64 (MQ below (qI2 G (qA 74 ad s.heap.size) (fun z u => z = nI 1 ∧ AcP ad u)) ([.ref (ad 0)] : List Value).toArray s 1 64 (qA 74 ad s.heap.size)) (F0 m_ 45 ls []) := by
        intro fu_45
        induction fu_45 with
        | zero =>
          intro g J45 M45 Q45 hm; exact absurd hm (Nat.not_lt_zero _)
        | succ fu_45 ih_45 =>
          intro g J45 M45 Q45 hm_45 hg11 hA hTh H locs hW ls hl
          have hG : Fr7 J45 J45 M45 M45 Q45 Q45 := fr_0
          refine lv_iload hx hb dL_isTrained_45 (lv_at hl 4 rfl) ?_
          refine q_bp 11 hx hb dL_isTrained_47 (by decide) ?_
          refine q_cge (tgt := 259) hx hb dL_isTrained_49 (by decide) (by first | omega | exact Nat.lt_of_le_of_lt (hw3 _) (by decide) | exact Nat.lt_of_lt_of_le (hr4 _) (by decide) | exact Nat.lt_of_le_of_lt (bp_le _) (by decide) | assumption) (by first | omega | exact Nat.lt_of_le_of_lt (hw3 _) (by decide) | exact Nat.lt_of_lt_of_le (hr4 _) (by decide) | exact Nat.lt_of_le_of_lt (bp_le _) (by decide) | assumption) (fun c_49 => ?_) (fun c_49 => ?_)
          ·
            have eg : g = 11 := by omega
            have hl : lv_has ls 15 [(0, .ref (ad_36 0)), (1, .long (lN (Sx' w K ro K 6))), (3, .ref (ad_36 74)), (4, .int (nI (DF (exN w ro K) w 11))), (5, .int (nI (g)))] := by rw [show DF (exN w ro K) w 11 = DF (exN w ro K) w g from by rw [eg]]; exact hl
            have hTh : ThC (exN w ro K) w 11 0 (J45 74) := by rw [← eg]; exact hTh
            have hDF : DF (exN w ro K) w 11 < 2 ^ 31 := by rw [← DF_11]; exact Nat.lt_of_le_of_lt (cntF_le _ _ _ _) (by decide)
            refine lv_aload_n hx hb dL_isTrained_259 rfl (lv_at hl 0 rfl) ?_
            refine q_kI2 (q_rV (As := []) (rest := []) (x := 0) hC hW mw_X5_train gw_406 (k_train l G 75 ad_36 H.size J45 M45 Q45 w K ro hc hi sv pn ch hA) (by omega) (ct_o5 kd_0) rfl ⟨rfl, rfl⟩ ⟨Nat.le_of_ble_eq_true rfl, Nat.le_of_ble_eq_true rfl⟩ ⟨(Nat.le_of_ble_eq_true rfl), (Nat.le_of_ble_eq_true rfl)⟩ hl.1 rfl rfl (Nat.le_of_ble_eq_true rfl) dL_isTrained_260) hW (fun r_260 n_260 ad_260 I_260 L_260 R_260 H locs hp hW => ?_)
            obtain ⟨hz, rfl, rfl, hA, hF⟩ := PR_use hp
            have hft : aTrain ((w, K, ro), hc, hi, sv, pn, ch) = (nI (cntF w (tnew (exN w ro K) w) 0 58), (((mixA w (tnew (exN w ro K) w) 0 58), K, ro), hcN hc, hiN hc hi (w, K, ro), sv, pn, ch)) := if_neg (show ¬ (K = 0 ∨ aTot (w, K, ro) = 0) from fun h => h.elim c_10 c_16)
            rw [hft] at hz hA
            have hA : InvA 75 I_260 L_260 R_260 (((mixA w (tnew (exN w ro K) w) 0 58), K, ro), hcN hc, hiN hc hi (w, K, ro), sv, pn, ch) := hA
            have hz : r_260 = nI (DF (exN w ro K) w 11) := hz.trans (congrArg nI (DF_11 (exN w ro K) w))
            subst hz
            have hG := fr_t hF hG
            refine lv_iload hx hb dL_isTrained_263 (lv_at hl 3 rfl) ?_
            refine q_ceq (tgt := 270) hx hb dL_isTrained_265 (by decide) (by first | omega | exact Nat.lt_of_le_of_lt (hw3 _) (by decide) | exact Nat.lt_of_lt_of_le (hr4 _) (by decide) | exact Nat.lt_of_le_of_lt (bp_le _) (by decide) | assumption) (by first | omega | exact Nat.lt_of_le_of_lt (hw3 _) (by decide) | exact Nat.lt_of_lt_of_le (hr4 _) (by decide) | exact Nat.lt_of_le_of_lt (bp_le _) (by decide) | assumption) (fun c_265 => ?_) (fun c_265 => absurd rfl c_265)
            refine q_ic 0 hx hb dL_isTrained_270 (by decide) ?_
            refine lv_istore (lv' := [(5, .int (nI 0)), (0, .ref (ad_36 0)), (1, .long (lN (Sx' w K ro K 6))), (3, .ref (ad_36 74)), (4, .int (nI (DF (exN w ro K) w 11)))]) hx hb dL_isTrained_271 hl (by decide) rfl (fun ls hl => ?_)
            have lp_273 : ∀ (fu_273 : Nat) (g : Nat) (J273 : Ic) (M273 : Lc) (Q273 : Rc), 11 - g < fu_273 → (g ≤ 11) → (InvA 75 J273 M273 Q273 (((mixA w (tnew (exN w ro K) w) 0 58), K, ro), hcN hc, hiN hc hi (w, K, ro), sv, pn, ch)) → (ThC (exN w ro K) w 11 0 (J273 74)) → ∀ (H : Heap) (locs : List Loc), Wd G 75 ad_36 J273 M273 Q273 (qA 74 ad s.heap.size) s.heap H locs s → ∀ ls : Array Slot, lv_has ls 15 [(0, .ref (ad_36 0)), (1, .long (lN (Sx' w K ro K 6))), (3, .ref (ad_36 74)), (5, .int (nI (g)))] → W p_ l e_ ({ frames := 9, cells := 1, slots := 64, locals := 324 } : Room) s m_ ([.ref (ad 0)] : List Value).toArray below meth c_ H locs 1 64 (MQ below (qI2 G (qA 74 ad s.heap.size) (fun z u => z = nI 1 ∧ AcP ad u)) ([.ref (ad 0)] : List Value).toArray s 1 64 (qA 74 ad s.heap.size)) (F0 m_ 273 ls []) := by
              intro fu_273
              induction fu_273 with
              | zero =>
                intro g J273 M273 Q273 hm; exact absurd hm (Nat.not_lt_zero _)
              | succ fu_273 ih_273 =>
                intro g J273 M273 Q273 hm_273 hg11 hA hTh H locs hW ls hl
                have hG : Fr7 J273 J273 M273 M273 Q273 Q273 := fr_0
                refine lv_iload hx hb dL_isTrained_273 (lv_at hl 3 rfl) ?_
                refine q_bp 11 hx hb dL_isTrained_275 (by decide) ?_
                refine q_cge (tgt := 335) hx hb dL_isTrained_277 (by decide) (by first | omega | exact Nat.lt_of_le_of_lt (hw3 _) (by decide) | exact Nat.lt_of_lt_of_le (hr4 _) (by decide) | exact Nat.lt_of_le_of_lt (bp_le _) (by decide) | assumption) (by first | omega | exact Nat.lt_of_le_of_lt (hw3 _) (by decide) | exact Nat.lt_of_lt_of_le (hr4 _) (by decide) | exact Nat.lt_of_le_of_lt (bp_le _) (by decide) | assumption) (fun c_277 => ?_) (fun c_277 => ?_)
                ·
                  refine q_ic 1 hx hb dL_isTrained_335 (by decide) ?_
                  refine q_more (c2 := 1) (s2 := 64) (Nat.le_of_ble_eq_true rfl) (Nat.le_of_ble_eq_true rfl) ?_
                  exact q_zret2 hC hW hr hlk0 rfl ⟨rfl, (((mixA w (tnew (exN w ro K) w) 0 58), K, ro), hcN hc, hiN hc hi (w, K, ro), sv, pn, ch), (by decide : 71 ≤ 75), fun k hk => hag_36 k (by omega), InvA_n hA (by decide)⟩ dL_isTrained_336
                ·
                  refine q_ic 0 hx hb dL_isTrained_280 (by decide) ?_
                  refine lv_istore (lv' := [(6, .int (nI 0)), (0, .ref (ad_36 0)), (1, .long (lN (Sx' w K ro K 6))), (3, .ref (ad_36 74)), (5, .int (nI (g)))]) hx hb dL_isTrained_281 hl (by decide) rfl (fun ls hl => ?_)
                  have lp_283 : ∀ (fu_283 : Nat) (k : Nat) (J283 : Ic) (M283 : Lc) (Q283 : Rc), 6 - k < fu_283 → (k ≤ 6) → (InvA 75 J283 M283 Q283 (((mixA w (tnew (exN w ro K) w) 0 58), K, ro), hcN hc, hiN hc hi (w, K, ro), sv, pn, ch)) → (ThC (exN w ro K) w 11 0 (J283 74)) → ∀ (H : Heap) (locs : List Loc), Wd G 75 ad_36 J283 M283 Q283 (qA 74 ad s.heap.size) s.heap H locs s → ∀ ls : Array Slot, lv_has ls 15 [(0, .ref (ad_36 0)), (1, .long (lN (Sx' w K ro K 6))), (3, .ref (ad_36 74)), (5, .int (nI (g))), (6, .int (nI (k)))] → W p_ l e_ ({ frames := 9, cells := 1, slots := 64, locals := 324 } : Room) s m_ ([.ref (ad 0)] : List Value).toArray below meth c_ H locs 1 64 (MQ below (qI2 G (qA 74 ad s.heap.size) (fun z u => z = nI 1 ∧ AcP ad u)) ([.ref (ad 0)] : List Value).toArray s 1 64 (qA 74 ad s.heap.size)) (F0 m_ 283 ls []) := by
                    intro fu_283
                    induction fu_283 with
                    | zero =>
                      intro k J283 M283 Q283 hm; exact absurd hm (Nat.not_lt_zero _)
                    | succ fu_283 ih_283 =>
                      intro k J283 M283 Q283 hm_283 hk6 hA hTh H locs hW ls hl
                      have hG : Fr7 J283 J283 M283 M283 Q283 Q283 := fr_0
                      refine lv_iload hx hb dL_isTrained_283 (lv_at hl 4 rfl) ?_
                      refine lv_iload hx hb dL_isTrained_285 (lv_at hl 3 rfl) ?_
                      refine q_bp 7 hx hb dL_isTrained_287 (by decide) ?_
                      refine q_cge (tgt := 297) hx hb dL_isTrained_289 (by decide) (by first | omega | exact Nat.lt_of_le_of_lt (hw3 _) (by decide) | exact Nat.lt_of_lt_of_le (hr4 _) (by decide) | exact Nat.lt_of_le_of_lt (bp_le _) (by decide) | assumption) (by first | omega | exact Nat.lt_of_le_of_lt (hw3 _) (by decide) | exact Nat.lt_of_lt_of_le (hr4 _) (by decide) | exact Nat.lt_of_le_of_lt (bp_le _) (by decide) | assumption) (fun c_289 => ?_) (fun c_289 => ?_)
                      ·
                        refine q_ic 4 hx hb dL_isTrained_297 (by decide) ?_
                        refine q_cge (tgt := 329) hx hb dL_isTrained_298 (by decide) (by first | omega | exact Nat.lt_of_le_of_lt (hw3 _) (by decide) | exact Nat.lt_of_lt_of_le (hr4 _) (by decide) | exact Nat.lt_of_le_of_lt (bp_le _) (by decide) | assumption) (by first | omega | exact Nat.lt_of_le_of_lt (hw3 _) (by decide) | exact Nat.lt_of_lt_of_le (hr4 _) (by decide) | exact Nat.lt_of_le_of_lt (bp_le _) (by decide) | assumption) (fun c_298 => ?_) (fun c_298 => ?_)
                        ·
                          refine q_iinc (z2 := g + 1) (lv' := [(5, .int (nI (g + 1))), (0, .ref (ad_36 0)), (1, .long (lN (Sx' w K ro K 6))), (3, .ref (ad_36 74)), (6, .int (nI (k)))]) hx hb dL_isTrained_329 hl (k := 3) rfl (inc_up _ 1 (by decide)) (by decide) rfl (fun ls hl => ?_)
                          refine lv_goto (tgt := 273) hx hb dL_isTrained_332 (by decide) ?_
                          exact ih_273 (g + 1) J283 M283 Q283 (by omega) (by omega) hA (thc (hG 74 (by decide)).1 hTh) _ _ hW _ (lv_sub hl [1, 2, 3, 0] rfl)
                        ·
                          have hkg : k < gz g := by unfold gz; split <;> omega
                          have htn : tnew (exN w ro K) w (lidx g k) < 2 ^ 31 := Nat.lt_of_le_of_lt (tnew_le hw3 _) (by decide)
                          refine lv_aload_n hx hb dL_isTrained_301 rfl (lv_at hl 0 rfl) ?_
                          refine lv_iload hx hb dL_isTrained_302 (lv_at hl 3 rfl) ?_
                          refine lv_iload hx hb dL_isTrained_304 (lv_at hl 4 rfl) ?_
                          refine q_kI2 (q_rS (As := [.ref (ad_36 0), .int (nI (g)), .int (nI (k))]) (rest := []) hC hW mw_L_weight gw_426 (k_lweight l G 75 ad_36 H.size J283 M283 Q283 g k (mixA w (tnew (exN w ro K) w) 0 58) K ro (hcN hc) (hiN hc hi (w, K, ro)) sv pn ch hA (by first | omega | assumption) (by omega)) ⟨rfl, rfl⟩ ⟨Nat.le_of_ble_eq_true rfl, Nat.le_of_ble_eq_true rfl⟩ ⟨(Nat.le_of_ble_eq_true rfl), (Nat.le_of_ble_eq_true rfl)⟩ hl.1 rfl rfl (Nat.le_of_ble_eq_true rfl) dL_isTrained_306) hW (fun r_306 n_306 ad_306 I_306 L_306 R_306 H locs hp hW => ?_)
                          obtain ⟨hz, rfl, rfl, hA, hF⟩ := PR_use hp
                          have hG := fr_t hF hG
                          have hz : r_306 = nI (tnew (exN w ro K) w (lidx g k)) := hz.trans (congrArg nI (if_pos ⟨Nat.zero_le _, lidx_lt c_277 hkg⟩))
                          subst hz
                          refine lv_aload_n hx hb dL_isTrained_309 rfl (lv_at hl 2 rfl) ?_
                          refine lv_iload hx hb dL_isTrained_310 (lv_at hl 3 rfl) ?_
                          refine lv_iload hx hb dL_isTrained_312 (lv_at hl 4 rfl) ?_
                          refine q_kI0 (q_rS (As := [.int (nI (g)), .int (nI (k))]) (rest := [.ref (ad_36 74), .int (nI (tnew (exN w ro K) w (lidx g k)))]) hC hW mw_L_at gw_431 (k_at l G 75 ad_36 H.size I_306 L_306 R_306 g k (by first | omega | assumption) (by first | omega | assumption)) ⟨rfl, rfl⟩ ⟨Nat.le_of_ble_eq_true rfl, Nat.le_of_ble_eq_true rfl⟩ ⟨(Nat.le_of_ble_eq_true rfl), (Nat.le_of_ble_eq_true rfl)⟩ hl.1 rfl rfl (Nat.le_of_ble_eq_true rfl) dL_isTrained_314) hW (fun r_314 H locs hp hW => ?_)
                          subst hp
                          refine q_iald (x := 74) (i := latx g k) hC hW (by omega) kd_74 (latx_lt c_277 hkg) dL_isTrained_317 ?_
                          refine q_top (v2 := .int (nI (tnew (exN w ro K) w (lidx g k)))) (congrArg _ ((congrFun (hG 74 (by decide)).1 _).trans (hTh g k (Or.inl c_277) c_277 hkg))) ?_
                          refine q_ceq (tgt := 323) hx hb dL_isTrained_318 (by decide) (by first | omega | exact Nat.lt_of_le_of_lt (hw3 _) (by decide) | exact Nat.lt_of_lt_of_le (hr4 _) (by decide) | exact Nat.lt_of_le_of_lt (bp_le _) (by decide) | assumption) (by first | omega | exact Nat.lt_of_le_of_lt (hw3 _) (by decide) | exact Nat.lt_of_lt_of_le (hr4 _) (by decide) | exact Nat.lt_of_le_of_lt (bp_le _) (by decide) | assumption) (fun c_318 => ?_) (fun c_318 => absurd rfl c_318)
                          refine q_iinc (z2 := k + 1) (lv' := [(6, .int (nI (k + 1))), (0, .ref (ad_36 0)), (1, .long (lN (Sx' w K ro K 6))), (3, .ref (ad_36 74)), (5, .int (nI (g)))]) hx hb dL_isTrained_323 hl (k := 4) rfl (inc_up _ 1 (by decide)) (by decide) rfl (fun ls hl => ?_)
                          refine lv_goto (tgt := 283) hx hb dL_isTrained_326 (by decide) ?_
                          exact ih_283 (k + 1) I_306 L_306 R_306 (by omega) (by omega) hA (thc (hG 74 (by decide)).1 hTh) _ _ hW _ (lv_sub hl [1, 2, 3, 4, 0] rfl)
                      ·
                        refine q_bp 6 hx hb dL_isTrained_292 (by decide) ?_
                        refine lv_goto (tgt := 298) hx hb dL_isTrained_294 (by decide) ?_
                        refine q_cge (tgt := 329) hx hb dL_isTrained_298 (by decide) (by first | omega | exact Nat.lt_of_le_of_lt (hw3 _) (by decide) | exact Nat.lt_of_lt_of_le (hr4 _) (by decide) | exact Nat.lt_of_le_of_lt (bp_le _) (by decide) | assumption) (by first | omega | exact Nat.lt_of_le_of_lt (hw3 _) (by decide) | exact Nat.lt_of_lt_of_le (hr4 _) (by decide) | exact Nat.lt_of_le_of_lt (bp_le _) (by decide) | assumption) (fun c_298 => ?_) (fun c_298 => ?_)
                        ·
                          refine q_iinc (z2 := g + 1) (lv' := [(5, .int (nI (g + 1))), (0, .ref (ad_36 0)), (1, .long (lN (Sx' w K ro K 6))), (3, .ref (ad_36 74)), (6, .int (nI (k)))]) hx hb dL_isTrained_329 hl (k := 3) rfl (inc_up _ 1 (by decide)) (by decide) rfl (fun ls hl => ?_)
                          refine lv_goto (tgt := 273) hx hb dL_isTrained_332 (by decide) ?_
                          exact ih_273 (g + 1) J283 M283 Q283 (by omega) (by omega) hA (thc (hG 74 (by decide)).1 hTh) _ _ hW _ (lv_sub hl [1, 2, 3, 0] rfl)
                        ·
                          have hkg : k < gz g := by unfold gz; split <;> omega
                          have htn : tnew (exN w ro K) w (lidx g k) < 2 ^ 31 := Nat.lt_of_le_of_lt (tnew_le hw3 _) (by decide)
                          refine lv_aload_n hx hb dL_isTrained_301 rfl (lv_at hl 0 rfl) ?_
                          refine lv_iload hx hb dL_isTrained_302 (lv_at hl 3 rfl) ?_
                          refine lv_iload hx hb dL_isTrained_304 (lv_at hl 4 rfl) ?_
                          refine q_kI2 (q_rS (As := [.ref (ad_36 0), .int (nI (g)), .int (nI (k))]) (rest := []) hC hW mw_L_weight gw_426 (k_lweight l G 75 ad_36 H.size J283 M283 Q283 g k (mixA w (tnew (exN w ro K) w) 0 58) K ro (hcN hc) (hiN hc hi (w, K, ro)) sv pn ch hA (by first | omega | assumption) (by omega)) ⟨rfl, rfl⟩ ⟨Nat.le_of_ble_eq_true rfl, Nat.le_of_ble_eq_true rfl⟩ ⟨(Nat.le_of_ble_eq_true rfl), (Nat.le_of_ble_eq_true rfl)⟩ hl.1 rfl rfl (Nat.le_of_ble_eq_true rfl) dL_isTrained_306) hW (fun r_306 n_306 ad_306 I_306 L_306 R_306 H locs hp hW => ?_)
                          obtain ⟨hz, rfl, rfl, hA, hF⟩ := PR_use hp
                          have hG := fr_t hF hG
                          have hz : r_306 = nI (tnew (exN w ro K) w (lidx g k)) := hz.trans (congrArg nI (if_pos ⟨Nat.zero_le _, lidx_lt c_277 hkg⟩))
                          subst hz
                          refine lv_aload_n hx hb dL_isTrained_309 rfl (lv_at hl 2 rfl) ?_
                          refine lv_iload hx hb dL_isTrained_310 (lv_at hl 3 rfl) ?_
                          refine lv_iload hx hb dL_isTrained_312 (lv_at hl 4 rfl) ?_
                          refine q_kI0 (q_rS (As := [.int (nI (g)), .int (nI (k))]) (rest := [.ref (ad_36 74), .int (nI (tnew (exN w ro K) w (lidx g k)))]) hC hW mw_L_at gw_431 (k_at l G 75 ad_36 H.size I_306 L_306 R_306 g k (by first | omega | assumption) (by first | omega | assumption)) ⟨rfl, rfl⟩ ⟨Nat.le_of_ble_eq_true rfl, Nat.le_of_ble_eq_true rfl⟩ ⟨(Nat.le_of_ble_eq_true rfl), (Nat.le_of_ble_eq_true rfl)⟩ hl.1 rfl rfl (Nat.le_of_ble_eq_true rfl) dL_isTrained_314) hW (fun r_314 H locs hp hW => ?_)
                          subst hp
                          refine q_iald (x := 74) (i := latx g k) hC hW (by omega) kd_74 (latx_lt c_277 hkg) dL_isTrained_317 ?_
                          refine q_top (v2 := .int (nI (tnew (exN w ro K) w (lidx g k)))) (congrArg _ ((congrFun (hG 74 (by decide)).1 _).trans (hTh g k (Or.inl c_277) c_277 hkg))) ?_
                          refine q_ceq (tgt := 323) hx hb dL_isTrained_318 (by decide) (by first | omega | exact Nat.lt_of_le_of_lt (hw3 _) (by decide) | exact Nat.lt_of_lt_of_le (hr4 _) (by decide) | exact Nat.lt_of_le_of_lt (bp_le _) (by decide) | assumption) (by first | omega | exact Nat.lt_of_le_of_lt (hw3 _) (by decide) | exact Nat.lt_of_lt_of_le (hr4 _) (by decide) | exact Nat.lt_of_le_of_lt (bp_le _) (by decide) | assumption) (fun c_318 => ?_) (fun c_318 => absurd rfl c_318)
                          refine q_iinc (z2 := k + 1) (lv' := [(6, .int (nI (k + 1))), (0, .ref (ad_36 0)), (1, .long (lN (Sx' w K ro K 6))), (3, .ref (ad_36 74)), (5, .int (nI (g)))]) hx hb dL_isTrained_323 hl (k := 4) rfl (inc_up _ 1 (by decide)) (by decide) rfl (fun ls hl => ?_)
                          refine lv_goto (tgt := 283) hx hb dL_isTrained_326 (by decide) ?_
                          exact ih_283 (k + 1) I_306 L_306 R_306 (by omega) (by omega) hA (thc (hG 74 (by decide)).1 hTh) _ _ hW _ (lv_sub hl [1, 2, 3, 4, 0] rfl)
                  exact lp_283 (6 + 1) 0 J273 M273 Q273 (by omega) (by omega) hA (thc (hG 74 (by decide)).1 hTh) _ _ hW _ (lv_sub hl [1, 2, 3, 4, 0] rfl)
            exact lp_273 (11 + 1) 0 I_260 L_260 R_260 (by omega) (by omega) hA (thc (hG 74 (by decide)).1 hTh) _ _ hW _ (lv_sub hl [1, 2, 3, 0] rfl)
          ·
            refine lv_iload hx hb dL_isTrained_52 (lv_at hl 4 rfl) ?_
            refine q_ine (tgt := 61) hx hb dL_isTrained_54 (by decide) (by first | omega | exact Nat.lt_of_le_of_lt (hw3 _) (by decide) | exact Nat.lt_of_lt_of_le (hr4 _) (by decide) | exact Nat.lt_of_le_of_lt (bp_le _) (by decide) | assumption) (fun c_54 => ?_) (fun c_54 => ?_)
            ·
              refine lv_iload hx hb dL_isTrained_61 (lv_at hl 4 rfl) ?_
              refine q_bp 7 hx hb dL_isTrained_63 (by decide) ?_
              refine q_cge (tgt := 72) hx hb dL_isTrained_65 (by decide) (by first | omega | exact Nat.lt_of_le_of_lt (hw3 _) (by decide) | exact Nat.lt_of_lt_of_le (hr4 _) (by decide) | exact Nat.lt_of_le_of_lt (bp_le _) (by decide) | assumption) (by first | omega | exact Nat.lt_of_le_of_lt (hw3 _) (by decide) | exact Nat.lt_of_lt_of_le (hr4 _) (by decide) | exact Nat.lt_of_le_of_lt (bp_le _) (by decide) | assumption) (fun c_65 => ?_) (fun c_65 => ?_)
              ·
                refine q_ic 2 hx hb dL_isTrained_72 (by decide) ?_
                refine lv_istore (lv' := [(6, .int (nI 2)), (0, .ref (ad_36 0)), (1, .long (lN (Sx' w K ro K 6))), (3, .ref (ad_36 74)), (4, .int (nI (DF (exN w ro K) w g))), (5, .int (nI (g)))]) hx hb dL_isTrained_73 hl (by decide) rfl (fun ls hl => ?_)
                refine lv_iload hx hb dL_isTrained_75 (lv_at hl 0 rfl) ?_
                refine q_ic 2 hx hb dL_isTrained_77 (by decide) ?_
                refine q_cne (tgt := 85) hx hb dL_isTrained_78 (by decide) (by first | omega | exact Nat.lt_of_le_of_lt (hw3 _) (by decide) | exact Nat.lt_of_lt_of_le (hr4 _) (by decide) | exact Nat.lt_of_le_of_lt (bp_le _) (by decide) | assumption) (by first | omega | exact Nat.lt_of_le_of_lt (hw3 _) (by decide) | exact Nat.lt_of_lt_of_le (hr4 _) (by decide) | exact Nat.lt_of_le_of_lt (bp_le _) (by decide) | assumption) (fun c_78 => absurd c_78 (by decide)) (fun c_78 => ?_)
                refine q_ic 4 hx hb dL_isTrained_81 (by decide) ?_
                refine lv_goto (tgt := 87) hx hb dL_isTrained_82 (by decide) ?_
                refine lv_istore (lv' := [(7, .int (nI 4)), (6, .int (nI 2)), (0, .ref (ad_36 0)), (1, .long (lN (Sx' w K ro K 6))), (3, .ref (ad_36 74)), (4, .int (nI (DF (exN w ro K) w g))), (5, .int (nI (g)))]) hx hb dL_isTrained_87 hl (by decide) rfl (fun ls hl => ?_)
                have hl : lv_has ls 15 [(7, .int (nI (gz g))), (6, .int (nI 2)), (0, .ref (ad_36 0)), (1, .long (lN (Sx' w K ro K 6))), (3, .ref (ad_36 74)), (4, .int (nI (DF (exN w ro K) w g))), (5, .int (nI (g)))] := by rw [show gz g = 4 from by unfold gz; rw [if_neg (by omega)]]; exact hl
                have hgz : gz g ≤ 6 := by unfold gz; split <;> omega
                refine q_lc 0 hx hb dL_isTrained_89 (by decide) ?_
                refine lv_lstore (lv' := [(8, .long (lN 0)), (7, .int (nI (gz g))), (6, .int (nI 2)), (0, .ref (ad_36 0)), (1, .long (lN (Sx' w K ro K 6))), (3, .ref (ad_36 74)), (4, .int (nI (DF (exN w ro K) w g))), (5, .int (nI (g)))]) hx hb dL_isTrained_90 hl (by decide) rfl (fun ls hl => ?_)
                refine q_ic 0 hx hb dL_isTrained_92 (by decide) ?_
                have hl : lv_has ls 15 [(8, .long (lN (gm (exN w ro K) g 0))), (7, .int (nI (gz g))), (6, .int (nI 2)), (0, .ref (ad_36 0)), (1, .long (lN (Sx' w K ro K 6))), (3, .ref (ad_36 74)), (4, .int (nI (DF (exN w ro K) w g))), (5, .int (nI (g)))] := by rw [show gm (exN w ro K) g 0 = 0 from rfl]; exact hl
                refine lv_istore (lv' := [(10, .int (nI 0)), (8, .long (lN (gm (exN w ro K) g 0))), (7, .int (nI (gz g))), (6, .int (nI 2)), (0, .ref (ad_36 0)), (1, .long (lN (Sx' w K ro K 6))), (3, .ref (ad_36 74)), (4, .int (nI (DF (exN w ro K) w g))), (5, .int (nI (g)))]) hx hb dL_isTrained_93 hl (by decide) rfl (fun ls hl => ?_)
                have lp_95 : ∀ (fu_95 : Nat) (k : Nat) (J95 : Ic) (M95 : Lc) (Q95 : Rc), gz g - k < fu_95 → (k ≤ gz g) → (InvA 75 J95 M95 Q95 ((w, K, ro), hc, hi, sv, pn, ch)) → (ThC (exN w ro K) w g 0 (J95 74)) → ∀ (H : Heap) (locs : List Loc), Wd G 75 ad_36 J95 M95 Q95 (qA 74 ad s.heap.size) s.heap H locs s → ∀ ls : Array Slot, lv_has ls 15 [(0, .ref (ad_36 0)), (1, .long (lN (Sx' w K ro K 6))), (3, .ref (ad_36 74)), (4, .int (nI (DF (exN w ro K) w g))), (5, .int (nI (g))), (7, .int (nI (gz g))), (8, .long (lN (gm (exN w ro K) g k))), (10, .int (nI (k)))] → W p_ l e_ ({ frames := 9, cells := 1, slots := 64, locals := 324 } : Room) s m_ ([.ref (ad 0)] : List Value).toArray below meth c_ H locs 1 64 (MQ below (qI2 G (qA 74 ad s.heap.size) (fun z u => z = nI 1 ∧ AcP ad u)) ([.ref (ad 0)] : List Value).toArray s 1 64 (qA 74 ad s.heap.size)) (F0 m_ 95 ls []) := by
                  intro fu_95
                  induction fu_95 with
                  | zero =>
                    intro k J95 M95 Q95 hm; exact absurd hm (Nat.not_lt_zero _)
                  | succ fu_95 ih_95 =>
                    intro k J95 M95 Q95 hm_95 hkz9 hA hTh H locs hW ls hl
                    have hG : Fr7 J95 J95 M95 M95 Q95 Q95 := fr_0
                    refine lv_iload hx hb dL_isTrained_95 (lv_at hl 7 rfl) ?_
                    refine lv_iload hx hb dL_isTrained_97 (lv_at hl 5 rfl) ?_
                    refine q_cge (tgt := 136) hx hb dL_isTrained_99 (by decide) (by first | omega | exact Nat.lt_of_le_of_lt (hw3 _) (by decide) | exact Nat.lt_of_lt_of_le (hr4 _) (by decide) | exact Nat.lt_of_le_of_lt (bp_le _) (by decide) | assumption) (by first | omega | exact Nat.lt_of_le_of_lt (hw3 _) (by decide) | exact Nat.lt_of_lt_of_le (hr4 _) (by decide) | exact Nat.lt_of_le_of_lt (bp_le _) (by decide) | assumption) (fun c_99 => ?_) (fun c_99 => ?_)
                    ·
                      refine q_ic 0 hx hb dL_isTrained_136 (by decide) ?_
                      have hl : lv_has ls 15 [(0, .ref (ad_36 0)), (1, .long (lN (Sx' w K ro K 6))), (3, .ref (ad_36 74)), (4, .int (nI (DF (exN w ro K) w g + df (exN w ro K) w g 0))), (5, .int (nI (g))), (7, .int (nI (gz g))), (8, .long (lN (gm (exN w ro K) g (gz g)))), (10, .int (nI (k)))] := by rw [show gm (exN w ro K) g (gz g) = gm (exN w ro K) g k from by rw [show k = gz g by omega], show DF (exN w ro K) w g + df (exN w ro K) w g 0 = DF (exN w ro K) w g from rfl]; exact hl
                      have hGB : gm (exN w ro K) g (gz g) ≤ 1317000000000000000 := gm_le hEB g (gz g)
                      refine lv_istore (lv' := [(10, .int (nI 0)), (0, .ref (ad_36 0)), (1, .long (lN (Sx' w K ro K 6))), (3, .ref (ad_36 74)), (4, .int (nI (DF (exN w ro K) w g + df (exN w ro K) w g 0))), (5, .int (nI (g))), (7, .int (nI (gz g))), (8, .long (lN (gm (exN w ro K) g (gz g))))]) hx hb dL_isTrained_137 hl (by decide) rfl (fun ls hl => ?_)
                      have lp_139 : ∀ (fu_139 : Nat) (k : Nat) (J139 : Ic) (M139 : Lc) (Q139 : Rc), gz g - k < fu_139 → (k ≤ gz g) → (InvA 75 J139 M139 Q139 ((w, K, ro), hc, hi, sv, pn, ch)) → (ThC (exN w ro K) w g k (J139 74)) → ∀ (H : Heap) (locs : List Loc), Wd G 75 ad_36 J139 M139 Q139 (qA 74 ad s.heap.size) s.heap H locs s → ∀ ls : Array Slot, lv_has ls 15 [(0, .ref (ad_36 0)), (1, .long (lN (Sx' w K ro K 6))), (3, .ref (ad_36 74)), (4, .int (nI (DF (exN w ro K) w g + df (exN w ro K) w g k))), (5, .int (nI (g))), (7, .int (nI (gz g))), (8, .long (lN (gm (exN w ro K) g (gz g)))), (10, .int (nI (k)))] → W p_ l e_ ({ frames := 9, cells := 1, slots := 64, locals := 324 } : Room) s m_ ([.ref (ad 0)] : List Value).toArray below meth c_ H locs 1 64 (MQ below (qI2 G (qA 74 ad s.heap.size) (fun z u => z = nI 1 ∧ AcP ad u)) ([.ref (ad 0)] : List Value).toArray s 1 64 (qA 74 ad s.heap.size)) (F0 m_ 139 ls []) := by
                        intro fu_139
                        induction fu_139 with
                        | zero =>
                          intro k J139 M139 Q139 hm; exact absurd hm (Nat.not_lt_zero _)
                        | succ fu_139 ih_139 =>
                          intro k J139 M139 Q139 hm_139 hkz9 hA hTh H locs hW ls hl
                          have hG : Fr7 J139 J139 M139 M139 Q139 Q139 := fr_0
                          refine lv_iload hx hb dL_isTrained_139 (lv_at hl 7 rfl) ?_
                          refine lv_iload hx hb dL_isTrained_141 (lv_at hl 5 rfl) ?_
                          refine q_cge (tgt := 253) hx hb dL_isTrained_143 (by decide) (by first | omega | exact Nat.lt_of_le_of_lt (hw3 _) (by decide) | exact Nat.lt_of_lt_of_le (hr4 _) (by decide) | exact Nat.lt_of_le_of_lt (bp_le _) (by decide) | assumption) (by first | omega | exact Nat.lt_of_le_of_lt (hw3 _) (by decide) | exact Nat.lt_of_lt_of_le (hr4 _) (by decide) | exact Nat.lt_of_le_of_lt (bp_le _) (by decide) | assumption) (fun c_143 => ?_) (fun c_143 => ?_)
                          ·
                            have hl : lv_has ls 15 [(0, .ref (ad_36 0)), (1, .long (lN (Sx' w K ro K 6))), (3, .ref (ad_36 74)), (4, .int (nI (DF (exN w ro K) w (g + 1)))), (5, .int (nI (g))), (7, .int (nI (gz g))), (8, .long (lN (gm (exN w ro K) g (gz g)))), (10, .int (nI (k)))] := by rw [show DF (exN w ro K) w (g + 1) = DF (exN w ro K) w g + df (exN w ro K) w g k from by rw [show k = gz g by omega]; rfl]; exact hl
                            refine q_iinc (z2 := g + 1) (lv' := [(5, .int (nI (g + 1))), (0, .ref (ad_36 0)), (1, .long (lN (Sx' w K ro K 6))), (3, .ref (ad_36 74)), (4, .int (nI (DF (exN w ro K) w (g + 1)))), (7, .int (nI (gz g))), (8, .long (lN (gm (exN w ro K) g (gz g)))), (10, .int (nI (k)))]) hx hb dL_isTrained_253 hl (k := 4) rfl (inc_up _ 1 (by decide)) (by decide) rfl (fun ls hl => ?_)
                            refine lv_goto (tgt := 45) hx hb dL_isTrained_256 (by decide) ?_
                            exact ih_45 (g + 1) J139 M139 Q139 (by omega) (by omega) hA (ThC_n (thc (hG 74 (by decide)).1 hTh) (by omega)) _ _ hW _ (lv_sub hl [1, 2, 3, 4, 0] rfl)
                          ·
                            have hkz : (g < 7 → k < 6) ∧ (7 ≤ g → k < 4) := by have h9 := c_143; unfold gz at h9; split at h9 <;> omega
                            refine lv_aload_n hx hb dL_isTrained_146 rfl (lv_at hl 0 rfl) ?_
                            refine lv_iload hx hb dL_isTrained_147 (lv_at hl 4 rfl) ?_
                            refine lv_iload hx hb dL_isTrained_149 (lv_at hl 7 rfl) ?_
                            refine q_kI2 (q_rS (As := [.ref (ad_36 0), .int (nI (g)), .int (nI (k))]) (rest := []) hC hW mw_L_weight gw_426 (k_lweight l G 75 ad_36 H.size J139 M139 Q139 g k w K ro hc hi sv pn ch hA (by first | omega | assumption) (by first | omega | assumption)) ⟨rfl, rfl⟩ ⟨Nat.le_of_ble_eq_true rfl, Nat.le_of_ble_eq_true rfl⟩ ⟨(Nat.le_of_ble_eq_true rfl), (Nat.le_of_ble_eq_true rfl)⟩ hl.1 rfl rfl (Nat.le_of_ble_eq_true rfl) dL_isTrained_151) hW (fun r_151 n_151 ad_151 I_151 L_151 R_151 H locs hp hW => ?_)
                            obtain ⟨hz, rfl, rfl, hA, hF⟩ := PR_use hp
                            have hG := fr_t hF hG
                            have hz : r_151 = nI (w (lidx g k)) := hz
                            subst hz
                            refine lv_istore (lv' := [(11, .int (nI (w (lidx g k)))), (0, .ref (ad_36 0)), (1, .long (lN (Sx' w K ro K 6))), (3, .ref (ad_36 74)), (4, .int (nI (DF (exN w ro K) w g + df (exN w ro K) w g k))), (5, .int (nI (g))), (7, .int (nI (gz g))), (8, .long (lN (gm (exN w ro K) g (gz g)))), (10, .int (nI (k)))]) hx hb dL_isTrained_154 hl (by decide) rfl (fun ls hl => ?_)
                            refine lv_ldc2 (v := lN 3) hx hb hC.2.2.2.1 (hC.2.2.2.2 _ gw_429) dL_isTrained_156 ?_
                            refine lv_aload_n hx hb dL_isTrained_159 rfl (lv_at hl 1 rfl) ?_
                            refine lv_iload hx hb dL_isTrained_160 (lv_at hl 5 rfl) ?_
                            refine lv_iload hx hb dL_isTrained_162 (lv_at hl 8 rfl) ?_
                            refine lv_lload_n hx hb dL_isTrained_164 rfl (lv_at hl 2 rfl) ?_
                            refine q_kL2 (q_rS (As := [.ref (ad_36 0), .int (nI (g)), .int (nI (k)), .long (lN (Sx' w K ro K 6))]) (rest := [.long (lN 3)]) hC hW mw_L_number gw_423 (k_lnumber l G 75 ad_36 H.size I_151 L_151 R_151 g k w K ro hc hi sv pn ch hA (by first | omega | assumption) (by first | omega | assumption) hT0) ⟨rfl, rfl⟩ ⟨Nat.le_of_ble_eq_true rfl, Nat.le_of_ble_eq_true rfl⟩ ⟨(Nat.le_of_ble_eq_true rfl), (Nat.le_of_ble_eq_true rfl)⟩ hl.1 rfl rfl (Nat.le_of_ble_eq_true rfl) dL_isTrained_165) hW (fun r_165 n_165 ad_165 I_165 L_165 R_165 H locs hp hW => ?_)
                            obtain ⟨hz, rfl, rfl, hA, hF⟩ := PRl_use hp
                            have hG := fr_t hF hG
                            have hz : r_165 = lN (exN w ro K (lidx g k)) := hz
                            subst hz
                            refine q_lmul hx hb dL_isTrained_168 ?_
                            refine lv_lstore (lv' := [(12, .long (lN (3 * (exN w ro K (lidx g k))))), (11, .int (nI (w (lidx g k)))), (0, .ref (ad_36 0)), (1, .long (lN (Sx' w K ro K 6))), (3, .ref (ad_36 74)), (4, .int (nI (DF (exN w ro K) w g + df (exN w ro K) w g k))), (5, .int (nI (g))), (7, .int (nI (gz g))), (8, .long (lN (gm (exN w ro K) g (gz g)))), (10, .int (nI (k)))]) hx hb dL_isTrained_169 hl (by decide) rfl (fun ls hl => ?_)
                            refine lv_iload hx hb dL_isTrained_171 (lv_at hl 1 rfl) ?_
                            refine lv_istore (lv' := [(14, .int (nI (w (lidx g k)))), (12, .long (lN (3 * (exN w ro K (lidx g k))))), (11, .int (nI (w (lidx g k)))), (0, .ref (ad_36 0)), (1, .long (lN (Sx' w K ro K 6))), (3, .ref (ad_36 74)), (4, .int (nI (DF (exN w ro K) w g + df (exN w ro K) w g k))), (5, .int (nI (g))), (7, .int (nI (gz g))), (8, .long (lN (gm (exN w ro K) g (gz g)))), (10, .int (nI (k)))]) hx hb dL_isTrained_173 hl (by decide) rfl (fun ls hl => ?_)
                            refine lv_lload hx hb dL_isTrained_175 (lv_at hl 9 rfl) ?_
                            refine q_lc 0 hx hb dL_isTrained_177 (by decide) ?_
                            refine q_lcmp hx hb dL_isTrained_178 ?_
                            refine q_lle (tgt := 219) hx hb dL_isTrained_179 (by decide) (by omega) (by decide) (fun c_179 => ?_) (fun c_179 => ?_)
                            ·
                              have hl : lv_has ls 15 [(14, .int (nI (tnew (exN w ro K) w (lidx g k)))), (12, .long (lN (3 * (exN w ro K (lidx g k))))), (11, .int (nI (w (lidx g k)))), (0, .ref (ad_36 0)), (1, .long (lN (Sx' w K ro K 6))), (3, .ref (ad_36 74)), (4, .int (nI (DF (exN w ro K) w g + df (exN w ro K) w g k))), (5, .int (nI (g))), (7, .int (nI (gz g))), (8, .long (lN (gm (exN w ro K) g (gz g)))), (10, .int (nI (k)))] := by rw [show tnew (exN w ro K) w (lidx g k) = w (lidx g k) from by rw [tnew_l c_49 c_143, if_pos (show gm (exN w ro K) g (gz g) = 0 by omega)]]; exact hl
                              have htn : tnew (exN w ro K) w (lidx g k) < 2 ^ 31 := Nat.lt_of_le_of_lt (tnew_le hw3 _) (by decide)
                              refine lv_aload_n hx hb dL_isTrained_219 rfl (lv_at hl 5 rfl) ?_
                              refine lv_iload hx hb dL_isTrained_220 (lv_at hl 7 rfl) ?_
                              refine lv_iload hx hb dL_isTrained_222 (lv_at hl 10 rfl) ?_
                              refine q_kI0 (q_rS (As := [.int (nI (g)), .int (nI (k))]) (rest := [.ref (ad_36 74)]) hC hW mw_L_at gw_431 (k_at l G 75 ad_36 H.size I_165 L_165 R_165 g k (by first | omega | assumption) (by first | omega | assumption)) ⟨rfl, rfl⟩ ⟨Nat.le_of_ble_eq_true rfl, Nat.le_of_ble_eq_true rfl⟩ ⟨(Nat.le_of_ble_eq_true rfl), (Nat.le_of_ble_eq_true rfl)⟩ hl.1 rfl rfl (Nat.le_of_ble_eq_true rfl) dL_isTrained_224) hW (fun r_224 H locs hp hW => ?_)
                              subst hp
                              refine lv_iload hx hb dL_isTrained_227 (lv_at hl 0 rfl) ?_
                              have hTh := thc (hG 74 (by decide)).1 hTh
                              have hG : Fr7 I_165 I_165 L_165 L_165 R_165 R_165 := fr_0
                              refine q_iast (x := 74) (i := latx g k) (v := nI (tnew (exN w ro K) w (lidx g k))) hC hW (by omega) kd_74 (latx_lt c_49 c_143) dL_isTrained_229 (fun H locs hW => ?_)
                              have hTh := ThC_s hTh c_49 c_143
                              have hA := InvA_hi hA (fun a ha => up2_ne (j := latx g k) (x := nI (tnew (exN w ro K) w (lidx g k))) (show a ≠ 74 by omega)) (fun _ _ => rfl) (fun _ _ => rfl)
                              have hG : Fr7 (up2 I_165 74 (latx g k) (nI (tnew (exN w ro K) w (lidx g k)))) (up2 I_165 74 (latx g k) (nI (tnew (exN w ro K) w (lidx g k)))) L_165 L_165 R_165 R_165 := fr_0
                              refine lv_iload hx hb dL_isTrained_230 (lv_at hl 6 rfl) ?_
                              refine lv_iload hx hb dL_isTrained_232 (lv_at hl 0 rfl) ?_
                              refine lv_iload hx hb dL_isTrained_234 (lv_at hl 2 rfl) ?_
                              refine q_ceq (tgt := 243) hx hb dL_isTrained_236 (by decide) (by first | omega | exact Nat.lt_of_le_of_lt (hw3 _) (by decide) | exact Nat.lt_of_lt_of_le (hr4 _) (by decide) | exact Nat.lt_of_le_of_lt (bp_le _) (by decide) | assumption) (by first | omega | exact Nat.lt_of_le_of_lt (hw3 _) (by decide) | exact Nat.lt_of_lt_of_le (hr4 _) (by decide) | exact Nat.lt_of_le_of_lt (bp_le _) (by decide) | assumption) (fun c_236 => ?_) (fun c_236 => ?_)
                              ·
                                refine q_ic 0 hx hb dL_isTrained_243 (by decide) ?_
                                refine q_iadd hx hb dL_isTrained_244 ?_
                                refine q_top (v2 := .int (nI (DF (exN w ro K) w g + df (exN w ro K) w g (k + 1)))) (congrArg (fun z => Value.int (nI z)) (show (DF (exN w ro K) w g + df (exN w ro K) w g k) + 0 = DF (exN w ro K) w g + df (exN w ro K) w g (k + 1) from by rw [show df (exN w ro K) w g (k + 1) = df (exN w ro K) w g k + (if tnew (exN w ro K) w (lidx g k) = w (lidx g k) then 0 else 1) from rfl, if_pos c_236, Nat.add_assoc])) ?_
                                refine lv_istore (lv' := [(4, .int (nI (DF (exN w ro K) w g + df (exN w ro K) w g (k + 1)))), (14, .int (nI (tnew (exN w ro K) w (lidx g k)))), (12, .long (lN (3 * (exN w ro K (lidx g k))))), (11, .int (nI (w (lidx g k)))), (0, .ref (ad_36 0)), (1, .long (lN (Sx' w K ro K 6))), (3, .ref (ad_36 74)), (5, .int (nI (g))), (7, .int (nI (gz g))), (8, .long (lN (gm (exN w ro K) g (gz g)))), (10, .int (nI (k)))]) hx hb dL_isTrained_245 hl (by decide) rfl (fun ls hl => ?_)
                                refine q_iinc (z2 := k + 1) (lv' := [(10, .int (nI (k + 1))), (4, .int (nI (DF (exN w ro K) w g + df (exN w ro K) w g (k + 1)))), (14, .int (nI (tnew (exN w ro K) w (lidx g k)))), (12, .long (lN (3 * (exN w ro K (lidx g k))))), (11, .int (nI (w (lidx g k)))), (0, .ref (ad_36 0)), (1, .long (lN (Sx' w K ro K 6))), (3, .ref (ad_36 74)), (5, .int (nI (g))), (7, .int (nI (gz g))), (8, .long (lN (gm (exN w ro K) g (gz g))))]) hx hb dL_isTrained_247 hl (k := 10) rfl (inc_up _ 1 (by decide)) (by decide) rfl (fun ls hl => ?_)
                                refine lv_goto (tgt := 139) hx hb dL_isTrained_250 (by decide) ?_
                                exact ih_139 (k + 1) (up2 I_165 74 (latx g k) (nI (tnew (exN w ro K) w (lidx g k)))) L_165 R_165 (by omega) (by omega) hA (thc (hG 74 (by decide)).1 hTh) _ _ hW _ (lv_sub hl [5, 6, 7, 1, 8, 9, 10, 0] rfl)
                              ·
                                refine q_ic 1 hx hb dL_isTrained_239 (by decide) ?_
                                refine lv_goto (tgt := 244) hx hb dL_isTrained_240 (by decide) ?_
                                refine q_iadd hx hb dL_isTrained_244 ?_
                                refine q_top (v2 := .int (nI (DF (exN w ro K) w g + df (exN w ro K) w g (k + 1)))) (congrArg (fun z => Value.int (nI z)) (show (DF (exN w ro K) w g + df (exN w ro K) w g k) + 1 = DF (exN w ro K) w g + df (exN w ro K) w g (k + 1) from by rw [show df (exN w ro K) w g (k + 1) = df (exN w ro K) w g k + (if tnew (exN w ro K) w (lidx g k) = w (lidx g k) then 0 else 1) from rfl, if_neg c_236, Nat.add_assoc])) ?_
                                refine lv_istore (lv' := [(4, .int (nI (DF (exN w ro K) w g + df (exN w ro K) w g (k + 1)))), (14, .int (nI (tnew (exN w ro K) w (lidx g k)))), (12, .long (lN (3 * (exN w ro K (lidx g k))))), (11, .int (nI (w (lidx g k)))), (0, .ref (ad_36 0)), (1, .long (lN (Sx' w K ro K 6))), (3, .ref (ad_36 74)), (5, .int (nI (g))), (7, .int (nI (gz g))), (8, .long (lN (gm (exN w ro K) g (gz g)))), (10, .int (nI (k)))]) hx hb dL_isTrained_245 hl (by decide) rfl (fun ls hl => ?_)
                                refine q_iinc (z2 := k + 1) (lv' := [(10, .int (nI (k + 1))), (4, .int (nI (DF (exN w ro K) w g + df (exN w ro K) w g (k + 1)))), (14, .int (nI (tnew (exN w ro K) w (lidx g k)))), (12, .long (lN (3 * (exN w ro K (lidx g k))))), (11, .int (nI (w (lidx g k)))), (0, .ref (ad_36 0)), (1, .long (lN (Sx' w K ro K 6))), (3, .ref (ad_36 74)), (5, .int (nI (g))), (7, .int (nI (gz g))), (8, .long (lN (gm (exN w ro K) g (gz g))))]) hx hb dL_isTrained_247 hl (k := 10) rfl (inc_up _ 1 (by decide)) (by decide) rfl (fun ls hl => ?_)
                                refine lv_goto (tgt := 139) hx hb dL_isTrained_250 (by decide) ?_
                                exact ih_139 (k + 1) (up2 I_165 74 (latx g k) (nI (tnew (exN w ro K) w (lidx g k)))) L_165 R_165 (by omega) (by omega) hA (thc (hG 74 (by decide)).1 hTh) _ _ hW _ (lv_sub hl [5, 6, 7, 1, 8, 9, 10, 0] rfl)
                            ·
                              have hGM0 : 0 < gm (exN w ro K) g (gz g) := c_179
                              have hEk : exN w ro K (lidx g k) ≤ gm (exN w ro K) g (gz g) := gm_ge (exN w ro K) g (gz g) c_143
                              have hq3 : (3 * exN w ro K (lidx g k)) / (gm (exN w ro K) g (gz g)) ≤ 3 := q3_le hGM0 hEk
                              have hq31 : (3 * exN w ro K (lidx g k)) / (gm (exN w ro K) g (gz g)) < 2 ^ 31 := Nat.lt_of_le_of_lt hq3 (by decide)
                              have hE3 : 3 * exN w ro K (lidx g k) < 2 ^ 63 := by have := hEB (lidx g k); omega
                              have hrr := q3_r (x := exN w ro K (lidx g k)) hGM0
                              refine lv_lload hx hb dL_isTrained_182 (lv_at hl 1 rfl) ?_
                              refine lv_lload hx hb dL_isTrained_184 (lv_at hl 9 rfl) ?_
                              refine lv_ldiv hx hb dL_isTrained_186 (fun q => (Nat.ne_of_gt hGM0) ((pk_lEQ (by omega) (by decide)).mp (show lN (gm (exN w ro K) g (gz g)) = lN 0 from q))) ?_
                              refine q_top (v2 := .long (lN ((3 * exN w ro K (lidx g k)) / (gm (exN w ro K) g (gz g))))) (congrArg Value.long (pk_lDiv hE3 hGM0 (by omega))) ?_
                              refine q_l2i hx hb dL_isTrained_187 ?_
                              refine lv_istore (lv' := [(14, .int (nI ((3 * exN w ro K (lidx g k)) / (gm (exN w ro K) g (gz g))))), (12, .long (lN (3 * (exN w ro K (lidx g k))))), (11, .int (nI (w (lidx g k)))), (0, .ref (ad_36 0)), (1, .long (lN (Sx' w K ro K 6))), (3, .ref (ad_36 74)), (4, .int (nI (DF (exN w ro K) w g + df (exN w ro K) w g k))), (5, .int (nI (g))), (7, .int (nI (gz g))), (8, .long (lN (gm (exN w ro K) g (gz g)))), (10, .int (nI (k)))]) hx hb dL_isTrained_188 hl (by decide) rfl (fun ls hl => ?_)
                              refine lv_iload hx hb dL_isTrained_190 (lv_at hl 0 rfl) ?_
                              refine lv_ldc2 (v := lN 2) hx hb hC.2.2.2.1 (hC.2.2.2.2 _ gw_430) dL_isTrained_192 ?_
                              refine lv_lload hx hb dL_isTrained_195 (lv_at hl 1 rfl) ?_
                              refine lv_iload hx hb dL_isTrained_197 (lv_at hl 0 rfl) ?_
                              refine q_i2l hx hb dL_isTrained_199 (by first | omega | exact Nat.lt_of_le_of_lt (hw3 _) (by decide) | exact Nat.lt_of_lt_of_le (hr4 _) (by decide) | exact Nat.lt_of_le_of_lt (bp_le _) (by decide) | assumption) ?_
                              refine lv_lload hx hb dL_isTrained_200 (lv_at hl 9 rfl) ?_
                              refine q_lmul hx hb dL_isTrained_202 ?_
                              refine lv_lsub hx hb dL_isTrained_203 ?_
                              refine q_top (v2 := .long (lN (3 * exN w ro K (lidx g k) - (3 * exN w ro K (lidx g k)) / (gm (exN w ro K) g (gz g)) * (gm (exN w ro K) g (gz g))))) (congrArg Value.long (lN_sub (q3_m _ _))) ?_
                              refine q_lmul hx hb dL_isTrained_204 ?_
                              refine lv_lload hx hb dL_isTrained_205 (lv_at hl 9 rfl) ?_
                              refine q_lcmp hx hb dL_isTrained_207 ?_
                              refine q_llt (tgt := 215) hx hb dL_isTrained_208 (by decide) (show 2 * (3 * exN w ro K (lidx g k) - (3 * exN w ro K (lidx g k)) / (gm (exN w ro K) g (gz g)) * (gm (exN w ro K) g (gz g))) < 2 ^ 63 from by omega) (by omega) (fun c_208 => ?_) (fun c_208 => ?_)
                              ·
                                refine q_ic 0 hx hb dL_isTrained_215 (by decide) ?_
                                refine q_iadd hx hb dL_isTrained_216 ?_
                                refine q_top (v2 := .int (nI (tnew (exN w ro K) w (lidx g k)))) (congrArg (fun z => Value.int (nI z)) (show (3 * exN w ro K (lidx g k)) / (gm (exN w ro K) g (gz g)) + 0 = tnew (exN w ro K) w (lidx g k) from by rw [tnew_l c_49 c_143, if_neg (Nat.ne_of_gt hGM0), tr_q hGM0, if_neg (Nat.not_le.mpr c_208)])) ?_
                                refine lv_istore (lv' := [(14, .int (nI (tnew (exN w ro K) w (lidx g k)))), (12, .long (lN (3 * (exN w ro K (lidx g k))))), (11, .int (nI (w (lidx g k)))), (0, .ref (ad_36 0)), (1, .long (lN (Sx' w K ro K 6))), (3, .ref (ad_36 74)), (4, .int (nI (DF (exN w ro K) w g + df (exN w ro K) w g k))), (5, .int (nI (g))), (7, .int (nI (gz g))), (8, .long (lN (gm (exN w ro K) g (gz g)))), (10, .int (nI (k)))]) hx hb dL_isTrained_217 hl (by decide) rfl (fun ls hl => ?_)
                                have htn : tnew (exN w ro K) w (lidx g k) < 2 ^ 31 := Nat.lt_of_le_of_lt (tnew_le hw3 _) (by decide)
                                refine lv_aload_n hx hb dL_isTrained_219 rfl (lv_at hl 5 rfl) ?_
                                refine lv_iload hx hb dL_isTrained_220 (lv_at hl 7 rfl) ?_
                                refine lv_iload hx hb dL_isTrained_222 (lv_at hl 10 rfl) ?_
                                refine q_kI0 (q_rS (As := [.int (nI (g)), .int (nI (k))]) (rest := [.ref (ad_36 74)]) hC hW mw_L_at gw_431 (k_at l G 75 ad_36 H.size I_165 L_165 R_165 g k (by first | omega | assumption) (by first | omega | assumption)) ⟨rfl, rfl⟩ ⟨Nat.le_of_ble_eq_true rfl, Nat.le_of_ble_eq_true rfl⟩ ⟨(Nat.le_of_ble_eq_true rfl), (Nat.le_of_ble_eq_true rfl)⟩ hl.1 rfl rfl (Nat.le_of_ble_eq_true rfl) dL_isTrained_224) hW (fun r_224 H locs hp hW => ?_)
                                subst hp
                                refine lv_iload hx hb dL_isTrained_227 (lv_at hl 0 rfl) ?_
                                have hTh := thc (hG 74 (by decide)).1 hTh
                                have hG : Fr7 I_165 I_165 L_165 L_165 R_165 R_165 := fr_0
                                refine q_iast (x := 74) (i := latx g k) (v := nI (tnew (exN w ro K) w (lidx g k))) hC hW (by omega) kd_74 (latx_lt c_49 c_143) dL_isTrained_229 (fun H locs hW => ?_)
                                have hTh := ThC_s hTh c_49 c_143
                                have hA := InvA_hi hA (fun a ha => up2_ne (j := latx g k) (x := nI (tnew (exN w ro K) w (lidx g k))) (show a ≠ 74 by omega)) (fun _ _ => rfl) (fun _ _ => rfl)
                                have hG : Fr7 (up2 I_165 74 (latx g k) (nI (tnew (exN w ro K) w (lidx g k)))) (up2 I_165 74 (latx g k) (nI (tnew (exN w ro K) w (lidx g k)))) L_165 L_165 R_165 R_165 := fr_0
                                refine lv_iload hx hb dL_isTrained_230 (lv_at hl 6 rfl) ?_
                                refine lv_iload hx hb dL_isTrained_232 (lv_at hl 0 rfl) ?_
                                refine lv_iload hx hb dL_isTrained_234 (lv_at hl 2 rfl) ?_
                                refine q_ceq (tgt := 243) hx hb dL_isTrained_236 (by decide) (by first | omega | exact Nat.lt_of_le_of_lt (hw3 _) (by decide) | exact Nat.lt_of_lt_of_le (hr4 _) (by decide) | exact Nat.lt_of_le_of_lt (bp_le _) (by decide) | assumption) (by first | omega | exact Nat.lt_of_le_of_lt (hw3 _) (by decide) | exact Nat.lt_of_lt_of_le (hr4 _) (by decide) | exact Nat.lt_of_le_of_lt (bp_le _) (by decide) | assumption) (fun c_236 => ?_) (fun c_236 => ?_)
                                ·
                                  refine q_ic 0 hx hb dL_isTrained_243 (by decide) ?_
                                  refine q_iadd hx hb dL_isTrained_244 ?_
                                  refine q_top (v2 := .int (nI (DF (exN w ro K) w g + df (exN w ro K) w g (k + 1)))) (congrArg (fun z => Value.int (nI z)) (show (DF (exN w ro K) w g + df (exN w ro K) w g k) + 0 = DF (exN w ro K) w g + df (exN w ro K) w g (k + 1) from by rw [show df (exN w ro K) w g (k + 1) = df (exN w ro K) w g k + (if tnew (exN w ro K) w (lidx g k) = w (lidx g k) then 0 else 1) from rfl, if_pos c_236, Nat.add_assoc])) ?_
                                  refine lv_istore (lv' := [(4, .int (nI (DF (exN w ro K) w g + df (exN w ro K) w g (k + 1)))), (14, .int (nI (tnew (exN w ro K) w (lidx g k)))), (12, .long (lN (3 * (exN w ro K (lidx g k))))), (11, .int (nI (w (lidx g k)))), (0, .ref (ad_36 0)), (1, .long (lN (Sx' w K ro K 6))), (3, .ref (ad_36 74)), (5, .int (nI (g))), (7, .int (nI (gz g))), (8, .long (lN (gm (exN w ro K) g (gz g)))), (10, .int (nI (k)))]) hx hb dL_isTrained_245 hl (by decide) rfl (fun ls hl => ?_)
                                  refine q_iinc (z2 := k + 1) (lv' := [(10, .int (nI (k + 1))), (4, .int (nI (DF (exN w ro K) w g + df (exN w ro K) w g (k + 1)))), (14, .int (nI (tnew (exN w ro K) w (lidx g k)))), (12, .long (lN (3 * (exN w ro K (lidx g k))))), (11, .int (nI (w (lidx g k)))), (0, .ref (ad_36 0)), (1, .long (lN (Sx' w K ro K 6))), (3, .ref (ad_36 74)), (5, .int (nI (g))), (7, .int (nI (gz g))), (8, .long (lN (gm (exN w ro K) g (gz g))))]) hx hb dL_isTrained_247 hl (k := 10) rfl (inc_up _ 1 (by decide)) (by decide) rfl (fun ls hl => ?_)
                                  refine lv_goto (tgt := 139) hx hb dL_isTrained_250 (by decide) ?_
                                  exact ih_139 (k + 1) (up2 I_165 74 (latx g k) (nI (tnew (exN w ro K) w (lidx g k)))) L_165 R_165 (by omega) (by omega) hA (thc (hG 74 (by decide)).1 hTh) _ _ hW _ (lv_sub hl [5, 6, 7, 1, 8, 9, 10, 0] rfl)
                                ·
                                  refine q_ic 1 hx hb dL_isTrained_239 (by decide) ?_
                                  refine lv_goto (tgt := 244) hx hb dL_isTrained_240 (by decide) ?_
                                  refine q_iadd hx hb dL_isTrained_244 ?_
                                  refine q_top (v2 := .int (nI (DF (exN w ro K) w g + df (exN w ro K) w g (k + 1)))) (congrArg (fun z => Value.int (nI z)) (show (DF (exN w ro K) w g + df (exN w ro K) w g k) + 1 = DF (exN w ro K) w g + df (exN w ro K) w g (k + 1) from by rw [show df (exN w ro K) w g (k + 1) = df (exN w ro K) w g k + (if tnew (exN w ro K) w (lidx g k) = w (lidx g k) then 0 else 1) from rfl, if_neg c_236, Nat.add_assoc])) ?_
                                  refine lv_istore (lv' := [(4, .int (nI (DF (exN w ro K) w g + df (exN w ro K) w g (k + 1)))), (14, .int (nI (tnew (exN w ro K) w (lidx g k)))), (12, .long (lN (3 * (exN w ro K (lidx g k))))), (11, .int (nI (w (lidx g k)))), (0, .ref (ad_36 0)), (1, .long (lN (Sx' w K ro K 6))), (3, .ref (ad_36 74)), (5, .int (nI (g))), (7, .int (nI (gz g))), (8, .long (lN (gm (exN w ro K) g (gz g)))), (10, .int (nI (k)))]) hx hb dL_isTrained_245 hl (by decide) rfl (fun ls hl => ?_)
                                  refine q_iinc (z2 := k + 1) (lv' := [(10, .int (nI (k + 1))), (4, .int (nI (DF (exN w ro K) w g + df (exN w ro K) w g (k + 1)))), (14, .int (nI (tnew (exN w ro K) w (lidx g k)))), (12, .long (lN (3 * (exN w ro K (lidx g k))))), (11, .int (nI (w (lidx g k)))), (0, .ref (ad_36 0)), (1, .long (lN (Sx' w K ro K 6))), (3, .ref (ad_36 74)), (5, .int (nI (g))), (7, .int (nI (gz g))), (8, .long (lN (gm (exN w ro K) g (gz g))))]) hx hb dL_isTrained_247 hl (k := 10) rfl (inc_up _ 1 (by decide)) (by decide) rfl (fun ls hl => ?_)
                                  refine lv_goto (tgt := 139) hx hb dL_isTrained_250 (by decide) ?_
                                  exact ih_139 (k + 1) (up2 I_165 74 (latx g k) (nI (tnew (exN w ro K) w (lidx g k)))) L_165 R_165 (by omega) (by omega) hA (thc (hG 74 (by decide)).1 hTh) _ _ hW _ (lv_sub hl [5, 6, 7, 1, 8, 9, 10, 0] rfl)
                              ·
                                refine q_ic 1 hx hb dL_isTrained_211 (by decide) ?_
                                refine lv_goto (tgt := 216) hx hb dL_isTrained_212 (by decide) ?_
                                refine q_iadd hx hb dL_isTrained_216 ?_
                                refine q_top (v2 := .int (nI (tnew (exN w ro K) w (lidx g k)))) (congrArg (fun z => Value.int (nI z)) (show (3 * exN w ro K (lidx g k)) / (gm (exN w ro K) g (gz g)) + 1 = tnew (exN w ro K) w (lidx g k) from by rw [tnew_l c_49 c_143, if_neg (Nat.ne_of_gt hGM0), tr_q hGM0, if_pos c_208])) ?_
                                refine lv_istore (lv' := [(14, .int (nI (tnew (exN w ro K) w (lidx g k)))), (12, .long (lN (3 * (exN w ro K (lidx g k))))), (11, .int (nI (w (lidx g k)))), (0, .ref (ad_36 0)), (1, .long (lN (Sx' w K ro K 6))), (3, .ref (ad_36 74)), (4, .int (nI (DF (exN w ro K) w g + df (exN w ro K) w g k))), (5, .int (nI (g))), (7, .int (nI (gz g))), (8, .long (lN (gm (exN w ro K) g (gz g)))), (10, .int (nI (k)))]) hx hb dL_isTrained_217 hl (by decide) rfl (fun ls hl => ?_)
                                have htn : tnew (exN w ro K) w (lidx g k) < 2 ^ 31 := Nat.lt_of_le_of_lt (tnew_le hw3 _) (by decide)
                                refine lv_aload_n hx hb dL_isTrained_219 rfl (lv_at hl 5 rfl) ?_
                                refine lv_iload hx hb dL_isTrained_220 (lv_at hl 7 rfl) ?_
                                refine lv_iload hx hb dL_isTrained_222 (lv_at hl 10 rfl) ?_
                                refine q_kI0 (q_rS (As := [.int (nI (g)), .int (nI (k))]) (rest := [.ref (ad_36 74)]) hC hW mw_L_at gw_431 (k_at l G 75 ad_36 H.size I_165 L_165 R_165 g k (by first | omega | assumption) (by first | omega | assumption)) ⟨rfl, rfl⟩ ⟨Nat.le_of_ble_eq_true rfl, Nat.le_of_ble_eq_true rfl⟩ ⟨(Nat.le_of_ble_eq_true rfl), (Nat.le_of_ble_eq_true rfl)⟩ hl.1 rfl rfl (Nat.le_of_ble_eq_true rfl) dL_isTrained_224) hW (fun r_224 H locs hp hW => ?_)
                                subst hp
                                refine lv_iload hx hb dL_isTrained_227 (lv_at hl 0 rfl) ?_
                                have hTh := thc (hG 74 (by decide)).1 hTh
                                have hG : Fr7 I_165 I_165 L_165 L_165 R_165 R_165 := fr_0
                                refine q_iast (x := 74) (i := latx g k) (v := nI (tnew (exN w ro K) w (lidx g k))) hC hW (by omega) kd_74 (latx_lt c_49 c_143) dL_isTrained_229 (fun H locs hW => ?_)
                                have hTh := ThC_s hTh c_49 c_143
                                have hA := InvA_hi hA (fun a ha => up2_ne (j := latx g k) (x := nI (tnew (exN w ro K) w (lidx g k))) (show a ≠ 74 by omega)) (fun _ _ => rfl) (fun _ _ => rfl)
                                have hG : Fr7 (up2 I_165 74 (latx g k) (nI (tnew (exN w ro K) w (lidx g k)))) (up2 I_165 74 (latx g k) (nI (tnew (exN w ro K) w (lidx g k)))) L_165 L_165 R_165 R_165 := fr_0
                                refine lv_iload hx hb dL_isTrained_230 (lv_at hl 6 rfl) ?_
                                refine lv_iload hx hb dL_isTrained_232 (lv_at hl 0 rfl) ?_
                                refine lv_iload hx hb dL_isTrained_234 (lv_at hl 2 rfl) ?_
                                refine q_ceq (tgt := 243) hx hb dL_isTrained_236 (by decide) (by first | omega | exact Nat.lt_of_le_of_lt (hw3 _) (by decide) | exact Nat.lt_of_lt_of_le (hr4 _) (by decide) | exact Nat.lt_of_le_of_lt (bp_le _) (by decide) | assumption) (by first | omega | exact Nat.lt_of_le_of_lt (hw3 _) (by decide) | exact Nat.lt_of_lt_of_le (hr4 _) (by decide) | exact Nat.lt_of_le_of_lt (bp_le _) (by decide) | assumption) (fun c_236 => ?_) (fun c_236 => ?_)
                                ·
                                  refine q_ic 0 hx hb dL_isTrained_243 (by decide) ?_
                                  refine q_iadd hx hb dL_isTrained_244 ?_
                                  refine q_top (v2 := .int (nI (DF (exN w ro K) w g + df (exN w ro K) w g (k + 1)))) (congrArg (fun z => Value.int (nI z)) (show (DF (exN w ro K) w g + df (exN w ro K) w g k) + 0 = DF (exN w ro K) w g + df (exN w ro K) w g (k + 1) from by rw [show df (exN w ro K) w g (k + 1) = df (exN w ro K) w g k + (if tnew (exN w ro K) w (lidx g k) = w (lidx g k) then 0 else 1) from rfl, if_pos c_236, Nat.add_assoc])) ?_
                                  refine lv_istore (lv' := [(4, .int (nI (DF (exN w ro K) w g + df (exN w ro K) w g (k + 1)))), (14, .int (nI (tnew (exN w ro K) w (lidx g k)))), (12, .long (lN (3 * (exN w ro K (lidx g k))))), (11, .int (nI (w (lidx g k)))), (0, .ref (ad_36 0)), (1, .long (lN (Sx' w K ro K 6))), (3, .ref (ad_36 74)), (5, .int (nI (g))), (7, .int (nI (gz g))), (8, .long (lN (gm (exN w ro K) g (gz g)))), (10, .int (nI (k)))]) hx hb dL_isTrained_245 hl (by decide) rfl (fun ls hl => ?_)
                                  refine q_iinc (z2 := k + 1) (lv' := [(10, .int (nI (k + 1))), (4, .int (nI (DF (exN w ro K) w g + df (exN w ro K) w g (k + 1)))), (14, .int (nI (tnew (exN w ro K) w (lidx g k)))), (12, .long (lN (3 * (exN w ro K (lidx g k))))), (11, .int (nI (w (lidx g k)))), (0, .ref (ad_36 0)), (1, .long (lN (Sx' w K ro K 6))), (3, .ref (ad_36 74)), (5, .int (nI (g))), (7, .int (nI (gz g))), (8, .long (lN (gm (exN w ro K) g (gz g))))]) hx hb dL_isTrained_247 hl (k := 10) rfl (inc_up _ 1 (by decide)) (by decide) rfl (fun ls hl => ?_)
                                  refine lv_goto (tgt := 139) hx hb dL_isTrained_250 (by decide) ?_
                                  exact ih_139 (k + 1) (up2 I_165 74 (latx g k) (nI (tnew (exN w ro K) w (lidx g k)))) L_165 R_165 (by omega) (by omega) hA (thc (hG 74 (by decide)).1 hTh) _ _ hW _ (lv_sub hl [5, 6, 7, 1, 8, 9, 10, 0] rfl)
                                ·
                                  refine q_ic 1 hx hb dL_isTrained_239 (by decide) ?_
                                  refine lv_goto (tgt := 244) hx hb dL_isTrained_240 (by decide) ?_
                                  refine q_iadd hx hb dL_isTrained_244 ?_
                                  refine q_top (v2 := .int (nI (DF (exN w ro K) w g + df (exN w ro K) w g (k + 1)))) (congrArg (fun z => Value.int (nI z)) (show (DF (exN w ro K) w g + df (exN w ro K) w g k) + 1 = DF (exN w ro K) w g + df (exN w ro K) w g (k + 1) from by rw [show df (exN w ro K) w g (k + 1) = df (exN w ro K) w g k + (if tnew (exN w ro K) w (lidx g k) = w (lidx g k) then 0 else 1) from rfl, if_neg c_236, Nat.add_assoc])) ?_
                                  refine lv_istore (lv' := [(4, .int (nI (DF (exN w ro K) w g + df (exN w ro K) w g (k + 1)))), (14, .int (nI (tnew (exN w ro K) w (lidx g k)))), (12, .long (lN (3 * (exN w ro K (lidx g k))))), (11, .int (nI (w (lidx g k)))), (0, .ref (ad_36 0)), (1, .long (lN (Sx' w K ro K 6))), (3, .ref (ad_36 74)), (5, .int (nI (g))), (7, .int (nI (gz g))), (8, .long (lN (gm (exN w ro K) g (gz g)))), (10, .int (nI (k)))]) hx hb dL_isTrained_245 hl (by decide) rfl (fun ls hl => ?_)
                                  refine q_iinc (z2 := k + 1) (lv' := [(10, .int (nI (k + 1))), (4, .int (nI (DF (exN w ro K) w g + df (exN w ro K) w g (k + 1)))), (14, .int (nI (tnew (exN w ro K) w (lidx g k)))), (12, .long (lN (3 * (exN w ro K (lidx g k))))), (11, .int (nI (w (lidx g k)))), (0, .ref (ad_36 0)), (1, .long (lN (Sx' w K ro K 6))), (3, .ref (ad_36 74)), (5, .int (nI (g))), (7, .int (nI (gz g))), (8, .long (lN (gm (exN w ro K) g (gz g))))]) hx hb dL_isTrained_247 hl (k := 10) rfl (inc_up _ 1 (by decide)) (by decide) rfl (fun ls hl => ?_)
                                  refine lv_goto (tgt := 139) hx hb dL_isTrained_250 (by decide) ?_
                                  exact ih_139 (k + 1) (up2 I_165 74 (latx g k) (nI (tnew (exN w ro K) w (lidx g k)))) L_165 R_165 (by omega) (by omega) hA (thc (hG 74 (by decide)).1 hTh) _ _ hW _ (lv_sub hl [5, 6, 7, 1, 8, 9, 10, 0] rfl)
                      exact lp_139 (gz g + 1) 0 J95 M95 Q95 (by omega) (Nat.zero_le _) hA (thc (hG 74 (by decide)).1 hTh) _ _ hW _ (lv_sub hl [1, 2, 3, 4, 5, 6, 7, 0] rfl)
                    ·
                      have hkz : (g < 7 → k < 6) ∧ (7 ≤ g → k < 4) := by have h9 := c_99; unfold gz at h9; split at h9 <;> omega
                      refine lv_aload_n hx hb dL_isTrained_102 rfl (lv_at hl 0 rfl) ?_
                      refine lv_iload hx hb dL_isTrained_103 (lv_at hl 4 rfl) ?_
                      refine lv_iload hx hb dL_isTrained_105 (lv_at hl 7 rfl) ?_
                      refine lv_lload_n hx hb dL_isTrained_107 rfl (lv_at hl 1 rfl) ?_
                      refine q_kL2 (q_rS (As := [.ref (ad_36 0), .int (nI (g)), .int (nI (k)), .long (lN (Sx' w K ro K 6))]) (rest := []) hC hW mw_L_number gw_423 (k_lnumber l G 75 ad_36 H.size J95 M95 Q95 g k w K ro hc hi sv pn ch hA (by first | omega | assumption) (by first | omega | assumption) hT0) ⟨rfl, rfl⟩ ⟨Nat.le_of_ble_eq_true rfl, Nat.le_of_ble_eq_true rfl⟩ ⟨(Nat.le_of_ble_eq_true rfl), (Nat.le_of_ble_eq_true rfl)⟩ hl.1 rfl rfl (Nat.le_of_ble_eq_true rfl) dL_isTrained_108) hW (fun r_108 n_108 ad_108 I_108 L_108 R_108 H locs hp hW => ?_)
                      obtain ⟨hz, rfl, rfl, hA, hF⟩ := PRl_use hp
                      have hG := fr_t hF hG
                      have hz : r_108 = lN (exN w ro K (lidx g k)) := hz
                      subst hz
                      refine lv_lstore (lv' := [(11, .long (lN (exN w ro K (lidx g k)))), (0, .ref (ad_36 0)), (1, .long (lN (Sx' w K ro K 6))), (3, .ref (ad_36 74)), (4, .int (nI (DF (exN w ro K) w g))), (5, .int (nI (g))), (7, .int (nI (gz g))), (8, .long (lN (gm (exN w ro K) g k))), (10, .int (nI (k)))]) hx hb dL_isTrained_111 hl (by decide) rfl (fun ls hl => ?_)
                      refine lv_lload hx hb dL_isTrained_113 (lv_at hl 0 rfl) ?_
                      refine lv_lload hx hb dL_isTrained_115 (lv_at hl 7 rfl) ?_
                      refine q_lcmp hx hb dL_isTrained_117 ?_
                      refine q_lle (tgt := 126) hx hb dL_isTrained_118 (by decide) (Nat.lt_of_le_of_lt (hEB _) (by decide)) (Nat.lt_of_le_of_lt (gm_le hEB g k) (by decide)) (fun c_118 => ?_) (fun c_118 => ?_)
                      ·
                        refine lv_lload hx hb dL_isTrained_126 (lv_at hl 7 rfl) ?_
                        refine lv_lstore (lv' := [(8, .long (lN (gm (exN w ro K) g k))), (11, .long (lN (exN w ro K (lidx g k)))), (0, .ref (ad_36 0)), (1, .long (lN (Sx' w K ro K 6))), (3, .ref (ad_36 74)), (4, .int (nI (DF (exN w ro K) w g))), (5, .int (nI (g))), (7, .int (nI (gz g))), (10, .int (nI (k)))]) hx hb dL_isTrained_128 hl (by decide) rfl (fun ls hl => ?_)
                        have hl : lv_has ls 15 [(8, .long (lN (gm (exN w ro K) g (k + 1)))), (11, .long (lN (exN w ro K (lidx g k)))), (0, .ref (ad_36 0)), (1, .long (lN (Sx' w K ro K 6))), (3, .ref (ad_36 74)), (4, .int (nI (DF (exN w ro K) w g))), (5, .int (nI (g))), (7, .int (nI (gz g))), (10, .int (nI (k)))] := by rw [show gm (exN w ro K) g (k + 1) = gm (exN w ro K) g k from Nat.max_eq_left c_118]; exact hl
                        refine q_iinc (z2 := k + 1) (lv' := [(10, .int (nI (k + 1))), (8, .long (lN (gm (exN w ro K) g (k + 1)))), (11, .long (lN (exN w ro K (lidx g k)))), (0, .ref (ad_36 0)), (1, .long (lN (Sx' w K ro K 6))), (3, .ref (ad_36 74)), (4, .int (nI (DF (exN w ro K) w g))), (5, .int (nI (g))), (7, .int (nI (gz g)))]) hx hb dL_isTrained_130 hl (k := 8) rfl (inc_up _ 1 (by decide)) (by decide) rfl (fun ls hl => ?_)
                        refine lv_goto (tgt := 95) hx hb dL_isTrained_133 (by decide) ?_
                        exact ih_95 (k + 1) I_108 L_108 R_108 (by omega) (by omega) hA (thc (hG 74 (by decide)).1 hTh) _ _ hW _ (lv_sub hl [3, 4, 5, 6, 7, 8, 1, 0] rfl)
                      ·
                        refine lv_lload hx hb dL_isTrained_121 (lv_at hl 0 rfl) ?_
                        refine lv_goto (tgt := 128) hx hb dL_isTrained_123 (by decide) ?_
                        refine lv_lstore (lv' := [(8, .long (lN (exN w ro K (lidx g k)))), (11, .long (lN (exN w ro K (lidx g k)))), (0, .ref (ad_36 0)), (1, .long (lN (Sx' w K ro K 6))), (3, .ref (ad_36 74)), (4, .int (nI (DF (exN w ro K) w g))), (5, .int (nI (g))), (7, .int (nI (gz g))), (10, .int (nI (k)))]) hx hb dL_isTrained_128 hl (by decide) rfl (fun ls hl => ?_)
                        have hl : lv_has ls 15 [(8, .long (lN (gm (exN w ro K) g (k + 1)))), (11, .long (lN (exN w ro K (lidx g k)))), (0, .ref (ad_36 0)), (1, .long (lN (Sx' w K ro K 6))), (3, .ref (ad_36 74)), (4, .int (nI (DF (exN w ro K) w g))), (5, .int (nI (g))), (7, .int (nI (gz g))), (10, .int (nI (k)))] := by rw [show gm (exN w ro K) g (k + 1) = exN w ro K (lidx g k) from Nat.max_eq_right (Nat.le_of_lt c_118)]; exact hl
                        refine q_iinc (z2 := k + 1) (lv' := [(10, .int (nI (k + 1))), (8, .long (lN (gm (exN w ro K) g (k + 1)))), (11, .long (lN (exN w ro K (lidx g k)))), (0, .ref (ad_36 0)), (1, .long (lN (Sx' w K ro K 6))), (3, .ref (ad_36 74)), (4, .int (nI (DF (exN w ro K) w g))), (5, .int (nI (g))), (7, .int (nI (gz g)))]) hx hb dL_isTrained_130 hl (k := 8) rfl (inc_up _ 1 (by decide)) (by decide) rfl (fun ls hl => ?_)
                        refine lv_goto (tgt := 95) hx hb dL_isTrained_133 (by decide) ?_
                        exact ih_95 (k + 1) I_108 L_108 R_108 (by omega) (by omega) hA (thc (hG 74 (by decide)).1 hTh) _ _ hW _ (lv_sub hl [3, 4, 5, 6, 7, 8, 1, 0] rfl)
                exact lp_95 (gz g + 1) 0 J45 M45 Q45 (by omega) (Nat.zero_le _) hA (thc (hG 74 (by decide)).1 hTh) _ _ hW _ (lv_sub hl [4, 5, 6, 7, 8, 2, 1, 0] rfl)
              ·
                refine q_ic 1 hx hb dL_isTrained_68 (by decide) ?_
                refine lv_goto (tgt := 73) hx hb dL_isTrained_69 (by decide) ?_
                refine lv_istore (lv' := [(6, .int (nI 1)), (0, .ref (ad_36 0)), (1, .long (lN (Sx' w K ro K 6))), (3, .ref (ad_36 74)), (4, .int (nI (DF (exN w ro K) w g))), (5, .int (nI (g)))]) hx hb dL_isTrained_73 hl (by decide) rfl (fun ls hl => ?_)
                refine lv_iload hx hb dL_isTrained_75 (lv_at hl 0 rfl) ?_
                refine q_ic 2 hx hb dL_isTrained_77 (by decide) ?_
                refine q_cne (tgt := 85) hx hb dL_isTrained_78 (by decide) (by first | omega | exact Nat.lt_of_le_of_lt (hw3 _) (by decide) | exact Nat.lt_of_lt_of_le (hr4 _) (by decide) | exact Nat.lt_of_le_of_lt (bp_le _) (by decide) | assumption) (by first | omega | exact Nat.lt_of_le_of_lt (hw3 _) (by decide) | exact Nat.lt_of_lt_of_le (hr4 _) (by decide) | exact Nat.lt_of_le_of_lt (bp_le _) (by decide) | assumption) (fun c_78 => ?_) (fun c_78 => absurd c_78 (by decide))
                refine q_bp 6 hx hb dL_isTrained_85 (by decide) ?_
                refine lv_istore (lv' := [(7, .int (nI 6)), (6, .int (nI 1)), (0, .ref (ad_36 0)), (1, .long (lN (Sx' w K ro K 6))), (3, .ref (ad_36 74)), (4, .int (nI (DF (exN w ro K) w g))), (5, .int (nI (g)))]) hx hb dL_isTrained_87 hl (by decide) rfl (fun ls hl => ?_)
                have hl : lv_has ls 15 [(7, .int (nI (gz g))), (6, .int (nI 1)), (0, .ref (ad_36 0)), (1, .long (lN (Sx' w K ro K 6))), (3, .ref (ad_36 74)), (4, .int (nI (DF (exN w ro K) w g))), (5, .int (nI (g)))] := by rw [show gz g = 6 from by unfold gz; rw [if_pos (by omega)]]; exact hl
                have hgz : gz g ≤ 6 := by unfold gz; split <;> omega
                refine q_lc 0 hx hb dL_isTrained_89 (by decide) ?_
                refine lv_lstore (lv' := [(8, .long (lN 0)), (7, .int (nI (gz g))), (6, .int (nI 1)), (0, .ref (ad_36 0)), (1, .long (lN (Sx' w K ro K 6))), (3, .ref (ad_36 74)), (4, .int (nI (DF (exN w ro K) w g))), (5, .int (nI (g)))]) hx hb dL_isTrained_90 hl (by decide) rfl (fun ls hl => ?_)
                refine q_ic 0 hx hb dL_isTrained_92 (by decide) ?_
                have hl : lv_has ls 15 [(8, .long (lN (gm (exN w ro K) g 0))), (7, .int (nI (gz g))), (6, .int (nI 1)), (0, .ref (ad_36 0)), (1, .long (lN (Sx' w K ro K 6))), (3, .ref (ad_36 74)), (4, .int (nI (DF (exN w ro K) w g))), (5, .int (nI (g)))] := by rw [show gm (exN w ro K) g 0 = 0 from rfl]; exact hl
                refine lv_istore (lv' := [(10, .int (nI 0)), (8, .long (lN (gm (exN w ro K) g 0))), (7, .int (nI (gz g))), (6, .int (nI 1)), (0, .ref (ad_36 0)), (1, .long (lN (Sx' w K ro K 6))), (3, .ref (ad_36 74)), (4, .int (nI (DF (exN w ro K) w g))), (5, .int (nI (g)))]) hx hb dL_isTrained_93 hl (by decide) rfl (fun ls hl => ?_)
                have lp_95 : ∀ (fu_95 : Nat) (k : Nat) (J95 : Ic) (M95 : Lc) (Q95 : Rc), gz g - k < fu_95 → (k ≤ gz g) → (InvA 75 J95 M95 Q95 ((w, K, ro), hc, hi, sv, pn, ch)) → (ThC (exN w ro K) w g 0 (J95 74)) → ∀ (H : Heap) (locs : List Loc), Wd G 75 ad_36 J95 M95 Q95 (qA 74 ad s.heap.size) s.heap H locs s → ∀ ls : Array Slot, lv_has ls 15 [(0, .ref (ad_36 0)), (1, .long (lN (Sx' w K ro K 6))), (3, .ref (ad_36 74)), (4, .int (nI (DF (exN w ro K) w g))), (5, .int (nI (g))), (7, .int (nI (gz g))), (8, .long (lN (gm (exN w ro K) g k))), (10, .int (nI (k)))] → W p_ l e_ ({ frames := 9, cells := 1, slots := 64, locals := 324 } : Room) s m_ ([.ref (ad 0)] : List Value).toArray below meth c_ H locs 1 64 (MQ below (qI2 G (qA 74 ad s.heap.size) (fun z u => z = nI 1 ∧ AcP ad u)) ([.ref (ad 0)] : List Value).toArray s 1 64 (qA 74 ad s.heap.size)) (F0 m_ 95 ls []) := by
                  intro fu_95
                  induction fu_95 with
                  | zero =>
                    intro k J95 M95 Q95 hm; exact absurd hm (Nat.not_lt_zero _)
                  | succ fu_95 ih_95 =>
                    intro k J95 M95 Q95 hm_95 hkz9 hA hTh H locs hW ls hl
                    have hG : Fr7 J95 J95 M95 M95 Q95 Q95 := fr_0
                    refine lv_iload hx hb dL_isTrained_95 (lv_at hl 7 rfl) ?_
                    refine lv_iload hx hb dL_isTrained_97 (lv_at hl 5 rfl) ?_
                    refine q_cge (tgt := 136) hx hb dL_isTrained_99 (by decide) (by first | omega | exact Nat.lt_of_le_of_lt (hw3 _) (by decide) | exact Nat.lt_of_lt_of_le (hr4 _) (by decide) | exact Nat.lt_of_le_of_lt (bp_le _) (by decide) | assumption) (by first | omega | exact Nat.lt_of_le_of_lt (hw3 _) (by decide) | exact Nat.lt_of_lt_of_le (hr4 _) (by decide) | exact Nat.lt_of_le_of_lt (bp_le _) (by decide) | assumption) (fun c_99 => ?_) (fun c_99 => ?_)
                    ·
                      refine q_ic 0 hx hb dL_isTrained_136 (by decide) ?_
                      have hl : lv_has ls 15 [(0, .ref (ad_36 0)), (1, .long (lN (Sx' w K ro K 6))), (3, .ref (ad_36 74)), (4, .int (nI (DF (exN w ro K) w g + df (exN w ro K) w g 0))), (5, .int (nI (g))), (7, .int (nI (gz g))), (8, .long (lN (gm (exN w ro K) g (gz g)))), (10, .int (nI (k)))] := by rw [show gm (exN w ro K) g (gz g) = gm (exN w ro K) g k from by rw [show k = gz g by omega], show DF (exN w ro K) w g + df (exN w ro K) w g 0 = DF (exN w ro K) w g from rfl]; exact hl
                      have hGB : gm (exN w ro K) g (gz g) ≤ 1317000000000000000 := gm_le hEB g (gz g)
                      refine lv_istore (lv' := [(10, .int (nI 0)), (0, .ref (ad_36 0)), (1, .long (lN (Sx' w K ro K 6))), (3, .ref (ad_36 74)), (4, .int (nI (DF (exN w ro K) w g + df (exN w ro K) w g 0))), (5, .int (nI (g))), (7, .int (nI (gz g))), (8, .long (lN (gm (exN w ro K) g (gz g))))]) hx hb dL_isTrained_137 hl (by decide) rfl (fun ls hl => ?_)
                      have lp_139 : ∀ (fu_139 : Nat) (k : Nat) (J139 : Ic) (M139 : Lc) (Q139 : Rc), gz g - k < fu_139 → (k ≤ gz g) → (InvA 75 J139 M139 Q139 ((w, K, ro), hc, hi, sv, pn, ch)) → (ThC (exN w ro K) w g k (J139 74)) → ∀ (H : Heap) (locs : List Loc), Wd G 75 ad_36 J139 M139 Q139 (qA 74 ad s.heap.size) s.heap H locs s → ∀ ls : Array Slot, lv_has ls 15 [(0, .ref (ad_36 0)), (1, .long (lN (Sx' w K ro K 6))), (3, .ref (ad_36 74)), (4, .int (nI (DF (exN w ro K) w g + df (exN w ro K) w g k))), (5, .int (nI (g))), (7, .int (nI (gz g))), (8, .long (lN (gm (exN w ro K) g (gz g)))), (10, .int (nI (k)))] → W p_ l e_ ({ frames := 9, cells := 1, slots := 64, locals := 324 } : Room) s m_ ([.ref (ad 0)] : List Value).toArray below meth c_ H locs 1 64 (MQ below (qI2 G (qA 74 ad s.heap.size) (fun z u => z = nI 1 ∧ AcP ad u)) ([.ref (ad 0)] : List Value).toArray s 1 64 (qA 74 ad s.heap.size)) (F0 m_ 139 ls []) := by
                        intro fu_139
                        induction fu_139 with
                        | zero =>
                          intro k J139 M139 Q139 hm; exact absurd hm (Nat.not_lt_zero _)
                        | succ fu_139 ih_139 =>
                          intro k J139 M139 Q139 hm_139 hkz9 hA hTh H locs hW ls hl
                          have hG : Fr7 J139 J139 M139 M139 Q139 Q139 := fr_0
                          refine lv_iload hx hb dL_isTrained_139 (lv_at hl 7 rfl) ?_
                          refine lv_iload hx hb dL_isTrained_141 (lv_at hl 5 rfl) ?_
                          refine q_cge (tgt := 253) hx hb dL_isTrained_143 (by decide) (by first | omega | exact Nat.lt_of_le_of_lt (hw3 _) (by decide) | exact Nat.lt_of_lt_of_le (hr4 _) (by decide) | exact Nat.lt_of_le_of_lt (bp_le _) (by decide) | assumption) (by first | omega | exact Nat.lt_of_le_of_lt (hw3 _) (by decide) | exact Nat.lt_of_lt_of_le (hr4 _) (by decide) | exact Nat.lt_of_le_of_lt (bp_le _) (by decide) | assumption) (fun c_143 => ?_) (fun c_143 => ?_)
                          ·
                            have hl : lv_has ls 15 [(0, .ref (ad_36 0)), (1, .long (lN (Sx' w K ro K 6))), (3, .ref (ad_36 74)), (4, .int (nI (DF (exN w ro K) w (g + 1)))), (5, .int (nI (g))), (7, .int (nI (gz g))), (8, .long (lN (gm (exN w ro K) g (gz g)))), (10, .int (nI (k)))] := by rw [show DF (exN w ro K) w (g + 1) = DF (exN w ro K) w g + df (exN w ro K) w g k from by rw [show k = gz g by omega]; rfl]; exact hl
                            refine q_iinc (z2 := g + 1) (lv' := [(5, .int (nI (g + 1))), (0, .ref (ad_36 0)), (1, .long (lN (Sx' w K ro K 6))), (3, .ref (ad_36 74)), (4, .int (nI (DF (exN w ro K) w (g + 1)))), (7, .int (nI (gz g))), (8, .long (lN (gm (exN w ro K) g (gz g)))), (10, .int (nI (k)))]) hx hb dL_isTrained_253 hl (k := 4) rfl (inc_up _ 1 (by decide)) (by decide) rfl (fun ls hl => ?_)
                            refine lv_goto (tgt := 45) hx hb dL_isTrained_256 (by decide) ?_
                            exact ih_45 (g + 1) J139 M139 Q139 (by omega) (by omega) hA (ThC_n (thc (hG 74 (by decide)).1 hTh) (by omega)) _ _ hW _ (lv_sub hl [1, 2, 3, 4, 0] rfl)
                          ·
                            have hkz : (g < 7 → k < 6) ∧ (7 ≤ g → k < 4) := by have h9 := c_143; unfold gz at h9; split at h9 <;> omega
                            refine lv_aload_n hx hb dL_isTrained_146 rfl (lv_at hl 0 rfl) ?_
                            refine lv_iload hx hb dL_isTrained_147 (lv_at hl 4 rfl) ?_
                            refine lv_iload hx hb dL_isTrained_149 (lv_at hl 7 rfl) ?_
                            refine q_kI2 (q_rS (As := [.ref (ad_36 0), .int (nI (g)), .int (nI (k))]) (rest := []) hC hW mw_L_weight gw_426 (k_lweight l G 75 ad_36 H.size J139 M139 Q139 g k w K ro hc hi sv pn ch hA (by first | omega | assumption) (by first | omega | assumption)) ⟨rfl, rfl⟩ ⟨Nat.le_of_ble_eq_true rfl, Nat.le_of_ble_eq_true rfl⟩ ⟨(Nat.le_of_ble_eq_true rfl), (Nat.le_of_ble_eq_true rfl)⟩ hl.1 rfl rfl (Nat.le_of_ble_eq_true rfl) dL_isTrained_151) hW (fun r_151 n_151 ad_151 I_151 L_151 R_151 H locs hp hW => ?_)
                            obtain ⟨hz, rfl, rfl, hA, hF⟩ := PR_use hp
                            have hG := fr_t hF hG
                            have hz : r_151 = nI (w (lidx g k)) := hz
                            subst hz
                            refine lv_istore (lv' := [(11, .int (nI (w (lidx g k)))), (0, .ref (ad_36 0)), (1, .long (lN (Sx' w K ro K 6))), (3, .ref (ad_36 74)), (4, .int (nI (DF (exN w ro K) w g + df (exN w ro K) w g k))), (5, .int (nI (g))), (7, .int (nI (gz g))), (8, .long (lN (gm (exN w ro K) g (gz g)))), (10, .int (nI (k)))]) hx hb dL_isTrained_154 hl (by decide) rfl (fun ls hl => ?_)
                            refine lv_ldc2 (v := lN 3) hx hb hC.2.2.2.1 (hC.2.2.2.2 _ gw_429) dL_isTrained_156 ?_
                            refine lv_aload_n hx hb dL_isTrained_159 rfl (lv_at hl 1 rfl) ?_
                            refine lv_iload hx hb dL_isTrained_160 (lv_at hl 5 rfl) ?_
                            refine lv_iload hx hb dL_isTrained_162 (lv_at hl 8 rfl) ?_
                            refine lv_lload_n hx hb dL_isTrained_164 rfl (lv_at hl 2 rfl) ?_
                            refine q_kL2 (q_rS (As := [.ref (ad_36 0), .int (nI (g)), .int (nI (k)), .long (lN (Sx' w K ro K 6))]) (rest := [.long (lN 3)]) hC hW mw_L_number gw_423 (k_lnumber l G 75 ad_36 H.size I_151 L_151 R_151 g k w K ro hc hi sv pn ch hA (by first | omega | assumption) (by first | omega | assumption) hT0) ⟨rfl, rfl⟩ ⟨Nat.le_of_ble_eq_true rfl, Nat.le_of_ble_eq_true rfl⟩ ⟨(Nat.le_of_ble_eq_true rfl), (Nat.le_of_ble_eq_true rfl)⟩ hl.1 rfl rfl (Nat.le_of_ble_eq_true rfl) dL_isTrained_165) hW (fun r_165 n_165 ad_165 I_165 L_165 R_165 H locs hp hW => ?_)
                            obtain ⟨hz, rfl, rfl, hA, hF⟩ := PRl_use hp
                            have hG := fr_t hF hG
                            have hz : r_165 = lN (exN w ro K (lidx g k)) := hz
                            subst hz
                            refine q_lmul hx hb dL_isTrained_168 ?_
                            refine lv_lstore (lv' := [(12, .long (lN (3 * (exN w ro K (lidx g k))))), (11, .int (nI (w (lidx g k)))), (0, .ref (ad_36 0)), (1, .long (lN (Sx' w K ro K 6))), (3, .ref (ad_36 74)), (4, .int (nI (DF (exN w ro K) w g + df (exN w ro K) w g k))), (5, .int (nI (g))), (7, .int (nI (gz g))), (8, .long (lN (gm (exN w ro K) g (gz g)))), (10, .int (nI (k)))]) hx hb dL_isTrained_169 hl (by decide) rfl (fun ls hl => ?_)
                            refine lv_iload hx hb dL_isTrained_171 (lv_at hl 1 rfl) ?_
                            refine lv_istore (lv' := [(14, .int (nI (w (lidx g k)))), (12, .long (lN (3 * (exN w ro K (lidx g k))))), (11, .int (nI (w (lidx g k)))), (0, .ref (ad_36 0)), (1, .long (lN (Sx' w K ro K 6))), (3, .ref (ad_36 74)), (4, .int (nI (DF (exN w ro K) w g + df (exN w ro K) w g k))), (5, .int (nI (g))), (7, .int (nI (gz g))), (8, .long (lN (gm (exN w ro K) g (gz g)))), (10, .int (nI (k)))]) hx hb dL_isTrained_173 hl (by decide) rfl (fun ls hl => ?_)
                            refine lv_lload hx hb dL_isTrained_175 (lv_at hl 9 rfl) ?_
                            refine q_lc 0 hx hb dL_isTrained_177 (by decide) ?_
                            refine q_lcmp hx hb dL_isTrained_178 ?_
                            refine q_lle (tgt := 219) hx hb dL_isTrained_179 (by decide) (by omega) (by decide) (fun c_179 => ?_) (fun c_179 => ?_)
                            ·
                              have hl : lv_has ls 15 [(14, .int (nI (tnew (exN w ro K) w (lidx g k)))), (12, .long (lN (3 * (exN w ro K (lidx g k))))), (11, .int (nI (w (lidx g k)))), (0, .ref (ad_36 0)), (1, .long (lN (Sx' w K ro K 6))), (3, .ref (ad_36 74)), (4, .int (nI (DF (exN w ro K) w g + df (exN w ro K) w g k))), (5, .int (nI (g))), (7, .int (nI (gz g))), (8, .long (lN (gm (exN w ro K) g (gz g)))), (10, .int (nI (k)))] := by rw [show tnew (exN w ro K) w (lidx g k) = w (lidx g k) from by rw [tnew_l c_49 c_143, if_pos (show gm (exN w ro K) g (gz g) = 0 by omega)]]; exact hl
                              have htn : tnew (exN w ro K) w (lidx g k) < 2 ^ 31 := Nat.lt_of_le_of_lt (tnew_le hw3 _) (by decide)
                              refine lv_aload_n hx hb dL_isTrained_219 rfl (lv_at hl 5 rfl) ?_
                              refine lv_iload hx hb dL_isTrained_220 (lv_at hl 7 rfl) ?_
                              refine lv_iload hx hb dL_isTrained_222 (lv_at hl 10 rfl) ?_
                              refine q_kI0 (q_rS (As := [.int (nI (g)), .int (nI (k))]) (rest := [.ref (ad_36 74)]) hC hW mw_L_at gw_431 (k_at l G 75 ad_36 H.size I_165 L_165 R_165 g k (by first | omega | assumption) (by first | omega | assumption)) ⟨rfl, rfl⟩ ⟨Nat.le_of_ble_eq_true rfl, Nat.le_of_ble_eq_true rfl⟩ ⟨(Nat.le_of_ble_eq_true rfl), (Nat.le_of_ble_eq_true rfl)⟩ hl.1 rfl rfl (Nat.le_of_ble_eq_true rfl) dL_isTrained_224) hW (fun r_224 H locs hp hW => ?_)
                              subst hp
                              refine lv_iload hx hb dL_isTrained_227 (lv_at hl 0 rfl) ?_
                              have hTh := thc (hG 74 (by decide)).1 hTh
                              have hG : Fr7 I_165 I_165 L_165 L_165 R_165 R_165 := fr_0
                              refine q_iast (x := 74) (i := latx g k) (v := nI (tnew (exN w ro K) w (lidx g k))) hC hW (by omega) kd_74 (latx_lt c_49 c_143) dL_isTrained_229 (fun H locs hW => ?_)
                              have hTh := ThC_s hTh c_49 c_143
                              have hA := InvA_hi hA (fun a ha => up2_ne (j := latx g k) (x := nI (tnew (exN w ro K) w (lidx g k))) (show a ≠ 74 by omega)) (fun _ _ => rfl) (fun _ _ => rfl)
                              have hG : Fr7 (up2 I_165 74 (latx g k) (nI (tnew (exN w ro K) w (lidx g k)))) (up2 I_165 74 (latx g k) (nI (tnew (exN w ro K) w (lidx g k)))) L_165 L_165 R_165 R_165 := fr_0
                              refine lv_iload hx hb dL_isTrained_230 (lv_at hl 6 rfl) ?_
                              refine lv_iload hx hb dL_isTrained_232 (lv_at hl 0 rfl) ?_
                              refine lv_iload hx hb dL_isTrained_234 (lv_at hl 2 rfl) ?_
                              refine q_ceq (tgt := 243) hx hb dL_isTrained_236 (by decide) (by first | omega | exact Nat.lt_of_le_of_lt (hw3 _) (by decide) | exact Nat.lt_of_lt_of_le (hr4 _) (by decide) | exact Nat.lt_of_le_of_lt (bp_le _) (by decide) | assumption) (by first | omega | exact Nat.lt_of_le_of_lt (hw3 _) (by decide) | exact Nat.lt_of_lt_of_le (hr4 _) (by decide) | exact Nat.lt_of_le_of_lt (bp_le _) (by decide) | assumption) (fun c_236 => ?_) (fun c_236 => ?_)
                              ·
                                refine q_ic 0 hx hb dL_isTrained_243 (by decide) ?_
                                refine q_iadd hx hb dL_isTrained_244 ?_
                                refine q_top (v2 := .int (nI (DF (exN w ro K) w g + df (exN w ro K) w g (k + 1)))) (congrArg (fun z => Value.int (nI z)) (show (DF (exN w ro K) w g + df (exN w ro K) w g k) + 0 = DF (exN w ro K) w g + df (exN w ro K) w g (k + 1) from by rw [show df (exN w ro K) w g (k + 1) = df (exN w ro K) w g k + (if tnew (exN w ro K) w (lidx g k) = w (lidx g k) then 0 else 1) from rfl, if_pos c_236, Nat.add_assoc])) ?_
                                refine lv_istore (lv' := [(4, .int (nI (DF (exN w ro K) w g + df (exN w ro K) w g (k + 1)))), (14, .int (nI (tnew (exN w ro K) w (lidx g k)))), (12, .long (lN (3 * (exN w ro K (lidx g k))))), (11, .int (nI (w (lidx g k)))), (0, .ref (ad_36 0)), (1, .long (lN (Sx' w K ro K 6))), (3, .ref (ad_36 74)), (5, .int (nI (g))), (7, .int (nI (gz g))), (8, .long (lN (gm (exN w ro K) g (gz g)))), (10, .int (nI (k)))]) hx hb dL_isTrained_245 hl (by decide) rfl (fun ls hl => ?_)
                                refine q_iinc (z2 := k + 1) (lv' := [(10, .int (nI (k + 1))), (4, .int (nI (DF (exN w ro K) w g + df (exN w ro K) w g (k + 1)))), (14, .int (nI (tnew (exN w ro K) w (lidx g k)))), (12, .long (lN (3 * (exN w ro K (lidx g k))))), (11, .int (nI (w (lidx g k)))), (0, .ref (ad_36 0)), (1, .long (lN (Sx' w K ro K 6))), (3, .ref (ad_36 74)), (5, .int (nI (g))), (7, .int (nI (gz g))), (8, .long (lN (gm (exN w ro K) g (gz g))))]) hx hb dL_isTrained_247 hl (k := 10) rfl (inc_up _ 1 (by decide)) (by decide) rfl (fun ls hl => ?_)
                                refine lv_goto (tgt := 139) hx hb dL_isTrained_250 (by decide) ?_
                                exact ih_139 (k + 1) (up2 I_165 74 (latx g k) (nI (tnew (exN w ro K) w (lidx g k)))) L_165 R_165 (by omega) (by omega) hA (thc (hG 74 (by decide)).1 hTh) _ _ hW _ (lv_sub hl [5, 6, 7, 1, 8, 9, 10, 0] rfl)
                              ·
                                refine q_ic 1 hx hb dL_isTrained_239 (by decide) ?_
                                refine lv_goto (tgt := 244) hx hb dL_isTrained_240 (by decide) ?_
                                refine q_iadd hx hb dL_isTrained_244 ?_
                                refine q_top (v2 := .int (nI (DF (exN w ro K) w g + df (exN w ro K) w g (k + 1)))) (congrArg (fun z => Value.int (nI z)) (show (DF (exN w ro K) w g + df (exN w ro K) w g k) + 1 = DF (exN w ro K) w g + df (exN w ro K) w g (k + 1) from by rw [show df (exN w ro K) w g (k + 1) = df (exN w ro K) w g k + (if tnew (exN w ro K) w (lidx g k) = w (lidx g k) then 0 else 1) from rfl, if_neg c_236, Nat.add_assoc])) ?_
                                refine lv_istore (lv' := [(4, .int (nI (DF (exN w ro K) w g + df (exN w ro K) w g (k + 1)))), (14, .int (nI (tnew (exN w ro K) w (lidx g k)))), (12, .long (lN (3 * (exN w ro K (lidx g k))))), (11, .int (nI (w (lidx g k)))), (0, .ref (ad_36 0)), (1, .long (lN (Sx' w K ro K 6))), (3, .ref (ad_36 74)), (5, .int (nI (g))), (7, .int (nI (gz g))), (8, .long (lN (gm (exN w ro K) g (gz g)))), (10, .int (nI (k)))]) hx hb dL_isTrained_245 hl (by decide) rfl (fun ls hl => ?_)
                                refine q_iinc (z2 := k + 1) (lv' := [(10, .int (nI (k + 1))), (4, .int (nI (DF (exN w ro K) w g + df (exN w ro K) w g (k + 1)))), (14, .int (nI (tnew (exN w ro K) w (lidx g k)))), (12, .long (lN (3 * (exN w ro K (lidx g k))))), (11, .int (nI (w (lidx g k)))), (0, .ref (ad_36 0)), (1, .long (lN (Sx' w K ro K 6))), (3, .ref (ad_36 74)), (5, .int (nI (g))), (7, .int (nI (gz g))), (8, .long (lN (gm (exN w ro K) g (gz g))))]) hx hb dL_isTrained_247 hl (k := 10) rfl (inc_up _ 1 (by decide)) (by decide) rfl (fun ls hl => ?_)
                                refine lv_goto (tgt := 139) hx hb dL_isTrained_250 (by decide) ?_
                                exact ih_139 (k + 1) (up2 I_165 74 (latx g k) (nI (tnew (exN w ro K) w (lidx g k)))) L_165 R_165 (by omega) (by omega) hA (thc (hG 74 (by decide)).1 hTh) _ _ hW _ (lv_sub hl [5, 6, 7, 1, 8, 9, 10, 0] rfl)
                            ·
                              have hGM0 : 0 < gm (exN w ro K) g (gz g) := c_179
                              have hEk : exN w ro K (lidx g k) ≤ gm (exN w ro K) g (gz g) := gm_ge (exN w ro K) g (gz g) c_143
                              have hq3 : (3 * exN w ro K (lidx g k)) / (gm (exN w ro K) g (gz g)) ≤ 3 := q3_le hGM0 hEk
                              have hq31 : (3 * exN w ro K (lidx g k)) / (gm (exN w ro K) g (gz g)) < 2 ^ 31 := Nat.lt_of_le_of_lt hq3 (by decide)
                              have hE3 : 3 * exN w ro K (lidx g k) < 2 ^ 63 := by have := hEB (lidx g k); omega
                              have hrr := q3_r (x := exN w ro K (lidx g k)) hGM0
                              refine lv_lload hx hb dL_isTrained_182 (lv_at hl 1 rfl) ?_
                              refine lv_lload hx hb dL_isTrained_184 (lv_at hl 9 rfl) ?_
                              refine lv_ldiv hx hb dL_isTrained_186 (fun q => (Nat.ne_of_gt hGM0) ((pk_lEQ (by omega) (by decide)).mp (show lN (gm (exN w ro K) g (gz g)) = lN 0 from q))) ?_
                              refine q_top (v2 := .long (lN ((3 * exN w ro K (lidx g k)) / (gm (exN w ro K) g (gz g))))) (congrArg Value.long (pk_lDiv hE3 hGM0 (by omega))) ?_
                              refine q_l2i hx hb dL_isTrained_187 ?_
                              refine lv_istore (lv' := [(14, .int (nI ((3 * exN w ro K (lidx g k)) / (gm (exN w ro K) g (gz g))))), (12, .long (lN (3 * (exN w ro K (lidx g k))))), (11, .int (nI (w (lidx g k)))), (0, .ref (ad_36 0)), (1, .long (lN (Sx' w K ro K 6))), (3, .ref (ad_36 74)), (4, .int (nI (DF (exN w ro K) w g + df (exN w ro K) w g k))), (5, .int (nI (g))), (7, .int (nI (gz g))), (8, .long (lN (gm (exN w ro K) g (gz g)))), (10, .int (nI (k)))]) hx hb dL_isTrained_188 hl (by decide) rfl (fun ls hl => ?_)
                              refine lv_iload hx hb dL_isTrained_190 (lv_at hl 0 rfl) ?_
                              refine lv_ldc2 (v := lN 2) hx hb hC.2.2.2.1 (hC.2.2.2.2 _ gw_430) dL_isTrained_192 ?_
                              refine lv_lload hx hb dL_isTrained_195 (lv_at hl 1 rfl) ?_
                              refine lv_iload hx hb dL_isTrained_197 (lv_at hl 0 rfl) ?_
                              refine q_i2l hx hb dL_isTrained_199 (by first | omega | exact Nat.lt_of_le_of_lt (hw3 _) (by decide) | exact Nat.lt_of_lt_of_le (hr4 _) (by decide) | exact Nat.lt_of_le_of_lt (bp_le _) (by decide) | assumption) ?_
                              refine lv_lload hx hb dL_isTrained_200 (lv_at hl 9 rfl) ?_
                              refine q_lmul hx hb dL_isTrained_202 ?_
                              refine lv_lsub hx hb dL_isTrained_203 ?_
                              refine q_top (v2 := .long (lN (3 * exN w ro K (lidx g k) - (3 * exN w ro K (lidx g k)) / (gm (exN w ro K) g (gz g)) * (gm (exN w ro K) g (gz g))))) (congrArg Value.long (lN_sub (q3_m _ _))) ?_
                              refine q_lmul hx hb dL_isTrained_204 ?_
                              refine lv_lload hx hb dL_isTrained_205 (lv_at hl 9 rfl) ?_
                              refine q_lcmp hx hb dL_isTrained_207 ?_
                              refine q_llt (tgt := 215) hx hb dL_isTrained_208 (by decide) (show 2 * (3 * exN w ro K (lidx g k) - (3 * exN w ro K (lidx g k)) / (gm (exN w ro K) g (gz g)) * (gm (exN w ro K) g (gz g))) < 2 ^ 63 from by omega) (by omega) (fun c_208 => ?_) (fun c_208 => ?_)
                              ·
                                refine q_ic 0 hx hb dL_isTrained_215 (by decide) ?_
                                refine q_iadd hx hb dL_isTrained_216 ?_
                                refine q_top (v2 := .int (nI (tnew (exN w ro K) w (lidx g k)))) (congrArg (fun z => Value.int (nI z)) (show (3 * exN w ro K (lidx g k)) / (gm (exN w ro K) g (gz g)) + 0 = tnew (exN w ro K) w (lidx g k) from by rw [tnew_l c_49 c_143, if_neg (Nat.ne_of_gt hGM0), tr_q hGM0, if_neg (Nat.not_le.mpr c_208)])) ?_
                                refine lv_istore (lv' := [(14, .int (nI (tnew (exN w ro K) w (lidx g k)))), (12, .long (lN (3 * (exN w ro K (lidx g k))))), (11, .int (nI (w (lidx g k)))), (0, .ref (ad_36 0)), (1, .long (lN (Sx' w K ro K 6))), (3, .ref (ad_36 74)), (4, .int (nI (DF (exN w ro K) w g + df (exN w ro K) w g k))), (5, .int (nI (g))), (7, .int (nI (gz g))), (8, .long (lN (gm (exN w ro K) g (gz g)))), (10, .int (nI (k)))]) hx hb dL_isTrained_217 hl (by decide) rfl (fun ls hl => ?_)
                                have htn : tnew (exN w ro K) w (lidx g k) < 2 ^ 31 := Nat.lt_of_le_of_lt (tnew_le hw3 _) (by decide)
                                refine lv_aload_n hx hb dL_isTrained_219 rfl (lv_at hl 5 rfl) ?_
                                refine lv_iload hx hb dL_isTrained_220 (lv_at hl 7 rfl) ?_
                                refine lv_iload hx hb dL_isTrained_222 (lv_at hl 10 rfl) ?_
                                refine q_kI0 (q_rS (As := [.int (nI (g)), .int (nI (k))]) (rest := [.ref (ad_36 74)]) hC hW mw_L_at gw_431 (k_at l G 75 ad_36 H.size I_165 L_165 R_165 g k (by first | omega | assumption) (by first | omega | assumption)) ⟨rfl, rfl⟩ ⟨Nat.le_of_ble_eq_true rfl, Nat.le_of_ble_eq_true rfl⟩ ⟨(Nat.le_of_ble_eq_true rfl), (Nat.le_of_ble_eq_true rfl)⟩ hl.1 rfl rfl (Nat.le_of_ble_eq_true rfl) dL_isTrained_224) hW (fun r_224 H locs hp hW => ?_)
                                subst hp
                                refine lv_iload hx hb dL_isTrained_227 (lv_at hl 0 rfl) ?_
                                have hTh := thc (hG 74 (by decide)).1 hTh
                                have hG : Fr7 I_165 I_165 L_165 L_165 R_165 R_165 := fr_0
                                refine q_iast (x := 74) (i := latx g k) (v := nI (tnew (exN w ro K) w (lidx g k))) hC hW (by omega) kd_74 (latx_lt c_49 c_143) dL_isTrained_229 (fun H locs hW => ?_)
                                have hTh := ThC_s hTh c_49 c_143
                                have hA := InvA_hi hA (fun a ha => up2_ne (j := latx g k) (x := nI (tnew (exN w ro K) w (lidx g k))) (show a ≠ 74 by omega)) (fun _ _ => rfl) (fun _ _ => rfl)
                                have hG : Fr7 (up2 I_165 74 (latx g k) (nI (tnew (exN w ro K) w (lidx g k)))) (up2 I_165 74 (latx g k) (nI (tnew (exN w ro K) w (lidx g k)))) L_165 L_165 R_165 R_165 := fr_0
                                refine lv_iload hx hb dL_isTrained_230 (lv_at hl 6 rfl) ?_
                                refine lv_iload hx hb dL_isTrained_232 (lv_at hl 0 rfl) ?_
                                refine lv_iload hx hb dL_isTrained_234 (lv_at hl 2 rfl) ?_
                                refine q_ceq (tgt := 243) hx hb dL_isTrained_236 (by decide) (by first | omega | exact Nat.lt_of_le_of_lt (hw3 _) (by decide) | exact Nat.lt_of_lt_of_le (hr4 _) (by decide) | exact Nat.lt_of_le_of_lt (bp_le _) (by decide) | assumption) (by first | omega | exact Nat.lt_of_le_of_lt (hw3 _) (by decide) | exact Nat.lt_of_lt_of_le (hr4 _) (by decide) | exact Nat.lt_of_le_of_lt (bp_le _) (by decide) | assumption) (fun c_236 => ?_) (fun c_236 => ?_)
                                ·
                                  refine q_ic 0 hx hb dL_isTrained_243 (by decide) ?_
                                  refine q_iadd hx hb dL_isTrained_244 ?_
                                  refine q_top (v2 := .int (nI (DF (exN w ro K) w g + df (exN w ro K) w g (k + 1)))) (congrArg (fun z => Value.int (nI z)) (show (DF (exN w ro K) w g + df (exN w ro K) w g k) + 0 = DF (exN w ro K) w g + df (exN w ro K) w g (k + 1) from by rw [show df (exN w ro K) w g (k + 1) = df (exN w ro K) w g k + (if tnew (exN w ro K) w (lidx g k) = w (lidx g k) then 0 else 1) from rfl, if_pos c_236, Nat.add_assoc])) ?_
                                  refine lv_istore (lv' := [(4, .int (nI (DF (exN w ro K) w g + df (exN w ro K) w g (k + 1)))), (14, .int (nI (tnew (exN w ro K) w (lidx g k)))), (12, .long (lN (3 * (exN w ro K (lidx g k))))), (11, .int (nI (w (lidx g k)))), (0, .ref (ad_36 0)), (1, .long (lN (Sx' w K ro K 6))), (3, .ref (ad_36 74)), (5, .int (nI (g))), (7, .int (nI (gz g))), (8, .long (lN (gm (exN w ro K) g (gz g)))), (10, .int (nI (k)))]) hx hb dL_isTrained_245 hl (by decide) rfl (fun ls hl => ?_)
                                  refine q_iinc (z2 := k + 1) (lv' := [(10, .int (nI (k + 1))), (4, .int (nI (DF (exN w ro K) w g + df (exN w ro K) w g (k + 1)))), (14, .int (nI (tnew (exN w ro K) w (lidx g k)))), (12, .long (lN (3 * (exN w ro K (lidx g k))))), (11, .int (nI (w (lidx g k)))), (0, .ref (ad_36 0)), (1, .long (lN (Sx' w K ro K 6))), (3, .ref (ad_36 74)), (5, .int (nI (g))), (7, .int (nI (gz g))), (8, .long (lN (gm (exN w ro K) g (gz g))))]) hx hb dL_isTrained_247 hl (k := 10) rfl (inc_up _ 1 (by decide)) (by decide) rfl (fun ls hl => ?_)
                                  refine lv_goto (tgt := 139) hx hb dL_isTrained_250 (by decide) ?_
                                  exact ih_139 (k + 1) (up2 I_165 74 (latx g k) (nI (tnew (exN w ro K) w (lidx g k)))) L_165 R_165 (by omega) (by omega) hA (thc (hG 74 (by decide)).1 hTh) _ _ hW _ (lv_sub hl [5, 6, 7, 1, 8, 9, 10, 0] rfl)
                                ·
                                  refine q_ic 1 hx hb dL_isTrained_239 (by decide) ?_
                                  refine lv_goto (tgt := 244) hx hb dL_isTrained_240 (by decide) ?_
                                  refine q_iadd hx hb dL_isTrained_244 ?_
                                  refine q_top (v2 := .int (nI (DF (exN w ro K) w g + df (exN w ro K) w g (k + 1)))) (congrArg (fun z => Value.int (nI z)) (show (DF (exN w ro K) w g + df (exN w ro K) w g k) + 1 = DF (exN w ro K) w g + df (exN w ro K) w g (k + 1) from by rw [show df (exN w ro K) w g (k + 1) = df (exN w ro K) w g k + (if tnew (exN w ro K) w (lidx g k) = w (lidx g k) then 0 else 1) from rfl, if_neg c_236, Nat.add_assoc])) ?_
                                  refine lv_istore (lv' := [(4, .int (nI (DF (exN w ro K) w g + df (exN w ro K) w g (k + 1)))), (14, .int (nI (tnew (exN w ro K) w (lidx g k)))), (12, .long (lN (3 * (exN w ro K (lidx g k))))), (11, .int (nI (w (lidx g k)))), (0, .ref (ad_36 0)), (1, .long (lN (Sx' w K ro K 6))), (3, .ref (ad_36 74)), (5, .int (nI (g))), (7, .int (nI (gz g))), (8, .long (lN (gm (exN w ro K) g (gz g)))), (10, .int (nI (k)))]) hx hb dL_isTrained_245 hl (by decide) rfl (fun ls hl => ?_)
                                  refine q_iinc (z2 := k + 1) (lv' := [(10, .int (nI (k + 1))), (4, .int (nI (DF (exN w ro K) w g + df (exN w ro K) w g (k + 1)))), (14, .int (nI (tnew (exN w ro K) w (lidx g k)))), (12, .long (lN (3 * (exN w ro K (lidx g k))))), (11, .int (nI (w (lidx g k)))), (0, .ref (ad_36 0)), (1, .long (lN (Sx' w K ro K 6))), (3, .ref (ad_36 74)), (5, .int (nI (g))), (7, .int (nI (gz g))), (8, .long (lN (gm (exN w ro K) g (gz g))))]) hx hb dL_isTrained_247 hl (k := 10) rfl (inc_up _ 1 (by decide)) (by decide) rfl (fun ls hl => ?_)
                                  refine lv_goto (tgt := 139) hx hb dL_isTrained_250 (by decide) ?_
                                  exact ih_139 (k + 1) (up2 I_165 74 (latx g k) (nI (tnew (exN w ro K) w (lidx g k)))) L_165 R_165 (by omega) (by omega) hA (thc (hG 74 (by decide)).1 hTh) _ _ hW _ (lv_sub hl [5, 6, 7, 1, 8, 9, 10, 0] rfl)
                              ·
                                refine q_ic 1 hx hb dL_isTrained_211 (by decide) ?_
                                refine lv_goto (tgt := 216) hx hb dL_isTrained_212 (by decide) ?_
                                refine q_iadd hx hb dL_isTrained_216 ?_
                                refine q_top (v2 := .int (nI (tnew (exN w ro K) w (lidx g k)))) (congrArg (fun z => Value.int (nI z)) (show (3 * exN w ro K (lidx g k)) / (gm (exN w ro K) g (gz g)) + 1 = tnew (exN w ro K) w (lidx g k) from by rw [tnew_l c_49 c_143, if_neg (Nat.ne_of_gt hGM0), tr_q hGM0, if_pos c_208])) ?_
                                refine lv_istore (lv' := [(14, .int (nI (tnew (exN w ro K) w (lidx g k)))), (12, .long (lN (3 * (exN w ro K (lidx g k))))), (11, .int (nI (w (lidx g k)))), (0, .ref (ad_36 0)), (1, .long (lN (Sx' w K ro K 6))), (3, .ref (ad_36 74)), (4, .int (nI (DF (exN w ro K) w g + df (exN w ro K) w g k))), (5, .int (nI (g))), (7, .int (nI (gz g))), (8, .long (lN (gm (exN w ro K) g (gz g)))), (10, .int (nI (k)))]) hx hb dL_isTrained_217 hl (by decide) rfl (fun ls hl => ?_)
                                have htn : tnew (exN w ro K) w (lidx g k) < 2 ^ 31 := Nat.lt_of_le_of_lt (tnew_le hw3 _) (by decide)
                                refine lv_aload_n hx hb dL_isTrained_219 rfl (lv_at hl 5 rfl) ?_
                                refine lv_iload hx hb dL_isTrained_220 (lv_at hl 7 rfl) ?_
                                refine lv_iload hx hb dL_isTrained_222 (lv_at hl 10 rfl) ?_
                                refine q_kI0 (q_rS (As := [.int (nI (g)), .int (nI (k))]) (rest := [.ref (ad_36 74)]) hC hW mw_L_at gw_431 (k_at l G 75 ad_36 H.size I_165 L_165 R_165 g k (by first | omega | assumption) (by first | omega | assumption)) ⟨rfl, rfl⟩ ⟨Nat.le_of_ble_eq_true rfl, Nat.le_of_ble_eq_true rfl⟩ ⟨(Nat.le_of_ble_eq_true rfl), (Nat.le_of_ble_eq_true rfl)⟩ hl.1 rfl rfl (Nat.le_of_ble_eq_true rfl) dL_isTrained_224) hW (fun r_224 H locs hp hW => ?_)
                                subst hp
                                refine lv_iload hx hb dL_isTrained_227 (lv_at hl 0 rfl) ?_
                                have hTh := thc (hG 74 (by decide)).1 hTh
                                have hG : Fr7 I_165 I_165 L_165 L_165 R_165 R_165 := fr_0
                                refine q_iast (x := 74) (i := latx g k) (v := nI (tnew (exN w ro K) w (lidx g k))) hC hW (by omega) kd_74 (latx_lt c_49 c_143) dL_isTrained_229 (fun H locs hW => ?_)
                                have hTh := ThC_s hTh c_49 c_143
                                have hA := InvA_hi hA (fun a ha => up2_ne (j := latx g k) (x := nI (tnew (exN w ro K) w (lidx g k))) (show a ≠ 74 by omega)) (fun _ _ => rfl) (fun _ _ => rfl)
                                have hG : Fr7 (up2 I_165 74 (latx g k) (nI (tnew (exN w ro K) w (lidx g k)))) (up2 I_165 74 (latx g k) (nI (tnew (exN w ro K) w (lidx g k)))) L_165 L_165 R_165 R_165 := fr_0
                                refine lv_iload hx hb dL_isTrained_230 (lv_at hl 6 rfl) ?_
                                refine lv_iload hx hb dL_isTrained_232 (lv_at hl 0 rfl) ?_
                                refine lv_iload hx hb dL_isTrained_234 (lv_at hl 2 rfl) ?_
                                refine q_ceq (tgt := 243) hx hb dL_isTrained_236 (by decide) (by first | omega | exact Nat.lt_of_le_of_lt (hw3 _) (by decide) | exact Nat.lt_of_lt_of_le (hr4 _) (by decide) | exact Nat.lt_of_le_of_lt (bp_le _) (by decide) | assumption) (by first | omega | exact Nat.lt_of_le_of_lt (hw3 _) (by decide) | exact Nat.lt_of_lt_of_le (hr4 _) (by decide) | exact Nat.lt_of_le_of_lt (bp_le _) (by decide) | assumption) (fun c_236 => ?_) (fun c_236 => ?_)
                                ·
                                  refine q_ic 0 hx hb dL_isTrained_243 (by decide) ?_
                                  refine q_iadd hx hb dL_isTrained_244 ?_
                                  refine q_top (v2 := .int (nI (DF (exN w ro K) w g + df (exN w ro K) w g (k + 1)))) (congrArg (fun z => Value.int (nI z)) (show (DF (exN w ro K) w g + df (exN w ro K) w g k) + 0 = DF (exN w ro K) w g + df (exN w ro K) w g (k + 1) from by rw [show df (exN w ro K) w g (k + 1) = df (exN w ro K) w g k + (if tnew (exN w ro K) w (lidx g k) = w (lidx g k) then 0 else 1) from rfl, if_pos c_236, Nat.add_assoc])) ?_
                                  refine lv_istore (lv' := [(4, .int (nI (DF (exN w ro K) w g + df (exN w ro K) w g (k + 1)))), (14, .int (nI (tnew (exN w ro K) w (lidx g k)))), (12, .long (lN (3 * (exN w ro K (lidx g k))))), (11, .int (nI (w (lidx g k)))), (0, .ref (ad_36 0)), (1, .long (lN (Sx' w K ro K 6))), (3, .ref (ad_36 74)), (5, .int (nI (g))), (7, .int (nI (gz g))), (8, .long (lN (gm (exN w ro K) g (gz g)))), (10, .int (nI (k)))]) hx hb dL_isTrained_245 hl (by decide) rfl (fun ls hl => ?_)
                                  refine q_iinc (z2 := k + 1) (lv' := [(10, .int (nI (k + 1))), (4, .int (nI (DF (exN w ro K) w g + df (exN w ro K) w g (k + 1)))), (14, .int (nI (tnew (exN w ro K) w (lidx g k)))), (12, .long (lN (3 * (exN w ro K (lidx g k))))), (11, .int (nI (w (lidx g k)))), (0, .ref (ad_36 0)), (1, .long (lN (Sx' w K ro K 6))), (3, .ref (ad_36 74)), (5, .int (nI (g))), (7, .int (nI (gz g))), (8, .long (lN (gm (exN w ro K) g (gz g))))]) hx hb dL_isTrained_247 hl (k := 10) rfl (inc_up _ 1 (by decide)) (by decide) rfl (fun ls hl => ?_)
                                  refine lv_goto (tgt := 139) hx hb dL_isTrained_250 (by decide) ?_
                                  exact ih_139 (k + 1) (up2 I_165 74 (latx g k) (nI (tnew (exN w ro K) w (lidx g k)))) L_165 R_165 (by omega) (by omega) hA (thc (hG 74 (by decide)).1 hTh) _ _ hW _ (lv_sub hl [5, 6, 7, 1, 8, 9, 10, 0] rfl)
                                ·
                                  refine q_ic 1 hx hb dL_isTrained_239 (by decide) ?_
                                  refine lv_goto (tgt := 244) hx hb dL_isTrained_240 (by decide) ?_
                                  refine q_iadd hx hb dL_isTrained_244 ?_
                                  refine q_top (v2 := .int (nI (DF (exN w ro K) w g + df (exN w ro K) w g (k + 1)))) (congrArg (fun z => Value.int (nI z)) (show (DF (exN w ro K) w g + df (exN w ro K) w g k) + 1 = DF (exN w ro K) w g + df (exN w ro K) w g (k + 1) from by rw [show df (exN w ro K) w g (k + 1) = df (exN w ro K) w g k + (if tnew (exN w ro K) w (lidx g k) = w (lidx g k) then 0 else 1) from rfl, if_neg c_236, Nat.add_assoc])) ?_
                                  refine lv_istore (lv' := [(4, .int (nI (DF (exN w ro K) w g + df (exN w ro K) w g (k + 1)))), (14, .int (nI (tnew (exN w ro K) w (lidx g k)))), (12, .long (lN (3 * (exN w ro K (lidx g k))))), (11, .int (nI (w (lidx g k)))), (0, .ref (ad_36 0)), (1, .long (lN (Sx' w K ro K 6))), (3, .ref (ad_36 74)), (5, .int (nI (g))), (7, .int (nI (gz g))), (8, .long (lN (gm (exN w ro K) g (gz g)))), (10, .int (nI (k)))]) hx hb dL_isTrained_245 hl (by decide) rfl (fun ls hl => ?_)
                                  refine q_iinc (z2 := k + 1) (lv' := [(10, .int (nI (k + 1))), (4, .int (nI (DF (exN w ro K) w g + df (exN w ro K) w g (k + 1)))), (14, .int (nI (tnew (exN w ro K) w (lidx g k)))), (12, .long (lN (3 * (exN w ro K (lidx g k))))), (11, .int (nI (w (lidx g k)))), (0, .ref (ad_36 0)), (1, .long (lN (Sx' w K ro K 6))), (3, .ref (ad_36 74)), (5, .int (nI (g))), (7, .int (nI (gz g))), (8, .long (lN (gm (exN w ro K) g (gz g))))]) hx hb dL_isTrained_247 hl (k := 10) rfl (inc_up _ 1 (by decide)) (by decide) rfl (fun ls hl => ?_)
                                  refine lv_goto (tgt := 139) hx hb dL_isTrained_250 (by decide) ?_
                                  exact ih_139 (k + 1) (up2 I_165 74 (latx g k) (nI (tnew (exN w ro K) w (lidx g k)))) L_165 R_165 (by omega) (by omega) hA (thc (hG 74 (by decide)).1 hTh) _ _ hW _ (lv_sub hl [5, 6, 7, 1, 8, 9, 10, 0] rfl)
                      exact lp_139 (gz g + 1) 0 J95 M95 Q95 (by omega) (Nat.zero_le _) hA (thc (hG 74 (by decide)).1 hTh) _ _ hW _ (lv_sub hl [1, 2, 3, 4, 5, 6, 7, 0] rfl)
                    ·
                      have hkz : (g < 7 → k < 6) ∧ (7 ≤ g → k < 4) := by have h9 := c_99; unfold gz at h9; split at h9 <;> omega
                      refine lv_aload_n hx hb dL_isTrained_102 rfl (lv_at hl 0 rfl) ?_
                      refine lv_iload hx hb dL_isTrained_103 (lv_at hl 4 rfl) ?_
                      refine lv_iload hx hb dL_isTrained_105 (lv_at hl 7 rfl) ?_
                      refine lv_lload_n hx hb dL_isTrained_107 rfl (lv_at hl 1 rfl) ?_
                      refine q_kL2 (q_rS (As := [.ref (ad_36 0), .int (nI (g)), .int (nI (k)), .long (lN (Sx' w K ro K 6))]) (rest := []) hC hW mw_L_number gw_423 (k_lnumber l G 75 ad_36 H.size J95 M95 Q95 g k w K ro hc hi sv pn ch hA (by first | omega | assumption) (by first | omega | assumption) hT0) ⟨rfl, rfl⟩ ⟨Nat.le_of_ble_eq_true rfl, Nat.le_of_ble_eq_true rfl⟩ ⟨(Nat.le_of_ble_eq_true rfl), (Nat.le_of_ble_eq_true rfl)⟩ hl.1 rfl rfl (Nat.le_of_ble_eq_true rfl) dL_isTrained_108) hW (fun r_108 n_108 ad_108 I_108 L_108 R_108 H locs hp hW => ?_)
                      obtain ⟨hz, rfl, rfl, hA, hF⟩ := PRl_use hp
                      have hG := fr_t hF hG
                      have hz : r_108 = lN (exN w ro K (lidx g k)) := hz
                      subst hz
                      refine lv_lstore (lv' := [(11, .long (lN (exN w ro K (lidx g k)))), (0, .ref (ad_36 0)), (1, .long (lN (Sx' w K ro K 6))), (3, .ref (ad_36 74)), (4, .int (nI (DF (exN w ro K) w g))), (5, .int (nI (g))), (7, .int (nI (gz g))), (8, .long (lN (gm (exN w ro K) g k))), (10, .int (nI (k)))]) hx hb dL_isTrained_111 hl (by decide) rfl (fun ls hl => ?_)
                      refine lv_lload hx hb dL_isTrained_113 (lv_at hl 0 rfl) ?_
                      refine lv_lload hx hb dL_isTrained_115 (lv_at hl 7 rfl) ?_
                      refine q_lcmp hx hb dL_isTrained_117 ?_
                      refine q_lle (tgt := 126) hx hb dL_isTrained_118 (by decide) (Nat.lt_of_le_of_lt (hEB _) (by decide)) (Nat.lt_of_le_of_lt (gm_le hEB g k) (by decide)) (fun c_118 => ?_) (fun c_118 => ?_)
                      ·
                        refine lv_lload hx hb dL_isTrained_126 (lv_at hl 7 rfl) ?_
                        refine lv_lstore (lv' := [(8, .long (lN (gm (exN w ro K) g k))), (11, .long (lN (exN w ro K (lidx g k)))), (0, .ref (ad_36 0)), (1, .long (lN (Sx' w K ro K 6))), (3, .ref (ad_36 74)), (4, .int (nI (DF (exN w ro K) w g))), (5, .int (nI (g))), (7, .int (nI (gz g))), (10, .int (nI (k)))]) hx hb dL_isTrained_128 hl (by decide) rfl (fun ls hl => ?_)
                        have hl : lv_has ls 15 [(8, .long (lN (gm (exN w ro K) g (k + 1)))), (11, .long (lN (exN w ro K (lidx g k)))), (0, .ref (ad_36 0)), (1, .long (lN (Sx' w K ro K 6))), (3, .ref (ad_36 74)), (4, .int (nI (DF (exN w ro K) w g))), (5, .int (nI (g))), (7, .int (nI (gz g))), (10, .int (nI (k)))] := by rw [show gm (exN w ro K) g (k + 1) = gm (exN w ro K) g k from Nat.max_eq_left c_118]; exact hl
                        refine q_iinc (z2 := k + 1) (lv' := [(10, .int (nI (k + 1))), (8, .long (lN (gm (exN w ro K) g (k + 1)))), (11, .long (lN (exN w ro K (lidx g k)))), (0, .ref (ad_36 0)), (1, .long (lN (Sx' w K ro K 6))), (3, .ref (ad_36 74)), (4, .int (nI (DF (exN w ro K) w g))), (5, .int (nI (g))), (7, .int (nI (gz g)))]) hx hb dL_isTrained_130 hl (k := 8) rfl (inc_up _ 1 (by decide)) (by decide) rfl (fun ls hl => ?_)
                        refine lv_goto (tgt := 95) hx hb dL_isTrained_133 (by decide) ?_
                        exact ih_95 (k + 1) I_108 L_108 R_108 (by omega) (by omega) hA (thc (hG 74 (by decide)).1 hTh) _ _ hW _ (lv_sub hl [3, 4, 5, 6, 7, 8, 1, 0] rfl)
                      ·
                        refine lv_lload hx hb dL_isTrained_121 (lv_at hl 0 rfl) ?_
                        refine lv_goto (tgt := 128) hx hb dL_isTrained_123 (by decide) ?_
                        refine lv_lstore (lv' := [(8, .long (lN (exN w ro K (lidx g k)))), (11, .long (lN (exN w ro K (lidx g k)))), (0, .ref (ad_36 0)), (1, .long (lN (Sx' w K ro K 6))), (3, .ref (ad_36 74)), (4, .int (nI (DF (exN w ro K) w g))), (5, .int (nI (g))), (7, .int (nI (gz g))), (10, .int (nI (k)))]) hx hb dL_isTrained_128 hl (by decide) rfl (fun ls hl => ?_)
                        have hl : lv_has ls 15 [(8, .long (lN (gm (exN w ro K) g (k + 1)))), (11, .long (lN (exN w ro K (lidx g k)))), (0, .ref (ad_36 0)), (1, .long (lN (Sx' w K ro K 6))), (3, .ref (ad_36 74)), (4, .int (nI (DF (exN w ro K) w g))), (5, .int (nI (g))), (7, .int (nI (gz g))), (10, .int (nI (k)))] := by rw [show gm (exN w ro K) g (k + 1) = exN w ro K (lidx g k) from Nat.max_eq_right (Nat.le_of_lt c_118)]; exact hl
                        refine q_iinc (z2 := k + 1) (lv' := [(10, .int (nI (k + 1))), (8, .long (lN (gm (exN w ro K) g (k + 1)))), (11, .long (lN (exN w ro K (lidx g k)))), (0, .ref (ad_36 0)), (1, .long (lN (Sx' w K ro K 6))), (3, .ref (ad_36 74)), (4, .int (nI (DF (exN w ro K) w g))), (5, .int (nI (g))), (7, .int (nI (gz g)))]) hx hb dL_isTrained_130 hl (k := 8) rfl (inc_up _ 1 (by decide)) (by decide) rfl (fun ls hl => ?_)
                        refine lv_goto (tgt := 95) hx hb dL_isTrained_133 (by decide) ?_
                        exact ih_95 (k + 1) I_108 L_108 R_108 (by omega) (by omega) hA (thc (hG 74 (by decide)).1 hTh) _ _ hW _ (lv_sub hl [3, 4, 5, 6, 7, 8, 1, 0] rfl)
                exact lp_95 (gz g + 1) 0 J45 M45 Q45 (by omega) (Nat.zero_le _) hA (thc (hG 74 (by decide)).1 hTh) _ _ hW _ (lv_sub hl [4, 5, 6, 7, 8, 2, 1, 0] rfl)
            ·
              refine q_ic 0 hx hb dL_isTrained_57 (by decide) ?_
              refine lv_goto (tgt := 73) hx hb dL_isTrained_58 (by decide) ?_
              refine lv_istore (lv' := [(6, .int (nI 0)), (0, .ref (ad_36 0)), (1, .long (lN (Sx' w K ro K 6))), (3, .ref (ad_36 74)), (4, .int (nI (DF (exN w ro K) w g))), (5, .int (nI (g)))]) hx hb dL_isTrained_73 hl (by decide) rfl (fun ls hl => ?_)
              refine lv_iload hx hb dL_isTrained_75 (lv_at hl 0 rfl) ?_
              refine q_ic 2 hx hb dL_isTrained_77 (by decide) ?_
              refine q_cne (tgt := 85) hx hb dL_isTrained_78 (by decide) (by first | omega | exact Nat.lt_of_le_of_lt (hw3 _) (by decide) | exact Nat.lt_of_lt_of_le (hr4 _) (by decide) | exact Nat.lt_of_le_of_lt (bp_le _) (by decide) | assumption) (by first | omega | exact Nat.lt_of_le_of_lt (hw3 _) (by decide) | exact Nat.lt_of_lt_of_le (hr4 _) (by decide) | exact Nat.lt_of_le_of_lt (bp_le _) (by decide) | assumption) (fun c_78 => ?_) (fun c_78 => absurd c_78 (by decide))
              refine q_bp 6 hx hb dL_isTrained_85 (by decide) ?_
              refine lv_istore (lv' := [(7, .int (nI 6)), (6, .int (nI 0)), (0, .ref (ad_36 0)), (1, .long (lN (Sx' w K ro K 6))), (3, .ref (ad_36 74)), (4, .int (nI (DF (exN w ro K) w g))), (5, .int (nI (g)))]) hx hb dL_isTrained_87 hl (by decide) rfl (fun ls hl => ?_)
              have hl : lv_has ls 15 [(7, .int (nI (gz g))), (6, .int (nI 0)), (0, .ref (ad_36 0)), (1, .long (lN (Sx' w K ro K 6))), (3, .ref (ad_36 74)), (4, .int (nI (DF (exN w ro K) w g))), (5, .int (nI (g)))] := by rw [show gz g = 6 from by unfold gz; rw [if_pos (by omega)]]; exact hl
              have hgz : gz g ≤ 6 := by unfold gz; split <;> omega
              refine q_lc 0 hx hb dL_isTrained_89 (by decide) ?_
              refine lv_lstore (lv' := [(8, .long (lN 0)), (7, .int (nI (gz g))), (6, .int (nI 0)), (0, .ref (ad_36 0)), (1, .long (lN (Sx' w K ro K 6))), (3, .ref (ad_36 74)), (4, .int (nI (DF (exN w ro K) w g))), (5, .int (nI (g)))]) hx hb dL_isTrained_90 hl (by decide) rfl (fun ls hl => ?_)
              refine q_ic 0 hx hb dL_isTrained_92 (by decide) ?_
              have hl : lv_has ls 15 [(8, .long (lN (gm (exN w ro K) g 0))), (7, .int (nI (gz g))), (6, .int (nI 0)), (0, .ref (ad_36 0)), (1, .long (lN (Sx' w K ro K 6))), (3, .ref (ad_36 74)), (4, .int (nI (DF (exN w ro K) w g))), (5, .int (nI (g)))] := by rw [show gm (exN w ro K) g 0 = 0 from rfl]; exact hl
              refine lv_istore (lv' := [(10, .int (nI 0)), (8, .long (lN (gm (exN w ro K) g 0))), (7, .int (nI (gz g))), (6, .int (nI 0)), (0, .ref (ad_36 0)), (1, .long (lN (Sx' w K ro K 6))), (3, .ref (ad_36 74)), (4, .int (nI (DF (exN w ro K) w g))), (5, .int (nI (g)))]) hx hb dL_isTrained_93 hl (by decide) rfl (fun ls hl => ?_)
              have lp_95 : ∀ (fu_95 : Nat) (k : Nat) (J95 : Ic) (M95 : Lc) (Q95 : Rc), gz g - k < fu_95 → (k ≤ gz g) → (InvA 75 J95 M95 Q95 ((w, K, ro), hc, hi, sv, pn, ch)) → (ThC (exN w ro K) w g 0 (J95 74)) → ∀ (H : Heap) (locs : List Loc), Wd G 75 ad_36 J95 M95 Q95 (qA 74 ad s.heap.size) s.heap H locs s → ∀ ls : Array Slot, lv_has ls 15 [(0, .ref (ad_36 0)), (1, .long (lN (Sx' w K ro K 6))), (3, .ref (ad_36 74)), (4, .int (nI (DF (exN w ro K) w g))), (5, .int (nI (g))), (7, .int (nI (gz g))), (8, .long (lN (gm (exN w ro K) g k))), (10, .int (nI (k)))] → W p_ l e_ ({ frames := 9, cells := 1, slots := 64, locals := 324 } : Room) s m_ ([.ref (ad 0)] : List Value).toArray below meth c_ H locs 1 64 (MQ below (qI2 G (qA 74 ad s.heap.size) (fun z u => z = nI 1 ∧ AcP ad u)) ([.ref (ad 0)] : List Value).toArray s 1 64 (qA 74 ad s.heap.size)) (F0 m_ 95 ls []) := by
                intro fu_95
                induction fu_95 with
                | zero =>
                  intro k J95 M95 Q95 hm; exact absurd hm (Nat.not_lt_zero _)
                | succ fu_95 ih_95 =>
                  intro k J95 M95 Q95 hm_95 hkz9 hA hTh H locs hW ls hl
                  have hG : Fr7 J95 J95 M95 M95 Q95 Q95 := fr_0
                  refine lv_iload hx hb dL_isTrained_95 (lv_at hl 7 rfl) ?_
                  refine lv_iload hx hb dL_isTrained_97 (lv_at hl 5 rfl) ?_
                  refine q_cge (tgt := 136) hx hb dL_isTrained_99 (by decide) (by first | omega | exact Nat.lt_of_le_of_lt (hw3 _) (by decide) | exact Nat.lt_of_lt_of_le (hr4 _) (by decide) | exact Nat.lt_of_le_of_lt (bp_le _) (by decide) | assumption) (by first | omega | exact Nat.lt_of_le_of_lt (hw3 _) (by decide) | exact Nat.lt_of_lt_of_le (hr4 _) (by decide) | exact Nat.lt_of_le_of_lt (bp_le _) (by decide) | assumption) (fun c_99 => ?_) (fun c_99 => ?_)
                  ·
                    refine q_ic 0 hx hb dL_isTrained_136 (by decide) ?_
                    have hl : lv_has ls 15 [(0, .ref (ad_36 0)), (1, .long (lN (Sx' w K ro K 6))), (3, .ref (ad_36 74)), (4, .int (nI (DF (exN w ro K) w g + df (exN w ro K) w g 0))), (5, .int (nI (g))), (7, .int (nI (gz g))), (8, .long (lN (gm (exN w ro K) g (gz g)))), (10, .int (nI (k)))] := by rw [show gm (exN w ro K) g (gz g) = gm (exN w ro K) g k from by rw [show k = gz g by omega], show DF (exN w ro K) w g + df (exN w ro K) w g 0 = DF (exN w ro K) w g from rfl]; exact hl
                    have hGB : gm (exN w ro K) g (gz g) ≤ 1317000000000000000 := gm_le hEB g (gz g)
                    refine lv_istore (lv' := [(10, .int (nI 0)), (0, .ref (ad_36 0)), (1, .long (lN (Sx' w K ro K 6))), (3, .ref (ad_36 74)), (4, .int (nI (DF (exN w ro K) w g + df (exN w ro K) w g 0))), (5, .int (nI (g))), (7, .int (nI (gz g))), (8, .long (lN (gm (exN w ro K) g (gz g))))]) hx hb dL_isTrained_137 hl (by decide) rfl (fun ls hl => ?_)
                    have lp_139 : ∀ (fu_139 : Nat) (k : Nat) (J139 : Ic) (M139 : Lc) (Q139 : Rc), gz g - k < fu_139 → (k ≤ gz g) → (InvA 75 J139 M139 Q139 ((w, K, ro), hc, hi, sv, pn, ch)) → (ThC (exN w ro K) w g k (J139 74)) → ∀ (H : Heap) (locs : List Loc), Wd G 75 ad_36 J139 M139 Q139 (qA 74 ad s.heap.size) s.heap H locs s → ∀ ls : Array Slot, lv_has ls 15 [(0, .ref (ad_36 0)), (1, .long (lN (Sx' w K ro K 6))), (3, .ref (ad_36 74)), (4, .int (nI (DF (exN w ro K) w g + df (exN w ro K) w g k))), (5, .int (nI (g))), (7, .int (nI (gz g))), (8, .long (lN (gm (exN w ro K) g (gz g)))), (10, .int (nI (k)))] → W p_ l e_ ({ frames := 9, cells := 1, slots := 64, locals := 324 } : Room) s m_ ([.ref (ad 0)] : List Value).toArray below meth c_ H locs 1 64 (MQ below (qI2 G (qA 74 ad s.heap.size) (fun z u => z = nI 1 ∧ AcP ad u)) ([.ref (ad 0)] : List Value).toArray s 1 64 (qA 74 ad s.heap.size)) (F0 m_ 139 ls []) := by
                      intro fu_139
                      induction fu_139 with
                      | zero =>
                        intro k J139 M139 Q139 hm; exact absurd hm (Nat.not_lt_zero _)
                      | succ fu_139 ih_139 =>
                        intro k J139 M139 Q139 hm_139 hkz9 hA hTh H locs hW ls hl
                        have hG : Fr7 J139 J139 M139 M139 Q139 Q139 := fr_0
                        refine lv_iload hx hb dL_isTrained_139 (lv_at hl 7 rfl) ?_
                        refine lv_iload hx hb dL_isTrained_141 (lv_at hl 5 rfl) ?_
                        refine q_cge (tgt := 253) hx hb dL_isTrained_143 (by decide) (by first | omega | exact Nat.lt_of_le_of_lt (hw3 _) (by decide) | exact Nat.lt_of_lt_of_le (hr4 _) (by decide) | exact Nat.lt_of_le_of_lt (bp_le _) (by decide) | assumption) (by first | omega | exact Nat.lt_of_le_of_lt (hw3 _) (by decide) | exact Nat.lt_of_lt_of_le (hr4 _) (by decide) | exact Nat.lt_of_le_of_lt (bp_le _) (by decide) | assumption) (fun c_143 => ?_) (fun c_143 => ?_)
                        ·
                          have hl : lv_has ls 15 [(0, .ref (ad_36 0)), (1, .long (lN (Sx' w K ro K 6))), (3, .ref (ad_36 74)), (4, .int (nI (DF (exN w ro K) w (g + 1)))), (5, .int (nI (g))), (7, .int (nI (gz g))), (8, .long (lN (gm (exN w ro K) g (gz g)))), (10, .int (nI (k)))] := by rw [show DF (exN w ro K) w (g + 1) = DF (exN w ro K) w g + df (exN w ro K) w g k from by rw [show k = gz g by omega]; rfl]; exact hl
                          refine q_iinc (z2 := g + 1) (lv' := [(5, .int (nI (g + 1))), (0, .ref (ad_36 0)), (1, .long (lN (Sx' w K ro K 6))), (3, .ref (ad_36 74)), (4, .int (nI (DF (exN w ro K) w (g + 1)))), (7, .int (nI (gz g))), (8, .long (lN (gm (exN w ro K) g (gz g)))), (10, .int (nI (k)))]) hx hb dL_isTrained_253 hl (k := 4) rfl (inc_up _ 1 (by decide)) (by decide) rfl (fun ls hl => ?_)
                          refine lv_goto (tgt := 45) hx hb dL_isTrained_256 (by decide) ?_
                          exact ih_45 (g + 1) J139 M139 Q139 (by omega) (by omega) hA (ThC_n (thc (hG 74 (by decide)).1 hTh) (by omega)) _ _ hW _ (lv_sub hl [1, 2, 3, 4, 0] rfl)
                        ·
                          have hkz : (g < 7 → k < 6) ∧ (7 ≤ g → k < 4) := by have h9 := c_143; unfold gz at h9; split at h9 <;> omega
                          refine lv_aload_n hx hb dL_isTrained_146 rfl (lv_at hl 0 rfl) ?_
                          refine lv_iload hx hb dL_isTrained_147 (lv_at hl 4 rfl) ?_
                          refine lv_iload hx hb dL_isTrained_149 (lv_at hl 7 rfl) ?_
                          refine q_kI2 (q_rS (As := [.ref (ad_36 0), .int (nI (g)), .int (nI (k))]) (rest := []) hC hW mw_L_weight gw_426 (k_lweight l G 75 ad_36 H.size J139 M139 Q139 g k w K ro hc hi sv pn ch hA (by first | omega | assumption) (by first | omega | assumption)) ⟨rfl, rfl⟩ ⟨Nat.le_of_ble_eq_true rfl, Nat.le_of_ble_eq_true rfl⟩ ⟨(Nat.le_of_ble_eq_true rfl), (Nat.le_of_ble_eq_true rfl)⟩ hl.1 rfl rfl (Nat.le_of_ble_eq_true rfl) dL_isTrained_151) hW (fun r_151 n_151 ad_151 I_151 L_151 R_151 H locs hp hW => ?_)
                          obtain ⟨hz, rfl, rfl, hA, hF⟩ := PR_use hp
                          have hG := fr_t hF hG
                          have hz : r_151 = nI (w (lidx g k)) := hz
                          subst hz
                          refine lv_istore (lv' := [(11, .int (nI (w (lidx g k)))), (0, .ref (ad_36 0)), (1, .long (lN (Sx' w K ro K 6))), (3, .ref (ad_36 74)), (4, .int (nI (DF (exN w ro K) w g + df (exN w ro K) w g k))), (5, .int (nI (g))), (7, .int (nI (gz g))), (8, .long (lN (gm (exN w ro K) g (gz g)))), (10, .int (nI (k)))]) hx hb dL_isTrained_154 hl (by decide) rfl (fun ls hl => ?_)
                          refine lv_ldc2 (v := lN 3) hx hb hC.2.2.2.1 (hC.2.2.2.2 _ gw_429) dL_isTrained_156 ?_
                          refine lv_aload_n hx hb dL_isTrained_159 rfl (lv_at hl 1 rfl) ?_
                          refine lv_iload hx hb dL_isTrained_160 (lv_at hl 5 rfl) ?_
                          refine lv_iload hx hb dL_isTrained_162 (lv_at hl 8 rfl) ?_
                          refine lv_lload_n hx hb dL_isTrained_164 rfl (lv_at hl 2 rfl) ?_
                          refine q_kL2 (q_rS (As := [.ref (ad_36 0), .int (nI (g)), .int (nI (k)), .long (lN (Sx' w K ro K 6))]) (rest := [.long (lN 3)]) hC hW mw_L_number gw_423 (k_lnumber l G 75 ad_36 H.size I_151 L_151 R_151 g k w K ro hc hi sv pn ch hA (by first | omega | assumption) (by first | omega | assumption) hT0) ⟨rfl, rfl⟩ ⟨Nat.le_of_ble_eq_true rfl, Nat.le_of_ble_eq_true rfl⟩ ⟨(Nat.le_of_ble_eq_true rfl), (Nat.le_of_ble_eq_true rfl)⟩ hl.1 rfl rfl (Nat.le_of_ble_eq_true rfl) dL_isTrained_165) hW (fun r_165 n_165 ad_165 I_165 L_165 R_165 H locs hp hW => ?_)
                          obtain ⟨hz, rfl, rfl, hA, hF⟩ := PRl_use hp
                          have hG := fr_t hF hG
                          have hz : r_165 = lN (exN w ro K (lidx g k)) := hz
                          subst hz
                          refine q_lmul hx hb dL_isTrained_168 ?_
                          refine lv_lstore (lv' := [(12, .long (lN (3 * (exN w ro K (lidx g k))))), (11, .int (nI (w (lidx g k)))), (0, .ref (ad_36 0)), (1, .long (lN (Sx' w K ro K 6))), (3, .ref (ad_36 74)), (4, .int (nI (DF (exN w ro K) w g + df (exN w ro K) w g k))), (5, .int (nI (g))), (7, .int (nI (gz g))), (8, .long (lN (gm (exN w ro K) g (gz g)))), (10, .int (nI (k)))]) hx hb dL_isTrained_169 hl (by decide) rfl (fun ls hl => ?_)
                          refine lv_iload hx hb dL_isTrained_171 (lv_at hl 1 rfl) ?_
                          refine lv_istore (lv' := [(14, .int (nI (w (lidx g k)))), (12, .long (lN (3 * (exN w ro K (lidx g k))))), (11, .int (nI (w (lidx g k)))), (0, .ref (ad_36 0)), (1, .long (lN (Sx' w K ro K 6))), (3, .ref (ad_36 74)), (4, .int (nI (DF (exN w ro K) w g + df (exN w ro K) w g k))), (5, .int (nI (g))), (7, .int (nI (gz g))), (8, .long (lN (gm (exN w ro K) g (gz g)))), (10, .int (nI (k)))]) hx hb dL_isTrained_173 hl (by decide) rfl (fun ls hl => ?_)
                          refine lv_lload hx hb dL_isTrained_175 (lv_at hl 9 rfl) ?_
                          refine q_lc 0 hx hb dL_isTrained_177 (by decide) ?_
                          refine q_lcmp hx hb dL_isTrained_178 ?_
                          refine q_lle (tgt := 219) hx hb dL_isTrained_179 (by decide) (by omega) (by decide) (fun c_179 => ?_) (fun c_179 => ?_)
                          ·
                            have hl : lv_has ls 15 [(14, .int (nI (tnew (exN w ro K) w (lidx g k)))), (12, .long (lN (3 * (exN w ro K (lidx g k))))), (11, .int (nI (w (lidx g k)))), (0, .ref (ad_36 0)), (1, .long (lN (Sx' w K ro K 6))), (3, .ref (ad_36 74)), (4, .int (nI (DF (exN w ro K) w g + df (exN w ro K) w g k))), (5, .int (nI (g))), (7, .int (nI (gz g))), (8, .long (lN (gm (exN w ro K) g (gz g)))), (10, .int (nI (k)))] := by rw [show tnew (exN w ro K) w (lidx g k) = w (lidx g k) from by rw [tnew_l c_49 c_143, if_pos (show gm (exN w ro K) g (gz g) = 0 by omega)]]; exact hl
                            have htn : tnew (exN w ro K) w (lidx g k) < 2 ^ 31 := Nat.lt_of_le_of_lt (tnew_le hw3 _) (by decide)
                            refine lv_aload_n hx hb dL_isTrained_219 rfl (lv_at hl 5 rfl) ?_
                            refine lv_iload hx hb dL_isTrained_220 (lv_at hl 7 rfl) ?_
                            refine lv_iload hx hb dL_isTrained_222 (lv_at hl 10 rfl) ?_
                            refine q_kI0 (q_rS (As := [.int (nI (g)), .int (nI (k))]) (rest := [.ref (ad_36 74)]) hC hW mw_L_at gw_431 (k_at l G 75 ad_36 H.size I_165 L_165 R_165 g k (by first | omega | assumption) (by first | omega | assumption)) ⟨rfl, rfl⟩ ⟨Nat.le_of_ble_eq_true rfl, Nat.le_of_ble_eq_true rfl⟩ ⟨(Nat.le_of_ble_eq_true rfl), (Nat.le_of_ble_eq_true rfl)⟩ hl.1 rfl rfl (Nat.le_of_ble_eq_true rfl) dL_isTrained_224) hW (fun r_224 H locs hp hW => ?_)
                            subst hp
                            refine lv_iload hx hb dL_isTrained_227 (lv_at hl 0 rfl) ?_
                            have hTh := thc (hG 74 (by decide)).1 hTh
                            have hG : Fr7 I_165 I_165 L_165 L_165 R_165 R_165 := fr_0
                            refine q_iast (x := 74) (i := latx g k) (v := nI (tnew (exN w ro K) w (lidx g k))) hC hW (by omega) kd_74 (latx_lt c_49 c_143) dL_isTrained_229 (fun H locs hW => ?_)
                            have hTh := ThC_s hTh c_49 c_143
                            have hA := InvA_hi hA (fun a ha => up2_ne (j := latx g k) (x := nI (tnew (exN w ro K) w (lidx g k))) (show a ≠ 74 by omega)) (fun _ _ => rfl) (fun _ _ => rfl)
                            have hG : Fr7 (up2 I_165 74 (latx g k) (nI (tnew (exN w ro K) w (lidx g k)))) (up2 I_165 74 (latx g k) (nI (tnew (exN w ro K) w (lidx g k)))) L_165 L_165 R_165 R_165 := fr_0
                            refine lv_iload hx hb dL_isTrained_230 (lv_at hl 6 rfl) ?_
                            refine lv_iload hx hb dL_isTrained_232 (lv_at hl 0 rfl) ?_
                            refine lv_iload hx hb dL_isTrained_234 (lv_at hl 2 rfl) ?_
                            refine q_ceq (tgt := 243) hx hb dL_isTrained_236 (by decide) (by first | omega | exact Nat.lt_of_le_of_lt (hw3 _) (by decide) | exact Nat.lt_of_lt_of_le (hr4 _) (by decide) | exact Nat.lt_of_le_of_lt (bp_le _) (by decide) | assumption) (by first | omega | exact Nat.lt_of_le_of_lt (hw3 _) (by decide) | exact Nat.lt_of_lt_of_le (hr4 _) (by decide) | exact Nat.lt_of_le_of_lt (bp_le _) (by decide) | assumption) (fun c_236 => ?_) (fun c_236 => ?_)
                            ·
                              refine q_ic 0 hx hb dL_isTrained_243 (by decide) ?_
                              refine q_iadd hx hb dL_isTrained_244 ?_
                              refine q_top (v2 := .int (nI (DF (exN w ro K) w g + df (exN w ro K) w g (k + 1)))) (congrArg (fun z => Value.int (nI z)) (show (DF (exN w ro K) w g + df (exN w ro K) w g k) + 0 = DF (exN w ro K) w g + df (exN w ro K) w g (k + 1) from by rw [show df (exN w ro K) w g (k + 1) = df (exN w ro K) w g k + (if tnew (exN w ro K) w (lidx g k) = w (lidx g k) then 0 else 1) from rfl, if_pos c_236, Nat.add_assoc])) ?_
                              refine lv_istore (lv' := [(4, .int (nI (DF (exN w ro K) w g + df (exN w ro K) w g (k + 1)))), (14, .int (nI (tnew (exN w ro K) w (lidx g k)))), (12, .long (lN (3 * (exN w ro K (lidx g k))))), (11, .int (nI (w (lidx g k)))), (0, .ref (ad_36 0)), (1, .long (lN (Sx' w K ro K 6))), (3, .ref (ad_36 74)), (5, .int (nI (g))), (7, .int (nI (gz g))), (8, .long (lN (gm (exN w ro K) g (gz g)))), (10, .int (nI (k)))]) hx hb dL_isTrained_245 hl (by decide) rfl (fun ls hl => ?_)
                              refine q_iinc (z2 := k + 1) (lv' := [(10, .int (nI (k + 1))), (4, .int (nI (DF (exN w ro K) w g + df (exN w ro K) w g (k + 1)))), (14, .int (nI (tnew (exN w ro K) w (lidx g k)))), (12, .long (lN (3 * (exN w ro K (lidx g k))))), (11, .int (nI (w (lidx g k)))), (0, .ref (ad_36 0)), (1, .long (lN (Sx' w K ro K 6))), (3, .ref (ad_36 74)), (5, .int (nI (g))), (7, .int (nI (gz g))), (8, .long (lN (gm (exN w ro K) g (gz g))))]) hx hb dL_isTrained_247 hl (k := 10) rfl (inc_up _ 1 (by decide)) (by decide) rfl (fun ls hl => ?_)
                              refine lv_goto (tgt := 139) hx hb dL_isTrained_250 (by decide) ?_
                              exact ih_139 (k + 1) (up2 I_165 74 (latx g k) (nI (tnew (exN w ro K) w (lidx g k)))) L_165 R_165 (by omega) (by omega) hA (thc (hG 74 (by decide)).1 hTh) _ _ hW _ (lv_sub hl [5, 6, 7, 1, 8, 9, 10, 0] rfl)
                            ·
                              refine q_ic 1 hx hb dL_isTrained_239 (by decide) ?_
                              refine lv_goto (tgt := 244) hx hb dL_isTrained_240 (by decide) ?_
                              refine q_iadd hx hb dL_isTrained_244 ?_
                              refine q_top (v2 := .int (nI (DF (exN w ro K) w g + df (exN w ro K) w g (k + 1)))) (congrArg (fun z => Value.int (nI z)) (show (DF (exN w ro K) w g + df (exN w ro K) w g k) + 1 = DF (exN w ro K) w g + df (exN w ro K) w g (k + 1) from by rw [show df (exN w ro K) w g (k + 1) = df (exN w ro K) w g k + (if tnew (exN w ro K) w (lidx g k) = w (lidx g k) then 0 else 1) from rfl, if_neg c_236, Nat.add_assoc])) ?_
                              refine lv_istore (lv' := [(4, .int (nI (DF (exN w ro K) w g + df (exN w ro K) w g (k + 1)))), (14, .int (nI (tnew (exN w ro K) w (lidx g k)))), (12, .long (lN (3 * (exN w ro K (lidx g k))))), (11, .int (nI (w (lidx g k)))), (0, .ref (ad_36 0)), (1, .long (lN (Sx' w K ro K 6))), (3, .ref (ad_36 74)), (5, .int (nI (g))), (7, .int (nI (gz g))), (8, .long (lN (gm (exN w ro K) g (gz g)))), (10, .int (nI (k)))]) hx hb dL_isTrained_245 hl (by decide) rfl (fun ls hl => ?_)
                              refine q_iinc (z2 := k + 1) (lv' := [(10, .int (nI (k + 1))), (4, .int (nI (DF (exN w ro K) w g + df (exN w ro K) w g (k + 1)))), (14, .int (nI (tnew (exN w ro K) w (lidx g k)))), (12, .long (lN (3 * (exN w ro K (lidx g k))))), (11, .int (nI (w (lidx g k)))), (0, .ref (ad_36 0)), (1, .long (lN (Sx' w K ro K 6))), (3, .ref (ad_36 74)), (5, .int (nI (g))), (7, .int (nI (gz g))), (8, .long (lN (gm (exN w ro K) g (gz g))))]) hx hb dL_isTrained_247 hl (k := 10) rfl (inc_up _ 1 (by decide)) (by decide) rfl (fun ls hl => ?_)
                              refine lv_goto (tgt := 139) hx hb dL_isTrained_250 (by decide) ?_
                              exact ih_139 (k + 1) (up2 I_165 74 (latx g k) (nI (tnew (exN w ro K) w (lidx g k)))) L_165 R_165 (by omega) (by omega) hA (thc (hG 74 (by decide)).1 hTh) _ _ hW _ (lv_sub hl [5, 6, 7, 1, 8, 9, 10, 0] rfl)
                          ·
                            have hGM0 : 0 < gm (exN w ro K) g (gz g) := c_179
                            have hEk : exN w ro K (lidx g k) ≤ gm (exN w ro K) g (gz g) := gm_ge (exN w ro K) g (gz g) c_143
                            have hq3 : (3 * exN w ro K (lidx g k)) / (gm (exN w ro K) g (gz g)) ≤ 3 := q3_le hGM0 hEk
                            have hq31 : (3 * exN w ro K (lidx g k)) / (gm (exN w ro K) g (gz g)) < 2 ^ 31 := Nat.lt_of_le_of_lt hq3 (by decide)
                            have hE3 : 3 * exN w ro K (lidx g k) < 2 ^ 63 := by have := hEB (lidx g k); omega
                            have hrr := q3_r (x := exN w ro K (lidx g k)) hGM0
                            refine lv_lload hx hb dL_isTrained_182 (lv_at hl 1 rfl) ?_
                            refine lv_lload hx hb dL_isTrained_184 (lv_at hl 9 rfl) ?_
                            refine lv_ldiv hx hb dL_isTrained_186 (fun q => (Nat.ne_of_gt hGM0) ((pk_lEQ (by omega) (by decide)).mp (show lN (gm (exN w ro K) g (gz g)) = lN 0 from q))) ?_
                            refine q_top (v2 := .long (lN ((3 * exN w ro K (lidx g k)) / (gm (exN w ro K) g (gz g))))) (congrArg Value.long (pk_lDiv hE3 hGM0 (by omega))) ?_
                            refine q_l2i hx hb dL_isTrained_187 ?_
                            refine lv_istore (lv' := [(14, .int (nI ((3 * exN w ro K (lidx g k)) / (gm (exN w ro K) g (gz g))))), (12, .long (lN (3 * (exN w ro K (lidx g k))))), (11, .int (nI (w (lidx g k)))), (0, .ref (ad_36 0)), (1, .long (lN (Sx' w K ro K 6))), (3, .ref (ad_36 74)), (4, .int (nI (DF (exN w ro K) w g + df (exN w ro K) w g k))), (5, .int (nI (g))), (7, .int (nI (gz g))), (8, .long (lN (gm (exN w ro K) g (gz g)))), (10, .int (nI (k)))]) hx hb dL_isTrained_188 hl (by decide) rfl (fun ls hl => ?_)
                            refine lv_iload hx hb dL_isTrained_190 (lv_at hl 0 rfl) ?_
                            refine lv_ldc2 (v := lN 2) hx hb hC.2.2.2.1 (hC.2.2.2.2 _ gw_430) dL_isTrained_192 ?_
                            refine lv_lload hx hb dL_isTrained_195 (lv_at hl 1 rfl) ?_
                            refine lv_iload hx hb dL_isTrained_197 (lv_at hl 0 rfl) ?_
                            refine q_i2l hx hb dL_isTrained_199 (by first | omega | exact Nat.lt_of_le_of_lt (hw3 _) (by decide) | exact Nat.lt_of_lt_of_le (hr4 _) (by decide) | exact Nat.lt_of_le_of_lt (bp_le _) (by decide) | assumption) ?_
                            refine lv_lload hx hb dL_isTrained_200 (lv_at hl 9 rfl) ?_
                            refine q_lmul hx hb dL_isTrained_202 ?_
                            refine lv_lsub hx hb dL_isTrained_203 ?_
                            refine q_top (v2 := .long (lN (3 * exN w ro K (lidx g k) - (3 * exN w ro K (lidx g k)) / (gm (exN w ro K) g (gz g)) * (gm (exN w ro K) g (gz g))))) (congrArg Value.long (lN_sub (q3_m _ _))) ?_
                            refine q_lmul hx hb dL_isTrained_204 ?_
                            refine lv_lload hx hb dL_isTrained_205 (lv_at hl 9 rfl) ?_
                            refine q_lcmp hx hb dL_isTrained_207 ?_
                            refine q_llt (tgt := 215) hx hb dL_isTrained_208 (by decide) (show 2 * (3 * exN w ro K (lidx g k) - (3 * exN w ro K (lidx g k)) / (gm (exN w ro K) g (gz g)) * (gm (exN w ro K) g (gz g))) < 2 ^ 63 from by omega) (by omega) (fun c_208 => ?_) (fun c_208 => ?_)
                            ·
                              refine q_ic 0 hx hb dL_isTrained_215 (by decide) ?_
                              refine q_iadd hx hb dL_isTrained_216 ?_
                              refine q_top (v2 := .int (nI (tnew (exN w ro K) w (lidx g k)))) (congrArg (fun z => Value.int (nI z)) (show (3 * exN w ro K (lidx g k)) / (gm (exN w ro K) g (gz g)) + 0 = tnew (exN w ro K) w (lidx g k) from by rw [tnew_l c_49 c_143, if_neg (Nat.ne_of_gt hGM0), tr_q hGM0, if_neg (Nat.not_le.mpr c_208)])) ?_
                              refine lv_istore (lv' := [(14, .int (nI (tnew (exN w ro K) w (lidx g k)))), (12, .long (lN (3 * (exN w ro K (lidx g k))))), (11, .int (nI (w (lidx g k)))), (0, .ref (ad_36 0)), (1, .long (lN (Sx' w K ro K 6))), (3, .ref (ad_36 74)), (4, .int (nI (DF (exN w ro K) w g + df (exN w ro K) w g k))), (5, .int (nI (g))), (7, .int (nI (gz g))), (8, .long (lN (gm (exN w ro K) g (gz g)))), (10, .int (nI (k)))]) hx hb dL_isTrained_217 hl (by decide) rfl (fun ls hl => ?_)
                              have htn : tnew (exN w ro K) w (lidx g k) < 2 ^ 31 := Nat.lt_of_le_of_lt (tnew_le hw3 _) (by decide)
                              refine lv_aload_n hx hb dL_isTrained_219 rfl (lv_at hl 5 rfl) ?_
                              refine lv_iload hx hb dL_isTrained_220 (lv_at hl 7 rfl) ?_
                              refine lv_iload hx hb dL_isTrained_222 (lv_at hl 10 rfl) ?_
                              refine q_kI0 (q_rS (As := [.int (nI (g)), .int (nI (k))]) (rest := [.ref (ad_36 74)]) hC hW mw_L_at gw_431 (k_at l G 75 ad_36 H.size I_165 L_165 R_165 g k (by first | omega | assumption) (by first | omega | assumption)) ⟨rfl, rfl⟩ ⟨Nat.le_of_ble_eq_true rfl, Nat.le_of_ble_eq_true rfl⟩ ⟨(Nat.le_of_ble_eq_true rfl), (Nat.le_of_ble_eq_true rfl)⟩ hl.1 rfl rfl (Nat.le_of_ble_eq_true rfl) dL_isTrained_224) hW (fun r_224 H locs hp hW => ?_)
                              subst hp
                              refine lv_iload hx hb dL_isTrained_227 (lv_at hl 0 rfl) ?_
                              have hTh := thc (hG 74 (by decide)).1 hTh
                              have hG : Fr7 I_165 I_165 L_165 L_165 R_165 R_165 := fr_0
                              refine q_iast (x := 74) (i := latx g k) (v := nI (tnew (exN w ro K) w (lidx g k))) hC hW (by omega) kd_74 (latx_lt c_49 c_143) dL_isTrained_229 (fun H locs hW => ?_)
                              have hTh := ThC_s hTh c_49 c_143
                              have hA := InvA_hi hA (fun a ha => up2_ne (j := latx g k) (x := nI (tnew (exN w ro K) w (lidx g k))) (show a ≠ 74 by omega)) (fun _ _ => rfl) (fun _ _ => rfl)
                              have hG : Fr7 (up2 I_165 74 (latx g k) (nI (tnew (exN w ro K) w (lidx g k)))) (up2 I_165 74 (latx g k) (nI (tnew (exN w ro K) w (lidx g k)))) L_165 L_165 R_165 R_165 := fr_0
                              refine lv_iload hx hb dL_isTrained_230 (lv_at hl 6 rfl) ?_
                              refine lv_iload hx hb dL_isTrained_232 (lv_at hl 0 rfl) ?_
                              refine lv_iload hx hb dL_isTrained_234 (lv_at hl 2 rfl) ?_
                              refine q_ceq (tgt := 243) hx hb dL_isTrained_236 (by decide) (by first | omega | exact Nat.lt_of_le_of_lt (hw3 _) (by decide) | exact Nat.lt_of_lt_of_le (hr4 _) (by decide) | exact Nat.lt_of_le_of_lt (bp_le _) (by decide) | assumption) (by first | omega | exact Nat.lt_of_le_of_lt (hw3 _) (by decide) | exact Nat.lt_of_lt_of_le (hr4 _) (by decide) | exact Nat.lt_of_le_of_lt (bp_le _) (by decide) | assumption) (fun c_236 => ?_) (fun c_236 => ?_)
                              ·
                                refine q_ic 0 hx hb dL_isTrained_243 (by decide) ?_
                                refine q_iadd hx hb dL_isTrained_244 ?_
                                refine q_top (v2 := .int (nI (DF (exN w ro K) w g + df (exN w ro K) w g (k + 1)))) (congrArg (fun z => Value.int (nI z)) (show (DF (exN w ro K) w g + df (exN w ro K) w g k) + 0 = DF (exN w ro K) w g + df (exN w ro K) w g (k + 1) from by rw [show df (exN w ro K) w g (k + 1) = df (exN w ro K) w g k + (if tnew (exN w ro K) w (lidx g k) = w (lidx g k) then 0 else 1) from rfl, if_pos c_236, Nat.add_assoc])) ?_
                                refine lv_istore (lv' := [(4, .int (nI (DF (exN w ro K) w g + df (exN w ro K) w g (k + 1)))), (14, .int (nI (tnew (exN w ro K) w (lidx g k)))), (12, .long (lN (3 * (exN w ro K (lidx g k))))), (11, .int (nI (w (lidx g k)))), (0, .ref (ad_36 0)), (1, .long (lN (Sx' w K ro K 6))), (3, .ref (ad_36 74)), (5, .int (nI (g))), (7, .int (nI (gz g))), (8, .long (lN (gm (exN w ro K) g (gz g)))), (10, .int (nI (k)))]) hx hb dL_isTrained_245 hl (by decide) rfl (fun ls hl => ?_)
                                refine q_iinc (z2 := k + 1) (lv' := [(10, .int (nI (k + 1))), (4, .int (nI (DF (exN w ro K) w g + df (exN w ro K) w g (k + 1)))), (14, .int (nI (tnew (exN w ro K) w (lidx g k)))), (12, .long (lN (3 * (exN w ro K (lidx g k))))), (11, .int (nI (w (lidx g k)))), (0, .ref (ad_36 0)), (1, .long (lN (Sx' w K ro K 6))), (3, .ref (ad_36 74)), (5, .int (nI (g))), (7, .int (nI (gz g))), (8, .long (lN (gm (exN w ro K) g (gz g))))]) hx hb dL_isTrained_247 hl (k := 10) rfl (inc_up _ 1 (by decide)) (by decide) rfl (fun ls hl => ?_)
                                refine lv_goto (tgt := 139) hx hb dL_isTrained_250 (by decide) ?_
                                exact ih_139 (k + 1) (up2 I_165 74 (latx g k) (nI (tnew (exN w ro K) w (lidx g k)))) L_165 R_165 (by omega) (by omega) hA (thc (hG 74 (by decide)).1 hTh) _ _ hW _ (lv_sub hl [5, 6, 7, 1, 8, 9, 10, 0] rfl)
                              ·
                                refine q_ic 1 hx hb dL_isTrained_239 (by decide) ?_
                                refine lv_goto (tgt := 244) hx hb dL_isTrained_240 (by decide) ?_
                                refine q_iadd hx hb dL_isTrained_244 ?_
                                refine q_top (v2 := .int (nI (DF (exN w ro K) w g + df (exN w ro K) w g (k + 1)))) (congrArg (fun z => Value.int (nI z)) (show (DF (exN w ro K) w g + df (exN w ro K) w g k) + 1 = DF (exN w ro K) w g + df (exN w ro K) w g (k + 1) from by rw [show df (exN w ro K) w g (k + 1) = df (exN w ro K) w g k + (if tnew (exN w ro K) w (lidx g k) = w (lidx g k) then 0 else 1) from rfl, if_neg c_236, Nat.add_assoc])) ?_
                                refine lv_istore (lv' := [(4, .int (nI (DF (exN w ro K) w g + df (exN w ro K) w g (k + 1)))), (14, .int (nI (tnew (exN w ro K) w (lidx g k)))), (12, .long (lN (3 * (exN w ro K (lidx g k))))), (11, .int (nI (w (lidx g k)))), (0, .ref (ad_36 0)), (1, .long (lN (Sx' w K ro K 6))), (3, .ref (ad_36 74)), (5, .int (nI (g))), (7, .int (nI (gz g))), (8, .long (lN (gm (exN w ro K) g (gz g)))), (10, .int (nI (k)))]) hx hb dL_isTrained_245 hl (by decide) rfl (fun ls hl => ?_)
                                refine q_iinc (z2 := k + 1) (lv' := [(10, .int (nI (k + 1))), (4, .int (nI (DF (exN w ro K) w g + df (exN w ro K) w g (k + 1)))), (14, .int (nI (tnew (exN w ro K) w (lidx g k)))), (12, .long (lN (3 * (exN w ro K (lidx g k))))), (11, .int (nI (w (lidx g k)))), (0, .ref (ad_36 0)), (1, .long (lN (Sx' w K ro K 6))), (3, .ref (ad_36 74)), (5, .int (nI (g))), (7, .int (nI (gz g))), (8, .long (lN (gm (exN w ro K) g (gz g))))]) hx hb dL_isTrained_247 hl (k := 10) rfl (inc_up _ 1 (by decide)) (by decide) rfl (fun ls hl => ?_)
                                refine lv_goto (tgt := 139) hx hb dL_isTrained_250 (by decide) ?_
                                exact ih_139 (k + 1) (up2 I_165 74 (latx g k) (nI (tnew (exN w ro K) w (lidx g k)))) L_165 R_165 (by omega) (by omega) hA (thc (hG 74 (by decide)).1 hTh) _ _ hW _ (lv_sub hl [5, 6, 7, 1, 8, 9, 10, 0] rfl)
                            ·
                              refine q_ic 1 hx hb dL_isTrained_211 (by decide) ?_
                              refine lv_goto (tgt := 216) hx hb dL_isTrained_212 (by decide) ?_
                              refine q_iadd hx hb dL_isTrained_216 ?_
                              refine q_top (v2 := .int (nI (tnew (exN w ro K) w (lidx g k)))) (congrArg (fun z => Value.int (nI z)) (show (3 * exN w ro K (lidx g k)) / (gm (exN w ro K) g (gz g)) + 1 = tnew (exN w ro K) w (lidx g k) from by rw [tnew_l c_49 c_143, if_neg (Nat.ne_of_gt hGM0), tr_q hGM0, if_pos c_208])) ?_
                              refine lv_istore (lv' := [(14, .int (nI (tnew (exN w ro K) w (lidx g k)))), (12, .long (lN (3 * (exN w ro K (lidx g k))))), (11, .int (nI (w (lidx g k)))), (0, .ref (ad_36 0)), (1, .long (lN (Sx' w K ro K 6))), (3, .ref (ad_36 74)), (4, .int (nI (DF (exN w ro K) w g + df (exN w ro K) w g k))), (5, .int (nI (g))), (7, .int (nI (gz g))), (8, .long (lN (gm (exN w ro K) g (gz g)))), (10, .int (nI (k)))]) hx hb dL_isTrained_217 hl (by decide) rfl (fun ls hl => ?_)
                              have htn : tnew (exN w ro K) w (lidx g k) < 2 ^ 31 := Nat.lt_of_le_of_lt (tnew_le hw3 _) (by decide)
                              refine lv_aload_n hx hb dL_isTrained_219 rfl (lv_at hl 5 rfl) ?_
                              refine lv_iload hx hb dL_isTrained_220 (lv_at hl 7 rfl) ?_
                              refine lv_iload hx hb dL_isTrained_222 (lv_at hl 10 rfl) ?_
                              refine q_kI0 (q_rS (As := [.int (nI (g)), .int (nI (k))]) (rest := [.ref (ad_36 74)]) hC hW mw_L_at gw_431 (k_at l G 75 ad_36 H.size I_165 L_165 R_165 g k (by first | omega | assumption) (by first | omega | assumption)) ⟨rfl, rfl⟩ ⟨Nat.le_of_ble_eq_true rfl, Nat.le_of_ble_eq_true rfl⟩ ⟨(Nat.le_of_ble_eq_true rfl), (Nat.le_of_ble_eq_true rfl)⟩ hl.1 rfl rfl (Nat.le_of_ble_eq_true rfl) dL_isTrained_224) hW (fun r_224 H locs hp hW => ?_)
                              subst hp
                              refine lv_iload hx hb dL_isTrained_227 (lv_at hl 0 rfl) ?_
                              have hTh := thc (hG 74 (by decide)).1 hTh
                              have hG : Fr7 I_165 I_165 L_165 L_165 R_165 R_165 := fr_0
                              refine q_iast (x := 74) (i := latx g k) (v := nI (tnew (exN w ro K) w (lidx g k))) hC hW (by omega) kd_74 (latx_lt c_49 c_143) dL_isTrained_229 (fun H locs hW => ?_)
                              have hTh := ThC_s hTh c_49 c_143
                              have hA := InvA_hi hA (fun a ha => up2_ne (j := latx g k) (x := nI (tnew (exN w ro K) w (lidx g k))) (show a ≠ 74 by omega)) (fun _ _ => rfl) (fun _ _ => rfl)
                              have hG : Fr7 (up2 I_165 74 (latx g k) (nI (tnew (exN w ro K) w (lidx g k)))) (up2 I_165 74 (latx g k) (nI (tnew (exN w ro K) w (lidx g k)))) L_165 L_165 R_165 R_165 := fr_0
                              refine lv_iload hx hb dL_isTrained_230 (lv_at hl 6 rfl) ?_
                              refine lv_iload hx hb dL_isTrained_232 (lv_at hl 0 rfl) ?_
                              refine lv_iload hx hb dL_isTrained_234 (lv_at hl 2 rfl) ?_
                              refine q_ceq (tgt := 243) hx hb dL_isTrained_236 (by decide) (by first | omega | exact Nat.lt_of_le_of_lt (hw3 _) (by decide) | exact Nat.lt_of_lt_of_le (hr4 _) (by decide) | exact Nat.lt_of_le_of_lt (bp_le _) (by decide) | assumption) (by first | omega | exact Nat.lt_of_le_of_lt (hw3 _) (by decide) | exact Nat.lt_of_lt_of_le (hr4 _) (by decide) | exact Nat.lt_of_le_of_lt (bp_le _) (by decide) | assumption) (fun c_236 => ?_) (fun c_236 => ?_)
                              ·
                                refine q_ic 0 hx hb dL_isTrained_243 (by decide) ?_
                                refine q_iadd hx hb dL_isTrained_244 ?_
                                refine q_top (v2 := .int (nI (DF (exN w ro K) w g + df (exN w ro K) w g (k + 1)))) (congrArg (fun z => Value.int (nI z)) (show (DF (exN w ro K) w g + df (exN w ro K) w g k) + 0 = DF (exN w ro K) w g + df (exN w ro K) w g (k + 1) from by rw [show df (exN w ro K) w g (k + 1) = df (exN w ro K) w g k + (if tnew (exN w ro K) w (lidx g k) = w (lidx g k) then 0 else 1) from rfl, if_pos c_236, Nat.add_assoc])) ?_
                                refine lv_istore (lv' := [(4, .int (nI (DF (exN w ro K) w g + df (exN w ro K) w g (k + 1)))), (14, .int (nI (tnew (exN w ro K) w (lidx g k)))), (12, .long (lN (3 * (exN w ro K (lidx g k))))), (11, .int (nI (w (lidx g k)))), (0, .ref (ad_36 0)), (1, .long (lN (Sx' w K ro K 6))), (3, .ref (ad_36 74)), (5, .int (nI (g))), (7, .int (nI (gz g))), (8, .long (lN (gm (exN w ro K) g (gz g)))), (10, .int (nI (k)))]) hx hb dL_isTrained_245 hl (by decide) rfl (fun ls hl => ?_)
                                refine q_iinc (z2 := k + 1) (lv' := [(10, .int (nI (k + 1))), (4, .int (nI (DF (exN w ro K) w g + df (exN w ro K) w g (k + 1)))), (14, .int (nI (tnew (exN w ro K) w (lidx g k)))), (12, .long (lN (3 * (exN w ro K (lidx g k))))), (11, .int (nI (w (lidx g k)))), (0, .ref (ad_36 0)), (1, .long (lN (Sx' w K ro K 6))), (3, .ref (ad_36 74)), (5, .int (nI (g))), (7, .int (nI (gz g))), (8, .long (lN (gm (exN w ro K) g (gz g))))]) hx hb dL_isTrained_247 hl (k := 10) rfl (inc_up _ 1 (by decide)) (by decide) rfl (fun ls hl => ?_)
                                refine lv_goto (tgt := 139) hx hb dL_isTrained_250 (by decide) ?_
                                exact ih_139 (k + 1) (up2 I_165 74 (latx g k) (nI (tnew (exN w ro K) w (lidx g k)))) L_165 R_165 (by omega) (by omega) hA (thc (hG 74 (by decide)).1 hTh) _ _ hW _ (lv_sub hl [5, 6, 7, 1, 8, 9, 10, 0] rfl)
                              ·
                                refine q_ic 1 hx hb dL_isTrained_239 (by decide) ?_
                                refine lv_goto (tgt := 244) hx hb dL_isTrained_240 (by decide) ?_
                                refine q_iadd hx hb dL_isTrained_244 ?_
                                refine q_top (v2 := .int (nI (DF (exN w ro K) w g + df (exN w ro K) w g (k + 1)))) (congrArg (fun z => Value.int (nI z)) (show (DF (exN w ro K) w g + df (exN w ro K) w g k) + 1 = DF (exN w ro K) w g + df (exN w ro K) w g (k + 1) from by rw [show df (exN w ro K) w g (k + 1) = df (exN w ro K) w g k + (if tnew (exN w ro K) w (lidx g k) = w (lidx g k) then 0 else 1) from rfl, if_neg c_236, Nat.add_assoc])) ?_
                                refine lv_istore (lv' := [(4, .int (nI (DF (exN w ro K) w g + df (exN w ro K) w g (k + 1)))), (14, .int (nI (tnew (exN w ro K) w (lidx g k)))), (12, .long (lN (3 * (exN w ro K (lidx g k))))), (11, .int (nI (w (lidx g k)))), (0, .ref (ad_36 0)), (1, .long (lN (Sx' w K ro K 6))), (3, .ref (ad_36 74)), (5, .int (nI (g))), (7, .int (nI (gz g))), (8, .long (lN (gm (exN w ro K) g (gz g)))), (10, .int (nI (k)))]) hx hb dL_isTrained_245 hl (by decide) rfl (fun ls hl => ?_)
                                refine q_iinc (z2 := k + 1) (lv' := [(10, .int (nI (k + 1))), (4, .int (nI (DF (exN w ro K) w g + df (exN w ro K) w g (k + 1)))), (14, .int (nI (tnew (exN w ro K) w (lidx g k)))), (12, .long (lN (3 * (exN w ro K (lidx g k))))), (11, .int (nI (w (lidx g k)))), (0, .ref (ad_36 0)), (1, .long (lN (Sx' w K ro K 6))), (3, .ref (ad_36 74)), (5, .int (nI (g))), (7, .int (nI (gz g))), (8, .long (lN (gm (exN w ro K) g (gz g))))]) hx hb dL_isTrained_247 hl (k := 10) rfl (inc_up _ 1 (by decide)) (by decide) rfl (fun ls hl => ?_)
                                refine lv_goto (tgt := 139) hx hb dL_isTrained_250 (by decide) ?_
                                exact ih_139 (k + 1) (up2 I_165 74 (latx g k) (nI (tnew (exN w ro K) w (lidx g k)))) L_165 R_165 (by omega) (by omega) hA (thc (hG 74 (by decide)).1 hTh) _ _ hW _ (lv_sub hl [5, 6, 7, 1, 8, 9, 10, 0] rfl)
                    exact lp_139 (gz g + 1) 0 J95 M95 Q95 (by omega) (Nat.zero_le _) hA (thc (hG 74 (by decide)).1 hTh) _ _ hW _ (lv_sub hl [1, 2, 3, 4, 5, 6, 7, 0] rfl)
                  ·
                    have hkz : (g < 7 → k < 6) ∧ (7 ≤ g → k < 4) := by have h9 := c_99; unfold gz at h9; split at h9 <;> omega
                    refine lv_aload_n hx hb dL_isTrained_102 rfl (lv_at hl 0 rfl) ?_
                    refine lv_iload hx hb dL_isTrained_103 (lv_at hl 4 rfl) ?_
                    refine lv_iload hx hb dL_isTrained_105 (lv_at hl 7 rfl) ?_
                    refine lv_lload_n hx hb dL_isTrained_107 rfl (lv_at hl 1 rfl) ?_
                    refine q_kL2 (q_rS (As := [.ref (ad_36 0), .int (nI (g)), .int (nI (k)), .long (lN (Sx' w K ro K 6))]) (rest := []) hC hW mw_L_number gw_423 (k_lnumber l G 75 ad_36 H.size J95 M95 Q95 g k w K ro hc hi sv pn ch hA (by first | omega | assumption) (by first | omega | assumption) hT0) ⟨rfl, rfl⟩ ⟨Nat.le_of_ble_eq_true rfl, Nat.le_of_ble_eq_true rfl⟩ ⟨(Nat.le_of_ble_eq_true rfl), (Nat.le_of_ble_eq_true rfl)⟩ hl.1 rfl rfl (Nat.le_of_ble_eq_true rfl) dL_isTrained_108) hW (fun r_108 n_108 ad_108 I_108 L_108 R_108 H locs hp hW => ?_)
                    obtain ⟨hz, rfl, rfl, hA, hF⟩ := PRl_use hp
                    have hG := fr_t hF hG
                    have hz : r_108 = lN (exN w ro K (lidx g k)) := hz
                    subst hz
                    refine lv_lstore (lv' := [(11, .long (lN (exN w ro K (lidx g k)))), (0, .ref (ad_36 0)), (1, .long (lN (Sx' w K ro K 6))), (3, .ref (ad_36 74)), (4, .int (nI (DF (exN w ro K) w g))), (5, .int (nI (g))), (7, .int (nI (gz g))), (8, .long (lN (gm (exN w ro K) g k))), (10, .int (nI (k)))]) hx hb dL_isTrained_111 hl (by decide) rfl (fun ls hl => ?_)
                    refine lv_lload hx hb dL_isTrained_113 (lv_at hl 0 rfl) ?_
                    refine lv_lload hx hb dL_isTrained_115 (lv_at hl 7 rfl) ?_
                    refine q_lcmp hx hb dL_isTrained_117 ?_
                    refine q_lle (tgt := 126) hx hb dL_isTrained_118 (by decide) (Nat.lt_of_le_of_lt (hEB _) (by decide)) (Nat.lt_of_le_of_lt (gm_le hEB g k) (by decide)) (fun c_118 => ?_) (fun c_118 => ?_)
                    ·
                      refine lv_lload hx hb dL_isTrained_126 (lv_at hl 7 rfl) ?_
                      refine lv_lstore (lv' := [(8, .long (lN (gm (exN w ro K) g k))), (11, .long (lN (exN w ro K (lidx g k)))), (0, .ref (ad_36 0)), (1, .long (lN (Sx' w K ro K 6))), (3, .ref (ad_36 74)), (4, .int (nI (DF (exN w ro K) w g))), (5, .int (nI (g))), (7, .int (nI (gz g))), (10, .int (nI (k)))]) hx hb dL_isTrained_128 hl (by decide) rfl (fun ls hl => ?_)
                      have hl : lv_has ls 15 [(8, .long (lN (gm (exN w ro K) g (k + 1)))), (11, .long (lN (exN w ro K (lidx g k)))), (0, .ref (ad_36 0)), (1, .long (lN (Sx' w K ro K 6))), (3, .ref (ad_36 74)), (4, .int (nI (DF (exN w ro K) w g))), (5, .int (nI (g))), (7, .int (nI (gz g))), (10, .int (nI (k)))] := by rw [show gm (exN w ro K) g (k + 1) = gm (exN w ro K) g k from Nat.max_eq_left c_118]; exact hl
                      refine q_iinc (z2 := k + 1) (lv' := [(10, .int (nI (k + 1))), (8, .long (lN (gm (exN w ro K) g (k + 1)))), (11, .long (lN (exN w ro K (lidx g k)))), (0, .ref (ad_36 0)), (1, .long (lN (Sx' w K ro K 6))), (3, .ref (ad_36 74)), (4, .int (nI (DF (exN w ro K) w g))), (5, .int (nI (g))), (7, .int (nI (gz g)))]) hx hb dL_isTrained_130 hl (k := 8) rfl (inc_up _ 1 (by decide)) (by decide) rfl (fun ls hl => ?_)
                      refine lv_goto (tgt := 95) hx hb dL_isTrained_133 (by decide) ?_
                      exact ih_95 (k + 1) I_108 L_108 R_108 (by omega) (by omega) hA (thc (hG 74 (by decide)).1 hTh) _ _ hW _ (lv_sub hl [3, 4, 5, 6, 7, 8, 1, 0] rfl)
                    ·
                      refine lv_lload hx hb dL_isTrained_121 (lv_at hl 0 rfl) ?_
                      refine lv_goto (tgt := 128) hx hb dL_isTrained_123 (by decide) ?_
                      refine lv_lstore (lv' := [(8, .long (lN (exN w ro K (lidx g k)))), (11, .long (lN (exN w ro K (lidx g k)))), (0, .ref (ad_36 0)), (1, .long (lN (Sx' w K ro K 6))), (3, .ref (ad_36 74)), (4, .int (nI (DF (exN w ro K) w g))), (5, .int (nI (g))), (7, .int (nI (gz g))), (10, .int (nI (k)))]) hx hb dL_isTrained_128 hl (by decide) rfl (fun ls hl => ?_)
                      have hl : lv_has ls 15 [(8, .long (lN (gm (exN w ro K) g (k + 1)))), (11, .long (lN (exN w ro K (lidx g k)))), (0, .ref (ad_36 0)), (1, .long (lN (Sx' w K ro K 6))), (3, .ref (ad_36 74)), (4, .int (nI (DF (exN w ro K) w g))), (5, .int (nI (g))), (7, .int (nI (gz g))), (10, .int (nI (k)))] := by rw [show gm (exN w ro K) g (k + 1) = exN w ro K (lidx g k) from Nat.max_eq_right (Nat.le_of_lt c_118)]; exact hl
                      refine q_iinc (z2 := k + 1) (lv' := [(10, .int (nI (k + 1))), (8, .long (lN (gm (exN w ro K) g (k + 1)))), (11, .long (lN (exN w ro K (lidx g k)))), (0, .ref (ad_36 0)), (1, .long (lN (Sx' w K ro K 6))), (3, .ref (ad_36 74)), (4, .int (nI (DF (exN w ro K) w g))), (5, .int (nI (g))), (7, .int (nI (gz g)))]) hx hb dL_isTrained_130 hl (k := 8) rfl (inc_up _ 1 (by decide)) (by decide) rfl (fun ls hl => ?_)
                      refine lv_goto (tgt := 95) hx hb dL_isTrained_133 (by decide) ?_
                      exact ih_95 (k + 1) I_108 L_108 R_108 (by omega) (by omega) hA (thc (hG 74 (by decide)).1 hTh) _ _ hW _ (lv_sub hl [3, 4, 5, 6, 7, 8, 1, 0] rfl)
              exact lp_95 (gz g + 1) 0 J45 M45 Q45 (by omega) (Nat.zero_le _) hA (thc (hG 74 (by decide)).1 hTh) _ _ hW _ (lv_sub hl [4, 5, 6, 7, 8, 2, 1, 0] rfl)
      exact lp_45 (11 + 1) 0 (zr I_7 74 0) (zr L_7 74 0) (zr R_7 74 none) (by omega) (by omega) hA (thc (hG 74 (by decide)).1 hTh) _ _ hW _ (lv_sub hl [4, 3, 2, 1, 0] rfl)
    ·
      refine lv_aload_n hx hb dL_isTrained_19 rfl (lv_at hl 1 rfl) ?_
      refine q_kI2 (q_rV (As := []) (rest := []) (x := 0) hC hW mw_X5_train gw_406 (k_train l G 74 ad H.size I_7 L_7 R_7 w K ro hc hi sv pn ch hA) (by omega) (ct_o5 kd_0) rfl ⟨rfl, rfl⟩ ⟨Nat.le_of_ble_eq_true rfl, Nat.le_of_ble_eq_true rfl⟩ ⟨(Nat.le_of_ble_eq_true rfl), (Nat.le_of_ble_eq_true rfl)⟩ hl.1 rfl rfl (Nat.le_of_ble_eq_true rfl) dL_isTrained_20) hW (fun r_20 n_20 ad_20 I_20 L_20 R_20 H locs hp hW => ?_)
      obtain ⟨hz, rfl, rfl, hA, hF⟩ := PR_use hp
      have hft : aTrain ((w, K, ro), hc, hi, sv, pn, ch) = (-5, ((w, K, ro), hc, hi, sv, pn, ch)) := if_pos (show K = 0 ∨ aTot (w, K, ro) = 0 from Or.inr c_16)
      rw [hft] at hz hA
      have hA : InvA 74 I_20 L_20 R_20 ((w, K, ro), hc, hi, sv, pn, ch) := hA
      have hz : r_20 = -5 := hz
      subst hz
      have hG := fr_t hF hG
      refine lv_bipush (v := -5) hx hb dL_isTrained_23 (by decide) ?_
      refine lv_icmp_ne (tgt := 32) hx hb dL_isTrained_25 (by decide) (fun c_25 => absurd c_25 (by decide)) (fun c_25 => ?_)
      refine q_ic 1 hx hb dL_isTrained_28 (by decide) ?_
      refine lv_goto (tgt := 33) hx hb dL_isTrained_29 (by decide) ?_
      refine q_more (c2 := 1) (s2 := 64) (Nat.le_of_ble_eq_true rfl) (Nat.le_of_ble_eq_true rfl) ?_
      exact q_zret2 hC hW hr hlk0 rfl ⟨rfl, ((w, K, ro), hc, hi, sv, pn, ch), (by decide : 71 ≤ 74), fun _ _ => rfl, InvA_n hA (by decide)⟩ dL_isTrained_33
