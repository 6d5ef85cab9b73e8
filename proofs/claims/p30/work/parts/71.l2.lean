set_option maxRecDepth 100000 in
set_option maxHeartbeats 4000000 in
theorem k_areOdds0 (l : Launch) (G : Gx) (ad : Nat → Nat) (sz : Nat) (I : Ic) (L : Lc) (R : Rc)  (w : Nat → Nat) (K : Nat) (ro : Nat → Nat) (hc : Nat) (hi : Nat → CM) (sv : Nat → Option CM) (pn : Nat) (ch : Nat → Nat) (hA : InvA 74 I L R ((w, K, ro), hc, hi, sv, pn, ch)) (hT : aTot (w, K, ro) = 0) (hAh : ∀ p c, p < K → c < 4 → L 71 (4 * p + c) = lN (uB w ro (p + 1) c)) (hBe : ∀ p c, p < K → c < 4 → L 72 (4 * p + c) = lN (Sx' w K ro (K - (p + 1)) c)) : Met l yL_areOdds (Cond.code yL_areOdds cL_areOdds 11 (some .boolean) :: GW) ({ frames := 7, cells := 0, slots := 0, locals := 252 } : Room) (qPre G 74 ad sz I L R [.ref (ad 0), .ref (ad 71), .ref (ad 72), .long (lN (Sx' w K ro K 6))]) (qI2 G (qA 74 ad sz) (fun z u => PR 74 ad I L R (nI 1, ((w, K, ro), hc, hi, sv, pn, ch)) z u)) 0 0 (qA 74 ad sz) := by
  refine q_met (by decide) (Nat.le_of_ble_eq_true rfl) ?_
  intro p_ e_ s m_ below meth c_ hC hr hlk0 hin hsz hW ls hl
  subst hsz
  have hC : CallFix p_ m_ c_ cL_areOdds 11 s ([.ref (ad 0), .ref (ad 71), .ref (ad 72), .long (lN (Sx' w K ro K 6))] : List Value).toArray GW "CoinRowsLaw" := hC
  have hx := hC.1
  have hb := hC.2.1
  have hw : Wok w := hA.2.2.1.2.2.2.2.1
  have hw3 : ∀ i, w i ≤ 3 := hw.1
  have hk6 : K ≤ 6 := hA.2.2.1.2.2.2.1
  have hr4 : ∀ j, ro j < 4 := hA.2.2.1.2.2.2.2.2
  have hn71 := hA.1
  have hT63 : Sx' w K ro K 6 < 2 ^ 63 := Nat.lt_of_le_of_lt (Sx_b hw K K 6 hk6) (by decide)
  have hC31 : Cx' w K ro K 6 < 2 ^ 31 := Nat.lt_of_le_of_lt (Cx_b hw K K 6 hk6) (by decide)
  have hG : Fr7 I I L L R R := fr_0
  have hTz : Sx' w K ro K 6 = 0 := hT
  have hl : lv_has ls 11 [(0, .ref (ad 0)), (1, .ref (ad 71)), (2, .ref (ad 72)), (3, .long (lN (Sx' w K ro K 6)))] := hl
  refine lv_aload_n hx hb dL_areOdds_0 rfl (lv_at hl 0 rfl) ?_
  refine q_ic 0 hx hb dL_areOdds_1 (by decide) ?_
  refine q_kI2 (q_rV (As := [.int (nI 0)]) (rest := []) (x := 0) hC hW mw_X5_count gw_172 (k_count l G 74 ad s.heap.size I L R (nI 0) w K ro hc hi sv pn ch hA) (by omega) (ct_o5 kd_0) rfl ⟨rfl, rfl⟩ ⟨Nat.le_of_ble_eq_true rfl, Nat.le_of_ble_eq_true rfl⟩ ⟨(Nat.le_of_ble_eq_true rfl), (Nat.le_of_ble_eq_true rfl)⟩ hl.1 rfl rfl (Nat.le_of_ble_eq_true rfl) dL_areOdds_2) hW (fun r_2 n_2 ad_2 I_2 L_2 R_2 H locs hp hW => ?_)
  obtain ⟨hz, rfl, rfl, hA, hF⟩ := PR_use hp
  have hG := fr_t hF hG
  have hz : r_2 = nI K := hz.trans (aC0 (S := ((w, K, ro), hc, hi, sv, pn, ch)))
  subst hz
  refine lv_istore (lv' := [(5, .int (nI (K))), (0, .ref (ad 0)), (1, .ref (ad 71)), (2, .ref (ad 72)), (3, .long (lN (Sx' w K ro K 6)))]) hx hb dL_areOdds_5 hl (by decide) rfl (fun ls hl => ?_)
  refine q_ic 0 hx hb dL_areOdds_7 (by decide) ?_
  refine lv_istore (lv' := [(6, .int (nI 0)), (5, .int (nI (K))), (0, .ref (ad 0)), (1, .ref (ad 71)), (2, .ref (ad 72)), (3, .long (lN (Sx' w K ro K 6)))]) hx hb dL_areOdds_8 hl (by decide) rfl (fun ls hl => ?_)
  have lp_10 : ∀ (fu_10 : Nat) (p : Nat) (J10 : Ic) (M10 : Lc) (Q10 : Rc), K - p < fu_10 → (p ≤ K) → (InvA 74 J10 M10 Q10 ((w, K, ro), hc, hi, sv, pn, ch)) → (Fr7 I J10 L M10 R Q10) → ∀ (H : Heap) (locs : List Loc), Wd G 74 ad J10 M10 Q10 (qA 74 ad s.heap.size) s.heap H locs s → ∀ ls : Array Slot, lv_has ls 11 [(0, .ref (ad 0)), (1, .ref (ad 71)), (2, .ref (ad 72)), (3, .long (lN (Sx' w K ro K 6))), (5, .int (nI (K))), (6, .int (nI (p)))] → W p_ l e_ ({ frames := 7, cells := 0, slots := 0, locals := 252 } : Room) s m_ ([.ref (ad 0), .ref (ad 71), .ref (ad 72), .long (lN (Sx' w K ro K 6))] : List Value).toArray below meth c_ H locs 0 0 (MQ below (qI2 G (qA 74 ad s.heap.size) (fun z u => PR 74 ad I L R (nI 1, ((w, K, ro), hc, hi, sv, pn, ch)) z u)) ([.ref (ad 0), .ref (ad 71), .ref (ad 72), .long (lN (Sx' w K ro K 6))] : List Value).toArray s 0 0 (qA 74 ad s.heap.size)) (F0 m_ 10 ls []) := by
    intro fu_10
    induction fu_10 with
    | zero =>
      intro p J10 M10 Q10 hm; exact absurd hm (Nat.not_lt_zero _)
    | succ fu_10 ih_10 =>
      intro p J10 M10 Q10 hm_10 hpK hA hG H locs hW ls hl
      refine lv_iload hx hb dL_areOdds_10 (lv_at hl 5 rfl) ?_
      refine lv_iload hx hb dL_areOdds_12 (lv_at hl 4 rfl) ?_
      refine q_cge (tgt := 174) hx hb dL_areOdds_14 (by decide) (by first | omega | exact Nat.lt_of_le_of_lt (hw3 _) (by decide) | exact Nat.lt_of_lt_of_le (hr4 _) (by decide) | exact Nat.lt_of_le_of_lt (bp_le _) (by decide) | assumption) (by first | omega | exact Nat.lt_of_le_of_lt (hw3 _) (by decide) | exact Nat.lt_of_lt_of_le (hr4 _) (by decide) | exact Nat.lt_of_le_of_lt (bp_le _) (by decide) | assumption) (fun c_14 => ?_) (fun c_14 => ?_)
      ·
        refine lv_aload_n hx hb dL_areOdds_174 rfl (lv_at hl 0 rfl) ?_
        refine lv_iload hx hb dL_areOdds_175 (lv_at hl 4 rfl) ?_
        refine q_ic 0 hx hb dL_areOdds_177 (by decide) ?_
        refine q_ic 0 hx hb dL_areOdds_178 (by decide) ?_
        refine q_kL2 (q_rV (As := [.int (nI (K)), .int (nI 0), .int (nI 0)]) (rest := []) (x := 0) hC hW mw_X5_odds gw_262 (k_odds l G 74 ad H.size J10 M10 Q10 (nI K) (nI 0) (nI 0) w K ro hc hi sv pn ch hA) (by omega) (ct_o5 kd_0) rfl ⟨rfl, rfl⟩ ⟨Nat.le_of_ble_eq_true rfl, Nat.le_of_ble_eq_true rfl⟩ ⟨(Nat.le_of_ble_eq_true rfl), (Nat.le_of_ble_eq_true rfl)⟩ hl.1 rfl rfl (Nat.le_of_ble_eq_true rfl) dL_areOdds_179) hW (fun r_179 n_179 ad_179 I_179 L_179 R_179 H locs hp hW => ?_)
        obtain ⟨hz, rfl, rfl, hA, hF⟩ := PRl_use hp
        have hG := fr_t hF hG
        have hz : r_179 = (-1) := hz.trans (aOn (m := (w, K, ro)) (p := K) (c := 0) (y := nI 0) hk6 (by omega) (Or.inl (Nat.le_refl _)) (by decide))
        subst hz
        refine lv_ldc2 (v := -1) hx hb hC.2.2.2.1 (hC.2.2.2.2 _ gw_292) dL_areOdds_182 ?_
        refine W.lcmp hx hb dL_areOdds_185 ?_
        refine q_Lne (tgt := 207) hx hb dL_areOdds_186 (by decide) (fun c_186 => absurd rfl c_186) (fun c_186 => ?_)
        refine lv_aload_n hx hb dL_areOdds_189 rfl (lv_at hl 0 rfl) ?_
        refine q_ic 0 hx hb dL_areOdds_190 (by decide) ?_
        refine q_ic 4 hx hb dL_areOdds_191 (by decide) ?_
        refine q_ic 0 hx hb dL_areOdds_192 (by decide) ?_
        refine q_kL2 (q_rV (As := [.int (nI 0), .int (nI 4), .int (nI 0)]) (rest := []) (x := 0) hC hW mw_X5_odds gw_262 (k_odds l G 74 ad H.size I_179 L_179 R_179 (nI 0) (nI 4) (nI 0) w K ro hc hi sv pn ch hA) (by omega) (ct_o5 kd_0) rfl ⟨rfl, rfl⟩ ⟨Nat.le_of_ble_eq_true rfl, Nat.le_of_ble_eq_true rfl⟩ ⟨(Nat.le_of_ble_eq_true rfl), (Nat.le_of_ble_eq_true rfl)⟩ hl.1 rfl rfl (Nat.le_of_ble_eq_true rfl) dL_areOdds_193) hW (fun r_193 n_193 ad_193 I_193 L_193 R_193 H locs hp hW => ?_)
        obtain ⟨hz, rfl, rfl, hA, hF⟩ := PRl_use hp
        have hG := fr_t hF hG
        have hz : r_193 = (-1) := hz.trans (aOn (m := (w, K, ro)) (p := 0) (c := 4) (y := nI 0) hk6 (by omega) (Or.inr (by decide)) (by decide))
        subst hz
        refine lv_ldc2 (v := -1) hx hb hC.2.2.2.1 (hC.2.2.2.2 _ gw_292) dL_areOdds_196 ?_
        refine W.lcmp hx hb dL_areOdds_199 ?_
        refine q_Lne (tgt := 207) hx hb dL_areOdds_200 (by decide) (fun c_200 => absurd rfl c_200) (fun c_200 => ?_)
        refine q_ic 1 hx hb dL_areOdds_203 (by decide) ?_
        refine lv_goto (tgt := 208) hx hb dL_areOdds_204 (by decide) ?_
        exact q_zret2 hC hW hr hlk0 rfl (PR_q hA hG) dL_areOdds_208
      ·
        refine q_ic 0 hx hb dL_areOdds_17 (by decide) ?_
        refine lv_istore (lv' := [(7, .int (nI 0)), (0, .ref (ad 0)), (1, .ref (ad 71)), (2, .ref (ad 72)), (3, .long (lN (Sx' w K ro K 6))), (5, .int (nI (K))), (6, .int (nI (p)))]) hx hb dL_areOdds_18 hl (by decide) rfl (fun ls hl => ?_)
        refine q_ic 0 hx hb dL_areOdds_20 (by decide) ?_
        have hl : lv_has ls 11 [(7, .int (nI (bestT (fun f => thr w ro K p f) 0))), (0, .ref (ad 0)), (1, .ref (ad 71)), (2, .ref (ad 72)), (3, .long (lN (Sx' w K ro K 6))), (5, .int (nI (K))), (6, .int (nI (p)))] := by rw [show bestT (fun f => thr w ro K p f) 0 = 0 from rfl]; exact hl
        refine lv_istore (lv' := [(8, .int (nI 0)), (7, .int (nI (bestT (fun f => thr w ro K p f) 0))), (0, .ref (ad 0)), (1, .ref (ad 71)), (2, .ref (ad 72)), (3, .long (lN (Sx' w K ro K 6))), (5, .int (nI (K))), (6, .int (nI (p)))]) hx hb dL_areOdds_21 hl (by decide) rfl (fun ls hl => ?_)
        have lp_23 : ∀ (fu_23 : Nat) (c : Nat) (J23 : Ic) (M23 : Lc) (Q23 : Rc), 4 - c < fu_23 → (c ≤ 4) → (bestT (fun f => thr w ro K p f) c < 4) → (InvA 74 J23 M23 Q23 ((w, K, ro), hc, hi, sv, pn, ch)) → (Fr7 I J23 L M23 R Q23) → ∀ (H : Heap) (locs : List Loc), Wd G 74 ad J23 M23 Q23 (qA 74 ad s.heap.size) s.heap H locs s → ∀ ls : Array Slot, lv_has ls 11 [(0, .ref (ad 0)), (1, .ref (ad 71)), (2, .ref (ad 72)), (3, .long (lN (Sx' w K ro K 6))), (5, .int (nI (K))), (6, .int (nI (p))), (7, .int (nI (bestT (fun f => thr w ro K p f) c))), (8, .int (nI (c)))] → W p_ l e_ ({ frames := 7, cells := 0, slots := 0, locals := 252 } : Room) s m_ ([.ref (ad 0), .ref (ad 71), .ref (ad 72), .long (lN (Sx' w K ro K 6))] : List Value).toArray below meth c_ H locs 0 0 (MQ below (qI2 G (qA 74 ad s.heap.size) (fun z u => PR 74 ad I L R (nI 1, ((w, K, ro), hc, hi, sv, pn, ch)) z u)) ([.ref (ad 0), .ref (ad 71), .ref (ad 72), .long (lN (Sx' w K ro K 6))] : List Value).toArray s 0 0 (qA 74 ad s.heap.size)) (F0 m_ 23 ls []) := by
          intro fu_23
          induction fu_23 with
          | zero =>
            intro c J23 M23 Q23 hm; exact absurd hm (Nat.not_lt_zero _)
          | succ fu_23 ih_23 =>
            intro c J23 M23 Q23 hm_23 hc4 hbl hA hG H locs hW ls hl
            refine lv_iload hx hb dL_areOdds_23 (lv_at hl 7 rfl) ?_
            refine q_ic 4 hx hb dL_areOdds_25 (by decide) ?_
            refine q_cge (tgt := 144) hx hb dL_areOdds_26 (by decide) (by first | omega | exact Nat.lt_of_le_of_lt (hw3 _) (by decide) | exact Nat.lt_of_lt_of_le (hr4 _) (by decide) | exact Nat.lt_of_le_of_lt (bp_le _) (by decide) | assumption) (by first | omega | exact Nat.lt_of_le_of_lt (hw3 _) (by decide) | exact Nat.lt_of_lt_of_le (hr4 _) (by decide) | exact Nat.lt_of_le_of_lt (bp_le _) (by decide) | assumption) (fun c_26 => ?_) (fun c_26 => ?_)
            ·
              have e4 : c = 4 := by omega
              subst e4
              refine lv_aload_n hx hb dL_areOdds_144 rfl (lv_at hl 0 rfl) ?_
              refine lv_iload hx hb dL_areOdds_145 (lv_at hl 5 rfl) ?_
              refine q_kI2 (q_rV (As := [.int (nI (p))]) (rest := []) (x := 0) hC hW mw_X5_likelyAt gw_288 (k_likelyAt l G 74 ad H.size J23 M23 Q23 (nI p) w K ro hc hi sv pn ch hA) (by omega) (ct_o5 kd_0) rfl ⟨rfl, rfl⟩ ⟨Nat.le_of_ble_eq_true rfl, Nat.le_of_ble_eq_true rfl⟩ ⟨(Nat.le_of_ble_eq_true rfl), (Nat.le_of_ble_eq_true rfl)⟩ hl.1 rfl rfl (Nat.le_of_ble_eq_true rfl) dL_areOdds_147) hW (fun r_147 n_147 ad_147 I_147 L_147 R_147 H locs hp hW => ?_)
              obtain ⟨hz, rfl, rfl, hA, hF⟩ := PR_use hp
              have hG := fr_t hF hG
              have hz : r_147 = (-5) := hz.trans (aLa0 (m := (w, K, ro)) (p := p) (show p < K by omega) hk6 hT)
              subst hz
              refine lv_lload_n hx hb dL_areOdds_150 rfl (lv_at hl 3 rfl) ?_
              refine q_lc 0 hx hb dL_areOdds_151 (by decide) ?_
              refine q_lcmp hx hb dL_areOdds_152 ?_
              refine q_lne (tgt := 161) hx hb dL_areOdds_153 (by decide) hT63 (by decide) (fun c_153 => absurd c_153 (by omega)) (fun c_153 => ?_)
              refine lv_bipush (v := -5) hx hb dL_areOdds_156 (by decide) ?_
              refine lv_goto (tgt := 163) hx hb dL_areOdds_158 (by decide) ?_
              refine lv_icmp_eq (tgt := 168) hx hb dL_areOdds_163 (by decide) (fun c_163 => ?_) (fun c_163 => absurd c_163 (by decide))
              refine q_iinc (z2 := p + 1) (lv' := [(6, .int (nI (p + 1))), (0, .ref (ad 0)), (1, .ref (ad 71)), (2, .ref (ad 72)), (3, .long (lN (Sx' w K ro K 6))), (5, .int (nI (K))), (7, .int (nI (bestT (fun f => thr w ro K p f) 4))), (8, .int (nI 4))]) hx hb dL_areOdds_168 hl (k := 5) rfl (inc_up _ 1 (by decide)) (by decide) rfl (fun ls hl => ?_)
              refine lv_goto (tgt := 10) hx hb dL_areOdds_171 (by decide) ?_
              exact ih_10 (p + 1) I_147 L_147 R_147 (by omega) (by omega) hA hG _ _ hW _ (lv_sub hl [1, 2, 3, 4, 5, 0] rfl)
            ·
              refine lv_aload_n hx hb dL_areOdds_29 rfl (lv_at hl 1 rfl) ?_
              refine q_ic 4 hx hb dL_areOdds_30 (by decide) ?_
              refine lv_iload hx hb dL_areOdds_31 (lv_at hl 5 rfl) ?_
              refine q_imul hx hb dL_areOdds_33 ?_
              refine lv_iload hx hb dL_areOdds_34 (lv_at hl 7 rfl) ?_
              refine q_iadd hx hb dL_areOdds_36 ?_
              refine q_lald (x := 71) (i := (4 * p) + c) hC hW (by omega) kd_71 (by omega) dL_areOdds_37 ?_
              refine q_top (v2 := .long (lN (uB w ro (p + 1) c))) (congrArg _ ((congrFun (hG 71 (by decide)).2.1 _).trans (hAh p c (by omega) (by omega)))) ?_
              refine lv_aload_n hx hb dL_areOdds_38 rfl (lv_at hl 2 rfl) ?_
              refine q_ic 4 hx hb dL_areOdds_39 (by decide) ?_
              refine lv_iload hx hb dL_areOdds_40 (lv_at hl 5 rfl) ?_
              refine q_imul hx hb dL_areOdds_42 ?_
              refine lv_iload hx hb dL_areOdds_43 (lv_at hl 7 rfl) ?_
              refine q_iadd hx hb dL_areOdds_45 ?_
              refine q_lald (x := 72) (i := (4 * p) + c) hC hW (by omega) kd_72 (by omega) dL_areOdds_46 ?_
              refine q_top (v2 := .long (lN (Sx' w K ro (K - (p + 1)) c))) (congrArg _ ((congrFun (hG 72 (by decide)).2.1 _).trans (hBe p c (by omega) (by omega)))) ?_
              refine q_lmul hx hb dL_areOdds_47 ?_
              refine q_top (v2 := .long (lN (thr w ro K p c))) rfl ?_
              refine lv_lstore (lv' := [(9, .long (lN (thr w ro K p c))), (0, .ref (ad 0)), (1, .ref (ad 71)), (2, .ref (ad 72)), (3, .long (lN (Sx' w K ro K 6))), (5, .int (nI (K))), (6, .int (nI (p))), (7, .int (nI (bestT (fun f => thr w ro K p f) c))), (8, .int (nI (c)))]) hx hb dL_areOdds_48 hl (by decide) rfl (fun ls hl => ?_)
              refine lv_lload hx hb dL_areOdds_50 (lv_at hl 0 rfl) ?_
              refine lv_aload_n hx hb dL_areOdds_52 rfl (lv_at hl 2 rfl) ?_
              refine q_ic 4 hx hb dL_areOdds_53 (by decide) ?_
              refine lv_iload hx hb dL_areOdds_54 (lv_at hl 6 rfl) ?_
              refine q_imul hx hb dL_areOdds_56 ?_
              refine lv_iload hx hb dL_areOdds_57 (lv_at hl 7 rfl) ?_
              refine q_iadd hx hb dL_areOdds_59 ?_
              refine q_lald (x := 71) (i := (4 * p) + (bestT (fun f => thr w ro K p f) c)) hC hW (by omega) kd_71 (by omega) dL_areOdds_60 ?_
              refine q_top (v2 := .long (lN (uB w ro (p + 1) (bestT (fun f => thr w ro K p f) c)))) (congrArg _ ((congrFun (hG 71 (by decide)).2.1 _).trans (hAh p (bestT (fun f => thr w ro K p f) c) (by omega) (by omega)))) ?_
              refine lv_aload_n hx hb dL_areOdds_61 rfl (lv_at hl 3 rfl) ?_
              refine q_ic 4 hx hb dL_areOdds_62 (by decide) ?_
              refine lv_iload hx hb dL_areOdds_63 (lv_at hl 6 rfl) ?_
              refine q_imul hx hb dL_areOdds_65 ?_
              refine lv_iload hx hb dL_areOdds_66 (lv_at hl 7 rfl) ?_
              refine q_iadd hx hb dL_areOdds_68 ?_
              refine q_lald (x := 72) (i := (4 * p) + (bestT (fun f => thr w ro K p f) c)) hC hW (by omega) kd_72 (by omega) dL_areOdds_69 ?_
              refine q_top (v2 := .long (lN (Sx' w K ro (K - (p + 1)) (bestT (fun f => thr w ro K p f) c)))) (congrArg _ ((congrFun (hG 72 (by decide)).2.1 _).trans (hBe p (bestT (fun f => thr w ro K p f) c) (by omega) (by omega)))) ?_
              refine q_lmul hx hb dL_areOdds_70 ?_
              refine q_top (v2 := .long (lN (thr w ro K p (bestT (fun f => thr w ro K p f) c)))) rfl ?_
              have hta : thr w ro K p c < 2 ^ 63 := Nat.lt_of_le_of_lt (thr_b hw (by omega) (by omega)) hT63
              have htb : thr w ro K p (bestT (fun f => thr w ro K p f) c) < 2 ^ 63 := Nat.lt_of_le_of_lt (thr_b hw (by omega) (by omega)) hT63
              refine q_lcmp hx hb dL_areOdds_71 ?_
              refine q_lle (tgt := 80) hx hb dL_areOdds_72 (by decide) hta htb (fun c_72 => ?_) (fun c_72 => ?_)
              ·
                refine lv_iload hx hb dL_areOdds_80 (lv_at hl 7 rfl) ?_
                refine lv_istore (lv' := [(7, .int (nI (bestT (fun f => thr w ro K p f) c))), (9, .long (lN (thr w ro K p c))), (0, .ref (ad 0)), (1, .ref (ad 71)), (2, .ref (ad 72)), (3, .long (lN (Sx' w K ro K 6))), (5, .int (nI (K))), (6, .int (nI (p))), (8, .int (nI (c)))]) hx hb dL_areOdds_82 hl (by decide) rfl (fun ls hl => ?_)
                have hl : lv_has ls 11 [(7, .int (nI (bestT (fun f => thr w ro K p f) (c + 1)))), (9, .long (lN (thr w ro K p c))), (0, .ref (ad 0)), (1, .ref (ad 71)), (2, .ref (ad 72)), (3, .long (lN (Sx' w K ro K 6))), (5, .int (nI (K))), (6, .int (nI (p))), (8, .int (nI (c)))] := by rw [show bestT (fun f => thr w ro K p f) (c + 1) = bestT (fun f => thr w ro K p f) c from bestT_n (Nat.not_lt.mpr c_72)]; exact hl
                refine lv_lload_n hx hb dL_areOdds_84 rfl (lv_at hl 5 rfl) ?_
                refine q_lc 0 hx hb dL_areOdds_85 (by decide) ?_
                refine q_lcmp hx hb dL_areOdds_86 ?_
                refine q_lne (tgt := 109) hx hb dL_areOdds_87 (by decide) hT63 (by decide) (fun c_87 => absurd c_87 (by omega)) (fun c_87 => ?_)
                refine lv_aload_n hx hb dL_areOdds_90 rfl (lv_at hl 2 rfl) ?_
                refine lv_iload hx hb dL_areOdds_91 (lv_at hl 7 rfl) ?_
                refine lv_iload hx hb dL_areOdds_93 (lv_at hl 8 rfl) ?_
                refine q_ic 0 hx hb dL_areOdds_95 (by decide) ?_
                refine q_kL2 (q_rV (As := [.int (nI (p)), .int (nI (c)), .int (nI 0)]) (rest := []) (x := 0) hC hW mw_X5_odds gw_262 (k_odds l G 74 ad H.size J23 M23 Q23 (nI p) (nI c) (nI 0) w K ro hc hi sv pn ch hA) (by omega) (ct_o5 kd_0) rfl ⟨rfl, rfl⟩ ⟨Nat.le_of_ble_eq_true rfl, Nat.le_of_ble_eq_true rfl⟩ ⟨(Nat.le_of_ble_eq_true rfl), (Nat.le_of_ble_eq_true rfl)⟩ hl.1 rfl rfl (Nat.le_of_ble_eq_true rfl) dL_areOdds_96) hW (fun r_96 n_96 ad_96 I_96 L_96 R_96 H locs hp hW => ?_)
                obtain ⟨hz, rfl, rfl, hA, hF⟩ := PRl_use hp
                have hG := fr_t hF hG
                have hz : r_96 = (-5) := hz.trans (aO0 (m := (w, K, ro)) (p := p) (c := c) (y := 0) (show p < K by omega) hk6 (by first | omega | assumption) (by decide) hT)
                subst hz
                refine lv_ldc2 (v := -5) hx hb hC.2.2.2.1 (hC.2.2.2.2 _ gw_281) dL_areOdds_99 ?_
                refine W.lcmp hx hb dL_areOdds_102 ?_
                refine q_Leq (tgt := 138) hx hb dL_areOdds_103 (by decide) (fun c_103 => ?_) (fun c_103 => absurd rfl c_103)
                refine q_iinc (z2 := c + 1) (lv' := [(8, .int (nI (c + 1))), (7, .int (nI (bestT (fun f => thr w ro K p f) (c + 1)))), (9, .long (lN (thr w ro K p c))), (0, .ref (ad 0)), (1, .ref (ad 71)), (2, .ref (ad 72)), (3, .long (lN (Sx' w K ro K 6))), (5, .int (nI (K))), (6, .int (nI (p)))]) hx hb dL_areOdds_138 hl (k := 8) rfl (inc_up _ 1 (by decide)) (by decide) rfl (fun ls hl => ?_)
                refine lv_goto (tgt := 23) hx hb dL_areOdds_141 (by decide) ?_
                exact ih_23 (c + 1) I_96 L_96 R_96 (by omega) (by omega) (Nat.lt_of_le_of_lt (bestT_le _ c) (by omega)) hA hG _ _ hW _ (lv_sub hl [3, 4, 5, 6, 7, 8, 1, 0] rfl)
              ·
                refine lv_iload hx hb dL_areOdds_75 (lv_at hl 8 rfl) ?_
                refine lv_goto (tgt := 82) hx hb dL_areOdds_77 (by decide) ?_
                refine lv_istore (lv' := [(7, .int (nI (c))), (9, .long (lN (thr w ro K p c))), (0, .ref (ad 0)), (1, .ref (ad 71)), (2, .ref (ad 72)), (3, .long (lN (Sx' w K ro K 6))), (5, .int (nI (K))), (6, .int (nI (p))), (8, .int (nI (c)))]) hx hb dL_areOdds_82 hl (by decide) rfl (fun ls hl => ?_)
                have hl : lv_has ls 11 [(7, .int (nI (bestT (fun f => thr w ro K p f) (c + 1)))), (9, .long (lN (thr w ro K p c))), (0, .ref (ad 0)), (1, .ref (ad 71)), (2, .ref (ad 72)), (3, .long (lN (Sx' w K ro K 6))), (5, .int (nI (K))), (6, .int (nI (p))), (8, .int (nI (c)))] := by rw [show bestT (fun f => thr w ro K p f) (c + 1) = c from bestT_y c_72]; exact hl
                refine lv_lload_n hx hb dL_areOdds_84 rfl (lv_at hl 5 rfl) ?_
                refine q_lc 0 hx hb dL_areOdds_85 (by decide) ?_
                refine q_lcmp hx hb dL_areOdds_86 ?_
                refine q_lne (tgt := 109) hx hb dL_areOdds_87 (by decide) hT63 (by decide) (fun c_87 => absurd c_87 (by omega)) (fun c_87 => ?_)
                refine lv_aload_n hx hb dL_areOdds_90 rfl (lv_at hl 2 rfl) ?_
                refine lv_iload hx hb dL_areOdds_91 (lv_at hl 7 rfl) ?_
                refine lv_iload hx hb dL_areOdds_93 (lv_at hl 8 rfl) ?_
                refine q_ic 0 hx hb dL_areOdds_95 (by decide) ?_
                refine q_kL2 (q_rV (As := [.int (nI (p)), .int (nI (c)), .int (nI 0)]) (rest := []) (x := 0) hC hW mw_X5_odds gw_262 (k_odds l G 74 ad H.size J23 M23 Q23 (nI p) (nI c) (nI 0) w K ro hc hi sv pn ch hA) (by omega) (ct_o5 kd_0) rfl ⟨rfl, rfl⟩ ⟨Nat.le_of_ble_eq_true rfl, Nat.le_of_ble_eq_true rfl⟩ ⟨(Nat.le_of_ble_eq_true rfl), (Nat.le_of_ble_eq_true rfl)⟩ hl.1 rfl rfl (Nat.le_of_ble_eq_true rfl) dL_areOdds_96) hW (fun r_96 n_96 ad_96 I_96 L_96 R_96 H locs hp hW => ?_)
                obtain ⟨hz, rfl, rfl, hA, hF⟩ := PRl_use hp
                have hG := fr_t hF hG
                have hz : r_96 = (-5) := hz.trans (aO0 (m := (w, K, ro)) (p := p) (c := c) (y := 0) (show p < K by omega) hk6 (by first | omega | assumption) (by decide) hT)
                subst hz
                refine lv_ldc2 (v := -5) hx hb hC.2.2.2.1 (hC.2.2.2.2 _ gw_281) dL_areOdds_99 ?_
                refine W.lcmp hx hb dL_areOdds_102 ?_
                refine q_Leq (tgt := 138) hx hb dL_areOdds_103 (by decide) (fun c_103 => ?_) (fun c_103 => absurd rfl c_103)
                refine q_iinc (z2 := c + 1) (lv' := [(8, .int (nI (c + 1))), (7, .int (nI (bestT (fun f => thr w ro K p f) (c + 1)))), (9, .long (lN (thr w ro K p c))), (0, .ref (ad 0)), (1, .ref (ad 71)), (2, .ref (ad 72)), (3, .long (lN (Sx' w K ro K 6))), (5, .int (nI (K))), (6, .int (nI (p)))]) hx hb dL_areOdds_138 hl (k := 8) rfl (inc_up _ 1 (by decide)) (by decide) rfl (fun ls hl => ?_)
                refine lv_goto (tgt := 23) hx hb dL_areOdds_141 (by decide) ?_
                exact ih_23 (c + 1) I_96 L_96 R_96 (by omega) (by omega) (Nat.lt_of_le_of_lt (bestT_le _ c) (by omega)) hA hG _ _ hW _ (lv_sub hl [3, 4, 5, 6, 7, 8, 1, 0] rfl)
        exact lp_23 (4 + 1) 0 J10 M10 Q10 (by omega) (by omega) (show 0 < 4 by decide) hA hG _ _ hW _ (lv_sub hl [2, 3, 4, 5, 6, 7, 1, 0] rfl)
  exact lp_10 (K + 1) 0 I_2 L_2 R_2 (by omega) (by omega) hA hG _ _ hW _ (lv_sub hl [2, 3, 4, 5, 1, 0] rfl)
set_option maxRecDepth 100000 in
set_option maxHeartbeats 4000000 in
theorem k_areOdds1 (l : Launch) (G : Gx) (ad : Nat → Nat) (sz : Nat) (I : Ic) (L : Lc) (R : Rc)  (w : Nat → Nat) (K : Nat) (ro : Nat → Nat) (hc : Nat) (hi : Nat → CM) (sv : Nat → Option CM) (pn : Nat) (ch : Nat → Nat) (hA : InvA 74 I L R ((w, K, ro), hc, hi, sv, pn, ch)) (hT0 : 0 < Sx' w K ro K 6) (hAh : ∀ p c, p < K → c < 4 → L 71 (4 * p + c) = lN (uB w ro (p + 1) c)) (hBe : ∀ p c, p < K → c < 4 → L 72 (4 * p + c) = lN (Sx' w K ro (K - (p + 1)) c)) : Met l yL_areOdds (Cond.code yL_areOdds cL_areOdds 11 (some .boolean) :: GW) ({ frames := 7, cells := 0, slots := 0, locals := 252 } : Room) (qPre G 74 ad sz I L R [.ref (ad 0), .ref (ad 71), .ref (ad 72), .long (lN (Sx' w K ro K 6))]) (qI2 G (qA 74 ad sz) (fun z u => PR 74 ad I L R (nI 1, ((w, K, ro), hc, hi, sv, pn, ch)) z u)) 0 0 (qA 74 ad sz) := by
  refine q_met (by decide) (Nat.le_of_ble_eq_true rfl) ?_
  intro p_ e_ s m_ below meth c_ hC hr hlk0 hin hsz hW ls hl
  subst hsz
  have hC : CallFix p_ m_ c_ cL_areOdds 11 s ([.ref (ad 0), .ref (ad 71), .ref (ad 72), .long (lN (Sx' w K ro K 6))] : List Value).toArray GW "CoinRowsLaw" := hC
  have hx := hC.1
  have hb := hC.2.1
  have hw : Wok w := hA.2.2.1.2.2.2.2.1
  have hw3 : ∀ i, w i ≤ 3 := hw.1
  have hk6 : K ≤ 6 := hA.2.2.1.2.2.2.1
  have hr4 : ∀ j, ro j < 4 := hA.2.2.1.2.2.2.2.2
  have hn71 := hA.1
  have hT63 : Sx' w K ro K 6 < 2 ^ 63 := Nat.lt_of_le_of_lt (Sx_b hw K K 6 hk6) (by decide)
  have hC31 : Cx' w K ro K 6 < 2 ^ 31 := Nat.lt_of_le_of_lt (Cx_b hw K K 6 hk6) (by decide)
  have hG : Fr7 I I L L R R := fr_0
  have hT : ¬ aTot (w, K, ro) = 0 := Nat.ne_of_gt hT0
  have hl : lv_has ls 11 [(0, .ref (ad 0)), (1, .ref (ad 71)), (2, .ref (ad 72)), (3, .long (lN (Sx' w K ro K 6)))] := hl
  refine lv_aload_n hx hb dL_areOdds_0 rfl (lv_at hl 0 rfl) ?_
  refine q_ic 0 hx hb dL_areOdds_1 (by decide) ?_
  refine q_kI2 (q_rV (As := [.int (nI 0)]) (rest := []) (x := 0) hC hW mw_X5_count gw_172 (k_count l G 74 ad s.heap.size I L R (nI 0) w K ro hc hi sv pn ch hA) (by omega) (ct_o5 kd_0) rfl ⟨rfl, rfl⟩ ⟨Nat.le_of_ble_eq_true rfl, Nat.le_of_ble_eq_true rfl⟩ ⟨(Nat.le_of_ble_eq_true rfl), (Nat.le_of_ble_eq_true rfl)⟩ hl.1 rfl rfl (Nat.le_of_ble_eq_true rfl) dL_areOdds_2) hW (fun r_2 n_2 ad_2 I_2 L_2 R_2 H locs hp hW => ?_)
  obtain ⟨hz, rfl, rfl, hA, hF⟩ := PR_use hp
  have hG := fr_t hF hG
  have hz : r_2 = nI K := hz.trans (aC0 (S := ((w, K, ro), hc, hi, sv, pn, ch)))
  subst hz
  refine lv_istore (lv' := [(5, .int (nI (K))), (0, .ref (ad 0)), (1, .ref (ad 71)), (2, .ref (ad 72)), (3, .long (lN (Sx' w K ro K 6)))]) hx hb dL_areOdds_5 hl (by decide) rfl (fun ls hl => ?_)
  refine q_ic 0 hx hb dL_areOdds_7 (by decide) ?_
  refine lv_istore (lv' := [(6, .int (nI 0)), (5, .int (nI (K))), (0, .ref (ad 0)), (1, .ref (ad 71)), (2, .ref (ad 72)), (3, .long (lN (Sx' w K ro K 6)))]) hx hb dL_areOdds_8 hl (by decide) rfl (fun ls hl => ?_)
  have lp_10 : ∀ (fu_10 : Nat) (p : Nat) (J10 : Ic) (M10 : Lc) (Q10 : Rc), K - p < fu_10 → (p ≤ K) → (InvA 74 J10 M10 Q10 ((w, K, ro), hc, hi, sv, pn, ch)) → (Fr7 I J10 L M10 R Q10) → ∀ (H : Heap) (locs : List Loc), Wd G 74 ad J10 M10 Q10 (qA 74 ad s.heap.size) s.heap H locs s → ∀ ls : Array Slot, lv_has ls 11 [(0, .ref (ad 0)), (1, .ref (ad 71)), (2, .ref (ad 72)), (3, .long (lN (Sx' w K ro K 6))), (5, .int (nI (K))), (6, .int (nI (p)))] → W p_ l e_ ({ frames := 7, cells := 0, slots := 0, locals := 252 } : Room) s m_ ([.ref (ad 0), .ref (ad 71), .ref (ad 72), .long (lN (Sx' w K ro K 6))] : List Value).toArray below meth c_ H locs 0 0 (MQ below (qI2 G (qA 74 ad s.heap.size) (fun z u => PR 74 ad I L R (nI 1, ((w, K, ro), hc, hi, sv, pn, ch)) z u)) ([.ref (ad 0), .ref (ad 71), .ref (ad 72), .long (lN (Sx' w K ro K 6))] : List Value).toArray s 0 0 (qA 74 ad s.heap.size)) (F0 m_ 10 ls []) := by
    intro fu_10
    induction fu_10 with
    | zero =>
      intro p J10 M10 Q10 hm; exact absurd hm (Nat.not_lt_zero _)
    | succ fu_10 ih_10 =>
      intro p J10 M10 Q10 hm_10 hpK hA hG H locs hW ls hl
      refine lv_iload hx hb dL_areOdds_10 (lv_at hl 5 rfl) ?_
      refine lv_iload hx hb dL_areOdds_12 (lv_at hl 4 rfl) ?_
      refine q_cge (tgt := 174) hx hb dL_areOdds_14 (by decide) (by first | omega | exact Nat.lt_of_le_of_lt (hw3 _) (by decide) | exact Nat.lt_of_lt_of_le (hr4 _) (by decide) | exact Nat.lt_of_le_of_lt (bp_le _) (by decide) | assumption) (by first | omega | exact Nat.lt_of_le_of_lt (hw3 _) (by decide) | exact Nat.lt_of_lt_of_le (hr4 _) (by decide) | exact Nat.lt_of_le_of_lt (bp_le _) (by decide) | assumption) (fun c_14 => ?_) (fun c_14 => ?_)
      ·
        refine lv_aload_n hx hb dL_areOdds_174 rfl (lv_at hl 0 rfl) ?_
        refine lv_iload hx hb dL_areOdds_175 (lv_at hl 4 rfl) ?_
        refine q_ic 0 hx hb dL_areOdds_177 (by decide) ?_
        refine q_ic 0 hx hb dL_areOdds_178 (by decide) ?_
        refine q_kL2 (q_rV (As := [.int (nI (K)), .int (nI 0), .int (nI 0)]) (rest := []) (x := 0) hC hW mw_X5_odds gw_262 (k_odds l G 74 ad H.size J10 M10 Q10 (nI K) (nI 0) (nI 0) w K ro hc hi sv pn ch hA) (by omega) (ct_o5 kd_0) rfl ⟨rfl, rfl⟩ ⟨Nat.le_of_ble_eq_true rfl, Nat.le_of_ble_eq_true rfl⟩ ⟨(Nat.le_of_ble_eq_true rfl), (Nat.le_of_ble_eq_true rfl)⟩ hl.1 rfl rfl (Nat.le_of_ble_eq_true rfl) dL_areOdds_179) hW (fun r_179 n_179 ad_179 I_179 L_179 R_179 H locs hp hW => ?_)
        obtain ⟨hz, rfl, rfl, hA, hF⟩ := PRl_use hp
        have hG := fr_t hF hG
        have hz : r_179 = (-1) := hz.trans (aOn (m := (w, K, ro)) (p := K) (c := 0) (y := nI 0) hk6 (by omega) (Or.inl (Nat.le_refl _)) (by decide))
        subst hz
        refine lv_ldc2 (v := -1) hx hb hC.2.2.2.1 (hC.2.2.2.2 _ gw_292) dL_areOdds_182 ?_
        refine W.lcmp hx hb dL_areOdds_185 ?_
        refine q_Lne (tgt := 207) hx hb dL_areOdds_186 (by decide) (fun c_186 => absurd rfl c_186) (fun c_186 => ?_)
        refine lv_aload_n hx hb dL_areOdds_189 rfl (lv_at hl 0 rfl) ?_
        refine q_ic 0 hx hb dL_areOdds_190 (by decide) ?_
        refine q_ic 4 hx hb dL_areOdds_191 (by decide) ?_
        refine q_ic 0 hx hb dL_areOdds_192 (by decide) ?_
        refine q_kL2 (q_rV (As := [.int (nI 0), .int (nI 4), .int (nI 0)]) (rest := []) (x := 0) hC hW mw_X5_odds gw_262 (k_odds l G 74 ad H.size I_179 L_179 R_179 (nI 0) (nI 4) (nI 0) w K ro hc hi sv pn ch hA) (by omega) (ct_o5 kd_0) rfl ⟨rfl, rfl⟩ ⟨Nat.le_of_ble_eq_true rfl, Nat.le_of_ble_eq_true rfl⟩ ⟨(Nat.le_of_ble_eq_true rfl), (Nat.le_of_ble_eq_true rfl)⟩ hl.1 rfl rfl (Nat.le_of_ble_eq_true rfl) dL_areOdds_193) hW (fun r_193 n_193 ad_193 I_193 L_193 R_193 H locs hp hW => ?_)
        obtain ⟨hz, rfl, rfl, hA, hF⟩ := PRl_use hp
        have hG := fr_t hF hG
        have hz : r_193 = (-1) := hz.trans (aOn (m := (w, K, ro)) (p := 0) (c := 4) (y := nI 0) hk6 (by omega) (Or.inr (by decide)) (by decide))
        subst hz
        refine lv_ldc2 (v := -1) hx hb hC.2.2.2.1 (hC.2.2.2.2 _ gw_292) dL_areOdds_196 ?_
        refine W.lcmp hx hb dL_areOdds_199 ?_
        refine q_Lne (tgt := 207) hx hb dL_areOdds_200 (by decide) (fun c_200 => absurd rfl c_200) (fun c_200 => ?_)
        refine q_ic 1 hx hb dL_areOdds_203 (by decide) ?_
        refine lv_goto (tgt := 208) hx hb dL_areOdds_204 (by decide) ?_
        exact q_zret2 hC hW hr hlk0 rfl (PR_q hA hG) dL_areOdds_208
      ·
        refine q_ic 0 hx hb dL_areOdds_17 (by decide) ?_
        refine lv_istore (lv' := [(7, .int (nI 0)), (0, .ref (ad 0)), (1, .ref (ad 71)), (2, .ref (ad 72)), (3, .long (lN (Sx' w K ro K 6))), (5, .int (nI (K))), (6, .int (nI (p)))]) hx hb dL_areOdds_18 hl (by decide) rfl (fun ls hl => ?_)
        refine q_ic 0 hx hb dL_areOdds_20 (by decide) ?_
        have hl : lv_has ls 11 [(7, .int (nI (bestT (fun f => thr w ro K p f) 0))), (0, .ref (ad 0)), (1, .ref (ad 71)), (2, .ref (ad 72)), (3, .long (lN (Sx' w K ro K 6))), (5, .int (nI (K))), (6, .int (nI (p)))] := by rw [show bestT (fun f => thr w ro K p f) 0 = 0 from rfl]; exact hl
        refine lv_istore (lv' := [(8, .int (nI 0)), (7, .int (nI (bestT (fun f => thr w ro K p f) 0))), (0, .ref (ad 0)), (1, .ref (ad 71)), (2, .ref (ad 72)), (3, .long (lN (Sx' w K ro K 6))), (5, .int (nI (K))), (6, .int (nI (p)))]) hx hb dL_areOdds_21 hl (by decide) rfl (fun ls hl => ?_)
        have lp_23 : ∀ (fu_23 : Nat) (c : Nat) (J23 : Ic) (M23 : Lc) (Q23 : Rc), 4 - c < fu_23 → (c ≤ 4) → (bestT (fun f => thr w ro K p f) c < 4) → (InvA 74 J23 M23 Q23 ((w, K, ro), hc, hi, sv, pn, ch)) → (Fr7 I J23 L M23 R Q23) → ∀ (H : Heap) (locs : List Loc), Wd G 74 ad J23 M23 Q23 (qA 74 ad s.heap.size) s.heap H locs s → ∀ ls : Array Slot, lv_has ls 11 [(0, .ref (ad 0)), (1, .ref (ad 71)), (2, .ref (ad 72)), (3, .long (lN (Sx' w K ro K 6))), (5, .int (nI (K))), (6, .int (nI (p))), (7, .int (nI (bestT (fun f => thr w ro K p f) c))), (8, .int (nI (c)))] → W p_ l e_ ({ frames := 7, cells := 0, slots := 0, locals := 252 } : Room) s m_ ([.ref (ad 0), .ref (ad 71), .ref (ad 72), .long (lN (Sx' w K ro K 6))] : List Value).toArray below meth c_ H locs 0 0 (MQ below (qI2 G (qA 74 ad s.heap.size) (fun z u => PR 74 ad I L R (nI 1, ((w, K, ro), hc, hi, sv, pn, ch)) z u)) ([.ref (ad 0), .ref (ad 71), .ref (ad 72), .long (lN (Sx' w K ro K 6))] : List Value).toArray s 0 0 (qA 74 ad s.heap.size)) (F0 m_ 23 ls []) := by
          intro fu_23
          induction fu_23 with
          | zero =>
            intro c J23 M23 Q23 hm; exact absurd hm (Nat.not_lt_zero _)
          | succ fu_23 ih_23 =>
            intro c J23 M23 Q23 hm_23 hc4 hbl hA hG H locs hW ls hl
            refine lv_iload hx hb dL_areOdds_23 (lv_at hl 7 rfl) ?_
            refine q_ic 4 hx hb dL_areOdds_25 (by decide) ?_
            refine q_cge (tgt := 144) hx hb dL_areOdds_26 (by decide) (by first | omega | exact Nat.lt_of_le_of_lt (hw3 _) (by decide) | exact Nat.lt_of_lt_of_le (hr4 _) (by decide) | exact Nat.lt_of_le_of_lt (bp_le _) (by decide) | assumption) (by first | omega | exact Nat.lt_of_le_of_lt (hw3 _) (by decide) | exact Nat.lt_of_lt_of_le (hr4 _) (by decide) | exact Nat.lt_of_le_of_lt (bp_le _) (by decide) | assumption) (fun c_26 => ?_) (fun c_26 => ?_)
            ·
              have e4 : c = 4 := by omega
              subst e4
              refine lv_aload_n hx hb dL_areOdds_144 rfl (lv_at hl 0 rfl) ?_
              refine lv_iload hx hb dL_areOdds_145 (lv_at hl 5 rfl) ?_
              refine q_kI2 (q_rV (As := [.int (nI (p))]) (rest := []) (x := 0) hC hW mw_X5_likelyAt gw_288 (k_likelyAt l G 74 ad H.size J23 M23 Q23 (nI p) w K ro hc hi sv pn ch hA) (by omega) (ct_o5 kd_0) rfl ⟨rfl, rfl⟩ ⟨Nat.le_of_ble_eq_true rfl, Nat.le_of_ble_eq_true rfl⟩ ⟨(Nat.le_of_ble_eq_true rfl), (Nat.le_of_ble_eq_true rfl)⟩ hl.1 rfl rfl (Nat.le_of_ble_eq_true rfl) dL_areOdds_147) hW (fun r_147 n_147 ad_147 I_147 L_147 R_147 H locs hp hW => ?_)
              obtain ⟨hz, rfl, rfl, hA, hF⟩ := PR_use hp
              have hG := fr_t hF hG
              have hz : r_147 = nI (bestT (fun f => thr w ro K p f) 4) := hz.trans (aLa1 (m := (w, K, ro)) (p := p) (show p < K by omega) hk6 hT)
              subst hz
              refine lv_lload_n hx hb dL_areOdds_150 rfl (lv_at hl 3 rfl) ?_
              refine q_lc 0 hx hb dL_areOdds_151 (by decide) ?_
              refine q_lcmp hx hb dL_areOdds_152 ?_
              refine q_lne (tgt := 161) hx hb dL_areOdds_153 (by decide) hT63 (by decide) (fun c_153 => ?_) (fun c_153 => absurd c_153 (by omega))
              refine lv_iload hx hb dL_areOdds_161 (lv_at hl 6 rfl) ?_
              refine q_ceq (tgt := 168) hx hb dL_areOdds_163 (by decide) (by first | omega | exact Nat.lt_of_le_of_lt (hw3 _) (by decide) | exact Nat.lt_of_lt_of_le (hr4 _) (by decide) | exact Nat.lt_of_le_of_lt (bp_le _) (by decide) | assumption) (by first | omega | exact Nat.lt_of_le_of_lt (hw3 _) (by decide) | exact Nat.lt_of_lt_of_le (hr4 _) (by decide) | exact Nat.lt_of_le_of_lt (bp_le _) (by decide) | assumption) (fun c_163 => ?_) (fun c_163 => absurd rfl c_163)
              refine q_iinc (z2 := p + 1) (lv' := [(6, .int (nI (p + 1))), (0, .ref (ad 0)), (1, .ref (ad 71)), (2, .ref (ad 72)), (3, .long (lN (Sx' w K ro K 6))), (5, .int (nI (K))), (7, .int (nI (bestT (fun f => thr w ro K p f) 4))), (8, .int (nI 4))]) hx hb dL_areOdds_168 hl (k := 5) rfl (inc_up _ 1 (by decide)) (by decide) rfl (fun ls hl => ?_)
              refine lv_goto (tgt := 10) hx hb dL_areOdds_171 (by decide) ?_
              exact ih_10 (p + 1) I_147 L_147 R_147 (by omega) (by omega) hA hG _ _ hW _ (lv_sub hl [1, 2, 3, 4, 5, 0] rfl)
            ·
              refine lv_aload_n hx hb dL_areOdds_29 rfl (lv_at hl 1 rfl) ?_
              refine q_ic 4 hx hb dL_areOdds_30 (by decide) ?_
              refine lv_iload hx hb dL_areOdds_31 (lv_at hl 5 rfl) ?_
              refine q_imul hx hb dL_areOdds_33 ?_
              refine lv_iload hx hb dL_areOdds_34 (lv_at hl 7 rfl) ?_
              refine q_iadd hx hb dL_areOdds_36 ?_
              refine q_lald (x := 71) (i := (4 * p) + c) hC hW (by omega) kd_71 (by omega) dL_areOdds_37 ?_
              refine q_top (v2 := .long (lN (uB w ro (p + 1) c))) (congrArg _ ((congrFun (hG 71 (by decide)).2.1 _).trans (hAh p c (by omega) (by omega)))) ?_
              refine lv_aload_n hx hb dL_areOdds_38 rfl (lv_at hl 2 rfl) ?_
              refine q_ic 4 hx hb dL_areOdds_39 (by decide) ?_
              refine lv_iload hx hb dL_areOdds_40 (lv_at hl 5 rfl) ?_
              refine q_imul hx hb dL_areOdds_42 ?_
              refine lv_iload hx hb dL_areOdds_43 (lv_at hl 7 rfl) ?_
              refine q_iadd hx hb dL_areOdds_45 ?_
              refine q_lald (x := 72) (i := (4 * p) + c) hC hW (by omega) kd_72 (by omega) dL_areOdds_46 ?_
              refine q_top (v2 := .long (lN (Sx' w K ro (K - (p + 1)) c))) (congrArg _ ((congrFun (hG 72 (by decide)).2.1 _).trans (hBe p c (by omega) (by omega)))) ?_
              refine q_lmul hx hb dL_areOdds_47 ?_
              refine q_top (v2 := .long (lN (thr w ro K p c))) rfl ?_
              refine lv_lstore (lv' := [(9, .long (lN (thr w ro K p c))), (0, .ref (ad 0)), (1, .ref (ad 71)), (2, .ref (ad 72)), (3, .long (lN (Sx' w K ro K 6))), (5, .int (nI (K))), (6, .int (nI (p))), (7, .int (nI (bestT (fun f => thr w ro K p f) c))), (8, .int (nI (c)))]) hx hb dL_areOdds_48 hl (by decide) rfl (fun ls hl => ?_)
              refine lv_lload hx hb dL_areOdds_50 (lv_at hl 0 rfl) ?_
              refine lv_aload_n hx hb dL_areOdds_52 rfl (lv_at hl 2 rfl) ?_
              refine q_ic 4 hx hb dL_areOdds_53 (by decide) ?_
              refine lv_iload hx hb dL_areOdds_54 (lv_at hl 6 rfl) ?_
              refine q_imul hx hb dL_areOdds_56 ?_
              refine lv_iload hx hb dL_areOdds_57 (lv_at hl 7 rfl) ?_
              refine q_iadd hx hb dL_areOdds_59 ?_
              refine q_lald (x := 71) (i := (4 * p) + (bestT (fun f => thr w ro K p f) c)) hC hW (by omega) kd_71 (by omega) dL_areOdds_60 ?_
              refine q_top (v2 := .long (lN (uB w ro (p + 1) (bestT (fun f => thr w ro K p f) c)))) (congrArg _ ((congrFun (hG 71 (by decide)).2.1 _).trans (hAh p (bestT (fun f => thr w ro K p f) c) (by omega) (by omega)))) ?_
              refine lv_aload_n hx hb dL_areOdds_61 rfl (lv_at hl 3 rfl) ?_
              refine q_ic 4 hx hb dL_areOdds_62 (by decide) ?_
              refine lv_iload hx hb dL_areOdds_63 (lv_at hl 6 rfl) ?_
              refine q_imul hx hb dL_areOdds_65 ?_
              refine lv_iload hx hb dL_areOdds_66 (lv_at hl 7 rfl) ?_
              refine q_iadd hx hb dL_areOdds_68 ?_
              refine q_lald (x := 72) (i := (4 * p) + (bestT (fun f => thr w ro K p f) c)) hC hW (by omega) kd_72 (by omega) dL_areOdds_69 ?_
              refine q_top (v2 := .long (lN (Sx' w K ro (K - (p + 1)) (bestT (fun f => thr w ro K p f) c)))) (congrArg _ ((congrFun (hG 72 (by decide)).2.1 _).trans (hBe p (bestT (fun f => thr w ro K p f) c) (by omega) (by omega)))) ?_
              refine q_lmul hx hb dL_areOdds_70 ?_
              refine q_top (v2 := .long (lN (thr w ro K p (bestT (fun f => thr w ro K p f) c)))) rfl ?_
              have hta : thr w ro K p c < 2 ^ 63 := Nat.lt_of_le_of_lt (thr_b hw (by omega) (by omega)) hT63
              have htb : thr w ro K p (bestT (fun f => thr w ro K p f) c) < 2 ^ 63 := Nat.lt_of_le_of_lt (thr_b hw (by omega) (by omega)) hT63
              refine q_lcmp hx hb dL_areOdds_71 ?_
              refine q_lle (tgt := 80) hx hb dL_areOdds_72 (by decide) hta htb (fun c_72 => ?_) (fun c_72 => ?_)
              ·
                refine lv_iload hx hb dL_areOdds_80 (lv_at hl 7 rfl) ?_
                refine lv_istore (lv' := [(7, .int (nI (bestT (fun f => thr w ro K p f) c))), (9, .long (lN (thr w ro K p c))), (0, .ref (ad 0)), (1, .ref (ad 71)), (2, .ref (ad 72)), (3, .long (lN (Sx' w K ro K 6))), (5, .int (nI (K))), (6, .int (nI (p))), (8, .int (nI (c)))]) hx hb dL_areOdds_82 hl (by decide) rfl (fun ls hl => ?_)
                have hl : lv_has ls 11 [(7, .int (nI (bestT (fun f => thr w ro K p f) (c + 1)))), (9, .long (lN (thr w ro K p c))), (0, .ref (ad 0)), (1, .ref (ad 71)), (2, .ref (ad 72)), (3, .long (lN (Sx' w K ro K 6))), (5, .int (nI (K))), (6, .int (nI (p))), (8, .int (nI (c)))] := by rw [show bestT (fun f => thr w ro K p f) (c + 1) = bestT (fun f => thr w ro K p f) c from bestT_n (Nat.not_lt.mpr c_72)]; exact hl
                refine lv_lload_n hx hb dL_areOdds_84 rfl (lv_at hl 5 rfl) ?_
                refine q_lc 0 hx hb dL_areOdds_85 (by decide) ?_
                refine q_lcmp hx hb dL_areOdds_86 ?_
                refine q_lne (tgt := 109) hx hb dL_areOdds_87 (by decide) hT63 (by decide) (fun c_87 => ?_) (fun c_87 => absurd c_87 (by omega))
                refine lv_aload_n hx hb dL_areOdds_109 rfl (lv_at hl 2 rfl) ?_
                refine lv_iload hx hb dL_areOdds_110 (lv_at hl 7 rfl) ?_
                refine lv_iload hx hb dL_areOdds_112 (lv_at hl 8 rfl) ?_
                refine q_ic 0 hx hb dL_areOdds_114 (by decide) ?_
                refine q_kL2 (q_rV (As := [.int (nI (p)), .int (nI (c)), .int (nI 0)]) (rest := []) (x := 0) hC hW mw_X5_odds gw_262 (k_odds l G 74 ad H.size J23 M23 Q23 (nI p) (nI c) (nI 0) w K ro hc hi sv pn ch hA) (by omega) (ct_o5 kd_0) rfl ⟨rfl, rfl⟩ ⟨Nat.le_of_ble_eq_true rfl, Nat.le_of_ble_eq_true rfl⟩ ⟨(Nat.le_of_ble_eq_true rfl), (Nat.le_of_ble_eq_true rfl)⟩ hl.1 rfl rfl (Nat.le_of_ble_eq_true rfl) dL_areOdds_115) hW (fun r_115 n_115 ad_115 I_115 L_115 R_115 H locs hp hW => ?_)
                obtain ⟨hz, rfl, rfl, hA, hF⟩ := PRl_use hp
                have hG := fr_t hF hG
                have hz : r_115 = lN (thr w ro K p c / Nat.gcd (thr w ro K p c) (Sx' w K ro K 6)) := hz.trans ((aO1 (m := (w, K, ro)) (p := p) (c := c) (y := 0) (show p < K by omega) hk6 (by first | omega | assumption) (by decide) hT).trans (lowT_0 _ _))
                subst hz
                refine lv_aload_n hx hb dL_areOdds_118 rfl (lv_at hl 2 rfl) ?_
                refine lv_iload hx hb dL_areOdds_119 (lv_at hl 7 rfl) ?_
                refine lv_iload hx hb dL_areOdds_121 (lv_at hl 8 rfl) ?_
                refine q_ic 1 hx hb dL_areOdds_123 (by decide) ?_
                refine q_kL2 (q_rV (As := [.int (nI (p)), .int (nI (c)), .int (nI 1)]) (rest := [.long (lN (thr w ro K p c / Nat.gcd (thr w ro K p c) (Sx' w K ro K 6)))]) (x := 0) hC hW mw_X5_odds gw_262 (k_odds l G 74 ad H.size I_115 L_115 R_115 (nI p) (nI c) (nI 1) w K ro hc hi sv pn ch hA) (by omega) (ct_o5 kd_0) rfl ⟨rfl, rfl⟩ ⟨Nat.le_of_ble_eq_true rfl, Nat.le_of_ble_eq_true rfl⟩ ⟨(Nat.le_of_ble_eq_true rfl), (Nat.le_of_ble_eq_true rfl)⟩ hl.1 rfl rfl (Nat.le_of_ble_eq_true rfl) dL_areOdds_124) hW (fun r_124 n_124 ad_124 I_124 L_124 R_124 H locs hp hW => ?_)
                obtain ⟨hz, rfl, rfl, hA, hF⟩ := PRl_use hp
                have hG := fr_t hF hG
                have hz : r_124 = lN ((Sx' w K ro K 6) / Nat.gcd (thr w ro K p c) (Sx' w K ro K 6)) := hz.trans ((aO1 (m := (w, K, ro)) (p := p) (c := c) (y := 1) (show p < K by omega) hk6 (by first | omega | assumption) (by decide) hT).trans (lowT_1 _ _))
                subst hz
                have hN63 := hta
                refine lv_lload hx hb dL_areOdds_127 (lv_at hl 1 rfl) ?_
                refine lv_lload_n hx hb dL_areOdds_129 rfl (lv_at hl 5 rfl) ?_
                refine q_kI0 (q_rS (As := [.long (lN (thr w ro K p c / Nat.gcd (thr w ro K p c) (Sx' w K ro K 6))), .long (lN ((Sx' w K ro K 6) / Nat.gcd (thr w ro K p c) (Sx' w K ro K 6))), .long (lN (thr w ro K p c)), .long (lN (Sx' w K ro K 6))]) (rest := []) hC hW mw_L_isPart gw_282 (k_lpart l G 74 ad H.size I_124 L_124 R_124 (thr w ro K p c / Nat.gcd (thr w ro K p c) (Sx' w K ro K 6)) ((Sx' w K ro K 6) / Nat.gcd (thr w ro K p c) (Sx' w K ro K 6)) (thr w ro K p c) (Sx' w K ro K 6) (Nat.lt_of_le_of_lt (Nat.div_le_self _ _) hN63) (Nat.lt_of_le_of_lt (Nat.div_le_self _ _) hT63) hT63 (gq_pos hT0) (gq_mod hT0) (gq_num hT0) (gq_gcd hT0)) ⟨rfl, rfl⟩ ⟨Nat.le_of_ble_eq_true rfl, Nat.le_of_ble_eq_true rfl⟩ ⟨(Nat.le_of_ble_eq_true rfl), (Nat.le_of_ble_eq_true rfl)⟩ hl.1 rfl rfl (Nat.le_of_ble_eq_true rfl) dL_areOdds_130) hW (fun r_130 H locs hp hW => ?_)
                subst hp
                refine q_ine (tgt := 138) hx hb dL_areOdds_133 (by decide) (by first | omega | exact Nat.lt_of_le_of_lt (hw3 _) (by decide) | exact Nat.lt_of_lt_of_le (hr4 _) (by decide) | exact Nat.lt_of_le_of_lt (bp_le _) (by decide) | assumption) (fun c_133 => ?_) (fun c_133 => absurd c_133 (by decide))
                refine q_iinc (z2 := c + 1) (lv' := [(8, .int (nI (c + 1))), (7, .int (nI (bestT (fun f => thr w ro K p f) (c + 1)))), (9, .long (lN (thr w ro K p c))), (0, .ref (ad 0)), (1, .ref (ad 71)), (2, .ref (ad 72)), (3, .long (lN (Sx' w K ro K 6))), (5, .int (nI (K))), (6, .int (nI (p)))]) hx hb dL_areOdds_138 hl (k := 8) rfl (inc_up _ 1 (by decide)) (by decide) rfl (fun ls hl => ?_)
                refine lv_goto (tgt := 23) hx hb dL_areOdds_141 (by decide) ?_
                exact ih_23 (c + 1) I_124 L_124 R_124 (by omega) (by omega) (Nat.lt_of_le_of_lt (bestT_le _ c) (by omega)) hA hG _ _ hW _ (lv_sub hl [3, 4, 5, 6, 7, 8, 1, 0] rfl)
              ·
                refine lv_iload hx hb dL_areOdds_75 (lv_at hl 8 rfl) ?_
                refine lv_goto (tgt := 82) hx hb dL_areOdds_77 (by decide) ?_
                refine lv_istore (lv' := [(7, .int (nI (c))), (9, .long (lN (thr w ro K p c))), (0, .ref (ad 0)), (1, .ref (ad 71)), (2, .ref (ad 72)), (3, .long (lN (Sx' w K ro K 6))), (5, .int (nI (K))), (6, .int (nI (p))), (8, .int (nI (c)))]) hx hb dL_areOdds_82 hl (by decide) rfl (fun ls hl => ?_)
                have hl : lv_has ls 11 [(7, .int (nI (bestT (fun f => thr w ro K p f) (c + 1)))), (9, .long (lN (thr w ro K p c))), (0, .ref (ad 0)), (1, .ref (ad 71)), (2, .ref (ad 72)), (3, .long (lN (Sx' w K ro K 6))), (5, .int (nI (K))), (6, .int (nI (p))), (8, .int (nI (c)))] := by rw [show bestT (fun f => thr w ro K p f) (c + 1) = c from bestT_y c_72]; exact hl
                refine lv_lload_n hx hb dL_areOdds_84 rfl (lv_at hl 5 rfl) ?_
                refine q_lc 0 hx hb dL_areOdds_85 (by decide) ?_
                refine q_lcmp hx hb dL_areOdds_86 ?_
                refine q_lne (tgt := 109) hx hb dL_areOdds_87 (by decide) hT63 (by decide) (fun c_87 => ?_) (fun c_87 => absurd c_87 (by omega))
                refine lv_aload_n hx hb dL_areOdds_109 rfl (lv_at hl 2 rfl) ?_
                refine lv_iload hx hb dL_areOdds_110 (lv_at hl 7 rfl) ?_
                refine lv_iload hx hb dL_areOdds_112 (lv_at hl 8 rfl) ?_
                refine q_ic 0 hx hb dL_areOdds_114 (by decide) ?_
                refine q_kL2 (q_rV (As := [.int (nI (p)), .int (nI (c)), .int (nI 0)]) (rest := []) (x := 0) hC hW mw_X5_odds gw_262 (k_odds l G 74 ad H.size J23 M23 Q23 (nI p) (nI c) (nI 0) w K ro hc hi sv pn ch hA) (by omega) (ct_o5 kd_0) rfl ⟨rfl, rfl⟩ ⟨Nat.le_of_ble_eq_true rfl, Nat.le_of_ble_eq_true rfl⟩ ⟨(Nat.le_of_ble_eq_true rfl), (Nat.le_of_ble_eq_true rfl)⟩ hl.1 rfl rfl (Nat.le_of_ble_eq_true rfl) dL_areOdds_115) hW (fun r_115 n_115 ad_115 I_115 L_115 R_115 H locs hp hW => ?_)
                obtain ⟨hz, rfl, rfl, hA, hF⟩ := PRl_use hp
                have hG := fr_t hF hG
                have hz : r_115 = lN (thr w ro K p c / Nat.gcd (thr w ro K p c) (Sx' w K ro K 6)) := hz.trans ((aO1 (m := (w, K, ro)) (p := p) (c := c) (y := 0) (show p < K by omega) hk6 (by first | omega | assumption) (by decide) hT).trans (lowT_0 _ _))
                subst hz
                refine lv_aload_n hx hb dL_areOdds_118 rfl (lv_at hl 2 rfl) ?_
                refine lv_iload hx hb dL_areOdds_119 (lv_at hl 7 rfl) ?_
                refine lv_iload hx hb dL_areOdds_121 (lv_at hl 8 rfl) ?_
                refine q_ic 1 hx hb dL_areOdds_123 (by decide) ?_
                refine q_kL2 (q_rV (As := [.int (nI (p)), .int (nI (c)), .int (nI 1)]) (rest := [.long (lN (thr w ro K p c / Nat.gcd (thr w ro K p c) (Sx' w K ro K 6)))]) (x := 0) hC hW mw_X5_odds gw_262 (k_odds l G 74 ad H.size I_115 L_115 R_115 (nI p) (nI c) (nI 1) w K ro hc hi sv pn ch hA) (by omega) (ct_o5 kd_0) rfl ⟨rfl, rfl⟩ ⟨Nat.le_of_ble_eq_true rfl, Nat.le_of_ble_eq_true rfl⟩ ⟨(Nat.le_of_ble_eq_true rfl), (Nat.le_of_ble_eq_true rfl)⟩ hl.1 rfl rfl (Nat.le_of_ble_eq_true rfl) dL_areOdds_124) hW (fun r_124 n_124 ad_124 I_124 L_124 R_124 H locs hp hW => ?_)
                obtain ⟨hz, rfl, rfl, hA, hF⟩ := PRl_use hp
                have hG := fr_t hF hG
                have hz : r_124 = lN ((Sx' w K ro K 6) / Nat.gcd (thr w ro K p c) (Sx' w K ro K 6)) := hz.trans ((aO1 (m := (w, K, ro)) (p := p) (c := c) (y := 1) (show p < K by omega) hk6 (by first | omega | assumption) (by decide) hT).trans (lowT_1 _ _))
                subst hz
                have hN63 := hta
                refine lv_lload hx hb dL_areOdds_127 (lv_at hl 1 rfl) ?_
                refine lv_lload_n hx hb dL_areOdds_129 rfl (lv_at hl 5 rfl) ?_
                refine q_kI0 (q_rS (As := [.long (lN (thr w ro K p c / Nat.gcd (thr w ro K p c) (Sx' w K ro K 6))), .long (lN ((Sx' w K ro K 6) / Nat.gcd (thr w ro K p c) (Sx' w K ro K 6))), .long (lN (thr w ro K p c)), .long (lN (Sx' w K ro K 6))]) (rest := []) hC hW mw_L_isPart gw_282 (k_lpart l G 74 ad H.size I_124 L_124 R_124 (thr w ro K p c / Nat.gcd (thr w ro K p c) (Sx' w K ro K 6)) ((Sx' w K ro K 6) / Nat.gcd (thr w ro K p c) (Sx' w K ro K 6)) (thr w ro K p c) (Sx' w K ro K 6) (Nat.lt_of_le_of_lt (Nat.div_le_self _ _) hN63) (Nat.lt_of_le_of_lt (Nat.div_le_self _ _) hT63) hT63 (gq_pos hT0) (gq_mod hT0) (gq_num hT0) (gq_gcd hT0)) ⟨rfl, rfl⟩ ⟨Nat.le_of_ble_eq_true rfl, Nat.le_of_ble_eq_true rfl⟩ ⟨(Nat.le_of_ble_eq_true rfl), (Nat.le_of_ble_eq_true rfl)⟩ hl.1 rfl rfl (Nat.le_of_ble_eq_true rfl) dL_areOdds_130) hW (fun r_130 H locs hp hW => ?_)
                subst hp
                refine q_ine (tgt := 138) hx hb dL_areOdds_133 (by decide) (by first | omega | exact Nat.lt_of_le_of_lt (hw3 _) (by decide) | exact Nat.lt_of_lt_of_le (hr4 _) (by decide) | exact Nat.lt_of_le_of_lt (bp_le _) (by decide) | assumption) (fun c_133 => ?_) (fun c_133 => absurd c_133 (by decide))
                refine q_iinc (z2 := c + 1) (lv' := [(8, .int (nI (c + 1))), (7, .int (nI (bestT (fun f => thr w ro K p f) (c + 1)))), (9, .long (lN (thr w ro K p c))), (0, .ref (ad 0)), (1, .ref (ad 71)), (2, .ref (ad 72)), (3, .long (lN (Sx' w K ro K 6))), (5, .int (nI (K))), (6, .int (nI (p)))]) hx hb dL_areOdds_138 hl (k := 8) rfl (inc_up _ 1 (by decide)) (by decide) rfl (fun ls hl => ?_)
                refine lv_goto (tgt := 23) hx hb dL_areOdds_141 (by decide) ?_
                exact ih_23 (c + 1) I_124 L_124 R_124 (by omega) (by omega) (Nat.lt_of_le_of_lt (bestT_le _ c) (by omega)) hA hG _ _ hW _ (lv_sub hl [3, 4, 5, 6, 7, 8, 1, 0] rfl)
        exact lp_23 (4 + 1) 0 J10 M10 Q10 (by omega) (by omega) (show 0 < 4 by decide) hA hG _ _ hW _ (lv_sub hl [2, 3, 4, 5, 6, 7, 1, 0] rfl)
  exact lp_10 (K + 1) 0 I_2 L_2 R_2 (by omega) (by omega) hA hG _ _ hW _ (lv_sub hl [2, 3, 4, 5, 1, 0] rfl)
set_option maxRecDepth 100000 in
set_option maxHeartbeats 4000000 in
theorem k_areExp0 (l : Launch) (G : Gx) (ad : Nat → Nat) (sz : Nat) (I : Ic) (L : Lc) (R : Rc)  (w : Nat → Nat) (K : Nat) (ro : Nat → Nat) (hc : Nat) (hi : Nat → CM) (sv : Nat → Option CM) (pn : Nat) (ch : Nat → Nat) (hA : InvA 74 I L R ((w, K, ro), hc, hi, sv, pn, ch)) (hT : aTot (w, K, ro) = 0) (hAh : ∀ p c, p < K → c < 4 → L 71 (4 * p + c) = lN (uB w ro (p + 1) c)) (hBe : ∀ p c, p < K → c < 4 → L 72 (4 * p + c) = lN (Sx' w K ro (K - (p + 1)) c)) : Met l yL_areExpected (Cond.code yL_areExpected cL_areExpected 17 (some .boolean) :: GW) ({ frames := 8, cells := 0, slots := 0, locals := 288 } : Room) (qPre G 74 ad sz I L R [.ref (ad 0), .ref (ad 71), .ref (ad 72), .long (lN (Sx' w K ro K 6))]) (qI2 G (qA 74 ad sz) (fun z u => PR 74 ad I L R (nI 1, ((w, K, ro), hc, hi, sv, pn, ch)) z u)) 0 0 (qA 74 ad sz) := by
  refine q_met (by decide) (Nat.le_of_ble_eq_true rfl) ?_
  intro p_ e_ s m_ below meth c_ hC hr hlk0 hin hsz hW ls hl
  subst hsz
  have hC : CallFix p_ m_ c_ cL_areExpected 17 s ([.ref (ad 0), .ref (ad 71), .ref (ad 72), .long (lN (Sx' w K ro K 6))] : List Value).toArray GW "CoinRowsLaw" := hC
  have hx := hC.1
  have hb := hC.2.1
  have hw : Wok w := hA.2.2.1.2.2.2.2.1
  have hw3 : ∀ i, w i ≤ 3 := hw.1
  have hk6 : K ≤ 6 := hA.2.2.1.2.2.2.1
  have hr4 : ∀ j, ro j < 4 := hA.2.2.1.2.2.2.2.2
  have hn71 := hA.1
  have hT63 : Sx' w K ro K 6 < 2 ^ 63 := Nat.lt_of_le_of_lt (Sx_b hw K K 6 hk6) (by decide)
  have hC31 : Cx' w K ro K 6 < 2 ^ 31 := Nat.lt_of_le_of_lt (Cx_b hw K K 6 hk6) (by decide)
  have hG : Fr7 I I L L R R := fr_0
  have hTz : Sx' w K ro K 6 = 0 := hT
  have hl : lv_has ls 17 [(0, .ref (ad 0)), (1, .ref (ad 71)), (2, .ref (ad 72)), (3, .long (lN (Sx' w K ro K 6)))] := hl
  refine lv_aload_n hx hb dL_areExpected_0 rfl (lv_at hl 0 rfl) ?_
  refine q_ic 0 hx hb dL_areExpected_1 (by decide) ?_
  refine q_kI2 (q_rV (As := [.int (nI 0)]) (rest := []) (x := 0) hC hW mw_X5_count gw_172 (k_count l G 74 ad s.heap.size I L R (nI 0) w K ro hc hi sv pn ch hA) (by omega) (ct_o5 kd_0) rfl ⟨rfl, rfl⟩ ⟨Nat.le_of_ble_eq_true rfl, Nat.le_of_ble_eq_true rfl⟩ ⟨(Nat.le_of_ble_eq_true rfl), (Nat.le_of_ble_eq_true rfl)⟩ hl.1 rfl rfl (Nat.le_of_ble_eq_true rfl) dL_areExpected_2) hW (fun r_2 n_2 ad_2 I_2 L_2 R_2 H locs hp hW => ?_)
  obtain ⟨hz, rfl, rfl, hA, hF⟩ := PR_use hp
  have hG := fr_t hF hG
  have hz : r_2 = nI K := hz.trans (aC0 (S := ((w, K, ro), hc, hi, sv, pn, ch)))
  subst hz
  refine lv_istore (lv' := [(5, .int (nI (K))), (0, .ref (ad 0)), (1, .ref (ad 71)), (2, .ref (ad 72)), (3, .long (lN (Sx' w K ro K 6)))]) hx hb dL_areExpected_5 hl (by decide) rfl (fun ls hl => ?_)
  refine lv_lload_n hx hb dL_areExpected_7 rfl (lv_at hl 4 rfl) ?_
  refine q_lc 0 hx hb dL_areExpected_8 (by decide) ?_
  refine q_lcmp hx hb dL_areExpected_9 ?_
  refine q_lne (tgt := 49) hx hb dL_areExpected_10 (by decide) hT63 (by decide) (fun c_10 => absurd c_10 (by omega)) (fun c_10 => ?_)
  refine lv_aload_n hx hb dL_areExpected_13 rfl (lv_at hl 1 rfl) ?_
  refine q_ic 0 hx hb dL_areExpected_14 (by decide) ?_
  refine q_ic 0 hx hb dL_areExpected_15 (by decide) ?_
  refine q_ic 0 hx hb dL_areExpected_16 (by decide) ?_
  refine q_ic 0 hx hb dL_areExpected_17 (by decide) ?_
  refine q_kL2 (q_rV (As := [.int (nI 0), .int (nI 0), .int (nI 0), .int (nI 0)]) (rest := []) (x := 0) hC hW mw_X5_expected gw_296 (k_expected l G 74 ad H.size I_2 L_2 R_2 (nI 0) (nI 0) (nI 0) (nI 0) w K ro hc hi sv pn ch hA) (by omega) (ct_o5 kd_0) rfl ⟨rfl, rfl⟩ ⟨Nat.le_of_ble_eq_true rfl, Nat.le_of_ble_eq_true rfl⟩ ⟨(Nat.le_of_ble_eq_true rfl), (Nat.le_of_ble_eq_true rfl)⟩ hl.1 rfl rfl (Nat.le_of_ble_eq_true rfl) dL_areExpected_18) hW (fun r_18 n_18 ad_18 I_18 L_18 R_18 H locs hp hW => ?_)
  obtain ⟨hz, rfl, rfl, hA, hF⟩ := PRl_use hp
  have hG := fr_t hF hG
  have hz : r_18 = (-5) := hz.trans (aE0 (m := (w, K, ro)) (k := 0) (y := 0) (i := 6 * 6 + 0) (by decide) (by decide) (ix0 (c := 0) (by first | omega | assumption)) hT)
  subst hz
  refine lv_ldc2 (v := -5) hx hb hC.2.2.2.1 (hC.2.2.2.2 _ gw_281) dL_areExpected_21 ?_
  refine W.lcmp hx hb dL_areExpected_24 ?_
  refine q_Lne (tgt := 47) hx hb dL_areExpected_25 (by decide) (fun c_25 => absurd rfl c_25) (fun c_25 => ?_)
  refine lv_aload_n hx hb dL_areExpected_28 rfl (lv_at hl 1 rfl) ?_
  refine q_ic 2 hx hb dL_areExpected_29 (by decide) ?_
  refine q_ic 3 hx hb dL_areExpected_30 (by decide) ?_
  refine q_ic 3 hx hb dL_areExpected_31 (by decide) ?_
  refine q_ic 1 hx hb dL_areExpected_32 (by decide) ?_
  refine q_kL2 (q_rV (As := [.int (nI 2), .int (nI 3), .int (nI 3), .int (nI 1)]) (rest := []) (x := 0) hC hW mw_X5_expected gw_296 (k_expected l G 74 ad H.size I_18 L_18 R_18 (nI 2) (nI 3) (nI 3) (nI 1) w K ro hc hi sv pn ch hA) (by omega) (ct_o5 kd_0) rfl ⟨rfl, rfl⟩ ⟨Nat.le_of_ble_eq_true rfl, Nat.le_of_ble_eq_true rfl⟩ ⟨(Nat.le_of_ble_eq_true rfl), (Nat.le_of_ble_eq_true rfl)⟩ hl.1 rfl rfl (Nat.le_of_ble_eq_true rfl) dL_areExpected_33) hW (fun r_33 n_33 ad_33 I_33 L_33 R_33 H locs hp hW => ?_)
  obtain ⟨hz, rfl, rfl, hA, hF⟩ := PRl_use hp
  have hG := fr_t hF hG
  have hz : r_33 = (-5) := hz.trans (aE0 (m := (w, K, ro)) (k := 2) (y := 1) (i := 42 + 3 * 4 + 3) (by decide) (by decide) (ix2 (c := 3) (t := 3) (by first | omega | assumption) (by first | omega | assumption)) hT)
  subst hz
  refine lv_ldc2 (v := -5) hx hb hC.2.2.2.1 (hC.2.2.2.2 _ gw_281) dL_areExpected_36 ?_
  refine W.lcmp hx hb dL_areExpected_39 ?_
  refine q_Lne (tgt := 47) hx hb dL_areExpected_40 (by decide) (fun c_40 => absurd rfl c_40) (fun c_40 => ?_)
  refine q_ic 1 hx hb dL_areExpected_43 (by decide) ?_
  refine lv_goto (tgt := 48) hx hb dL_areExpected_44 (by decide) ?_
  exact q_zret2 hC hW hr hlk0 rfl (PR_q hA hG) dL_areExpected_48
set_option maxRecDepth 100000 in
set_option maxHeartbeats 4000000 in
theorem k_areExp1 (l : Launch) (G : Gx) (ad : Nat → Nat) (sz : Nat) (I : Ic) (L : Lc) (R : Rc)  (w : Nat → Nat) (K : Nat) (ro : Nat → Nat) (hc : Nat) (hi : Nat → CM) (sv : Nat → Option CM) (pn : Nat) (ch : Nat → Nat) (hA : InvA 74 I L R ((w, K, ro), hc, hi, sv, pn, ch)) (hT0 : 0 < Sx' w K ro K 6) (hAh : ∀ p c, p < K → c < 4 → L 71 (4 * p + c) = lN (uB w ro (p + 1) c)) (hBe : ∀ p c, p < K → c < 4 → L 72 (4 * p + c) = lN (Sx' w K ro (K - (p + 1)) c)) : Met l yL_areExpected (Cond.code yL_areExpected cL_areExpected 17 (some .boolean) :: GW) ({ frames := 8, cells := 0, slots := 0, locals := 288 } : Room) (qPre G 74 ad sz I L R [.ref (ad 0), .ref (ad 71), .ref (ad 72), .long (lN (Sx' w K ro K 6))]) (qI2 G (qA 74 ad sz) (fun z u => PR 74 ad I L R (nI 1, ((w, K, ro), hc, hi, sv, pn, ch)) z u)) 0 0 (qA 74 ad sz) := by
  refine q_met (by decide) (Nat.le_of_ble_eq_true rfl) ?_
  intro p_ e_ s m_ below meth c_ hC hr hlk0 hin hsz hW ls hl
  subst hsz
  have hC : CallFix p_ m_ c_ cL_areExpected 17 s ([.ref (ad 0), .ref (ad 71), .ref (ad 72), .long (lN (Sx' w K ro K 6))] : List Value).toArray GW "CoinRowsLaw" := hC
  have hx := hC.1
  have hb := hC.2.1
  have hw : Wok w := hA.2.2.1.2.2.2.2.1
  have hw3 : ∀ i, w i ≤ 3 := hw.1
  have hk6 : K ≤ 6 := hA.2.2.1.2.2.2.1
  have hr4 : ∀ j, ro j < 4 := hA.2.2.1.2.2.2.2.2
  have hn71 := hA.1
  have hT63 : Sx' w K ro K 6 < 2 ^ 63 := Nat.lt_of_le_of_lt (Sx_b hw K K 6 hk6) (by decide)
  have hC31 : Cx' w K ro K 6 < 2 ^ 31 := Nat.lt_of_le_of_lt (Cx_b hw K K 6 hk6) (by decide)
  have hG : Fr7 I I L L R R := fr_0
  have hT : ¬ aTot (w, K, ro) = 0 := Nat.ne_of_gt hT0
  have hl : lv_has ls 17 [(0, .ref (ad 0)), (1, .ref (ad 71)), (2, .ref (ad 72)), (3, .long (lN (Sx' w K ro K 6)))] := hl
  refine lv_aload_n hx hb dL_areExpected_0 rfl (lv_at hl 0 rfl) ?_
  refine q_ic 0 hx hb dL_areExpected_1 (by decide) ?_
  refine q_kI2 (q_rV (As := [.int (nI 0)]) (rest := []) (x := 0) hC hW mw_X5_count gw_172 (k_count l G 74 ad s.heap.size I L R (nI 0) w K ro hc hi sv pn ch hA) (by omega) (ct_o5 kd_0) rfl ⟨rfl, rfl⟩ ⟨Nat.le_of_ble_eq_true rfl, Nat.le_of_ble_eq_true rfl⟩ ⟨(Nat.le_of_ble_eq_true rfl), (Nat.le_of_ble_eq_true rfl)⟩ hl.1 rfl rfl (Nat.le_of_ble_eq_true rfl) dL_areExpected_2) hW (fun r_2 n_2 ad_2 I_2 L_2 R_2 H locs hp hW => ?_)
  obtain ⟨hz, rfl, rfl, hA, hF⟩ := PR_use hp
  have hG := fr_t hF hG
  have hz : r_2 = nI K := hz.trans (aC0 (S := ((w, K, ro), hc, hi, sv, pn, ch)))
  subst hz
  refine lv_istore (lv' := [(5, .int (nI (K))), (0, .ref (ad 0)), (1, .ref (ad 71)), (2, .ref (ad 72)), (3, .long (lN (Sx' w K ro K 6)))]) hx hb dL_areExpected_5 hl (by decide) rfl (fun ls hl => ?_)
  refine lv_lload_n hx hb dL_areExpected_7 rfl (lv_at hl 4 rfl) ?_
  refine q_lc 0 hx hb dL_areExpected_8 (by decide) ?_
  refine q_lcmp hx hb dL_areExpected_9 ?_
  refine q_lne (tgt := 49) hx hb dL_areExpected_10 (by decide) hT63 (by decide) (fun c_10 => ?_) (fun c_10 => absurd c_10 (by omega))
  refine q_ic 0 hx hb dL_areExpected_49 (by decide) ?_
  refine lv_istore (lv' := [(6, .int (nI 0)), (5, .int (nI (K))), (0, .ref (ad 0)), (1, .ref (ad 71)), (2, .ref (ad 72)), (3, .long (lN (Sx' w K ro K 6)))]) hx hb dL_areExpected_50 hl (by decide) rfl (fun ls hl => ?_)
  have lp_52 : ∀ (fu_52 : Nat) (c : Nat) (J52 : Ic) (M52 : Lc) (Q52 : Rc), 4 - c < fu_52 → (c ≤ 4) → (InvA 74 J52 M52 Q52 ((w, K, ro), hc, hi, sv, pn, ch)) → (Fr7 I J52 L M52 R Q52) → ∀ (H : Heap) (locs : List Loc), Wd G 74 ad J52 M52 Q52 (qA 74 ad s.heap.size) s.heap H locs s → ∀ ls : Array Slot, lv_has ls 17 [(0, .ref (ad 0)), (1, .ref (ad 71)), (2, .ref (ad 72)), (3, .long (lN (Sx' w K ro K 6))), (5, .int (nI (K))), (6, .int (nI (c)))] → W p_ l e_ ({ frames := 8, cells := 0, slots := 0, locals := 288 } : Room) s m_ ([.ref (ad 0), .ref (ad 71), .ref (ad 72), .long (lN (Sx' w K ro K 6))] : List Value).toArray below meth c_ H locs 0 0 (MQ below (qI2 G (qA 74 ad s.heap.size) (fun z u => PR 74 ad I L R (nI 1, ((w, K, ro), hc, hi, sv, pn, ch)) z u)) ([.ref (ad 0), .ref (ad 71), .ref (ad 72), .long (lN (Sx' w K ro K 6))] : List Value).toArray s 0 0 (qA 74 ad s.heap.size)) (F0 m_ 52 ls []) := by
    intro fu_52
    induction fu_52 with
    | zero =>
      intro c J52 M52 Q52 hm; exact absurd hm (Nat.not_lt_zero _)
    | succ fu_52 ih_52 =>
      intro c J52 M52 Q52 hm_52 hc4 hA hG H locs hW ls hl
      refine lv_iload hx hb dL_areExpected_52 (lv_at hl 5 rfl) ?_
      refine q_ic 4 hx hb dL_areExpected_54 (by decide) ?_
      refine q_cge (tgt := 168) hx hb dL_areExpected_55 (by decide) (by first | omega | exact Nat.lt_of_le_of_lt (hw3 _) (by decide) | exact Nat.lt_of_lt_of_le (hr4 _) (by decide) | exact Nat.lt_of_le_of_lt (bp_le _) (by decide) | assumption) (by first | omega | exact Nat.lt_of_le_of_lt (hw3 _) (by decide) | exact Nat.lt_of_lt_of_le (hr4 _) (by decide) | exact Nat.lt_of_le_of_lt (bp_le _) (by decide) | assumption) (fun c_55 => ?_) (fun c_55 => ?_)
      ·
        refine q_lc 0 hx hb dL_areExpected_168 (by decide) ?_
        refine lv_lstore (lv' := [(6, .long (lN 0)), (0, .ref (ad 0)), (1, .ref (ad 71)), (2, .ref (ad 72)), (3, .long (lN (Sx' w K ro K 6))), (5, .int (nI (K)))]) hx hb dL_areExpected_169 hl (by decide) rfl (fun ls hl => ?_)
        refine q_lc 0 hx hb dL_areExpected_171 (by decide) ?_
        refine lv_lstore (lv' := [(8, .long (lN 0)), (6, .long (lN 0)), (0, .ref (ad 0)), (1, .ref (ad 71)), (2, .ref (ad 72)), (3, .long (lN (Sx' w K ro K 6))), (5, .int (nI (K)))]) hx hb dL_areExpected_172 hl (by decide) rfl (fun ls hl => ?_)
        refine q_ic 0 hx hb dL_areExpected_174 (by decide) ?_
        have hl : lv_has ls 17 [(8, .long (lN (fb_sm (fun c => fb_sm (fun b => if b < 4 then exN w ro K (c * 6 + b) else 0) 6 + (if c < 4 then exN w ro K (6 * 6 + c) else 0)) 0))), (6, .long (lN (fb_sm (fun c => exN w ro K (6 * 6 + c)) 0))), (0, .ref (ad 0)), (1, .ref (ad 71)), (2, .ref (ad 72)), (3, .long (lN (Sx' w K ro K 6))), (5, .int (nI (K)))] := by rw [show fb_sm (fun c => exN w ro K (6 * 6 + c)) 0 = 0 from rfl, show fb_sm (fun c => fb_sm (fun b => if b < 4 then exN w ro K (c * 6 + b) else 0) 6 + (if c < 4 then exN w ro K (6 * 6 + c) else 0)) 0 = 0 from rfl]; exact hl
        refine lv_istore (lv' := [(10, .int (nI 0)), (8, .long (lN (fb_sm (fun c => fb_sm (fun b => if b < 4 then exN w ro K (c * 6 + b) else 0) 6 + (if c < 4 then exN w ro K (6 * 6 + c) else 0)) 0))), (6, .long (lN (fb_sm (fun c => exN w ro K (6 * 6 + c)) 0))), (0, .ref (ad 0)), (1, .ref (ad 71)), (2, .ref (ad 72)), (3, .long (lN (Sx' w K ro K 6))), (5, .int (nI (K)))]) hx hb dL_areExpected_175 hl (by decide) rfl (fun ls hl => ?_)
        have lp_177 : ∀ (fu_177 : Nat) (c : Nat) (J177 : Ic) (M177 : Lc) (Q177 : Rc), 6 - c < fu_177 → (c ≤ 6) → (InvA 74 J177 M177 Q177 ((w, K, ro), hc, hi, sv, pn, ch)) → (Fr7 I J177 L M177 R Q177) → ∀ (H : Heap) (locs : List Loc), Wd G 74 ad J177 M177 Q177 (qA 74 ad s.heap.size) s.heap H locs s → ∀ ls : Array Slot, lv_has ls 17 [(0, .ref (ad 0)), (1, .ref (ad 71)), (2, .ref (ad 72)), (3, .long (lN (Sx' w K ro K 6))), (5, .int (nI (K))), (6, .long (lN (fb_sm (fun c => exN w ro K (6 * 6 + c)) c))), (8, .long (lN (fb_sm (fun c => fb_sm (fun b => if b < 4 then exN w ro K (c * 6 + b) else 0) 6 + (if c < 4 then exN w ro K (6 * 6 + c) else 0)) c))), (10, .int (nI (c)))] → W p_ l e_ ({ frames := 8, cells := 0, slots := 0, locals := 288 } : Room) s m_ ([.ref (ad 0), .ref (ad 71), .ref (ad 72), .long (lN (Sx' w K ro K 6))] : List Value).toArray below meth c_ H locs 0 0 (MQ below (qI2 G (qA 74 ad s.heap.size) (fun z u => PR 74 ad I L R (nI 1, ((w, K, ro), hc, hi, sv, pn, ch)) z u)) ([.ref (ad 0), .ref (ad 71), .ref (ad 72), .long (lN (Sx' w K ro K 6))] : List Value).toArray s 0 0 (qA 74 ad s.heap.size)) (F0 m_ 177 ls []) := by
          intro fu_177
          induction fu_177 with
          | zero =>
            intro c J177 M177 Q177 hm; exact absurd hm (Nat.not_lt_zero _)
          | succ fu_177 ih_177 =>
            intro c J177 M177 Q177 hm_177 hc6 hA hG H locs hW ls hl
            refine lv_iload hx hb dL_areExpected_177 (lv_at hl 7 rfl) ?_
            refine q_bp 6 hx hb dL_areExpected_179 (by decide) ?_
            refine q_cge (tgt := 347) hx hb dL_areExpected_181 (by decide) (by first | omega | exact Nat.lt_of_le_of_lt (hw3 _) (by decide) | exact Nat.lt_of_lt_of_le (hr4 _) (by decide) | exact Nat.lt_of_le_of_lt (bp_le _) (by decide) | assumption) (by first | omega | exact Nat.lt_of_le_of_lt (hw3 _) (by decide) | exact Nat.lt_of_lt_of_le (hr4 _) (by decide) | exact Nat.lt_of_le_of_lt (bp_le _) (by decide) | assumption) (fun c_181 => ?_) (fun c_181 => ?_)
            ·
              have hl : lv_has ls 17 [(0, .ref (ad 0)), (1, .ref (ad 71)), (2, .ref (ad 72)), (3, .long (lN (Sx' w K ro K 6))), (5, .int (nI (K))), (6, .long (lN (fb_sm (fun c => exN w ro K (6 * 6 + c)) 6))), (8, .long (lN (fb_sm (fun c => fb_sm (fun b => if b < 4 then exN w ro K (c * 6 + b) else 0) 6 + (if c < 4 then exN w ro K (6 * 6 + c) else 0)) 6))), (10, .int (nI (c)))] := by rw [show fb_sm (fun c => exN w ro K (6 * 6 + c)) 6 = fb_sm (fun c => exN w ro K (6 * 6 + c)) c from by rw [show c = 6 by omega], show fb_sm (fun c => fb_sm (fun b => if b < 4 then exN w ro K (c * 6 + b) else 0) 6 + (if c < 4 then exN w ro K (6 * 6 + c) else 0)) 6 = fb_sm (fun c => fb_sm (fun b => if b < 4 then exN w ro K (c * 6 + b) else 0) 6 + (if c < 4 then exN w ro K (6 * 6 + c) else 0)) c from by rw [show c = 6 by omega]]; exact hl
              refine lv_lload hx hb dL_areExpected_347 (lv_at hl 5 rfl) ?_
              refine lv_iload hx hb dL_areExpected_349 (lv_at hl 4 rfl) ?_
              refine q_ine (tgt := 358) hx hb dL_areExpected_351 (by decide) (by first | omega | exact Nat.lt_of_le_of_lt (hw3 _) (by decide) | exact Nat.lt_of_lt_of_le (hr4 _) (by decide) | exact Nat.lt_of_le_of_lt (bp_le _) (by decide) | assumption) (fun c_351 => ?_) (fun c_351 => ?_)
              ·
                refine lv_lload_n hx hb dL_areExpected_358 rfl (lv_at hl 3 rfl) ?_
                refine q_lcmp hx hb dL_areExpected_359 ?_
                refine q_Lne (tgt := 378) hx hb dL_areExpected_360 (by decide) (fun c_360 => absurd (congrArg lN (show fb_sm (fun c => exN w ro K (6 * 6 + c)) 6 = Sx' w K ro K 6 from beg_T hw (by omega))) c_360) (fun c_360 => ?_)
                refine lv_lload hx hb dL_areExpected_363 (lv_at hl 6 rfl) ?_
                refine lv_iload hx hb dL_areExpected_365 (lv_at hl 4 rfl) ?_
                refine q_i2l hx hb dL_areExpected_367 (by first | omega | exact Nat.lt_of_le_of_lt (hw3 _) (by decide) | exact Nat.lt_of_lt_of_le (hr4 _) (by decide) | exact Nat.lt_of_le_of_lt (bp_le _) (by decide) | assumption) ?_
                refine lv_lload_n hx hb dL_areExpected_368 rfl (lv_at hl 3 rfl) ?_
                refine q_lmul hx hb dL_areExpected_369 ?_
                refine q_lcmp hx hb dL_areExpected_370 ?_
                refine q_Lne (tgt := 378) hx hb dL_areExpected_371 (by decide) (fun c_371 => absurd (congrArg lN (steps_T hw)) c_371) (fun c_371 => ?_)
                refine q_ic 1 hx hb dL_areExpected_374 (by decide) ?_
                refine lv_goto (tgt := 379) hx hb dL_areExpected_375 (by decide) ?_
                exact q_zret2 hC hW hr hlk0 rfl (PR_q hA hG) dL_areExpected_379
              ·
                refine q_lc 0 hx hb dL_areExpected_354 (by decide) ?_
                refine lv_goto (tgt := 359) hx hb dL_areExpected_355 (by decide) ?_
                refine q_lcmp hx hb dL_areExpected_359 ?_
                refine q_Lne (tgt := 378) hx hb dL_areExpected_360 (by decide) (fun c_360 => absurd (congrArg lN (show fb_sm (fun c => exN w ro K (6 * 6 + c)) 6 = 0 from by have h0 : K = 0 := c_351; subst h0; exact beg_0 w ro)) c_360) (fun c_360 => ?_)
                refine lv_lload hx hb dL_areExpected_363 (lv_at hl 6 rfl) ?_
                refine lv_iload hx hb dL_areExpected_365 (lv_at hl 4 rfl) ?_
                refine q_i2l hx hb dL_areExpected_367 (by first | omega | exact Nat.lt_of_le_of_lt (hw3 _) (by decide) | exact Nat.lt_of_lt_of_le (hr4 _) (by decide) | exact Nat.lt_of_le_of_lt (bp_le _) (by decide) | assumption) ?_
                refine lv_lload_n hx hb dL_areExpected_368 rfl (lv_at hl 3 rfl) ?_
                refine q_lmul hx hb dL_areExpected_369 ?_
                refine q_lcmp hx hb dL_areExpected_370 ?_
                refine q_Lne (tgt := 378) hx hb dL_areExpected_371 (by decide) (fun c_371 => absurd (congrArg lN (steps_T hw)) c_371) (fun c_371 => ?_)
                refine q_ic 1 hx hb dL_areExpected_374 (by decide) ?_
                refine lv_goto (tgt := 379) hx hb dL_areExpected_375 (by decide) ?_
                exact q_zret2 hC hW hr hlk0 rfl (PR_q hA hG) dL_areExpected_379
            ·
              refine lv_aload_n hx hb dL_areExpected_184 rfl (lv_at hl 0 rfl) ?_
              refine q_ic 0 hx hb dL_areExpected_185 (by decide) ?_
              refine lv_iload hx hb dL_areExpected_186 (lv_at hl 7 rfl) ?_
              refine q_ic 0 hx hb dL_areExpected_188 (by decide) ?_
              refine lv_lload_n hx hb dL_areExpected_189 rfl (lv_at hl 3 rfl) ?_
              refine q_kL2 (q_rS (As := [.ref (ad 0), .int (nI 0), .int (nI (c)), .int (nI 0), .long (lN (Sx' w K ro K 6))]) (rest := []) hC hW mw_L_numberOf gw_309 (k_numberOf l G 74 ad H.size J177 M177 Q177 0 (6 * 6 + c) (nI c) (nI 0) w K ro hc hi sv pn ch hA (by decide) (ix0 (c := c) (by first | omega | assumption)) hT0) ⟨rfl, rfl⟩ ⟨Nat.le_of_ble_eq_true rfl, Nat.le_of_ble_eq_true rfl⟩ ⟨(Nat.le_of_ble_eq_true rfl), (Nat.le_of_ble_eq_true rfl)⟩ hl.1 rfl rfl (Nat.le_of_ble_eq_true rfl) dL_areExpected_190) hW (fun r_190 n_190 ad_190 I_190 L_190 R_190 H locs hp hW => ?_)
              obtain ⟨hz, rfl, rfl, hA, hF⟩ := PRl_use hp
              have hG := fr_t hF hG
              have hz : r_190 = lN (exN w ro K (6 * 6 + c)) := hz
              subst hz
              refine lv_lstore (lv' := [(11, .long (lN (exN w ro K (6 * 6 + c)))), (0, .ref (ad 0)), (1, .ref (ad 71)), (2, .ref (ad 72)), (3, .long (lN (Sx' w K ro K 6))), (5, .int (nI (K))), (6, .long (lN (fb_sm (fun c => exN w ro K (6 * 6 + c)) c))), (8, .long (lN (fb_sm (fun c => fb_sm (fun b => if b < 4 then exN w ro K (c * 6 + b) else 0) 6 + (if c < 4 then exN w ro K (6 * 6 + c) else 0)) c))), (10, .int (nI (c)))]) hx hb dL_areExpected_193 hl (by decide) rfl (fun ls hl => ?_)
              refine q_lc 0 hx hb dL_areExpected_195 (by decide) ?_
              refine lv_lstore (lv' := [(13, .long (lN 0)), (11, .long (lN (exN w ro K (6 * 6 + c)))), (0, .ref (ad 0)), (1, .ref (ad 71)), (2, .ref (ad 72)), (3, .long (lN (Sx' w K ro K 6))), (5, .int (nI (K))), (6, .long (lN (fb_sm (fun c => exN w ro K (6 * 6 + c)) c))), (8, .long (lN (fb_sm (fun c => fb_sm (fun b => if b < 4 then exN w ro K (c * 6 + b) else 0) 6 + (if c < 4 then exN w ro K (6 * 6 + c) else 0)) c))), (10, .int (nI (c)))]) hx hb dL_areExpected_196 hl (by decide) rfl (fun ls hl => ?_)
              refine lv_lload hx hb dL_areExpected_198 (lv_at hl 7 rfl) ?_
              refine lv_lload hx hb dL_areExpected_200 (lv_at hl 1 rfl) ?_
              refine q_ladd hx hb dL_areExpected_202 ?_
              refine q_top (v2 := .long (lN (fb_sm (fun c => exN w ro K (6 * 6 + c)) (c + 1)))) (congrArg (fun z => Value.long (lN z)) (by simp only [fb_s] <;> (repeat (first | rw [if_pos (by omega)] | rw [if_neg (by omega)])) <;> omega)) ?_
              refine lv_lstore (lv' := [(6, .long (lN (fb_sm (fun c => exN w ro K (6 * 6 + c)) (c + 1)))), (13, .long (lN 0)), (11, .long (lN (exN w ro K (6 * 6 + c)))), (0, .ref (ad 0)), (1, .ref (ad 71)), (2, .ref (ad 72)), (3, .long (lN (Sx' w K ro K 6))), (5, .int (nI (K))), (8, .long (lN (fb_sm (fun c => fb_sm (fun b => if b < 4 then exN w ro K (c * 6 + b) else 0) 6 + (if c < 4 then exN w ro K (6 * 6 + c) else 0)) c))), (10, .int (nI (c)))]) hx hb dL_areExpected_203 hl (by decide) rfl (fun ls hl => ?_)
              refine q_ic 0 hx hb dL_areExpected_205 (by decide) ?_
              have hl : lv_has ls 17 [(6, .long (lN (fb_sm (fun c => exN w ro K (6 * 6 + c)) (c + 1)))), (13, .long (lN (fb_sm (fun b => exN w ro K (c * 6 + b)) 0))), (11, .long (lN (exN w ro K (6 * 6 + c) + fb_sm (fun b => exN w ro K (b * 6 + c)) 0))), (0, .ref (ad 0)), (1, .ref (ad 71)), (2, .ref (ad 72)), (3, .long (lN (Sx' w K ro K 6))), (5, .int (nI (K))), (8, .long (lN (fb_sm (fun c => fb_sm (fun b => if b < 4 then exN w ro K (c * 6 + b) else 0) 6 + (if c < 4 then exN w ro K (6 * 6 + c) else 0)) c + fb_sm (fun b => if b < 4 then exN w ro K (c * 6 + b) else 0) 0))), (10, .int (nI (c)))] := by rw [show fb_sm (fun c => fb_sm (fun b => if b < 4 then exN w ro K (c * 6 + b) else 0) 6 + (if c < 4 then exN w ro K (6 * 6 + c) else 0)) c + fb_sm (fun b => if b < 4 then exN w ro K (c * 6 + b) else 0) 0 = fb_sm (fun c => fb_sm (fun b => if b < 4 then exN w ro K (c * 6 + b) else 0) 6 + (if c < 4 then exN w ro K (6 * 6 + c) else 0)) c from rfl, show exN w ro K (6 * 6 + c) + fb_sm (fun b => exN w ro K (b * 6 + c)) 0 = exN w ro K (6 * 6 + c) from rfl, show fb_sm (fun b => exN w ro K (c * 6 + b)) 0 = 0 from rfl]; exact hl
              refine lv_istore (lv' := [(15, .int (nI 0)), (6, .long (lN (fb_sm (fun c => exN w ro K (6 * 6 + c)) (c + 1)))), (13, .long (lN (fb_sm (fun b => exN w ro K (c * 6 + b)) 0))), (11, .long (lN (exN w ro K (6 * 6 + c) + fb_sm (fun b => exN w ro K (b * 6 + c)) 0))), (0, .ref (ad 0)), (1, .ref (ad 71)), (2, .ref (ad 72)), (3, .long (lN (Sx' w K ro K 6))), (5, .int (nI (K))), (8, .long (lN (fb_sm (fun c => fb_sm (fun b => if b < 4 then exN w ro K (c * 6 + b) else 0) 6 + (if c < 4 then exN w ro K (6 * 6 + c) else 0)) c + fb_sm (fun b => if b < 4 then exN w ro K (c * 6 + b) else 0) 0))), (10, .int (nI (c)))]) hx hb dL_areExpected_206 hl (by decide) rfl (fun ls hl => ?_)
              have lp_208 : ∀ (fu_208 : Nat) (b1 : Nat) (J208 : Ic) (M208 : Lc) (Q208 : Rc), 6 - b1 < fu_208 → (b1 ≤ 6) → (InvA 74 J208 M208 Q208 ((w, K, ro), hc, hi, sv, pn, ch)) → (Fr7 I J208 L M208 R Q208) → ∀ (H : Heap) (locs : List Loc), Wd G 74 ad J208 M208 Q208 (qA 74 ad s.heap.size) s.heap H locs s → ∀ ls : Array Slot, lv_has ls 17 [(0, .ref (ad 0)), (1, .ref (ad 71)), (2, .ref (ad 72)), (3, .long (lN (Sx' w K ro K 6))), (5, .int (nI (K))), (6, .long (lN (fb_sm (fun c => exN w ro K (6 * 6 + c)) (c + 1)))), (8, .long (lN (fb_sm (fun c => fb_sm (fun b => if b < 4 then exN w ro K (c * 6 + b) else 0) 6 + (if c < 4 then exN w ro K (6 * 6 + c) else 0)) c + fb_sm (fun b => if b < 4 then exN w ro K (c * 6 + b) else 0) b1))), (10, .int (nI (c))), (11, .long (lN (exN w ro K (6 * 6 + c) + fb_sm (fun b => exN w ro K (b * 6 + c)) b1))), (13, .long (lN (fb_sm (fun b => exN w ro K (c * 6 + b)) b1))), (15, .int (nI (b1)))] → W p_ l e_ ({ frames := 8, cells := 0, slots := 0, locals := 288 } : Room) s m_ ([.ref (ad 0), .ref (ad 71), .ref (ad 72), .long (lN (Sx' w K ro K 6))] : List Value).toArray below meth c_ H locs 0 0 (MQ below (qI2 G (qA 74 ad s.heap.size) (fun z u => PR 74 ad I L R (nI 1, ((w, K, ro), hc, hi, sv, pn, ch)) z u)) ([.ref (ad 0), .ref (ad 71), .ref (ad 72), .long (lN (Sx' w K ro K 6))] : List Value).toArray s 0 0 (qA 74 ad s.heap.size)) (F0 m_ 208 ls []) := by
                intro fu_208
                induction fu_208 with
                | zero =>
                  intro b1 J208 M208 Q208 hm; exact absurd hm (Nat.not_lt_zero _)
                | succ fu_208 ih_208 =>
                  intro b1 J208 M208 Q208 hm_208 hb6 hA hG H locs hW ls hl
                  refine lv_iload hx hb dL_areExpected_208 (lv_at hl 10 rfl) ?_
                  refine q_bp 6 hx hb dL_areExpected_210 (by decide) ?_
                  refine q_cge (tgt := 276) hx hb dL_areExpected_212 (by decide) (by first | omega | exact Nat.lt_of_le_of_lt (hw3 _) (by decide) | exact Nat.lt_of_lt_of_le (hr4 _) (by decide) | exact Nat.lt_of_le_of_lt (bp_le _) (by decide) | assumption) (by first | omega | exact Nat.lt_of_le_of_lt (hw3 _) (by decide) | exact Nat.lt_of_lt_of_le (hr4 _) (by decide) | exact Nat.lt_of_le_of_lt (bp_le _) (by decide) | assumption) (fun c_212 => ?_) (fun c_212 => ?_)
                  ·
                    have hl : lv_has ls 17 [(0, .ref (ad 0)), (1, .ref (ad 71)), (2, .ref (ad 72)), (3, .long (lN (Sx' w K ro K 6))), (5, .int (nI (K))), (6, .long (lN (fb_sm (fun c => exN w ro K (6 * 6 + c)) (c + 1)))), (8, .long (lN (fb_sm (fun c => fb_sm (fun b => if b < 4 then exN w ro K (c * 6 + b) else 0) 6 + (if c < 4 then exN w ro K (6 * 6 + c) else 0)) c + fb_sm (fun b => if b < 4 then exN w ro K (c * 6 + b) else 0) 6))), (10, .int (nI (c))), (11, .long (lN (exN w ro K (6 * 6 + c) + fb_sm (fun b => exN w ro K (b * 6 + c)) 6))), (13, .long (lN (fb_sm (fun b => exN w ro K (c * 6 + b)) 6))), (15, .int (nI (b1)))] := by rw [show exN w ro K (6 * 6 + c) + fb_sm (fun b => exN w ro K (b * 6 + c)) 6 = exN w ro K (6 * 6 + c) + fb_sm (fun b => exN w ro K (b * 6 + c)) b1 from by rw [show b1 = 6 by omega], show fb_sm (fun b => exN w ro K (c * 6 + b)) 6 = fb_sm (fun b => exN w ro K (c * 6 + b)) b1 from by rw [show b1 = 6 by omega], show fb_sm (fun c => fb_sm (fun b => if b < 4 then exN w ro K (c * 6 + b) else 0) 6 + (if c < 4 then exN w ro K (6 * 6 + c) else 0)) c + fb_sm (fun b => if b < 4 then exN w ro K (c * 6 + b) else 0) 6 = fb_sm (fun c => fb_sm (fun b => if b < 4 then exN w ro K (c * 6 + b) else 0) 6 + (if c < 4 then exN w ro K (6 * 6 + c) else 0)) c + fb_sm (fun b => if b < 4 then exN w ro K (c * 6 + b) else 0) b1 from by rw [show b1 = 6 by omega]]; exact hl
                    have hfl := flow (r := ro) (K := K) hw (show c < 6 by omega)
                    refine lv_iload hx hb dL_areExpected_276 (lv_at hl 7 rfl) ?_
                    refine q_ic 4 hx hb dL_areExpected_278 (by decide) ?_
                    refine q_cge (tgt := 301) hx hb dL_areExpected_279 (by decide) (by first | omega | exact Nat.lt_of_le_of_lt (hw3 _) (by decide) | exact Nat.lt_of_lt_of_le (hr4 _) (by decide) | exact Nat.lt_of_le_of_lt (bp_le _) (by decide) | assumption) (by first | omega | exact Nat.lt_of_le_of_lt (hw3 _) (by decide) | exact Nat.lt_of_lt_of_le (hr4 _) (by decide) | exact Nat.lt_of_le_of_lt (bp_le _) (by decide) | assumption) (fun c_279 => ?_) (fun c_279 => ?_)
                    ·
                      refine q_lc 0 hx hb dL_areExpected_301 (by decide) ?_
                      refine q_top (v2 := .long (lN (enN w ro K c))) (congrArg (fun z => Value.long (lN z)) (show 0 = enN w ro K c from by unfold enN; rw [if_neg (by omega)])) ?_
                      refine lv_lstore (lv' := [(15, .long (lN (enN w ro K c))), (0, .ref (ad 0)), (1, .ref (ad 71)), (2, .ref (ad 72)), (3, .long (lN (Sx' w K ro K 6))), (5, .int (nI (K))), (6, .long (lN (fb_sm (fun c => exN w ro K (6 * 6 + c)) (c + 1)))), (8, .long (lN (fb_sm (fun c => fb_sm (fun b => if b < 4 then exN w ro K (c * 6 + b) else 0) 6 + (if c < 4 then exN w ro K (6 * 6 + c) else 0)) c + fb_sm (fun b => if b < 4 then exN w ro K (c * 6 + b) else 0) 6))), (10, .int (nI (c))), (11, .long (lN (exN w ro K (6 * 6 + c) + fb_sm (fun b => exN w ro K (b * 6 + c)) 6))), (13, .long (lN (fb_sm (fun b => exN w ro K (c * 6 + b)) 6)))]) hx hb dL_areExpected_302 hl (by decide) rfl (fun ls hl => ?_)
                      refine lv_lload hx hb dL_areExpected_304 (lv_at hl 9 rfl) ?_
                      refine lv_lload hx hb dL_areExpected_306 (lv_at hl 10 rfl) ?_
                      refine lv_lload hx hb dL_areExpected_308 (lv_at hl 0 rfl) ?_
                      refine q_ladd hx hb dL_areExpected_310 ?_
                      refine q_lcmp hx hb dL_areExpected_311 ?_
                      refine q_Leq (tgt := 317) hx hb dL_areExpected_312 (by decide) (fun c_312 => ?_) (fun c_312 => absurd (congrArg lN hfl) c_312)
                      refine lv_lload hx hb dL_areExpected_317 (lv_at hl 7 rfl) ?_
                      refine lv_iload hx hb dL_areExpected_319 (lv_at hl 8 rfl) ?_
                      refine q_ic 4 hx hb dL_areExpected_321 (by decide) ?_
                      refine q_cge (tgt := 337) hx hb dL_areExpected_322 (by decide) (by first | omega | exact Nat.lt_of_le_of_lt (hw3 _) (by decide) | exact Nat.lt_of_lt_of_le (hr4 _) (by decide) | exact Nat.lt_of_le_of_lt (bp_le _) (by decide) | assumption) (by first | omega | exact Nat.lt_of_le_of_lt (hw3 _) (by decide) | exact Nat.lt_of_lt_of_le (hr4 _) (by decide) | exact Nat.lt_of_le_of_lt (bp_le _) (by decide) | assumption) (fun c_322 => ?_) (fun c_322 => absurd c_322 (by omega))
                      refine q_lc 0 hx hb dL_areExpected_337 (by decide) ?_
                      refine q_ladd hx hb dL_areExpected_338 ?_
                      refine q_top (v2 := .long (lN (fb_sm (fun c => fb_sm (fun b => if b < 4 then exN w ro K (c * 6 + b) else 0) 6 + (if c < 4 then exN w ro K (6 * 6 + c) else 0)) (c + 1)))) (congrArg (fun z => Value.long (lN z)) (by simp only [fb_s] <;> (repeat (first | rw [if_pos (by omega)] | rw [if_neg (by omega)])) <;> omega)) ?_
                      refine lv_lstore (lv' := [(8, .long (lN (fb_sm (fun c => fb_sm (fun b => if b < 4 then exN w ro K (c * 6 + b) else 0) 6 + (if c < 4 then exN w ro K (6 * 6 + c) else 0)) (c + 1)))), (15, .long (lN (enN w ro K c))), (0, .ref (ad 0)), (1, .ref (ad 71)), (2, .ref (ad 72)), (3, .long (lN (Sx' w K ro K 6))), (5, .int (nI (K))), (6, .long (lN (fb_sm (fun c => exN w ro K (6 * 6 + c)) (c + 1)))), (10, .int (nI (c))), (11, .long (lN (exN w ro K (6 * 6 + c) + fb_sm (fun b => exN w ro K (b * 6 + c)) 6))), (13, .long (lN (fb_sm (fun b => exN w ro K (c * 6 + b)) 6)))]) hx hb dL_areExpected_339 hl (by decide) rfl (fun ls hl => ?_)
                      refine q_iinc (z2 := c + 1) (lv' := [(10, .int (nI (c + 1))), (8, .long (lN (fb_sm (fun c => fb_sm (fun b => if b < 4 then exN w ro K (c * 6 + b) else 0) 6 + (if c < 4 then exN w ro K (6 * 6 + c) else 0)) (c + 1)))), (15, .long (lN (enN w ro K c))), (0, .ref (ad 0)), (1, .ref (ad 71)), (2, .ref (ad 72)), (3, .long (lN (Sx' w K ro K 6))), (5, .int (nI (K))), (6, .long (lN (fb_sm (fun c => exN w ro K (6 * 6 + c)) (c + 1)))), (11, .long (lN (exN w ro K (6 * 6 + c) + fb_sm (fun b => exN w ro K (b * 6 + c)) 6))), (13, .long (lN (fb_sm (fun b => exN w ro K (c * 6 + b)) 6)))]) hx hb dL_areExpected_341 hl (k := 8) rfl (inc_up _ 1 (by decide)) (by decide) rfl (fun ls hl => ?_)
                      refine lv_goto (tgt := 177) hx hb dL_areExpected_344 (by decide) ?_
                      exact ih_177 (c + 1) J208 M208 Q208 (by omega) (by omega) hA hG _ _ hW _ (lv_sub hl [3, 4, 5, 6, 7, 8, 1, 0] rfl)
                    ·
                      refine lv_iload hx hb dL_areExpected_282 (lv_at hl 4 rfl) ?_
                      refine q_ile (tgt := 301) hx hb dL_areExpected_284 (by decide) (by first | omega | exact Nat.lt_of_le_of_lt (hw3 _) (by decide) | exact Nat.lt_of_lt_of_le (hr4 _) (by decide) | exact Nat.lt_of_le_of_lt (bp_le _) (by decide) | assumption) (fun c_284 => ?_) (fun c_284 => ?_)
                      ·
                        refine q_lc 0 hx hb dL_areExpected_301 (by decide) ?_
                        refine q_top (v2 := .long (lN (enN w ro K c))) (congrArg (fun z => Value.long (lN z)) (show 0 = enN w ro K c from by unfold enN; rw [if_neg (by omega)])) ?_
                        refine lv_lstore (lv' := [(15, .long (lN (enN w ro K c))), (0, .ref (ad 0)), (1, .ref (ad 71)), (2, .ref (ad 72)), (3, .long (lN (Sx' w K ro K 6))), (5, .int (nI (K))), (6, .long (lN (fb_sm (fun c => exN w ro K (6 * 6 + c)) (c + 1)))), (8, .long (lN (fb_sm (fun c => fb_sm (fun b => if b < 4 then exN w ro K (c * 6 + b) else 0) 6 + (if c < 4 then exN w ro K (6 * 6 + c) else 0)) c + fb_sm (fun b => if b < 4 then exN w ro K (c * 6 + b) else 0) 6))), (10, .int (nI (c))), (11, .long (lN (exN w ro K (6 * 6 + c) + fb_sm (fun b => exN w ro K (b * 6 + c)) 6))), (13, .long (lN (fb_sm (fun b => exN w ro K (c * 6 + b)) 6)))]) hx hb dL_areExpected_302 hl (by decide) rfl (fun ls hl => ?_)
                        refine lv_lload hx hb dL_areExpected_304 (lv_at hl 9 rfl) ?_
                        refine lv_lload hx hb dL_areExpected_306 (lv_at hl 10 rfl) ?_
                        refine lv_lload hx hb dL_areExpected_308 (lv_at hl 0 rfl) ?_
                        refine q_ladd hx hb dL_areExpected_310 ?_
                        refine q_lcmp hx hb dL_areExpected_311 ?_
                        refine q_Leq (tgt := 317) hx hb dL_areExpected_312 (by decide) (fun c_312 => ?_) (fun c_312 => absurd (congrArg lN hfl) c_312)
                        refine lv_lload hx hb dL_areExpected_317 (lv_at hl 7 rfl) ?_
                        refine lv_iload hx hb dL_areExpected_319 (lv_at hl 8 rfl) ?_
                        refine q_ic 4 hx hb dL_areExpected_321 (by decide) ?_
                        refine q_cge (tgt := 337) hx hb dL_areExpected_322 (by decide) (by first | omega | exact Nat.lt_of_le_of_lt (hw3 _) (by decide) | exact Nat.lt_of_lt_of_le (hr4 _) (by decide) | exact Nat.lt_of_le_of_lt (bp_le _) (by decide) | assumption) (by first | omega | exact Nat.lt_of_le_of_lt (hw3 _) (by decide) | exact Nat.lt_of_lt_of_le (hr4 _) (by decide) | exact Nat.lt_of_le_of_lt (bp_le _) (by decide) | assumption) (fun c_322 => absurd c_322 (by omega)) (fun c_322 => ?_)
                        refine lv_aload_n hx hb dL_areExpected_325 rfl (lv_at hl 1 rfl) ?_
                        refine q_ic 0 hx hb dL_areExpected_326 (by decide) ?_
                        refine lv_iload hx hb dL_areExpected_327 (lv_at hl 8 rfl) ?_
                        refine q_ic 0 hx hb dL_areExpected_329 (by decide) ?_
                        refine lv_lload_n hx hb dL_areExpected_330 rfl (lv_at hl 4 rfl) ?_
                        refine q_kL2 (q_rS (As := [.ref (ad 0), .int (nI 0), .int (nI (c)), .int (nI 0), .long (lN (Sx' w K ro K 6))]) (rest := [.long (lN (fb_sm (fun c => fb_sm (fun b => if b < 4 then exN w ro K (c * 6 + b) else 0) 6 + (if c < 4 then exN w ro K (6 * 6 + c) else 0)) c + fb_sm (fun b => if b < 4 then exN w ro K (c * 6 + b) else 0) 6))]) hC hW mw_L_numberOf gw_309 (k_numberOf l G 74 ad H.size J208 M208 Q208 0 (6 * 6 + c) (nI c) (nI 0) w K ro hc hi sv pn ch hA (by decide) (ix0 (c := c) (by first | omega | assumption)) hT0) ⟨rfl, rfl⟩ ⟨Nat.le_of_ble_eq_true rfl, Nat.le_of_ble_eq_true rfl⟩ ⟨(Nat.le_of_ble_eq_true rfl), (Nat.le_of_ble_eq_true rfl)⟩ hl.1 rfl rfl (Nat.le_of_ble_eq_true rfl) dL_areExpected_331) hW (fun r_331 n_331 ad_331 I_331 L_331 R_331 H locs hp hW => ?_)
                        obtain ⟨hz, rfl, rfl, hA, hF⟩ := PRl_use hp
                        have hG := fr_t hF hG
                        have hz : r_331 = lN (exN w ro K (6 * 6 + c)) := hz
                        subst hz
                        refine lv_goto (tgt := 338) hx hb dL_areExpected_334 (by decide) ?_
                        refine q_ladd hx hb dL_areExpected_338 ?_
                        refine q_top (v2 := .long (lN (fb_sm (fun c => fb_sm (fun b => if b < 4 then exN w ro K (c * 6 + b) else 0) 6 + (if c < 4 then exN w ro K (6 * 6 + c) else 0)) (c + 1)))) (congrArg (fun z => Value.long (lN z)) (by simp only [fb_s] <;> (repeat (first | rw [if_pos (by omega)] | rw [if_neg (by omega)])) <;> omega)) ?_
                        refine lv_lstore (lv' := [(8, .long (lN (fb_sm (fun c => fb_sm (fun b => if b < 4 then exN w ro K (c * 6 + b) else 0) 6 + (if c < 4 then exN w ro K (6 * 6 + c) else 0)) (c + 1)))), (15, .long (lN (enN w ro K c))), (0, .ref (ad 0)), (1, .ref (ad 71)), (2, .ref (ad 72)), (3, .long (lN (Sx' w K ro K 6))), (5, .int (nI (K))), (6, .long (lN (fb_sm (fun c => exN w ro K (6 * 6 + c)) (c + 1)))), (10, .int (nI (c))), (11, .long (lN (exN w ro K (6 * 6 + c) + fb_sm (fun b => exN w ro K (b * 6 + c)) 6))), (13, .long (lN (fb_sm (fun b => exN w ro K (c * 6 + b)) 6)))]) hx hb dL_areExpected_339 hl (by decide) rfl (fun ls hl => ?_)
                        refine q_iinc (z2 := c + 1) (lv' := [(10, .int (nI (c + 1))), (8, .long (lN (fb_sm (fun c => fb_sm (fun b => if b < 4 then exN w ro K (c * 6 + b) else 0) 6 + (if c < 4 then exN w ro K (6 * 6 + c) else 0)) (c + 1)))), (15, .long (lN (enN w ro K c))), (0, .ref (ad 0)), (1, .ref (ad 71)), (2, .ref (ad 72)), (3, .long (lN (Sx' w K ro K 6))), (5, .int (nI (K))), (6, .long (lN (fb_sm (fun c => exN w ro K (6 * 6 + c)) (c + 1)))), (11, .long (lN (exN w ro K (6 * 6 + c) + fb_sm (fun b => exN w ro K (b * 6 + c)) 6))), (13, .long (lN (fb_sm (fun b => exN w ro K (c * 6 + b)) 6)))]) hx hb dL_areExpected_341 hl (k := 8) rfl (inc_up _ 1 (by decide)) (by decide) rfl (fun ls hl => ?_)
                        refine lv_goto (tgt := 177) hx hb dL_areExpected_344 (by decide) ?_
                        exact ih_177 (c + 1) I_331 L_331 R_331 (by omega) (by omega) hA hG _ _ hW _ (lv_sub hl [3, 4, 5, 6, 7, 8, 1, 0] rfl)
                      ·
                        refine lv_aload_n hx hb dL_areExpected_287 rfl (lv_at hl 1 rfl) ?_
                        refine q_ic 4 hx hb dL_areExpected_288 (by decide) ?_
                        refine lv_iload hx hb dL_areExpected_289 (lv_at hl 4 rfl) ?_
                        refine q_imul hx hb dL_areExpected_291 ?_
                        refine q_ic 4 hx hb dL_areExpected_292 (by decide) ?_
                        refine q_isub hx hb dL_areExpected_293 (by omega) ?_
                        refine lv_iload hx hb dL_areExpected_294 (lv_at hl 7 rfl) ?_
                        refine q_iadd hx hb dL_areExpected_296 ?_
                        refine q_lald (x := 71) (i := ((4 * K) - 4) + c) hC hW (by omega) kd_71 (by omega) dL_areExpected_297 ?_
                        refine q_top (v2 := .long (lN (uB w ro (K - 1 + 1) c))) (congrArg _ ((congrFun (hG 71 (by decide)).2.1 _).trans ((congrArg (L 71) (show ((4 * K) - 4) + c = 4 * (K - 1) + c from by omega)).trans (hAh (K - 1) c (by omega) (by omega))))) ?_
                        refine lv_goto (tgt := 302) hx hb dL_areExpected_298 (by decide) ?_
                        refine q_top (v2 := .long (lN (enN w ro K c))) (congrArg (fun z => Value.long (lN z)) (show uB w ro (K - 1 + 1) c = enN w ro K c from by unfold enN; rw [if_pos (by omega), show K - 1 + 1 = K by omega])) ?_
                        refine lv_lstore (lv' := [(15, .long (lN (enN w ro K c))), (0, .ref (ad 0)), (1, .ref (ad 71)), (2, .ref (ad 72)), (3, .long (lN (Sx' w K ro K 6))), (5, .int (nI (K))), (6, .long (lN (fb_sm (fun c => exN w ro K (6 * 6 + c)) (c + 1)))), (8, .long (lN (fb_sm (fun c => fb_sm (fun b => if b < 4 then exN w ro K (c * 6 + b) else 0) 6 + (if c < 4 then exN w ro K (6 * 6 + c) else 0)) c + fb_sm (fun b => if b < 4 then exN w ro K (c * 6 + b) else 0) 6))), (10, .int (nI (c))), (11, .long (lN (exN w ro K (6 * 6 + c) + fb_sm (fun b => exN w ro K (b * 6 + c)) 6))), (13, .long (lN (fb_sm (fun b => exN w ro K (c * 6 + b)) 6)))]) hx hb dL_areExpected_302 hl (by decide) rfl (fun ls hl => ?_)
                        refine lv_lload hx hb dL_areExpected_304 (lv_at hl 9 rfl) ?_
                        refine lv_lload hx hb dL_areExpected_306 (lv_at hl 10 rfl) ?_
                        refine lv_lload hx hb dL_areExpected_308 (lv_at hl 0 rfl) ?_
                        refine q_ladd hx hb dL_areExpected_310 ?_
                        refine q_lcmp hx hb dL_areExpected_311 ?_
                        refine q_Leq (tgt := 317) hx hb dL_areExpected_312 (by decide) (fun c_312 => ?_) (fun c_312 => absurd (congrArg lN hfl) c_312)
                        refine lv_lload hx hb dL_areExpected_317 (lv_at hl 7 rfl) ?_
                        refine lv_iload hx hb dL_areExpected_319 (lv_at hl 8 rfl) ?_
                        refine q_ic 4 hx hb dL_areExpected_321 (by decide) ?_
                        refine q_cge (tgt := 337) hx hb dL_areExpected_322 (by decide) (by first | omega | exact Nat.lt_of_le_of_lt (hw3 _) (by decide) | exact Nat.lt_of_lt_of_le (hr4 _) (by decide) | exact Nat.lt_of_le_of_lt (bp_le _) (by decide) | assumption) (by first | omega | exact Nat.lt_of_le_of_lt (hw3 _) (by decide) | exact Nat.lt_of_lt_of_le (hr4 _) (by decide) | exact Nat.lt_of_le_of_lt (bp_le _) (by decide) | assumption) (fun c_322 => absurd c_322 (by omega)) (fun c_322 => ?_)
                        refine lv_aload_n hx hb dL_areExpected_325 rfl (lv_at hl 1 rfl) ?_
                        refine q_ic 0 hx hb dL_areExpected_326 (by decide) ?_
                        refine lv_iload hx hb dL_areExpected_327 (lv_at hl 8 rfl) ?_
                        refine q_ic 0 hx hb dL_areExpected_329 (by decide) ?_
                        refine lv_lload_n hx hb dL_areExpected_330 rfl (lv_at hl 4 rfl) ?_
                        refine q_kL2 (q_rS (As := [.ref (ad 0), .int (nI 0), .int (nI (c)), .int (nI 0), .long (lN (Sx' w K ro K 6))]) (rest := [.long (lN (fb_sm (fun c => fb_sm (fun b => if b < 4 then exN w ro K (c * 6 + b) else 0) 6 + (if c < 4 then exN w ro K (6 * 6 + c) else 0)) c + fb_sm (fun b => if b < 4 then exN w ro K (c * 6 + b) else 0) 6))]) hC hW mw_L_numberOf gw_309 (k_numberOf l G 74 ad H.size J208 M208 Q208 0 (6 * 6 + c) (nI c) (nI 0) w K ro hc hi sv pn ch hA (by decide) (ix0 (c := c) (by first | omega | assumption)) hT0) ⟨rfl, rfl⟩ ⟨Nat.le_of_ble_eq_true rfl, Nat.le_of_ble_eq_true rfl⟩ ⟨(Nat.le_of_ble_eq_true rfl), (Nat.le_of_ble_eq_true rfl)⟩ hl.1 rfl rfl (Nat.le_of_ble_eq_true rfl) dL_areExpected_331) hW (fun r_331 n_331 ad_331 I_331 L_331 R_331 H locs hp hW => ?_)
                        obtain ⟨hz, rfl, rfl, hA, hF⟩ := PRl_use hp
                        have hG := fr_t hF hG
                        have hz : r_331 = lN (exN w ro K (6 * 6 + c)) := hz
                        subst hz
                        refine lv_goto (tgt := 338) hx hb dL_areExpected_334 (by decide) ?_
                        refine q_ladd hx hb dL_areExpected_338 ?_
                        refine q_top (v2 := .long (lN (fb_sm (fun c => fb_sm (fun b => if b < 4 then exN w ro K (c * 6 + b) else 0) 6 + (if c < 4 then exN w ro K (6 * 6 + c) else 0)) (c + 1)))) (congrArg (fun z => Value.long (lN z)) (by simp only [fb_s] <;> (repeat (first | rw [if_pos (by omega)] | rw [if_neg (by omega)])) <;> omega)) ?_
                        refine lv_lstore (lv' := [(8, .long (lN (fb_sm (fun c => fb_sm (fun b => if b < 4 then exN w ro K (c * 6 + b) else 0) 6 + (if c < 4 then exN w ro K (6 * 6 + c) else 0)) (c + 1)))), (15, .long (lN (enN w ro K c))), (0, .ref (ad 0)), (1, .ref (ad 71)), (2, .ref (ad 72)), (3, .long (lN (Sx' w K ro K 6))), (5, .int (nI (K))), (6, .long (lN (fb_sm (fun c => exN w ro K (6 * 6 + c)) (c + 1)))), (10, .int (nI (c))), (11, .long (lN (exN w ro K (6 * 6 + c) + fb_sm (fun b => exN w ro K (b * 6 + c)) 6))), (13, .long (lN (fb_sm (fun b => exN w ro K (c * 6 + b)) 6)))]) hx hb dL_areExpected_339 hl (by decide) rfl (fun ls hl => ?_)
                        refine q_iinc (z2 := c + 1) (lv' := [(10, .int (nI (c + 1))), (8, .long (lN (fb_sm (fun c => fb_sm (fun b => if b < 4 then exN w ro K (c * 6 + b) else 0) 6 + (if c < 4 then exN w ro K (6 * 6 + c) else 0)) (c + 1)))), (15, .long (lN (enN w ro K c))), (0, .ref (ad 0)), (1, .ref (ad 71)), (2, .ref (ad 72)), (3, .long (lN (Sx' w K ro K 6))), (5, .int (nI (K))), (6, .long (lN (fb_sm (fun c => exN w ro K (6 * 6 + c)) (c + 1)))), (11, .long (lN (exN w ro K (6 * 6 + c) + fb_sm (fun b => exN w ro K (b * 6 + c)) 6))), (13, .long (lN (fb_sm (fun b => exN w ro K (c * 6 + b)) 6)))]) hx hb dL_areExpected_341 hl (k := 8) rfl (inc_up _ 1 (by decide)) (by decide) rfl (fun ls hl => ?_)
                        refine lv_goto (tgt := 177) hx hb dL_areExpected_344 (by decide) ?_
                        exact ih_177 (c + 1) I_331 L_331 R_331 (by omega) (by omega) hA hG _ _ hW _ (lv_sub hl [3, 4, 5, 6, 7, 8, 1, 0] rfl)
                  ·
                    refine lv_lload hx hb dL_areExpected_215 (lv_at hl 8 rfl) ?_
                    refine lv_aload_n hx hb dL_areExpected_217 rfl (lv_at hl 0 rfl) ?_
                    refine q_ic 1 hx hb dL_areExpected_218 (by decide) ?_
                    refine lv_iload hx hb dL_areExpected_219 (lv_at hl 10 rfl) ?_
                    refine lv_iload hx hb dL_areExpected_221 (lv_at hl 7 rfl) ?_
                    refine lv_lload_n hx hb dL_areExpected_223 rfl (lv_at hl 3 rfl) ?_
                    refine q_kL2 (q_rS (As := [.ref (ad 0), .int (nI 1), .int (nI (b1)), .int (nI (c)), .long (lN (Sx' w K ro K 6))]) (rest := [.long (lN (exN w ro K (6 * 6 + c) + fb_sm (fun b => exN w ro K (b * 6 + c)) b1))]) hC hW mw_L_numberOf gw_309 (k_numberOf l G 74 ad H.size J208 M208 Q208 1 (b1 * 6 + c) (nI b1) (nI c) w K ro hc hi sv pn ch hA (by decide) (ix1 (f := b1) (t := c) (by first | omega | assumption) (by first | omega | assumption)) hT0) ⟨rfl, rfl⟩ ⟨Nat.le_of_ble_eq_true rfl, Nat.le_of_ble_eq_true rfl⟩ ⟨(Nat.le_of_ble_eq_true rfl), (Nat.le_of_ble_eq_true rfl)⟩ hl.1 rfl rfl (Nat.le_of_ble_eq_true rfl) dL_areExpected_224) hW (fun r_224 n_224 ad_224 I_224 L_224 R_224 H locs hp hW => ?_)
                    obtain ⟨hz, rfl, rfl, hA, hF⟩ := PRl_use hp
                    have hG := fr_t hF hG
                    have hz : r_224 = lN (exN w ro K (b1 * 6 + c)) := hz
                    subst hz
                    refine q_ladd hx hb dL_areExpected_227 ?_
                    refine q_top (v2 := .long (lN (exN w ro K (6 * 6 + c) + fb_sm (fun b => exN w ro K (b * 6 + c)) (b1 + 1)))) (congrArg (fun z => Value.long (lN z)) (by simp only [fb_s] <;> (repeat (first | rw [if_pos (by omega)] | rw [if_neg (by omega)])) <;> omega)) ?_
                    refine lv_lstore (lv' := [(11, .long (lN (exN w ro K (6 * 6 + c) + fb_sm (fun b => exN w ro K (b * 6 + c)) (b1 + 1)))), (0, .ref (ad 0)), (1, .ref (ad 71)), (2, .ref (ad 72)), (3, .long (lN (Sx' w K ro K 6))), (5, .int (nI (K))), (6, .long (lN (fb_sm (fun c => exN w ro K (6 * 6 + c)) (c + 1)))), (8, .long (lN (fb_sm (fun c => fb_sm (fun b => if b < 4 then exN w ro K (c * 6 + b) else 0) 6 + (if c < 4 then exN w ro K (6 * 6 + c) else 0)) c + fb_sm (fun b => if b < 4 then exN w ro K (c * 6 + b) else 0) b1))), (10, .int (nI (c))), (13, .long (lN (fb_sm (fun b => exN w ro K (c * 6 + b)) b1))), (15, .int (nI (b1)))]) hx hb dL_areExpected_228 hl (by decide) rfl (fun ls hl => ?_)
                    refine lv_lload hx hb dL_areExpected_230 (lv_at hl 9 rfl) ?_
                    refine lv_aload_n hx hb dL_areExpected_232 rfl (lv_at hl 1 rfl) ?_
                    refine q_ic 1 hx hb dL_areExpected_233 (by decide) ?_
                    refine lv_iload hx hb dL_areExpected_234 (lv_at hl 8 rfl) ?_
                    refine lv_iload hx hb dL_areExpected_236 (lv_at hl 10 rfl) ?_
                    refine lv_lload_n hx hb dL_areExpected_238 rfl (lv_at hl 4 rfl) ?_
                    refine q_kL2 (q_rS (As := [.ref (ad 0), .int (nI 1), .int (nI (c)), .int (nI (b1)), .long (lN (Sx' w K ro K 6))]) (rest := [.long (lN (fb_sm (fun b => exN w ro K (c * 6 + b)) b1))]) hC hW mw_L_numberOf gw_309 (k_numberOf l G 74 ad H.size I_224 L_224 R_224 1 (c * 6 + b1) (nI c) (nI b1) w K ro hc hi sv pn ch hA (by decide) (ix1 (f := c) (t := b1) (by first | omega | assumption) (by first | omega | assumption)) hT0) ⟨rfl, rfl⟩ ⟨Nat.le_of_ble_eq_true rfl, Nat.le_of_ble_eq_true rfl⟩ ⟨(Nat.le_of_ble_eq_true rfl), (Nat.le_of_ble_eq_true rfl)⟩ hl.1 rfl rfl (Nat.le_of_ble_eq_true rfl) dL_areExpected_239) hW (fun r_239 n_239 ad_239 I_239 L_239 R_239 H locs hp hW => ?_)
                    obtain ⟨hz, rfl, rfl, hA, hF⟩ := PRl_use hp
                    have hG := fr_t hF hG
                    have hz : r_239 = lN (exN w ro K (c * 6 + b1)) := hz
                    subst hz
                    refine q_ladd hx hb dL_areExpected_242 ?_
                    refine q_top (v2 := .long (lN (fb_sm (fun b => exN w ro K (c * 6 + b)) (b1 + 1)))) (congrArg (fun z => Value.long (lN z)) (by simp only [fb_s] <;> (repeat (first | rw [if_pos (by omega)] | rw [if_neg (by omega)])) <;> omega)) ?_
                    refine lv_lstore (lv' := [(13, .long (lN (fb_sm (fun b => exN w ro K (c * 6 + b)) (b1 + 1)))), (11, .long (lN (exN w ro K (6 * 6 + c) + fb_sm (fun b => exN w ro K (b * 6 + c)) (b1 + 1)))), (0, .ref (ad 0)), (1, .ref (ad 71)), (2, .ref (ad 72)), (3, .long (lN (Sx' w K ro K 6))), (5, .int (nI (K))), (6, .long (lN (fb_sm (fun c => exN w ro K (6 * 6 + c)) (c + 1)))), (8, .long (lN (fb_sm (fun c => fb_sm (fun b => if b < 4 then exN w ro K (c * 6 + b) else 0) 6 + (if c < 4 then exN w ro K (6 * 6 + c) else 0)) c + fb_sm (fun b => if b < 4 then exN w ro K (c * 6 + b) else 0) b1))), (10, .int (nI (c))), (15, .int (nI (b1)))]) hx hb dL_areExpected_243 hl (by decide) rfl (fun ls hl => ?_)
                    refine lv_lload hx hb dL_areExpected_245 (lv_at hl 8 rfl) ?_
                    refine lv_iload hx hb dL_areExpected_247 (lv_at hl 10 rfl) ?_
                    refine q_ic 4 hx hb dL_areExpected_249 (by decide) ?_
                    refine q_cge (tgt := 266) hx hb dL_areExpected_250 (by decide) (by first | omega | exact Nat.lt_of_le_of_lt (hw3 _) (by decide) | exact Nat.lt_of_lt_of_le (hr4 _) (by decide) | exact Nat.lt_of_le_of_lt (bp_le _) (by decide) | assumption) (by first | omega | exact Nat.lt_of_le_of_lt (hw3 _) (by decide) | exact Nat.lt_of_lt_of_le (hr4 _) (by decide) | exact Nat.lt_of_le_of_lt (bp_le _) (by decide) | assumption) (fun c_250 => ?_) (fun c_250 => ?_)
                    ·
                      refine q_lc 0 hx hb dL_areExpected_266 (by decide) ?_
                      refine q_ladd hx hb dL_areExpected_267 ?_
                      refine q_top (v2 := .long (lN (fb_sm (fun c => fb_sm (fun b => if b < 4 then exN w ro K (c * 6 + b) else 0) 6 + (if c < 4 then exN w ro K (6 * 6 + c) else 0)) c + fb_sm (fun b => if b < 4 then exN w ro K (c * 6 + b) else 0) (b1 + 1)))) (congrArg (fun z => Value.long (lN z)) (by simp only [fb_s] <;> (repeat (first | rw [if_pos (by omega)] | rw [if_neg (by omega)])) <;> omega)) ?_
                      refine lv_lstore (lv' := [(8, .long (lN (fb_sm (fun c => fb_sm (fun b => if b < 4 then exN w ro K (c * 6 + b) else 0) 6 + (if c < 4 then exN w ro K (6 * 6 + c) else 0)) c + fb_sm (fun b => if b < 4 then exN w ro K (c * 6 + b) else 0) (b1 + 1)))), (13, .long (lN (fb_sm (fun b => exN w ro K (c * 6 + b)) (b1 + 1)))), (11, .long (lN (exN w ro K (6 * 6 + c) + fb_sm (fun b => exN w ro K (b * 6 + c)) (b1 + 1)))), (0, .ref (ad 0)), (1, .ref (ad 71)), (2, .ref (ad 72)), (3, .long (lN (Sx' w K ro K 6))), (5, .int (nI (K))), (6, .long (lN (fb_sm (fun c => exN w ro K (6 * 6 + c)) (c + 1)))), (10, .int (nI (c))), (15, .int (nI (b1)))]) hx hb dL_areExpected_268 hl (by decide) rfl (fun ls hl => ?_)
                      refine q_iinc (z2 := b1 + 1) (lv' := [(15, .int (nI (b1 + 1))), (8, .long (lN (fb_sm (fun c => fb_sm (fun b => if b < 4 then exN w ro K (c * 6 + b) else 0) 6 + (if c < 4 then exN w ro K (6 * 6 + c) else 0)) c + fb_sm (fun b => if b < 4 then exN w ro K (c * 6 + b) else 0) (b1 + 1)))), (13, .long (lN (fb_sm (fun b => exN w ro K (c * 6 + b)) (b1 + 1)))), (11, .long (lN (exN w ro K (6 * 6 + c) + fb_sm (fun b => exN w ro K (b * 6 + c)) (b1 + 1)))), (0, .ref (ad 0)), (1, .ref (ad 71)), (2, .ref (ad 72)), (3, .long (lN (Sx' w K ro K 6))), (5, .int (nI (K))), (6, .long (lN (fb_sm (fun c => exN w ro K (6 * 6 + c)) (c + 1)))), (10, .int (nI (c)))]) hx hb dL_areExpected_270 hl (k := 10) rfl (inc_up _ 1 (by decide)) (by decide) rfl (fun ls hl => ?_)
                      refine lv_goto (tgt := 208) hx hb dL_areExpected_273 (by decide) ?_
                      exact ih_208 (b1 + 1) I_239 L_239 R_239 (by omega) (by omega) hA hG _ _ hW _ (lv_sub hl [4, 5, 6, 7, 8, 9, 1, 10, 3, 2, 0] rfl)
                    ·
                      refine lv_aload_n hx hb dL_areExpected_253 rfl (lv_at hl 2 rfl) ?_
                      refine q_ic 1 hx hb dL_areExpected_254 (by decide) ?_
                      refine lv_iload hx hb dL_areExpected_255 (lv_at hl 9 rfl) ?_
                      refine lv_iload hx hb dL_areExpected_257 (lv_at hl 10 rfl) ?_
                      refine lv_lload_n hx hb dL_areExpected_259 rfl (lv_at hl 5 rfl) ?_
                      refine q_kL2 (q_rS (As := [.ref (ad 0), .int (nI 1), .int (nI (c)), .int (nI (b1)), .long (lN (Sx' w K ro K 6))]) (rest := [.long (lN (fb_sm (fun c => fb_sm (fun b => if b < 4 then exN w ro K (c * 6 + b) else 0) 6 + (if c < 4 then exN w ro K (6 * 6 + c) else 0)) c + fb_sm (fun b => if b < 4 then exN w ro K (c * 6 + b) else 0) b1))]) hC hW mw_L_numberOf gw_309 (k_numberOf l G 74 ad H.size I_239 L_239 R_239 1 (c * 6 + b1) (nI c) (nI b1) w K ro hc hi sv pn ch hA (by decide) (ix1 (f := c) (t := b1) (by first | omega | assumption) (by first | omega | assumption)) hT0) ⟨rfl, rfl⟩ ⟨Nat.le_of_ble_eq_true rfl, Nat.le_of_ble_eq_true rfl⟩ ⟨(Nat.le_of_ble_eq_true rfl), (Nat.le_of_ble_eq_true rfl)⟩ hl.1 rfl rfl (Nat.le_of_ble_eq_true rfl) dL_areExpected_260) hW (fun r_260 n_260 ad_260 I_260 L_260 R_260 H locs hp hW => ?_)
                      obtain ⟨hz, rfl, rfl, hA, hF⟩ := PRl_use hp
                      have hG := fr_t hF hG
                      have hz : r_260 = lN (exN w ro K (c * 6 + b1)) := hz
                      subst hz
                      refine lv_goto (tgt := 267) hx hb dL_areExpected_263 (by decide) ?_
                      refine q_ladd hx hb dL_areExpected_267 ?_
                      refine q_top (v2 := .long (lN (fb_sm (fun c => fb_sm (fun b => if b < 4 then exN w ro K (c * 6 + b) else 0) 6 + (if c < 4 then exN w ro K (6 * 6 + c) else 0)) c + fb_sm (fun b => if b < 4 then exN w ro K (c * 6 + b) else 0) (b1 + 1)))) (congrArg (fun z => Value.long (lN z)) (by simp only [fb_s] <;> (repeat (first | rw [if_pos (by omega)] | rw [if_neg (by omega)])) <;> omega)) ?_
                      refine lv_lstore (lv' := [(8, .long (lN (fb_sm (fun c => fb_sm (fun b => if b < 4 then exN w ro K (c * 6 + b) else 0) 6 + (if c < 4 then exN w ro K (6 * 6 + c) else 0)) c + fb_sm (fun b => if b < 4 then exN w ro K (c * 6 + b) else 0) (b1 + 1)))), (13, .long (lN (fb_sm (fun b => exN w ro K (c * 6 + b)) (b1 + 1)))), (11, .long (lN (exN w ro K (6 * 6 + c) + fb_sm (fun b => exN w ro K (b * 6 + c)) (b1 + 1)))), (0, .ref (ad 0)), (1, .ref (ad 71)), (2, .ref (ad 72)), (3, .long (lN (Sx' w K ro K 6))), (5, .int (nI (K))), (6, .long (lN (fb_sm (fun c => exN w ro K (6 * 6 + c)) (c + 1)))), (10, .int (nI (c))), (15, .int (nI (b1)))]) hx hb dL_areExpected_268 hl (by decide) rfl (fun ls hl => ?_)
                      refine q_iinc (z2 := b1 + 1) (lv' := [(15, .int (nI (b1 + 1))), (8, .long (lN (fb_sm (fun c => fb_sm (fun b => if b < 4 then exN w ro K (c * 6 + b) else 0) 6 + (if c < 4 then exN w ro K (6 * 6 + c) else 0)) c + fb_sm (fun b => if b < 4 then exN w ro K (c * 6 + b) else 0) (b1 + 1)))), (13, .long (lN (fb_sm (fun b => exN w ro K (c * 6 + b)) (b1 + 1)))), (11, .long (lN (exN w ro K (6 * 6 + c) + fb_sm (fun b => exN w ro K (b * 6 + c)) (b1 + 1)))), (0, .ref (ad 0)), (1, .ref (ad 71)), (2, .ref (ad 72)), (3, .long (lN (Sx' w K ro K 6))), (5, .int (nI (K))), (6, .long (lN (fb_sm (fun c => exN w ro K (6 * 6 + c)) (c + 1)))), (10, .int (nI (c)))]) hx hb dL_areExpected_270 hl (k := 10) rfl (inc_up _ 1 (by decide)) (by decide) rfl (fun ls hl => ?_)
                      refine lv_goto (tgt := 208) hx hb dL_areExpected_273 (by decide) ?_
                      exact ih_208 (b1 + 1) I_260 L_260 R_260 (by omega) (by omega) hA hG _ _ hW _ (lv_sub hl [4, 5, 6, 7, 8, 9, 1, 10, 3, 2, 0] rfl)
              exact lp_208 (6 + 1) 0 I_190 L_190 R_190 (by omega) (by omega) hA hG _ _ hW _ (lv_sub hl [4, 5, 6, 7, 8, 1, 9, 10, 3, 2, 0] rfl)
        exact lp_177 (6 + 1) 0 J52 M52 Q52 (by omega) (by omega) hA hG _ _ hW _ (lv_sub hl [3, 4, 5, 6, 7, 2, 1, 0] rfl)
      ·
        refine q_ic 0 hx hb dL_areExpected_58 (by decide) ?_
        refine lv_istore (lv' := [(7, .int (nI 0)), (0, .ref (ad 0)), (1, .ref (ad 71)), (2, .ref (ad 72)), (3, .long (lN (Sx' w K ro K 6))), (5, .int (nI (K))), (6, .int (nI (c)))]) hx hb dL_areExpected_59 hl (by decide) rfl (fun ls hl => ?_)
        have lp_61 : ∀ (fu_61 : Nat) (l1 : Nat) (J61 : Ic) (M61 : Lc) (Q61 : Rc), 4 - l1 < fu_61 → (l1 ≤ 4) → (InvA 74 J61 M61 Q61 ((w, K, ro), hc, hi, sv, pn, ch)) → (Fr7 I J61 L M61 R Q61) → ∀ (H : Heap) (locs : List Loc), Wd G 74 ad J61 M61 Q61 (qA 74 ad s.heap.size) s.heap H locs s → ∀ ls : Array Slot, lv_has ls 17 [(0, .ref (ad 0)), (1, .ref (ad 71)), (2, .ref (ad 72)), (3, .long (lN (Sx' w K ro K 6))), (5, .int (nI (K))), (6, .int (nI (c))), (7, .int (nI (l1)))] → W p_ l e_ ({ frames := 8, cells := 0, slots := 0, locals := 288 } : Room) s m_ ([.ref (ad 0), .ref (ad 71), .ref (ad 72), .long (lN (Sx' w K ro K 6))] : List Value).toArray below meth c_ H locs 0 0 (MQ below (qI2 G (qA 74 ad s.heap.size) (fun z u => PR 74 ad I L R (nI 1, ((w, K, ro), hc, hi, sv, pn, ch)) z u)) ([.ref (ad 0), .ref (ad 71), .ref (ad 72), .long (lN (Sx' w K ro K 6))] : List Value).toArray s 0 0 (qA 74 ad s.heap.size)) (F0 m_ 61 ls []) := by
          intro fu_61
          induction fu_61 with
          | zero =>
            intro l1 J61 M61 Q61 hm; exact absurd hm (Nat.not_lt_zero _)
          | succ fu_61 ih_61 =>
            intro l1 J61 M61 Q61 hm_61 hl4 hA hG H locs hW ls hl
            refine lv_iload hx hb dL_areExpected_61 (lv_at hl 6 rfl) ?_
            refine q_ic 4 hx hb dL_areExpected_63 (by decide) ?_
            refine q_cge (tgt := 162) hx hb dL_areExpected_64 (by decide) (by first | omega | exact Nat.lt_of_le_of_lt (hw3 _) (by decide) | exact Nat.lt_of_lt_of_le (hr4 _) (by decide) | exact Nat.lt_of_le_of_lt (bp_le _) (by decide) | assumption) (by first | omega | exact Nat.lt_of_le_of_lt (hw3 _) (by decide) | exact Nat.lt_of_lt_of_le (hr4 _) (by decide) | exact Nat.lt_of_le_of_lt (bp_le _) (by decide) | assumption) (fun c_64 => ?_) (fun c_64 => ?_)
            ·
              refine q_iinc (z2 := c + 1) (lv' := [(6, .int (nI (c + 1))), (0, .ref (ad 0)), (1, .ref (ad 71)), (2, .ref (ad 72)), (3, .long (lN (Sx' w K ro K 6))), (5, .int (nI (K))), (7, .int (nI (l1)))]) hx hb dL_areExpected_162 hl (k := 5) rfl (inc_up _ 1 (by decide)) (by decide) rfl (fun ls hl => ?_)
              refine lv_goto (tgt := 52) hx hb dL_areExpected_165 (by decide) ?_
              exact ih_52 (c + 1) J61 M61 Q61 (by omega) (by omega) hA hG _ _ hW _ (lv_sub hl [1, 2, 3, 4, 5, 0] rfl)
            ·
              refine q_lc 0 hx hb dL_areExpected_67 (by decide) ?_
              refine lv_lstore (lv' := [(8, .long (lN 0)), (0, .ref (ad 0)), (1, .ref (ad 71)), (2, .ref (ad 72)), (3, .long (lN (Sx' w K ro K 6))), (5, .int (nI (K))), (6, .int (nI (c))), (7, .int (nI (l1)))]) hx hb dL_areExpected_68 hl (by decide) rfl (fun ls hl => ?_)
              refine q_ic 0 hx hb dL_areExpected_70 (by decide) ?_
              have hl : lv_has ls 17 [(8, .long (lN (leN w ro K c l1 0))), (0, .ref (ad 0)), (1, .ref (ad 71)), (2, .ref (ad 72)), (3, .long (lN (Sx' w K ro K 6))), (5, .int (nI (K))), (6, .int (nI (c))), (7, .int (nI (l1)))] := by rw [show leN w ro K c l1 0 = 0 from rfl]; exact hl
              refine lv_istore (lv' := [(10, .int (nI 0)), (8, .long (lN (leN w ro K c l1 0))), (0, .ref (ad 0)), (1, .ref (ad 71)), (2, .ref (ad 72)), (3, .long (lN (Sx' w K ro K 6))), (5, .int (nI (K))), (6, .int (nI (c))), (7, .int (nI (l1)))]) hx hb dL_areExpected_71 hl (by decide) rfl (fun ls hl => ?_)
              have lp_73 : ∀ (fu_73 : Nat) (p : Nat) (J73 : Ic) (M73 : Lc) (Q73 : Rc), K - p < fu_73 → (p ≤ K) → (InvA 74 J73 M73 Q73 ((w, K, ro), hc, hi, sv, pn, ch)) → (Fr7 I J73 L M73 R Q73) → ∀ (H : Heap) (locs : List Loc), Wd G 74 ad J73 M73 Q73 (qA 74 ad s.heap.size) s.heap H locs s → ∀ ls : Array Slot, lv_has ls 17 [(0, .ref (ad 0)), (1, .ref (ad 71)), (2, .ref (ad 72)), (3, .long (lN (Sx' w K ro K 6))), (5, .int (nI (K))), (6, .int (nI (c))), (7, .int (nI (l1))), (8, .long (lN (leN w ro K c l1 p))), (10, .int (nI (p)))] → W p_ l e_ ({ frames := 8, cells := 0, slots := 0, locals := 288 } : Room) s m_ ([.ref (ad 0), .ref (ad 71), .ref (ad 72), .long (lN (Sx' w K ro K 6))] : List Value).toArray below meth c_ H locs 0 0 (MQ below (qI2 G (qA 74 ad s.heap.size) (fun z u => PR 74 ad I L R (nI 1, ((w, K, ro), hc, hi, sv, pn, ch)) z u)) ([.ref (ad 0), .ref (ad 71), .ref (ad 72), .long (lN (Sx' w K ro K 6))] : List Value).toArray s 0 0 (qA 74 ad s.heap.size)) (F0 m_ 73 ls []) := by
                intro fu_73
                induction fu_73 with
                | zero =>
                  intro p J73 M73 Q73 hm; exact absurd hm (Nat.not_lt_zero _)
                | succ fu_73 ih_73 =>
                  intro p J73 M73 Q73 hm_73 hpK hA hG H locs hW ls hl
                  refine lv_iload hx hb dL_areExpected_73 (lv_at hl 8 rfl) ?_
                  refine lv_iload hx hb dL_areExpected_75 (lv_at hl 4 rfl) ?_
                  refine q_cge (tgt := 125) hx hb dL_areExpected_77 (by decide) (by first | omega | exact Nat.lt_of_le_of_lt (hw3 _) (by decide) | exact Nat.lt_of_lt_of_le (hr4 _) (by decide) | exact Nat.lt_of_le_of_lt (bp_le _) (by decide) | assumption) (by first | omega | exact Nat.lt_of_le_of_lt (hw3 _) (by decide) | exact Nat.lt_of_lt_of_le (hr4 _) (by decide) | exact Nat.lt_of_le_of_lt (bp_le _) (by decide) | assumption) (fun c_77 => ?_) (fun c_77 => ?_)
                  ·
                    have hl : lv_has ls 17 [(0, .ref (ad 0)), (1, .ref (ad 71)), (2, .ref (ad 72)), (3, .long (lN (Sx' w K ro K 6))), (5, .int (nI (K))), (6, .int (nI (c))), (7, .int (nI (l1))), (8, .long (lN (exN w ro K (42 + c * 4 + l1)))), (10, .int (nI (p)))] := by rw [show exN w ro K (42 + c * 4 + l1) = leN w ro K c l1 p from (exN_le (by omega) (by omega)).trans (by rw [show p = K by omega])]; exact hl
                    have hN63 : exN w ro K (42 + c * 4 + l1) < 2 ^ 63 := Nat.lt_of_le_of_lt (exN_BB hw hk6 _) (by decide)
                    refine lv_aload_n hx hb dL_areExpected_125 rfl (lv_at hl 0 rfl) ?_
                    refine q_ic 2 hx hb dL_areExpected_126 (by decide) ?_
                    refine lv_iload hx hb dL_areExpected_127 (lv_at hl 5 rfl) ?_
                    refine lv_iload hx hb dL_areExpected_129 (lv_at hl 6 rfl) ?_
                    refine q_ic 0 hx hb dL_areExpected_131 (by decide) ?_
                    refine q_kL2 (q_rV (As := [.int (nI 2), .int (nI (c)), .int (nI (l1)), .int (nI 0)]) (rest := []) (x := 0) hC hW mw_X5_expected gw_296 (k_expected l G 74 ad H.size J73 M73 Q73 (nI 2) (nI c) (nI l1) (nI 0) w K ro hc hi sv pn ch hA) (by omega) (ct_o5 kd_0) rfl ⟨rfl, rfl⟩ ⟨Nat.le_of_ble_eq_true rfl, Nat.le_of_ble_eq_true rfl⟩ ⟨(Nat.le_of_ble_eq_true rfl), (Nat.le_of_ble_eq_true rfl)⟩ hl.1 rfl rfl (Nat.le_of_ble_eq_true rfl) dL_areExpected_132) hW (fun r_132 n_132 ad_132 I_132 L_132 R_132 H locs hp hW => ?_)
                    obtain ⟨hz, rfl, rfl, hA, hF⟩ := PRl_use hp
                    have hG := fr_t hF hG
                    have hz : r_132 = lN (exN w ro K (42 + c * 4 + l1) / Nat.gcd (exN w ro K (42 + c * 4 + l1)) (Sx' w K ro K 6)) := hz.trans ((aE1 (m := (w, K, ro)) (k := 2) (y := 0) (i := 42 + c * 4 + l1) (by first | omega | assumption) (by decide) (ix2 (c := c) (t := l1) (by first | omega | assumption) (by first | omega | assumption)) hT).trans (lowT_0 _ _))
                    subst hz
                    refine lv_aload_n hx hb dL_areExpected_135 rfl (lv_at hl 0 rfl) ?_
                    refine q_ic 2 hx hb dL_areExpected_136 (by decide) ?_
                    refine lv_iload hx hb dL_areExpected_137 (lv_at hl 5 rfl) ?_
                    refine lv_iload hx hb dL_areExpected_139 (lv_at hl 6 rfl) ?_
                    refine q_ic 1 hx hb dL_areExpected_141 (by decide) ?_
                    refine q_kL2 (q_rV (As := [.int (nI 2), .int (nI (c)), .int (nI (l1)), .int (nI 1)]) (rest := [.long (lN (exN w ro K (42 + c * 4 + l1) / Nat.gcd (exN w ro K (42 + c * 4 + l1)) (Sx' w K ro K 6)))]) (x := 0) hC hW mw_X5_expected gw_296 (k_expected l G 74 ad H.size I_132 L_132 R_132 (nI 2) (nI c) (nI l1) (nI 1) w K ro hc hi sv pn ch hA) (by omega) (ct_o5 kd_0) rfl ⟨rfl, rfl⟩ ⟨Nat.le_of_ble_eq_true rfl, Nat.le_of_ble_eq_true rfl⟩ ⟨(Nat.le_of_ble_eq_true rfl), (Nat.le_of_ble_eq_true rfl)⟩ hl.1 rfl rfl (Nat.le_of_ble_eq_true rfl) dL_areExpected_142) hW (fun r_142 n_142 ad_142 I_142 L_142 R_142 H locs hp hW => ?_)
                    obtain ⟨hz, rfl, rfl, hA, hF⟩ := PRl_use hp
                    have hG := fr_t hF hG
                    have hz : r_142 = lN ((Sx' w K ro K 6) / Nat.gcd (exN w ro K (42 + c * 4 + l1)) (Sx' w K ro K 6)) := hz.trans ((aE1 (m := (w, K, ro)) (k := 2) (y := 1) (i := 42 + c * 4 + l1) (by first | omega | assumption) (by decide) (ix2 (c := c) (t := l1) (by first | omega | assumption) (by first | omega | assumption)) hT).trans (lowT_1 _ _))
                    subst hz
                    refine lv_lload hx hb dL_areExpected_145 (lv_at hl 7 rfl) ?_
                    refine lv_lload_n hx hb dL_areExpected_147 rfl (lv_at hl 3 rfl) ?_
                    refine q_kI0 (q_rS (As := [.long (lN (exN w ro K (42 + c * 4 + l1) / Nat.gcd (exN w ro K (42 + c * 4 + l1)) (Sx' w K ro K 6))), .long (lN ((Sx' w K ro K 6) / Nat.gcd (exN w ro K (42 + c * 4 + l1)) (Sx' w K ro K 6))), .long (lN (exN w ro K (42 + c * 4 + l1))), .long (lN (Sx' w K ro K 6))]) (rest := []) hC hW mw_L_isPart gw_282 (k_lpart l G 74 ad H.size I_142 L_142 R_142 (exN w ro K (42 + c * 4 + l1) / Nat.gcd (exN w ro K (42 + c * 4 + l1)) (Sx' w K ro K 6)) ((Sx' w K ro K 6) / Nat.gcd (exN w ro K (42 + c * 4 + l1)) (Sx' w K ro K 6)) (exN w ro K (42 + c * 4 + l1)) (Sx' w K ro K 6) (Nat.lt_of_le_of_lt (Nat.div_le_self _ _) hN63) (Nat.lt_of_le_of_lt (Nat.div_le_self _ _) hT63) hT63 (gq_pos hT0) (gq_mod hT0) (gq_num hT0) (gq_gcd hT0)) ⟨rfl, rfl⟩ ⟨Nat.le_of_ble_eq_true rfl, Nat.le_of_ble_eq_true rfl⟩ ⟨(Nat.le_of_ble_eq_true rfl), (Nat.le_of_ble_eq_true rfl)⟩ hl.1 rfl rfl (Nat.le_of_ble_eq_true rfl) dL_areExpected_148) hW (fun r_148 H locs hp hW => ?_)
                    subst hp
                    refine q_ine (tgt := 156) hx hb dL_areExpected_151 (by decide) (by first | omega | exact Nat.lt_of_le_of_lt (hw3 _) (by decide) | exact Nat.lt_of_lt_of_le (hr4 _) (by decide) | exact Nat.lt_of_le_of_lt (bp_le _) (by decide) | assumption) (fun c_151 => ?_) (fun c_151 => absurd c_151 (by decide))
                    refine q_iinc (z2 := l1 + 1) (lv' := [(7, .int (nI (l1 + 1))), (0, .ref (ad 0)), (1, .ref (ad 71)), (2, .ref (ad 72)), (3, .long (lN (Sx' w K ro K 6))), (5, .int (nI (K))), (6, .int (nI (c))), (8, .long (lN (exN w ro K (42 + c * 4 + l1)))), (10, .int (nI (p)))]) hx hb dL_areExpected_156 hl (k := 6) rfl (inc_up _ 1 (by decide)) (by decide) rfl (fun ls hl => ?_)
                    refine lv_goto (tgt := 61) hx hb dL_areExpected_159 (by decide) ?_
                    exact ih_61 (l1 + 1) I_142 L_142 R_142 (by omega) (by omega) hA hG _ _ hW _ (lv_sub hl [1, 2, 3, 4, 5, 6, 0] rfl)
                  ·
                    refine lv_lload hx hb dL_areExpected_80 (lv_at hl 7 rfl) ?_
                    refine lv_aload_n hx hb dL_areExpected_82 rfl (lv_at hl 0 rfl) ?_
                    refine lv_iload hx hb dL_areExpected_83 (lv_at hl 8 rfl) ?_
                    refine q_kI2 (q_rV (As := [.int (nI (p))]) (rest := [.long (lN (leN w ro K c l1 p))]) (x := 0) hC hW mw_X5_letter gw_183 (k_letter l G 74 ad H.size J73 M73 Q73 (nI p) w K ro hc hi sv pn ch hA) (by omega) (ct_o5 kd_0) rfl ⟨rfl, rfl⟩ ⟨Nat.le_of_ble_eq_true rfl, Nat.le_of_ble_eq_true rfl⟩ ⟨(Nat.le_of_ble_eq_true rfl), (Nat.le_of_ble_eq_true rfl)⟩ hl.1 rfl rfl (Nat.le_of_ble_eq_true rfl) dL_areExpected_85) hW (fun r_85 n_85 ad_85 I_85 L_85 R_85 H locs hp hW => ?_)
                    obtain ⟨hz, rfl, rfl, hA, hF⟩ := PR_use hp
                    have hG := fr_t hF hG
                    have hz : r_85 = nI (ro p) := hz.trans (aL1 (S := ((w, K, ro), hc, hi, sv, pn, ch)) (p := p) (show p < K by omega) hk6)
                    subst hz
                    refine lv_iload hx hb dL_areExpected_88 (lv_at hl 6 rfl) ?_
                    refine q_cne (tgt := 115) hx hb dL_areExpected_90 (by decide) (by first | omega | exact Nat.lt_of_le_of_lt (hw3 _) (by decide) | exact Nat.lt_of_lt_of_le (hr4 _) (by decide) | exact Nat.lt_of_le_of_lt (bp_le _) (by decide) | assumption) (by first | omega | exact Nat.lt_of_le_of_lt (hw3 _) (by decide) | exact Nat.lt_of_lt_of_le (hr4 _) (by decide) | exact Nat.lt_of_le_of_lt (bp_le _) (by decide) | assumption) (fun c_90 => ?_) (fun c_90 => ?_)
                    ·
                      refine q_lc 0 hx hb dL_areExpected_115 (by decide) ?_
                      refine q_ladd hx hb dL_areExpected_116 ?_
                      refine q_top (v2 := .long (lN (leN w ro K c l1 (p + 1)))) (congrArg (fun z => Value.long (lN z)) (leN_n c_90).symm) ?_
                      refine lv_lstore (lv' := [(8, .long (lN (leN w ro K c l1 (p + 1)))), (0, .ref (ad 0)), (1, .ref (ad 71)), (2, .ref (ad 72)), (3, .long (lN (Sx' w K ro K 6))), (5, .int (nI (K))), (6, .int (nI (c))), (7, .int (nI (l1))), (10, .int (nI (p)))]) hx hb dL_areExpected_117 hl (by decide) rfl (fun ls hl => ?_)
                      refine q_iinc (z2 := p + 1) (lv' := [(10, .int (nI (p + 1))), (8, .long (lN (leN w ro K c l1 (p + 1)))), (0, .ref (ad 0)), (1, .ref (ad 71)), (2, .ref (ad 72)), (3, .long (lN (Sx' w K ro K 6))), (5, .int (nI (K))), (6, .int (nI (c))), (7, .int (nI (l1)))]) hx hb dL_areExpected_119 hl (k := 8) rfl (inc_up _ 1 (by decide)) (by decide) rfl (fun ls hl => ?_)
                      refine lv_goto (tgt := 73) hx hb dL_areExpected_122 (by decide) ?_
                      exact ih_73 (p + 1) I_85 L_85 R_85 (by omega) (by omega) hA hG _ _ hW _ (lv_sub hl [2, 3, 4, 5, 6, 7, 8, 1, 0] rfl)
                    ·
                      refine lv_aload_n hx hb dL_areExpected_93 rfl (lv_at hl 1 rfl) ?_
                      refine q_ic 4 hx hb dL_areExpected_94 (by decide) ?_
                      refine lv_iload hx hb dL_areExpected_95 (lv_at hl 8 rfl) ?_
                      refine q_imul hx hb dL_areExpected_97 ?_
                      refine lv_iload hx hb dL_areExpected_98 (lv_at hl 5 rfl) ?_
                      refine q_iadd hx hb dL_areExpected_100 ?_
                      refine q_lald (x := 71) (i := (4 * p) + c) hC hW (by omega) kd_71 (by omega) dL_areExpected_101 ?_
                      refine q_top (v2 := .long (lN (uB w ro (p + 1) c))) (congrArg _ ((congrFun (hG 71 (by decide)).2.1 _).trans (hAh p c (by omega) (by omega)))) ?_
                      refine lv_aload_n hx hb dL_areExpected_102 rfl (lv_at hl 2 rfl) ?_
                      refine q_ic 4 hx hb dL_areExpected_103 (by decide) ?_
                      refine lv_iload hx hb dL_areExpected_104 (lv_at hl 8 rfl) ?_
                      refine q_imul hx hb dL_areExpected_106 ?_
                      refine lv_iload hx hb dL_areExpected_107 (lv_at hl 5 rfl) ?_
                      refine q_iadd hx hb dL_areExpected_109 ?_
                      refine q_lald (x := 72) (i := (4 * p) + c) hC hW (by omega) kd_72 (by omega) dL_areExpected_110 ?_
                      refine q_top (v2 := .long (lN (Sx' w K ro (K - (p + 1)) c))) (congrArg _ ((congrFun (hG 72 (by decide)).2.1 _).trans (hBe p c (by omega) (by omega)))) ?_
                      refine q_lmul hx hb dL_areExpected_111 ?_
                      refine lv_goto (tgt := 116) hx hb dL_areExpected_112 (by decide) ?_
                      refine q_ladd hx hb dL_areExpected_116 ?_
                      refine q_top (v2 := .long (lN (leN w ro K c l1 (p + 1)))) (congrArg (fun z => Value.long (lN z)) (leN_y c_90).symm) ?_
                      refine lv_lstore (lv' := [(8, .long (lN (leN w ro K c l1 (p + 1)))), (0, .ref (ad 0)), (1, .ref (ad 71)), (2, .ref (ad 72)), (3, .long (lN (Sx' w K ro K 6))), (5, .int (nI (K))), (6, .int (nI (c))), (7, .int (nI (l1))), (10, .int (nI (p)))]) hx hb dL_areExpected_117 hl (by decide) rfl (fun ls hl => ?_)
                      refine q_iinc (z2 := p + 1) (lv' := [(10, .int (nI (p + 1))), (8, .long (lN (leN w ro K c l1 (p + 1)))), (0, .ref (ad 0)), (1, .ref (ad 71)), (2, .ref (ad 72)), (3, .long (lN (Sx' w K ro K 6))), (5, .int (nI (K))), (6, .int (nI (c))), (7, .int (nI (l1)))]) hx hb dL_areExpected_119 hl (k := 8) rfl (inc_up _ 1 (by decide)) (by decide) rfl (fun ls hl => ?_)
                      refine lv_goto (tgt := 73) hx hb dL_areExpected_122 (by decide) ?_
                      exact ih_73 (p + 1) I_85 L_85 R_85 (by omega) (by omega) hA hG _ _ hW _ (lv_sub hl [2, 3, 4, 5, 6, 7, 8, 1, 0] rfl)
              exact lp_73 (K + 1) 0 J61 M61 Q61 (by omega) (by omega) hA hG _ _ hW _ (lv_sub hl [2, 3, 4, 5, 6, 7, 8, 1, 0] rfl)
        exact lp_61 (4 + 1) 0 J52 M52 Q52 (by omega) (by omega) hA hG _ _ hW _ (lv_sub hl [1, 2, 3, 4, 5, 6, 0] rfl)
  exact lp_52 (4 + 1) 0 I_2 L_2 R_2 (by omega) (by omega) hA hG _ _ hW _ (lv_sub hl [2, 3, 4, 5, 1, 0] rfl)
