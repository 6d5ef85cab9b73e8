set_option maxRecDepth 100000 in
set_option maxHeartbeats 4000000 in
theorem k_areOdds0 (l : Launch) (G : Gx) (ad : Nat → Nat) (sz : Nat) (I : Ic) (L : Lc) (R : Rc)  (w : Nat → Nat) (K : Nat) (ro : Nat → Nat) (hc : Nat) (hi : Nat → CM) (sv : Nat → Option CM) (pn : Nat) (ch : Nat → Nat) (hA : InvA 74 I L R ((w, K, ro), hc, hi, sv, pn, ch)) (hT : aTot (w, K, ro) = 0) (hAh : ∀ p c, p < K → c < 4 → L 71 (4 * p + c) = lN (uB w ro (p + 1) c)) (hBe : ∀ p c, p < K → c < 4 → L 72 (4 * p + c) = lN (Sx' w K ro (K - (p + 1)) c)) : Met l yL_areOdds (Cond.code yL_areOdds cL_areOdds 11 (some .boolean) :: GW) ({ frames := 7, cells := 0, slots := 0, locals := 252 } : Room) (qPre G 74 ad sz I L R [.ref (ad 0), .ref (ad 71), .ref (ad 72), .long (lN (Sx' w K ro K 6))]) (qI2 G (qA 74 ad sz) (fun z u => PR 74 ad I L R (nI 1, ((w, K, ro), hc, hi, sv, pn, ch)) z u)) 0 0 (qA 74 ad sz) := by
  refine q_met (by decide) (Nat.le_of_ble_eq_true rfl) ?_
  intro p_ e_ s m_ below meth c_ hC hr hlk0 hin hsz hW ls hl
  subst hsz
  have hC : CallFix p_ m_ c_ cL_areOdds 11 s ([.ref (ad 0), .ref (ad 71), .ref (ad 72), .long (lN (Sx' w K ro K 6))] : List Value).toArray GW "CoinRowsLaw" := hC
  have hx := hC.1
  have hb := hC.2.1
  have hw : Wok w := hA.2.2.1.2.2.2.2.1
  have hw3 : ∀ i, w i ≤ 3 := hw.1
  have hk6 : K ≤ 6 := hA.2.2.1.2.2.2.1
  have hr4 : ∀ j, ro j < 4 := hA.2.2.1.2.2.2.2.2
  have hn71 := hA.1
  have hT63 : Sx' w K ro K 6 < 2 ^ 63 := Nat.lt_of_le_of_lt (Sx_b hw K K 6 hk6) (by decide)
  have hC31 : Cx' w K ro K 6 < 2 ^ 31 := Nat.lt_of_le_of_lt (Cx_b hw K K 6 hk6) (by decide)
  have hG : Fr7 I I L L R R := fr_0
  have hTz : Sx' w K ro K 6 = 0 := hT
  have hl : lv_has ls 11 [(0, .ref (ad 0)), (1, .ref (ad 71)), (2, .ref (ad 72)), (3, .long (lN (Sx' w K ro K 6)))] := hl
  refine lv_aload_n hx hb dL_areOdds_0 rfl (lv_at hl 0 rfl) ?_
  refine q_ic 0 hx hb dL_areOdds_1 (by decide) ?_
  refine q_kI2 (q_rV (As := [.int (nI 0)]) (rest := []) (x := 0) hC hW mw_X5_count gw_172 (k_count l G 74 ad s.heap.size I L R (nI 0) w K ro hc hi sv pn ch hA) (by omega) (ct_o5 kd_0) rfl ⟨rfl, rfl⟩ ⟨Nat.le_of_ble_eq_true rfl, Nat.le_of_ble_eq_true rfl⟩ ⟨(Nat.le_of_ble_eq_true rfl), (Nat.le_of_ble_eq_true rfl)⟩ hl.1 rfl rfl (Nat.le_of_ble_eq_true rfl) dL_areOdds_2) hW (fun r_2 n_2 ad_2 I_2 L_2 R_2 H locs hp hW => ?_)
  obtain ⟨hz, rfl, rfl, hA, hF⟩ := PR_use hp
  have hG := fr_t hF hG
  have hz : r_2 = nI K := hz.trans (aC0 (S := ((w, K, ro), hc, hi, sv, pn, ch)))
  subst hz
  refine lv_istore (lv' := [(5, .int (nI (K))), (0, .ref (ad 0)), (1, .ref (ad 71)), (2, .ref (ad 72)), (3, .long (lN (Sx' w K ro K 6)))]) hx hb dL_areOdds_5 hl (by decide) rfl (fun ls hl => ?_)
  refine q_ic 0 hx hb dL_areOdds_7 (by decide) ?_
  refine lv_istore (lv' := [(6, .int (nI 0)), (5, .int (nI (K))), (0, .ref (ad 0)), (1, .ref (ad 71)), (2, .ref (ad 72)), (3, .long (lN (Sx' w K ro K 6)))]) hx hb dL_areOdds_8 hl (by decide) rfl (fun ls hl => ?_)
  have lp_10 : ∀ (fu_10 : Nat) (p : Nat) (J10 : Ic) (M10 : Lc) (Q10 : Rc), K - p < fu_10 → (p ≤ K) → (InvA 74 J10 M10 Q10 ((w, K, ro), hc, hi, sv, pn, ch)) → (Fr7 I J10 L M10 R Q10) → ∀ (H : Heap) (locs : List Loc), Wd G 74 ad J10 M10 Q10 (qA 74 ad s.heap.size) s.heap H locs s → ∀ ls : Array Slot, lv_has ls 11 [(0, .ref (ad 0)), (1, .ref (ad 71)), (2, .ref (ad 72)), (3, .long (lN (Sx' w K ro K 6))), (5, .int (nI (K))), (6, .int (nI (p)))] → W p_ l e_ ({ frames := 7, cells := 0, slots := 0, locals := 252 } : Room) s m_ ([.ref (ad 0), .ref (ad 71), .ref (ad 72), .long (lN (Sx' w K ro K 6))] : List Value).toArray below meth c_ H locs 0 0 (MQ below (qI2 G (qA 74 ad s.heap.size) (fun z u => PR 74 ad I L R (nI 1, ((w, K, ro), hc, hi, sv, pn, ch)) z u)) ([.ref (ad 0), .ref (ad 71), .ref (ad 72), .long (lN (Sx' w K ro K 6))] : List Value).toArray s 0 0 (qA 74 ad s.heap.size)) (F0 m_ 10 ls []) := by
    intro fu_10
    induction fu_10 with
    | zero =>
      intro p J10 M10 Q10 hm; exact absurd hm (Nat.not_lt_zero _)
    | succ fu_10 ih_10 =>
      intro p J10 M10 Q10 hm_10 hpK hA hG H locs hW ls hl
      refine lv_iload hx hb dL_areOdds_10 (lv_at hl 5 rfl) ?_
      refine lv_iload hx hb dL_areOdds_12 (lv_at hl 4 rfl) ?_
      refine q_cge (tgt := 174) hx hb dL_areOdds_14 (by decide) (by first | omega | exact Nat.lt_of_le_of_lt (hw3 _) (by decide) | exact Nat.lt_of_lt_of_le (hr4 _) (by decide) | exact Nat.lt_of_le_of_lt (bp_le _) (by decide) | assumption) (by first | omega | exact Nat.lt_of_le_of_lt (hw3 _) (by decide) | exact Nat.lt_of_lt_of_le (hr4 _) (by decide) | exact Nat.lt_of_le_of_lt (bp_le _) (by decide) | assumption) (fun c_14 => ?_) (fun c_14 => ?_)
      ·
        refine lv_aload_n hx hb dL_areOdds_174 rfl (lv_at hl 0 rfl) ?_
        refine lv_iload hx hb dL_areOdds_175 (lv_at hl 4 rfl) ?_
        refine q_ic 0 hx hb dL_areOdds_177 (by decide) ?_
        refine q_ic 0 hx hb dL_areOdds_178 (by decide) ?_
        refine q_kL2 (q_rV (As := [.int (nI (K)), .int (nI 0), .int (nI 0)]) (rest := []) (x := 0) hC hW mw_X5_odds gw_262 (k_odds l G 74 ad H.size J10 M10 Q10 (nI K) (nI 0) (nI 0) w K ro hc hi sv pn ch hA) (by omega) (ct_o5 kd_0) rfl ⟨rfl, rfl⟩ ⟨Nat.le_of_ble_eq_true rfl, Nat.le_of_ble_eq_true rfl⟩ ⟨(Nat.le_of_ble_eq_true rfl), (Nat.le_of_ble_eq_true rfl)⟩ hl.1 rfl rfl (Nat.le_of_ble_eq_true rfl) dL_areOdds_179) hW (fun r_179 n_179 ad_179 I_179 L_179 R_179 H locs hp hW => ?_)
        obtain ⟨hz, rfl, rfl, hA, hF⟩ := PRl_use hp
        have hG := fr_t hF hG
        have hz : r_179 = (-1) := hz.trans (aOn (m := (w, K, ro)) (p := K) (c := 0) (y := nI 0) hk6 (by omega) (Or.inl (Nat.le_refl _)) (by decide))
        subst hz
        refine lv_ldc2 (v := -1) hx hb hC.2.2.2.1 (hC.2.2.2.2 _ gw_292) dL_areOdds_182 ?_
        refine W.lcmp hx hb dL_areOdds_185 ?_
        refine q_Lne (tgt := 207) hx hb dL_areOdds_186 (by decide) (fun c_186 => absurd rfl c_186) (fun c_186 => ?_)
        refine lv_aload_n hx hb dL_areOdds_189 rfl (lv_at hl 0 rfl) ?_
        refine q_ic 0 hx hb dL_areOdds_190 (by decide) ?_
        refine q_ic 4 hx hb dL_areOdds_191 (by decide) ?_
        refine q_ic 0 hx hb dL_areOdds_192 (by decide) ?_
        refine q_kL2 (q_rV (As := [.int (nI 0), .int (nI 4), .int (nI 0)]) (rest := []) (x := 0) hC hW mw_X5_odds gw_262 (k_odds l G 74 ad H.size I_179 L_179 R_179 (nI 0) (nI 4) (nI 0) w K ro hc hi sv pn ch hA) (by omega) (ct_o5 kd_0) rfl ⟨rfl, rfl⟩ ⟨Nat.le_of_ble_eq_true rfl, Nat.le_of_ble_eq_true rfl⟩ ⟨(Nat.le_of_ble_eq_true rfl), (Nat.le_of_ble_eq_true rfl)⟩ hl.1 rfl rfl (Nat.le_of_ble_eq_true rfl) dL_areOdds_193) hW (fun r_193 n_193 ad_193 I_193 L_193 R_193 H locs hp hW => ?_)
        obtain ⟨hz, rfl, rfl, hA, hF⟩ := PRl_use hp
        have hG := fr_t hF hG
        have hz : r_193 = (-1) := hz.trans (aOn (m := (w, K, ro)) (p := 0) (c := 4) (y := nI 0) hk6 (by omega) (Or.inr (by decide)) (by decide))
        subst hz
        refine lv_ldc2 (v := -1) hx hb hC.2.2.2.1 (hC.2.2.2.2 _ gw_292) dL_areOdds_196 ?_
        refine W.lcmp hx hb dL_areOdds_199 ?_
        refine q_Lne (tgt := 207) hx hb dL_areOdds_200 (by decide) (fun c_200 => absurd rfl c_200) (fun c_200 => ?_)
        refine q_ic 1 hx hb dL_areOdds_203 (by decide) ?_
        refine lv_goto (tgt := 208) hx hb dL_areOdds_204 (by decide) ?_
        exact q_zret2 hC hW hr hlk0 rfl (PR_q hA hG) dL_areOdds_208
      ·
        refine q_ic 0 hx hb dL_areOdds_17 (by decide) ?_
        refine lv_istore (lv' := [(7, .int (nI 0)), (0, .ref (ad 0)), (1, .ref (ad 71)), (2, .ref (ad 72)), (3, .long (lN (Sx' w K ro K 6))), (5, .int (nI (K))), (6, .int (nI (p)))]) hx hb dL_areOdds_18 hl (by decide) rfl (fun ls hl => ?_)
        refine q_ic 0 hx hb dL_areOdds_20 (by decide) ?_
        have hl : lv_has ls 11 [(7, .int (nI (bestT (fun f => thr w ro K p f) 0))), (0, .ref (ad 0)), (1, .ref (ad 71)), (2, .ref (ad 72)), (3, .long (lN (Sx' w K ro K 6))), (5, .int (nI (K))), (6, .int (nI (p)))] := by rw [show bestT (fun f => thr w ro K p f) 0 = 0 from rfl]; exact hl
        refine lv_istore (lv' := [(8, .int (nI 0)), (7, .int (nI (bestT (fun f => thr w ro K p f) 0))), (0, .ref (ad 0)), (1, .ref (ad 71)), (2, .ref (ad 72)), (3, .long (lN (Sx' w K ro K 6))), (5, .int (nI (K))), (6, .int (nI (p)))]) hx hb dL_areOdds_21 hl (by decide) rfl (fun ls hl => ?_)
        have lp_23 : ∀ (fu_23 : Nat) (c : Nat) (J23 : Ic) (M23 : Lc) (Q23 : Rc), 4 - c < fu_23 → (c ≤ 4) → (bestT (fun f => thr w ro K p f) c < 4) → (InvA 74 J23 M23 Q23 ((w, K, ro), hc, hi, sv, pn, ch)) → (Fr7 I J23 L M23 R Q23) → ∀ (H : Heap) (locs : List Loc), Wd G 74 ad J23 M23 Q23 (qA 74 ad s.heap.size) s.heap H locs s → ∀ ls : Array Slot, lv_has ls 11 [(0, .ref (ad 0)), (1, .ref (ad 71)), (2, .ref (ad 72)), (3, .long (lN (Sx' w K ro K 6))), (5, .int (nI (K))), (6, .int (nI (p))), (7, .int (nI (bestT (fun f => thr w ro K p f) c))), (8, .int (nI (c)))] → W p_ l e_ ({ frames := 7, cells := 0, slots := 0, locals := 252 } : Room) s m_ ([.ref (ad 0), .ref (ad 71), .ref (ad 72), .long (lN (Sx' w K ro K 6))] : List Value).toArray below meth c_ H locs 0 0 (MQ below (qI2 G (qA 74 ad s.heap.size) (fun z u => PR 74 ad I L R (nI 1, ((w, K, ro), hc, hi, sv, pn, ch)) z u)) ([.ref (ad 0), .ref (ad 71), .ref (ad 72), .long (lN (Sx' w K ro K 6))] : List Value).toArray s 0 0 (qA 74 ad s.heap.size)) (F0 m_ 23 ls []) := by
          intro fu_23
          induction fu_23 with
          | zero =>
            intro c J23 M23 Q23 hm; exact absurd hm (Nat.not_lt_zero _)
          | succ fu_23 ih_23 =>
            intro c J23 M23 Q23 hm_23 hc4 hbl hA hG H locs hW ls hl
            refine lv_iload hx hb dL_areOdds_23 (lv_at hl 7 rfl) ?_
            refine q_ic 4 hx hb dL_areOdds_25 (by decide) ?_
            refine q_cge (tgt := 144) hx hb dL_areOdds_26 (by decide) (by first | omega | exact Nat.lt_of_le_of_lt (hw3 _) (by decide) | exact Nat.lt_of_lt_of_le (hr4 _) (by decide) | exact Nat.lt_of_le_of_lt (bp_le _) (by decide) | assumption) (by first | omega | exact Nat.lt_of_le_of_lt (hw3 _) (by decide) | exact Nat.lt_of_lt_of_le (hr4 _) (by decide) | exact Nat.lt_of_le_of_lt (bp_le _) (by decide) | assumption) (fun c_26 => ?_) (fun c_26 => ?_)
            ·
              have e4 : c = 4 := by omega
              subst e4
              refine lv_aload_n hx hb dL_areOdds_144 rfl (lv_at hl 0 rfl) ?_
              refine lv_iload hx hb dL_areOdds_145 (lv_at hl 5 rfl) ?_
              refine q_kI2 (q_rV (As := [.int (nI (p))]) (rest := []) (x := 0) hC hW mw_X5_likelyAt gw_288 (k_likelyAt l G 74 ad H.size J23 M23 Q23 (nI p) w K ro hc hi sv pn ch hA) (by omega) (ct_o5 kd_0) rfl ⟨rfl, rfl⟩ ⟨Nat.le_of_ble_eq_true rfl, Nat.le_of_ble_eq_true rfl⟩ ⟨(Nat.le_of_ble_eq_true rfl), (Nat.le_of_ble_eq_true rfl)⟩ hl.1 rfl rfl (Nat.le_of_ble_eq_true rfl) dL_areOdds_147) hW (fun r_147 n_147 ad_147 I_147 L_147 R_147 H locs hp hW => ?_)
              obtain ⟨hz, rfl, rfl, hA, hF⟩ := PR_use hp
              have hG := fr_t hF hG
              have hz : r_147 = (-5) := hz.trans (aLa0 (m := (w, K, ro)) (p := p) (show p < K by omega) hk6 hT)
              subst hz
              refine lv_lload_n hx hb dL_areOdds_150 rfl (lv_at hl 3 rfl) ?_
              refine q_lc 0 hx hb dL_areOdds_151 (by decide) ?_
              refine q_lcmp hx hb dL_areOdds_152 ?_
              refine q_lne (tgt := 161) hx hb dL_areOdds_153 (by decide) hT63 (by decide) (fun c_153 => absurd c_153 (by omega)) (fun c_153 => ?_)
              refine lv_bipush (v := -5) hx hb dL_areOdds_156 (by decide) ?_
              refine lv_goto (tgt := 163) hx hb dL_areOdds_158 (by decide) ?_
              refine lv_icmp_eq (tgt := 168) hx hb dL_areOdds_163 (by decide) (fun c_163 => ?_) (fun c_163 => absurd c_163 (by decide))
              refine q_iinc (z2 := p + 1) (lv' := [(6, .int (nI (p + 1))), (0, .ref (ad 0)), (1, .ref (ad 71)), (2, .ref (ad 72)), (3, .long (lN (Sx' w K ro K 6))), (5, .int (nI (K))), (7, .int (nI (bestT (fun f => thr w ro K p f) 4))), (8, .int (nI 4))]) hx hb dL_areOdds_168 hl (k := 5) rfl (inc_up _ 1 (by decide)) (by decide) rfl (fun ls hl => ?_)
              refine lv_goto (tgt := 10) hx hb dL_areOdds_171 (by decide) ?_
              exact ih_10 (p + 1) I_147 L_147 R_147 (by omega) (by omega) hA hG _ _ hW _ (lv_sub hl [1, 2, 3, 4, 5, 0] rfl)
            ·
              refine lv_aload_n hx hb dL_areOdds_29 rfl (lv_at hl 1 rfl) ?_
              refine q_ic 4 hx hb dL_areOdds_30 (by decide) ?_
              refine lv_iload hx hb dL_areOdds_31 (lv_at hl 5 rfl) ?_
              refine q_imul hx hb dL_areOdds_33 ?_
              refine lv_iload hx hb dL_areOdds_34 (lv_at hl 7 rfl) ?_
              refine q_iadd hx hb dL_areOdds_36 ?_
              refine q_lald (x := 71) (i := (4 * p) + c) hC hW (by omega) kd_71 (by omega) dL_areOdds_37 ?_
              refine q_top (v2 := .long (lN (uB w ro (p + 1) c))) (congrArg _ ((congrFun (hG 71 (by decide)).2.1 _).trans (hAh p c (by omega) (by omega)))) ?_
              refine lv_aload_n hx hb dL_areOdds_38 rfl (lv_at hl 2 rfl) ?_
              refine q_ic 4 hx hb dL_areOdds_39 (by decide) ?_
              refine lv_iload hx hb dL_areOdds_40 (lv_at hl 5 rfl) ?_
              refine q_imul hx hb dL_areOdds_42 ?_
              refine lv_iload hx hb dL_areOdds_43 (lv_at hl 7 rfl) ?_
              refine q_iadd hx hb dL_areOdds_45 ?_
              refine q_lald (x := 72) (i := (4 * p) + c) hC hW (by omega) kd_72 (by omega) dL_areOdds_46 ?_
              refine q_top (v2 := .long (lN (Sx' w K ro (K - (p + 1)) c))) (congrArg _ ((congrFun (hG 72 (by decide)).2.1 _).trans (hBe p c (by omega) (by omega)))) ?_
              refine q_lmul hx hb dL_areOdds_47 ?_
              refine q_top (v2 := .long (lN (thr w ro K p c))) rfl ?_
              refine lv_lstore (lv' := [(9, .long (lN (thr w ro K p c))), (0, .ref (ad 0)), (1, .ref (ad 71)), (2, .ref (ad 72)), (3, .long (lN (Sx' w K ro K 6))), (5, .int (nI (K))), (6, .int (nI (p))), (7, .int (nI (bestT (fun f => thr w ro K p f) c))), (8, .int (nI (c)))]) hx hb dL_areOdds_48 hl (by decide) rfl (fun ls hl => ?_)
              refine lv_lload hx hb dL_areOdds_50 (lv_at hl 0 rfl) ?_
              refine lv_aload_n hx hb dL_areOdds_52 rfl (lv_at hl 2 rfl) ?_
              refine q_ic 4 hx hb dL_areOdds_53 (by decide) ?_
              refine lv_iload hx hb dL_areOdds_54 (lv_at hl 6 rfl) ?_
              refine q_imul hx hb dL_areOdds_56 ?_
              refine lv_iload hx hb dL_areOdds_57 (lv_at hl 7 rfl) ?_
              refine q_iadd hx hb dL_areOdds_59 ?_
              refine q_lald (x := 71) (i := (4 * p) + (bestT (fun f => thr w ro K p f) c)) hC hW (by omega) kd_71 (by omega) dL_areOdds_60 ?_
              refine q_top (v2 := .long (lN (uB w ro (p + 1) (bestT (fun f => thr w ro K p f) c)))) (congrArg _ ((congrFun (hG 71 (by decide)).2.1 _).trans (hAh p (bestT (fun f => thr w ro K p f) c) (by omega) (by omega)))) ?_
              refine lv_aload_n hx hb dL_areOdds_61 rfl (lv_at hl 3 rfl) ?_
              refine q_ic 4 hx hb dL_areOdds_62 (by decide) ?_
              refine lv_iload hx hb dL_areOdds_63 (lv_at hl 6 rfl) ?_
              refine q_imul hx hb dL_areOdds_65 ?_
              refine lv_iload hx hb dL_areOdds_66 (lv_at hl 7 rfl) ?_
              refine q_iadd hx hb dL_areOdds_68 ?_
              refine q_lald (x := 72) (i := (4 * p) + (bestT (fun f => thr w ro K p f) c)) hC hW (by omega) kd_72 (by omega) dL_areOdds_69 ?_
              refine q_top (v2 := .long (lN (Sx' w K ro (K - (p + 1)) (bestT (fun f => thr w ro K p f) c)))) (congrArg _ ((congrFun (hG 72 (by decide)).2.1 _).trans (hBe p (bestT (fun f => thr w ro K p f) c) (by omega) (by omega)))) ?_
              refine q_lmul hx hb dL_areOdds_70 ?_
              refine q_top (v2 := .long (lN (thr w ro K p (bestT (fun f => thr w ro K p f) c)))) rfl ?_
              have hta : thr w ro K p c < 2 ^ 63 := Nat.lt_of_le_of_lt (thr_b hw (by omega) (by omega)) hT63
              have htb : thr w ro K p (bestT (fun f => thr w ro K p f) c) < 2 ^ 63 := Nat.lt_of_le_of_lt (thr_b hw (by omega) (by omega)) hT63
              refine q_lcmp hx hb dL_areOdds_71 ?_
              refine q_lle (tgt := 80) hx hb dL_areOdds_72 (by decide) hta htb (fun c_72 => ?_) (fun c_72 => ?_)
              ·
                refine lv_iload hx hb dL_areOdds_80 (lv_at hl 7 rfl) ?_
                refine lv_istore (lv' := [(7, .int (nI (bestT (fun f => thr w ro K p f) c))), (9, .long (lN (thr w ro K p c))), (0, .ref (ad 0)), (1, .ref (ad 71)), (2, .ref (ad 72)), (3, .long (lN (Sx' w K ro K 6))), (5, .int (nI (K))), (6, .int (nI (p))), (8, .int (nI (c)))]) hx hb dL_areOdds_82 hl (by decide) rfl (fun ls hl => ?_)
                have hl : lv_has ls 11 [(7, .int (nI (bestT (fun f => thr w ro K p f) (c + 1)))), (9, .long (lN (thr w ro K p c))), (0, .ref (ad 0)), (1, .ref (ad 71)), (2, .ref (ad 72)), (3, .long (lN (Sx' w K ro K 6))), (5, .int (nI (K))), (6, .int (nI (p))), (8, .int (nI (c)))] := by rw [show bestT (fun f => thr w ro K p f) (c + 1) = bestT (fun f => thr w ro K p f) c from bestT_n (Nat.not_lt.mpr c_72)]; exact hl
                refine lv_lload_n hx hb dL_areOdds_84 rfl (lv_at hl 5 rfl) ?_
                refine q_lc 0 hx hb dL_areOdds_85 (by decide) ?_
                refine q_lcmp hx hb dL_areOdds_86 ?_
                refine q_lne (tgt := 109) hx hb dL_areOdds_87 (by decide) hT63 (by decide) (fun c_87 => absurd c_87 (by omega)) (fun c_87 => ?_)
                refine lv_aload_n hx hb dL_areOdds_90 rfl (lv_at hl 2 rfl) ?_
                refine lv_iload hx hb dL_areOdds_91 (lv_at hl 7 rfl) ?_
                refine lv_iload hx hb dL_areOdds_93 (lv_at hl 8 rfl) ?_
                refine q_ic 0 hx hb dL_areOdds_95 (by decide) ?_
                refine q_kL2 (q_rV (As := [.int (nI (p)), .int (nI (c)), .int (nI 0)]) (rest := []) (x := 0) hC hW mw_X5_odds gw_262 (k_odds l G 74 ad H.size J23 M23 Q23 (nI p) (nI c) (nI 0) w K ro hc hi sv pn ch hA) (by omega) (ct_o5 kd_0) rfl ⟨rfl, rfl⟩ ⟨Nat.le_of_ble_eq_true rfl, Nat.le_of_ble_eq_true rfl⟩ ⟨(Nat.le_of_ble_eq_true rfl), (Nat.le_of_ble_eq_true rfl)⟩ hl.1 rfl rfl (Nat.le_of_ble_eq_true rfl) dL_areOdds_96) hW (fun r_96 n_96 ad_96 I_96 L_96 R_96 H locs hp hW => ?_)
                obtain ⟨hz, rfl, rfl, hA, hF⟩ := PRl_use hp
                have hG := fr_t hF hG
                have hz : r_96 = (-5) := hz.trans (aO0 (m := (w, K, ro)) (p := p) (c := c) (y := 0) (show p < K by omega) hk6 (by first | omega | assumption) (by decide) hT)
                subst hz
                refine lv_ldc2 (v := -5) hx hb hC.2.2.2.1 (hC.2.2.2.2 _ gw_281) dL_areOdds_99 ?_
                refine W.lcmp hx hb dL_areOdds_102 ?_
                refine q_Leq (tgt := 138) hx hb dL_areOdds_103 (by decide) (fun c_103 => ?_) (fun c_103 => absurd rfl c_103)
                refine q_iinc (z2 := c + 1) (lv' := [(8, .int (nI (c + 1))), (7, .int (nI (bestT (fun f => thr w ro K p f) (c + 1)))), (9, .long (lN (thr w ro K p c))), (0, .ref (ad 0)), (1, .ref (ad 71)), (2, .ref (ad 72)), (3, .long (lN (Sx' w K ro K 6))), (5, .int (nI (K))), (6, .int (nI (p)))]) hx hb dL_areOdds_138 hl (k := 8) rfl (inc_up _ 1 (by decide)) (by decide) rfl (fun ls hl => ?_)
                refine lv_goto (tgt := 23) hx hb dL_areOdds_141 (by decide) ?_
                exact ih_23 (c + 1) I_96 L_96 R_96 (by omega) (by omega) (Nat.lt_of_le_of_lt (bestT_le _ c) (by omega)) hA hG _ _ hW _ (lv_sub hl [3, 4, 5, 6, 7, 8, 1, 0] rfl)
              ·
                refine lv_iload hx hb dL_areOdds_75 (lv_at hl 8 rfl) ?_
                refine lv_goto (tgt := 82) hx hb dL_areOdds_77 (by decide) ?_
                refine lv_istore (lv' := [(7, .int (nI (c))), (9, .long (lN (thr w ro K p c))), (0, .ref (ad 0)), (1, .ref (ad 71)), (2, .ref (ad 72)), (3, .long (lN (Sx' w K ro K 6))), (5, .int (nI (K))), (6, .int (nI (p))), (8, .int (nI (c)))]) hx hb dL_areOdds_82 hl (by decide) rfl (fun ls hl => ?_)
                have hl : lv_has ls 11 [(7, .int (nI (bestT (fun f => thr w ro K p f) (c + 1)))), (9, .long (lN (thr w ro K p c))), (0, .ref (ad 0)), (1, .ref (ad 71)), (2, .ref (ad 72)), (3, .long (lN (Sx' w K ro K 6))), (5, .int (nI (K))), (6, .int (nI (p))), (8, .int (nI (c)))] := by rw [show bestT (fun f => thr w ro K p f) (c + 1) = c from bestT_y c_72]; exact hl
                refine lv_lload_n hx hb dL_areOdds_84 rfl (lv_at hl 5 rfl) ?_
                refine q_lc 0 hx hb dL_areOdds_85 (by decide) ?_
                refine q_lcmp hx hb dL_areOdds_86 ?_
                refine q_lne (tgt := 109) hx hb dL_areOdds_87 (by decide) hT63 (by decide) (fun c_87 => absurd c_87 (by omega)) (fun c_87 => ?_)
                refine lv_aload_n hx hb dL_areOdds_90 rfl (lv_at hl 2 rfl) ?_
                refine lv_iload hx hb dL_areOdds_91 (lv_at hl 7 rfl) ?_
                refine lv_iload hx hb dL_areOdds_93 (lv_at hl 8 rfl) ?_
                refine q_ic 0 hx hb dL_areOdds_95 (by decide) ?_
                refine q_kL2 (q_rV (As := [.int (nI (p)), .int (nI (c)), .int (nI 0)]) (rest := []) (x := 0) hC hW mw_X5_odds gw_262 (k_odds l G 74 ad H.size J23 M23 Q23 (nI p) (nI c) (nI 0) w K ro hc hi sv pn ch hA) (by omega) (ct_o5 kd_0) rfl ⟨rfl, rfl⟩ ⟨Nat.le_of_ble_eq_true rfl, Nat.le_of_ble_eq_true rfl⟩ ⟨(Nat.le_of_ble_eq_true rfl), (Nat.le_of_ble_eq_true rfl)⟩ hl.1 rfl rfl (Nat.le_of_ble_eq_true rfl) dL_areOdds_96) hW (fun r_96 n_96 ad_96 I_96 L_96 R_96 H locs hp hW => ?_)
                obtain ⟨hz, rfl, rfl, hA, hF⟩ := PRl_use hp
                have hG := fr_t hF hG
                have hz : r_96 = (-5) := hz.trans (aO0 (m := (w, K, ro)) (p := p) (c := c) (y := 0) (show p < K by omega) hk6 (by first | omega | assumption) (by decide) hT)
                subst hz
                refine lv_ldc2 (v := -5) hx hb hC.2.2.2.1 (hC.2.2.2.2 _ gw_281) dL_areOdds_99 ?_
                refine W.lcmp hx hb dL_areOdds_102 ?_
                refine q_Leq (tgt := 138) hx hb dL_areOdds_103 (by decide) (fun c_103 => ?_) (fun c_103 => absurd rfl c_103)
                refine q_iinc (z2 := c + 1) (lv' := [(8, .int (nI (c + 1))), (7, .int (nI (bestT (fun f => thr w ro K p f) (c + 1)))), (9, .long (lN (thr w ro K p c))), (0, .ref (ad 0)), (1, .ref (ad 71)), (2, .ref (ad 72)), (3, .long (lN (Sx' w K ro K 6))), (5, .int (nI (K))), (6, .int (nI (p)))]) hx hb dL_areOdds_138 hl (k := 8) rfl (inc_up _ 1 (by decide)) (by decide) rfl (fun ls hl => ?_)
                refine lv_goto (tgt := 23) hx hb dL_areOdds_141 (by decide) ?_
                exact ih_23 (c + 1) I_96 L_96 R_96 (by omega) (by omega) (Nat.lt_of_le_of_lt (bestT_le _ c) (by omega)) hA hG _ _ hW _ (lv_sub hl [3, 4, 5, 6, 7, 8, 1, 0] rfl)
        exact lp_23 (4 + 1) 0 J10 M10 Q10 (by omega) (by omega) (show 0 < 4 by decide) hA hG _ _ hW _ (lv_sub hl [2, 3, 4, 5, 6, 7, 1, 0] rfl)
  exact lp_10 (K + 1) 0 I_2 L_2 R_2 (by omega) (by omega) hA hG _ _ hW _ (lv_sub hl [2, 3, 4, 5, 1, 0] rfl)
set_option maxRecDepth 100000 in
set_option maxHeartbeats 4000000 in
theorem k_areOdds1 (l : Launch) (G : Gx) (ad : Nat → Nat) (sz : Nat) (I : Ic) (L : Lc) (R : Rc)  (w : Nat → Nat) (K : Nat) (ro : Nat → Nat) (hc : Nat) (hi : Nat → CM) (sv : Nat → Option CM) (pn : Nat) (ch : Nat → Nat) (hA : InvA 74 I L R ((w, K, ro), hc, hi, sv, pn, ch)) (hT0 : 0 < Sx' w K ro K 6) (hAh : ∀ p c, p < K → c < 4 → L 71 (4 * p + c) = lN (uB w ro (p + 1) c)) (hBe : ∀ p c, p < K → c < 4 → L 72 (4 * p + c) = lN (Sx' w K ro (K - (p + 1)) c)) : Met l yL_areOdds (Cond.code yL_areOdds cL_areOdds 11 (some .boolean) :: GW) ({ frames := 7, cells := 0, slots := 0, locals := 252 } : Room) (qPre G 74 ad sz I L R [.ref (ad 0), .ref (ad 71), .ref (ad 72), .long (lN (Sx' w K ro K 6))]) (qI2 G (qA 74 ad sz) (fun z u => PR 74 ad I L R (nI 1, ((w, K, ro), hc, hi, sv, pn, ch)) z u)) 0 0 (qA 74 ad sz) := by
  refine q_met (by decide) (Nat.le_of_ble_eq_true rfl) ?_
  intro p_ e_ s m_ below meth c_ hC hr hlk0 hin hsz hW ls hl
  subst hsz
  have hC : CallFix p_ m_ c_ cL_areOdds 11 s ([.ref (ad 0), .ref (ad 71), .ref (ad 72), .long (lN (Sx' w K ro K 6))] : List Value).toArray GW "CoinRowsLaw" := hC
  have hx := hC.1
  have hb := hC.2.1
  have hw : Wok w := hA.2.2.1.2.2.2.2.1
  have hw3 : ∀ i, w i ≤ 3 := hw.1
  have hk6 : K ≤ 6 := hA.2.2.1.2.2.2.1
  have hr4 : ∀ j, ro j < 4 := hA.2.2.1.2.2.2.2.2
  have hn71 := hA.1
  have hT63 : Sx' w K ro K 6 < 2 ^ 63 := Nat.lt_of_le_of_lt (Sx_b hw K K 6 hk6) (by decide)
  have hC31 : Cx' w K ro K 6 < 2 ^ 31 := Nat.lt_of_le_of_lt (Cx_b hw K K 6 hk6) (by decide)
  have hG : Fr7 I I L L R R := fr_0
  have hT : ¬ aTot (w, K, ro) = 0 := Nat.ne_of_gt hT0
  have hl : lv_has ls 11 [(0, .ref (ad 0)), (1, .ref (ad 71)), (2, .ref (ad 72)), (3, .long (lN (Sx' w K ro K 6)))] := hl
  refine lv_aload_n hx hb dL_areOdds_0 rfl (lv_at hl 0 rfl) ?_
  refine q_ic 0 hx hb dL_areOdds_1 (by decide) ?_
  refine q_kI2 (q_rV (As := [.int (nI 0)]) (rest := []) (x := 0) hC hW mw_X5_count gw_172 (k_count l G 74 ad s.heap.size I L R (nI 0) w K ro hc hi sv pn ch hA) (by omega) (ct_o5 kd_0) rfl ⟨rfl, rfl⟩ ⟨Nat.le_of_ble_eq_true rfl, Nat.le_of_ble_eq_true rfl⟩ ⟨(Nat.le_of_ble_eq_true rfl), (Nat.le_of_ble_eq_true rfl)⟩ hl.1 rfl rfl (Nat.le_of_ble_eq_true rfl) dL_areOdds_2) hW (fun r_2 n_2 ad_2 I_2 L_2 R_2 H locs hp hW => ?_)
  obtain ⟨hz, rfl, rfl, hA, hF⟩ := PR_use hp
  have hG := fr_t hF hG
  have hz : r_2 = nI K := hz.trans (aC0 (S := ((w, K, ro), hc, hi, sv, pn, ch)))
  subst hz
  refine lv_istore (lv' := [(5, .int (nI (K))), (0, .ref (ad 0)), (1, .ref (ad 71)), (2, .ref (ad 72)), (3, .long (lN (Sx' w K ro K 6)))]) hx hb dL_areOdds_5 hl (by decide) rfl (fun ls hl => ?_)
  refine q_ic 0 hx hb dL_areOdds_7 (by decide) ?_
  refine lv_istore (lv' := [(6, .int (nI 0)), (5, .int (nI (K))), (0, .ref (ad 0)), (1, .ref (ad 71)), (2, .ref (ad 72)), (3, .long (lN (Sx' w K ro K 6)))]) hx hb dL_areOdds_8 hl (by decide) rfl (fun ls hl => ?_)
  have lp_10 : ∀ (fu_10 : Nat) (p : Nat) (J10 : Ic) (M10 : Lc) (Q10 : Rc), K - p < fu_10 → (p ≤ K) → (InvA 74 J10 M10 Q10 ((w, K, ro), hc, hi, sv, pn, ch)) → (Fr7 I J10 L M10 R Q10) → ∀ (H : Heap) (locs : List Loc), Wd G 74 ad J10 M10 Q10 (qA 74 ad s.heap.size) s.heap H locs s → ∀ ls : Array Slot, lv_has ls 11 [(0, .ref (ad 0)), (1, .ref (ad 71)), (2, .ref (ad 72)), (3, .long (lN (Sx' w K ro K 6))), (5, .int (nI (K))), (6, .int (nI (p)))] → W p_ l e_ ({ frames := 7, cells := 0, slots := 0, locals := 252 } : Room) s m_ ([.ref (ad 0), .ref (ad 71), .ref (ad 72), .long (lN (Sx' w K ro K 6))] : List Value).toArray below meth c_ H locs 0 0 (MQ below (qI2 G (qA 74 ad s.heap.size) (fun z u => PR 74 ad I L R (nI 1, ((w, K, ro), hc, hi, sv, pn, ch)) z u)) ([.ref (ad 0), .ref (ad 71), .ref (ad 72), .long (lN (Sx' w K ro K 6))] : List Value).toArray s 0 0 (qA 74 ad s.heap.size)) (F0 m_ 10 ls []) := by
    intro fu_10
    induction fu_10 with
    | zero =>
      intro p J10 M10 Q10 hm; exact absurd hm (Nat.not_lt_zero _)
    | succ fu_10 ih_10 =>
      intro p J10 M10 Q10 hm_10 hpK hA hG H locs hW ls hl
      refine lv_iload hx hb dL_areOdds_10 (lv_at hl 5 rfl) ?_
      refine lv_iload hx hb dL_areOdds_12 (lv_at hl 4 rfl) ?_
      refine q_cge (tgt := 174) hx hb dL_areOdds_14 (by decide) (by first | omega | exact Nat.lt_of_le_of_lt (hw3 _) (by decide) | exact Nat.lt_of_lt_of_le (hr4 _) (by decide) | exact Nat.lt_of_le_of_lt (bp_le _) (by decide) | assumption) (by first | omega | exact Nat.lt_of_le_of_lt (hw3 _) (by decide) | exact Nat.lt_of_lt_of_le (hr4 _) (by decide) | exact Nat.lt_of_le_of_lt (bp_le _) (by decide) | assumption) (fun c_14 => ?_) (fun c_14 => ?_)
      ·
        refine lv_aload_n hx hb dL_areOdds_174 rfl (lv_at hl 0 rfl) ?_
        refine lv_iload hx hb dL_areOdds_175 (lv_at hl 4 rfl) ?_
        refine q_ic 0 hx hb dL_areOdds_177 (by decide) ?_
        refine q_ic 0 hx hb dL_areOdds_178 (by decide) ?_
        refine q_kL2 (q_rV (As := [.int (nI (K)), .int (nI 0), .int (nI 0)]) (rest := []) (x := 0) hC hW mw_X5_odds gw_262 (k_odds l G 74 ad H.size J10 M10 Q10 (nI K) (nI 0) (nI 0) w K ro hc hi sv pn ch hA) (by omega) (ct_o5 kd_0) rfl ⟨rfl, rfl⟩ ⟨Nat.le_of_ble_eq_true rfl, Nat.le_of_ble_eq_true rfl⟩ ⟨(Nat.le_of_ble_eq_true rfl), (Nat.le_of_ble_eq_true rfl)⟩ hl.1 rfl rfl (Nat.le_of_ble_eq_true rfl) dL_areOdds_179) hW (fun r_179 n_179 ad_179 I_179 L_179 R_179 H locs hp hW => ?_)
        obtain ⟨hz, rfl, rfl, hA, hF⟩ := PRl_use hp
        have hG := fr_t hF hG
        have hz : r_179 = (-1) := hz.trans (aOn (m := (w, K, ro)) (p := K) (c := 0) (y := nI 0) hk6 (by omega) (Or.inl (Nat.le_refl _)) (by decide))
        subst hz
        refine lv_ldc2 (v := -1) hx hb hC.2.2.2.1 (hC.2.2.2.2 _ gw_292) dL_areOdds_182 ?_
        refine W.lcmp hx hb dL_areOdds_185 ?_
        refine q_Lne (tgt := 207) hx hb dL_areOdds_186 (by decide) (fun c_186 => absurd rfl c_186) (fun c_186 => ?_)
        refine lv_aload_n hx hb dL_areOdds_189 rfl (lv_at hl 0 rfl) ?_
        refine q_ic 0 hx hb dL_areOdds_190 (by decide) ?_
        refine q_ic 4 hx hb dL_areOdds_191 (by decide) ?_
        refine q_ic 0 hx hb dL_areOdds_192 (by decide) ?_
        refine q_kL2 (q_rV (As := [.int (nI 0), .int (nI 4), .int (nI 0)]) (rest := []) (x := 0) hC hW mw_X5_odds gw_262 (k_odds l G 74 ad H.size I_179 L_179 R_179 (nI 0) (nI 4) (nI 0) w K ro hc hi sv pn ch hA) (by omega) (ct_o5 kd_0) rfl ⟨rfl, rfl⟩ ⟨Nat.le_of_ble_eq_true rfl, Nat.le_of_ble_eq_true rfl⟩ ⟨(Nat.le_of_ble_eq_true rfl), (Nat.le_of_ble_eq_true rfl)⟩ hl.1 rfl rfl (Nat.le_of_ble_eq_true rfl) dL_areOdds_193) hW (fun r_193 n_193 ad_193 I_193 L_193 R_193 H locs hp hW => ?_)
        obtain ⟨hz, rfl, rfl, hA, hF⟩ := PRl_use hp
        have hG := fr_t hF hG
        have hz : r_193 = (-1) := hz.trans (aOn (m := (w, K, ro)) (p := 0) (c := 4) (y := nI 0) hk6 (by omega) (Or.inr (by decide)) (by decide))
        subst hz
        refine lv_ldc2 (v := -1) hx hb hC.2.2.2.1 (hC.2.2.2.2 _ gw_292) dL_areOdds_196 ?_
        refine W.lcmp hx hb dL_areOdds_199 ?_
        refine q_Lne (tgt := 207) hx hb dL_areOdds_200 (by decide) (fun c_200 => absurd rfl c_200) (fun c_200 => ?_)
        refine q_ic 1 hx hb dL_areOdds_203 (by decide) ?_
        refine lv_goto (tgt := 208) hx hb dL_areOdds_204 (by decide) ?_
        exact q_zret2 hC hW hr hlk0 rfl (PR_q hA hG) dL_areOdds_208
      ·
        refine q_ic 0 hx hb dL_areOdds_17 (by decide) ?_
        refine lv_istore (lv' := [(7, .int (nI 0)), (0, .ref (ad 0)), (1, .ref (ad 71)), (2, .ref (ad 72)), (3, .long (lN (Sx' w K ro K 6))), (5, .int (nI (K))), (6, .int (nI (p)))]) hx hb dL_areOdds_18 hl (by decide) rfl (fun ls hl => ?_)
        refine q_ic 0 hx hb dL_areOdds_20 (by decide) ?_
        have hl : lv_has ls 11 [(7, .int (nI (bestT (fun f => thr w ro K p f) 0))), (0, .ref (ad 0)), (1, .ref (ad 71)), (2, .ref (ad 72)), (3, .long (lN (Sx' w K ro K 6))), (5, .int (nI (K))), (6, .int (nI (p)))] := by rw [show bestT (fun f => thr w ro K p f) 0 = 0 from rfl]; exact hl
        refine lv_istore (lv' := [(8, .int (nI 0)), (7, .int (nI (bestT (fun f => thr w ro K p f) 0))), (0, .ref (ad 0)), (1, .ref (ad 71)), (2, .ref (ad 72)), (3, .long (lN (Sx' w K ro K 6))), (5, .int (nI (K))), (6, .int (nI (p)))]) hx hb dL_areOdds_21 hl (by decide) rfl (fun ls hl => ?_)
        have lp_23 : ∀ (fu_23 : Nat) (c : Nat) (J23 : Ic) (M23 : Lc) (Q23 : Rc), 4 - c < fu_23 → (c ≤ 4) → (bestT (fun f => thr w ro K p f) c < 4) → (InvA 74 J23 M23 Q23 ((w, K, ro), hc, hi, sv, pn, ch)) → (Fr7 I J23 L M23 R Q23) → ∀ (H : Heap) (locs : List Loc), Wd G 74 ad J23 M23 Q23 (qA 74 ad s.heap.size) s.heap H locs s → ∀ ls : Array Slot, lv_has ls 11 [(0, .ref (ad 0)), (1, .ref (ad 71)), (2, .ref (ad 72)), (3, .long (lN (Sx' w K ro K 6))), (5, .int (nI (K))), (6, .int (nI (p))), (7, .int (nI (bestT (fun f => thr w ro K p f) c))), (8, .int (nI (c)))] → W p_ l e_ ({ frames := 7, cells := 0, slots := 0, locals := 252 } : Room) s m_ ([.ref (ad 0), .ref (ad 71), .ref (ad 72), .long (lN (Sx' w K ro K 6))] : List Value).toArray below meth c_ H locs 0 0 (MQ below (qI2 G (qA 74 ad s.heap.size) (fun z u => PR 74 ad I L R (nI 1, ((w, K, ro), hc, hi, sv, pn, ch)) z u)) ([.ref (ad 0), .ref (ad 71), .ref (ad 72), .long (lN (Sx' w K ro K 6))] : List Value).toArray s 0 0 (qA 74 ad s.heap.size)) (F0 m_ 23 ls []) := by
          intro fu_23
          induction fu_23 with
          | zero =>
            intro c J23 M23 Q23 hm; exact absurd hm (Nat.not_lt_zero _)
          | succ fu_23 ih_23 =>
            intro c J23 M23 Q23 hm_23 hc4 hbl hA hG H locs hW ls hl
            refine lv_iload hx hb dL_areOdds_23 (lv_at hl 7 rfl) ?_
            refine q_ic 4 hx hb dL_areOdds_25 (by decide) ?_
            refine q_cge (tgt := 144) hx hb dL_areOdds_26 (by decide) (by first | omega | exact Nat.lt_of_le_of_lt (hw3 _) (by decide) | exact Nat.lt_of_lt_of_le (hr4 _) (by decide) | exact Nat.lt_of_le_of_lt (bp_le _) (by decide) | assumption) (by first | omega | exact Nat.lt_of_le_of_lt (hw3 _) (by decide) | exact Nat.lt_of_lt_of_le (hr4 _) (by decide) | exact Nat.lt_of_le_of_lt (bp_le _) (by decide) | assumption) (fun c_26 => ?_) (fun c_26 => ?_)
            ·
              have e4 : c = 4 := by omega
              subst e4
              refine lv_aload_n hx hb dL_areOdds_144 rfl (lv_at hl 0 rfl) ?_
              refine lv_iload hx hb dL_areOdds_145 (lv_at hl 5 rfl) ?_
              refine q_kI2 (q_rV (As := [.int (nI (p))]) (rest := []) (x := 0) hC hW mw_X5_likelyAt gw_288 (k_likelyAt l G 74 ad H.size J23 M23 Q23 (nI p) w K ro hc hi sv pn ch hA) (by omega) (ct_o5 kd_0) rfl ⟨rfl, rfl⟩ ⟨Nat.le_of_ble_eq_true rfl, Nat.le_of_ble_eq_true rfl⟩ ⟨(Nat.le_of_ble_eq_true rfl), (Nat.le_of_ble_eq_true rfl)⟩ hl.1 rfl rfl (Nat.le_of_ble_eq_true rfl) dL_areOdds_147) hW (fun r_147 n_147 ad_147 I_147 L_147 R_147 H locs hp hW => ?_)
              obtain ⟨hz, rfl, rfl, hA, hF⟩ := PR_use hp
              have hG := fr_t hF hG
              have hz : r_147 = nI (bestT (fun f => thr w ro K p f) 4) := hz.trans (aLa1 (m := (w, K, ro)) (p := p) (show p < K by omega) hk6 hT)
              subst hz
              refine lv_lload_n hx hb dL_areOdds_150 rfl (lv_at hl 3 rfl) ?_
              refine q_lc 0 hx hb dL_areOdds_151 (by decide) ?_
              refine q_lcmp hx hb dL_areOdds_152 ?_
              refine q_lne (tgt := 161) hx hb dL_areOdds_153 (by decide) hT63 (by decide) (fun c_153 => ?_) (fun c_153 => absurd c_153 (by omega))
              refine lv_iload hx hb dL_areOdds_161 (lv_at hl 6 rfl) ?_
              refine q_ceq (tgt := 168) hx hb dL_areOdds_163 (by decide) (by first | omega | exact Nat.lt_of_le_of_lt (hw3 _) (by decide) | exact Nat.lt_of_lt_of_le (hr4 _) (by decide) | exact Nat.lt_of_le_of_lt (bp_le _) (by decide) | assumption) (by first | omega | exact Nat.lt_of_le_of_lt (hw3 _) (by decide) | exact Nat.lt_of_lt_of_le (hr4 _) (by decide) | exact Nat.lt_of_le_of_lt (bp_le _) (by decide) | assumption) (fun c_163 => ?_) (fun c_163 => absurd rfl c_163)
              refine q_iinc (z2 := p + 1) (lv' := [(6, .int (nI (p + 1))), (0, .ref (ad 0)), (1, .ref (ad 71)), (2, .ref (ad 72)), (3, .long (lN (Sx' w K ro K 6))), (5, .int (nI (K))), (7, .int (nI (bestT (fun f => thr w ro K p f) 4))), (8, .int (nI 4))]) hx hb dL_areOdds_168 hl (k := 5) rfl (inc_up _ 1 (by decide)) (by decide) rfl (fun ls hl => ?_)
              refine lv_goto (tgt := 10) hx hb dL_areOdds_171 (by decide) ?_
              exact ih_10 (p + 1) I_147 L_147 R_147 (by omega) (by omega) hA hG _ _ hW _ (lv_sub hl [1, 2, 3, 4, 5, 0] rfl)
            ·
              refine lv_aload_n hx hb dL_areOdds_29 rfl (lv_at hl 1 rfl) ?_
              refine q_ic 4 hx hb dL_areOdds_30 (by decide) ?_
              refine lv_iload hx hb dL_areOdds_31 (lv_at hl 5 rfl) ?_
              refine q_imul hx hb dL_areOdds_33 ?_
              refine lv_iload hx hb dL_areOdds_34 (lv_at hl 7 rfl) ?_
              refine q_iadd hx hb dL_areOdds_36 ?_
              refine q_lald (x := 71) (i := (4 * p) + c) hC hW (by omega) kd_71 (by omega) dL_areOdds_37 ?_
              refine q_top (v2 := .long (lN (uB w ro (p + 1) c))) (congrArg _ ((congrFun (hG 71 (by decide)).2.1 _).trans (hAh p c (by omega) (by omega)))) ?_
              refine lv_aload_n hx hb dL_areOdds_38 rfl (lv_at hl 2 rfl) ?_
              refine q_ic 4 hx hb dL_areOdds_39 (by decide) ?_
              refine lv_iload hx hb dL_areOdds_40 (lv_at hl 5 rfl) ?_
              refine q_imul hx hb dL_areOdds_42 ?_
              refine lv_iload hx hb dL_areOdds_43 (lv_at hl 7 rfl) ?_
              refine q_iadd hx hb dL_areOdds_45 ?_
              refine q_lald (x := 72) (i := (4 * p) + c) hC hW (by omega) kd_72 (by omega) dL_areOdds_46 ?_
              refine q_top (v2 := .long (lN (Sx' w K ro (K - (p + 1)) c))) (congrArg _ ((congrFun (hG 72 (by decide)).2.1 _).trans (hBe p c (by omega) (by omega)))) ?_
              refine q_lmul hx hb dL_areOdds_47 ?_
              refine q_top (v2 := .long (lN (thr w ro K p c))) rfl ?_
              refine lv_lstore (lv' := [(9, .long (lN (thr w ro K p c))), (0, .ref (ad 0)), (1, .ref (ad 71)), (2, .ref (ad 72)), (3, .long (lN (Sx' w K ro K 6))), (5, .int (nI (K))), (6, .int (nI (p))), (7, .int (nI (bestT (fun f => thr w ro K p f) c))), (8, .int (nI (c)))]) hx hb dL_areOdds_48 hl (by decide) rfl (fun ls hl => ?_)
              refine lv_lload hx hb dL_areOdds_50 (lv_at hl 0 rfl) ?_
              refine lv_aload_n hx hb dL_areOdds_52 rfl (lv_at hl 2 rfl) ?_
              refine q_ic 4 hx hb dL_areOdds_53 (by decide) ?_
              refine lv_iload hx hb dL_areOdds_54 (lv_at hl 6 rfl) ?_
              refine q_imul hx hb dL_areOdds_56 ?_
              refine lv_iload hx hb dL_areOdds_57 (lv_at hl 7 rfl) ?_
              refine q_iadd hx hb dL_areOdds_59 ?_
              refine q_lald (x := 71) (i := (4 * p) + (bestT (fun f => thr w ro K p f) c)) hC hW (by omega) kd_71 (by omega) dL_areOdds_60 ?_
              refine q_top (v2 := .long (lN (uB w ro (p + 1) (bestT (fun f => thr w ro K p f) c)))) (congrArg _ ((congrFun (hG 71 (by decide)).2.1 _).trans (hAh p (bestT (fun f => thr w ro K p f) c) (by omega) (by omega)))) ?_
              refine lv_aload_n hx hb dL_areOdds_61 rfl (lv_at hl 3 rfl) ?_
              refine q_ic 4 hx hb dL_areOdds_62 (by decide) ?_
              refine lv_iload hx hb dL_areOdds_63 (lv_at hl 6 rfl) ?_
              refine q_imul hx hb dL_areOdds_65 ?_
              refine lv_iload hx hb dL_areOdds_66 (lv_at hl 7 rfl) ?_
              refine q_iadd hx hb dL_areOdds_68 ?_
              refine q_lald (x := 72) (i := (4 * p) + (bestT (fun f => thr w ro K p f) c)) hC hW (by omega) kd_72 (by omega) dL_areOdds_69 ?_
              refine q_top (v2 := .long (lN (Sx' w K ro (K - (p + 1)) (bestT (fun f => thr w ro K p f) c)))) (congrArg _ ((congrFun (hG 72 (by decide)).2.1 _).trans (hBe p (bestT (fun f => thr w ro K p f) c) (by omega) (by omega)))) ?_
              refine q_lmul hx hb dL_areOdds_70 ?_
              refine q_top (v2 := .long (lN (thr w ro K p (bestT (fun f => thr w ro K p f) c)))) rfl ?_
              have hta : thr w ro K p c < 2 ^ 63 := Nat.lt_of_le_of_lt (thr_b hw (by omega) (by omega)) hT63
              have htb : thr w ro K p (bestT (fun f => thr w ro K p f) c) < 2 ^ 63 := Nat.lt_of_le_of_lt (thr_b hw (by omega) (by omega)) hT63
              refine q_lcmp hx hb dL_areOdds_71 ?_
              refine q_lle (tgt := 80) hx hb dL_areOdds_72 (by decide) hta htb (fun c_72 => ?_) (fun c_72 => ?_)
              ·
                refine lv_iload hx hb dL_areOdds_80 (lv_at hl 7 rfl) ?_
                refine lv_istore (lv' := [(7, .int (nI (bestT (fun f => thr w ro K p f) c))), (9, .long (lN (thr w ro K p c))), (0, .ref (ad 0)), (1, .ref (ad 71)), (2, .ref (ad 72)), (3, .long (lN (Sx' w K ro K 6))), (5, .int (nI (K))), (6, .int (nI (p))), (8, .int (nI (c)))]) hx hb dL_areOdds_82 hl (by decide) rfl (fun ls hl => ?_)
                have hl : lv_has ls 11 [(7, .int (nI (bestT (fun f => thr w ro K p f) (c + 1)))), (9, .long (lN (thr w ro K p c))), (0, .ref (ad 0)), (1, .ref (ad 71)), (2, .ref (ad 72)), (3, .long (lN (Sx' w K ro K 6))), (5, .int (nI (K))), (6, .int (nI (p))), (8, .int (nI (c)))] := by rw [show bestT (fun f => thr w ro K p f) (c + 1) = bestT (fun f => thr w ro K p f) c from bestT_n (Nat.not_lt.mpr c_72)]; exact hl
                refine lv_lload_n hx hb dL_areOdds_84 rfl (lv_at hl 5 rfl) ?_
                refine q_lc 0 hx hb dL_areOdds_85 (by decide) ?_
                refine q_lcmp hx hb dL_areOdds_86 ?_
                refine q_lne (tgt := 109) hx hb dL_areOdds_87 (by decide) hT63 (by decide) (fun c_87 => ?_) (fun c_87 => absurd c_87 (by omega))
                refine lv_aload_n hx hb dL_areOdds_109 rfl (lv_at hl 2 rfl) ?_
                refine lv_iload hx hb dL_areOdds_110 (lv_at hl 7 rfl) ?_
                refine lv_iload hx hb dL_areOdds_112 (lv_at hl 8 rfl) ?_
                refine q_ic 0 hx hb dL_areOdds_114 (by decide) ?_
                refine q_kL2 (q_rV (As := [.int (nI (p)), .int (nI (c)), .int (nI 0)]) (rest := []) (x := 0) hC hW mw_X5_odds gw_262 (k_odds l G 74 ad H.size J23 M23 Q23 (nI p) (nI c) (nI 0) w K ro hc hi sv pn ch hA) (by omega) (ct_o5 kd_0) rfl ⟨rfl, rfl⟩ ⟨Nat.le_of_ble_eq_true rfl, Nat.le_of_ble_eq_true rfl⟩ ⟨(Nat.le_of_ble_eq_true rfl), (Nat.le_of_ble_eq_true rfl)⟩ hl.1 rfl rfl (Nat.le_of_ble_eq_true rfl) dL_areOdds_115) hW (fun r_115 n_115 ad_115 I_115 L_115 R_115 H locs hp hW => ?_)
                obtain ⟨hz, rfl, rfl, hA, hF⟩ := PRl_use hp
                have hG := fr_t hF hG
                have hz : r_115 = lN (thr w ro K p c / Nat.gcd (thr w ro K p c) (Sx' w K ro K 6)) := hz.trans ((aO1 (m := (w, K, ro)) (p := p) (c := c) (y := 0) (show p < K by omega) hk6 (by first | omega | assumption) (by decide) hT).trans (lowT_0 _ _))
                subst hz
                refine lv_aload_n hx hb dL_areOdds_118 rfl (lv_at hl 2 rfl) ?_
                refine lv_iload hx hb dL_areOdds_119 (lv_at hl 7 rfl) ?_
                refine lv_iload hx hb dL_areOdds_121 (lv_at hl 8 rfl) ?_
                refine q_ic 1 hx hb dL_areOdds_123 (by decide) ?_
                refine q_kL2 (q_rV (As := [.int (nI (p)), .int (nI (c)), .int (nI 1)]) (rest := [.long (lN (thr w ro K p c / Nat.gcd (thr w ro K p c) (Sx' w K ro K 6)))]) (x := 0) hC hW mw_X5_odds gw_262 (k_odds l G 74 ad H.size I_115 L_115 R_115 (nI p) (nI c) (nI 1) w K ro hc hi sv pn ch hA) (by omega) (ct_o5 kd_0) rfl ⟨rfl, rfl⟩ ⟨Nat.le_of_ble_eq_true rfl, Nat.le_of_ble_eq_true rfl⟩ ⟨(Nat.le_of_ble_eq_true rfl), (Nat.le_of_ble_eq_true rfl)⟩ hl.1 rfl rfl (Nat.le_of_ble_eq_true rfl) dL_areOdds_124) hW (fun r_124 n_124 ad_124 I_124 L_124 R_124 H locs hp hW => ?_)
                obtain ⟨hz, rfl, rfl, hA, hF⟩ := PRl_use hp
                have hG := fr_t hF hG
                have hz : r_124 = lN ((Sx' w K ro K 6) / Nat.gcd (thr w ro K p c) (Sx' w K ro K 6)) := hz.trans ((aO1 (m := (w, K, ro)) (p := p) (c := c) (y := 1) (show p < K by omega) hk6 (by first | omega | assumption) (by decide) hT).trans (lowT_1 _ _))
                subst hz
                have hN63 := hta
                refine lv_lload hx hb dL_areOdds_127 (lv_at hl 1 rfl) ?_
                refine lv_lload_n hx hb dL_areOdds_129 rfl (lv_at hl 5 rfl) ?_
                refine q_kI0 (q_rS (As := [.long (lN (thr w ro K p c / Nat.gcd (thr w ro K p c) (Sx' w K ro K 6))), .long (lN ((Sx' w K ro K 6) / Nat.gcd (thr w ro K p c) (Sx' w K ro K 6))), .long (lN (thr w ro K p c)), .long (lN (Sx' w K ro K 6))]) (rest := []) hC hW mw_L_isPart gw_282 (k_lpart l G 74 ad H.size I_124 L_124 R_124 (thr w ro K p c / Nat.gcd (thr w ro K p c) (Sx' w K ro K 6)) ((Sx' w K ro K 6) / Nat.gcd (thr w ro K p c) (Sx' w K ro K 6)) (thr w ro K p c) (Sx' w K ro K 6) (Nat.lt_of_le_of_lt (Nat.div_le_self _ _) hN63) (Nat.lt_of_le_of_lt (Nat.div_le_self _ _) hT63) hT63 (gq_pos hT0) (gq_mod hT0) (gq_num hT0) (gq_gcd hT0)) ⟨rfl, rfl⟩ ⟨Nat.le_of_ble_eq_true rfl, Nat.le_of_ble_eq_true rfl⟩ ⟨(Nat.le_of_ble_eq_true rfl), (Nat.le_of_ble_eq_true rfl)⟩ hl.1 rfl rfl (Nat.le_of_ble_eq_true rfl) dL_areOdds_130) hW (fun r_130 H locs hp hW => ?_)
                subst hp
                refine q_ine (tgt := 138) hx hb dL_areOdds_133 (by decide) (by first | omega | exact Nat.lt_of_le_of_lt (hw3 _) (by decide) | exact Nat.lt_of_lt_of_le (hr4 _) (by decide) | exact Nat.lt_of_le_of_lt (bp_le _) (by decide) | assumption) (fun c_133 => ?_) (fun c_133 => absurd c_133 (by decide))
                refine q_iinc (z2 := c + 1) (lv' := [(8, .int (nI (c + 1))), (7, .int (nI (bestT (fun f => thr w ro K p f) (c + 1)))), (9, .long (lN (thr w ro K p c))), (0, .ref (ad 0)), (1, .ref (ad 71)), (2, .ref (ad 72)), (3, .long (lN (Sx' w K ro K 6))), (5, .int (nI (K))), (6, .int (nI (p)))]) hx hb dL_areOdds_138 hl (k := 8) rfl (inc_up _ 1 (by decide)) (by decide) rfl (fun ls hl => ?_)
                refine lv_goto (tgt := 23) hx hb dL_areOdds_141 (by decide) ?_
                exact ih_23 (c + 1) I_124 L_124 R_124 (by omega) (by omega) (Nat.lt_of_le_of_lt (bestT_le _ c) (by omega)) hA hG _ _ hW _ (lv_sub hl [3, 4, 5, 6, 7, 8, 1, 0] rfl)
              ·
                refine lv_iload hx hb dL_areOdds_75 (lv_at hl 8 rfl) ?_
                refine lv_goto (tgt := 82) hx hb dL_areOdds_77 (by decide) ?_
                refine lv_istore (lv' := [(7, .int (nI (c))), (9, .long (lN (thr w ro K p c))), (0, .ref (ad 0)), (1, .ref (ad 71)), (2, .ref (ad 72)), (3, .long (lN (Sx' w K ro K 6))), (5, .int (nI (K))), (6, .int (nI (p))), (8, .int (nI (c)))]) hx hb dL_areOdds_82 hl (by decide) rfl (fun ls hl => ?_)
                have hl : lv_has ls 11 [(7, .int (nI (bestT (fun f => thr w ro K p f) (c + 1)))), (9, .long (lN (thr w ro K p c))), (0, .ref (ad 0)), (1, .ref (ad 71)), (2, .ref (ad 72)), (3, .long (lN (Sx' w K ro K 6))), (5, .int (nI (K))), (6, .int (nI (p))), (8, .int (nI (c)))] := by rw [show bestT (fun f => thr w ro K p f) (c + 1) = c from bestT_y c_72]; exact hl
                refine lv_lload_n hx hb dL_areOdds_84 rfl (lv_at hl 5 rfl) ?_
                refine q_lc 0 hx hb dL_areOdds_85 (by decide) ?_
                refine q_lcmp hx hb dL_areOdds_86 ?_
                refine q_lne (tgt := 109) hx hb dL_areOdds_87 (by decide) hT63 (by decide) (fun c_87 => ?_) (fun c_87 => absurd c_87 (by omega))
                refine lv_aload_n hx hb dL_areOdds_109 rfl (lv_at hl 2 rfl) ?_
                refine lv_iload hx hb dL_areOdds_110 (lv_at hl 7 rfl) ?_
                refine lv_iload hx hb dL_areOdds_112 (lv_at hl 8 rfl) ?_
                refine q_ic 0 hx hb dL_areOdds_114 (by decide) ?_
                refine q_kL2 (q_rV (As := [.int (nI (p)), .int (nI (c)), .int (nI 0)]) (rest := []) (x := 0) hC hW mw_X5_odds gw_262 (k_odds l G 74 ad H.size J23 M23 Q23 (nI p) (nI c) (nI 0) w K ro hc hi sv pn ch hA) (by omega) (ct_o5 kd_0) rfl ⟨rfl, rfl⟩ ⟨Nat.le_of_ble_eq_true rfl, Nat.le_of_ble_eq_true rfl⟩ ⟨(Nat.le_of_ble_eq_true rfl), (Nat.le_of_ble_eq_true rfl)⟩ hl.1 rfl rfl (Nat.le_of_ble_eq_true rfl) dL_areOdds_115) hW (fun r_115 n_115 ad_115 I_115 L_115 R_115 H locs hp hW => ?_)
                obtain ⟨hz, rfl, rfl, hA, hF⟩ := PRl_use hp
                have hG := fr_t hF hG
                have hz : r_115 = lN (thr w ro K p c / Nat.gcd (thr w ro K p c) (Sx' w K ro K 6)) := hz.trans ((aO1 (m := (w, K, ro)) (p := p) (c := c) (y := 0) (show p < K by omega) hk6 (by first | omega | assumption) (by decide) hT).trans (lowT_0 _ _))
                subst hz
                refine lv_aload_n hx hb dL_areOdds_118 rfl (lv_at hl 2 rfl) ?_
                refine lv_iload hx hb dL_areOdds_119 (lv_at hl 7 rfl) ?_
                refine lv_iload hx hb dL_areOdds_121 (lv_at hl 8 rfl) ?_
                refine q_ic 1 hx hb dL_areOdds_123 (by decide) ?_
                refine q_kL2 (q_rV (As := [.int (nI (p)), .int (nI (c)), .int (nI 1)]) (rest := [.long (lN (thr w ro K p c / Nat.gcd (thr w ro K p c) (Sx' w K ro K 6)))]) (x := 0) hC hW mw_X5_odds gw_262 (k_odds l G 74 ad H.size I_115 L_115 R_115 (nI p) (nI c) (nI 1) w K ro hc hi sv pn ch hA) (by omega) (ct_o5 kd_0) rfl ⟨rfl, rfl⟩ ⟨Nat.le_of_ble_eq_true rfl, Nat.le_of_ble_eq_true rfl⟩ ⟨(Nat.le_of_ble_eq_true rfl), (Nat.le_of_ble_eq_true rfl)⟩ hl.1 rfl rfl (Nat.le_of_ble_eq_true rfl) dL_areOdds_124) hW (fun r_124 n_124 ad_124 I_124 L_124 R_124 H locs hp hW => ?_)
                obtain ⟨hz, rfl, rfl, hA, hF⟩ := PRl_use hp
                have hG := fr_t hF hG
                have hz : r_124 = lN ((Sx' w K ro K 6) / Nat.gcd (thr w ro K p c) (Sx' w K ro K 6)) := hz.trans ((aO1 (m := (w, K, ro)) (p := p) (c := c) (y := 1) (show p < K by omega) hk6 (by first | omega | assumption) (by decide) hT).trans (lowT_1 _ _))
                subst hz
                have hN63 := hta
                refine lv_lload hx hb dL_areOdds_127 (lv_at hl 1 rfl) ?_
                refine lv_lload_n hx hb dL_areOdds_129 rfl (lv_at hl 5 rfl) ?_
                refine q_kI0 (q_rS (As := [.long (lN (thr w ro K p c / Nat.gcd (thr w ro K p c) (Sx' w K ro K 6))), .long (lN ((Sx' w K ro K 6) / Nat.gcd (thr w ro K p c) (Sx' w K ro K 6))), .long (lN (thr w ro K p c)), .long (lN (Sx' w K ro K 6))]) (rest := []) hC hW mw_L_isPart gw_282 (k_lpart l G 74 ad H.size I_124 L_124 R_124 (thr w ro K p c / Nat.gcd (thr w ro K p c) (Sx' w K ro K 6)) ((Sx' w K ro K 6) / Nat.gcd (thr w ro K p c) (Sx' w K ro K 6)) (thr w ro K p c) (Sx' w K ro K 6) (Nat.lt_of_le_of_lt (Nat.div_le_self _ _) hN63) (Nat.lt_of_le_of_lt (Nat.div_le_self _ _) hT63) hT63 (gq_pos hT0) (gq_mod hT0) (gq_num hT0) (gq_gcd hT0)) ⟨rfl, rfl⟩ ⟨Nat.le_of_ble_eq_true rfl, Nat.le_of_ble_eq_true rfl⟩ ⟨(Nat.le_of_ble_eq_true rfl), (Nat.le_of_ble_eq_true rfl)⟩ hl.1 rfl rfl (Nat.le_of_ble_eq_true rfl) dL_areOdds_130) hW (fun r_130 H locs hp hW => ?_)
                subst hp
                refine q_ine (tgt := 138) hx hb dL_areOdds_133 (by decide) (by first | omega | exact Nat.lt_of_le_of_lt (hw3 _) (by decide) | exact Nat.lt_of_lt_of_le (hr4 _) (by decide) | exact Nat.lt_of_le_of_lt (bp_le _) (by decide) | assumption) (fun c_133 => ?_) (fun c_133 => absurd c_133 (by decide))
                refine q_iinc (z2 := c + 1) (lv' := [(8, .int (nI (c + 1))), (7, .int (nI (bestT (fun f => thr w ro K p f) (c + 1)))), (9, .long (lN (thr w ro K p c))), (0, .ref (ad 0)), (1, .ref (ad 71)), (2, .ref (ad 72)), (3, .long (lN (Sx' w K ro K 6))), (5, .int (nI (K))), (6, .int (nI (p)))]) hx hb dL_areOdds_138 hl (k := 8) rfl (inc_up _ 1 (by decide)) (by decide) rfl (fun ls hl => ?_)
                refine lv_goto (tgt := 23) hx hb dL_areOdds_141 (by decide) ?_
                exact ih_23 (c + 1) I_124 L_124 R_124 (by omega) (by omega) (Nat.lt_of_le_of_lt (bestT_le _ c) (by omega)) hA hG _ _ hW _ (lv_sub hl [3, 4, 5, 6, 7, 8, 1, 0] rfl)
        exact lp_23 (4 + 1) 0 J10 M10 Q10 (by omega) (by omega) (show 0 < 4 by decide) hA hG _ _ hW _ (lv_sub hl [2, 3, 4, 5, 6, 7, 1, 0] rfl)
  exact lp_10 (K + 1) 0 I_2 L_2 R_2 (by omega) (by omega) hA hG _ _ hW _ (lv_sub hl [2, 3, 4, 5, 1, 0] rfl)
