set_option maxRecDepth 100000 in
set_option maxHeartbeats 4000000 in
theorem k_gcd (l : Launch) (G : Gx) (n : Nat) (ad : Nat → Nat) (sz : Nat) (I : Ic) (L : Lc) (R : Rc) (a b : Nat) (ha : a < 2 ^ 63) (hb63 : b < 2 ^ 63) : Met l yX5_commonDivisor (Cond.code yX5_commonDivisor cX5_commonDivisor 11 (some .long) :: GW) ({ frames := 0, cells := 0, slots := 0, locals := 0 } : Room) (qPre G n ad sz I L R [.long (lN (a)), .long (lN (b))]) (qL0 G (qA n ad sz) (n, ad, I, L, R) (fun z => z = lN (Nat.gcd a b))) 0 0 (qA n ad sz) := by
  refine q_met (by decide) (Nat.le_of_ble_eq_true rfl) ?_
  intro p_ e_ s m_ below meth c_ hC hr hlk0 hin hsz hW ls hl
  subst hsz
  have hC : CallFix p_ m_ c_ cX5_commonDivisor 11 s ([.long (lN (a)), .long (lN (b))] : List Value).toArray GW "CoinRows" := hC
  have hx := hC.1
  have hb := hC.2.1
  have hl : lv_has ls 11 [(0, .long (lN (a))), (2, .long (lN (b)))] := hl
  refine lv_lload_n hx hb dX5_commonDivisor_0 rfl (lv_at hl 0 rfl) ?_
  refine lv_lstore (lv' := [(4, .long (lN (a))), (0, .long (lN (a))), (2, .long (lN (b)))]) hx hb dX5_commonDivisor_1 hl (by decide) rfl (fun ls hl => ?_)
  refine lv_lload_n hx hb dX5_commonDivisor_3 rfl (lv_at hl 2 rfl) ?_
  refine lv_lstore (lv' := [(6, .long (lN (b))), (4, .long (lN (a))), (0, .long (lN (a))), (2, .long (lN (b)))]) hx hb dX5_commonDivisor_4 hl (by decide) rfl (fun ls hl => ?_)
  refine q_ic 0 hx hb dX5_commonDivisor_6 (by decide) ?_
  refine lv_istore (lv' := [(8, .int (nI 0)), (6, .long (lN (b))), (4, .long (lN (a))), (0, .long (lN (a))), (2, .long (lN (b)))]) hx hb dX5_commonDivisor_7 hl (by decide) rfl (fun ls hl => ?_)
  have lp_9 : ∀ (fu_9 : Nat) (i : Nat) (g1 : Nat) (s1 : Nat), 100 - i < fu_9 → (i ≤ 100) → (Nat.gcd g1 s1 = Nat.gcd a b) → (g1 < 2 ^ 63) → (s1 < 2 ^ 63) → ((eu (100 - i) g1 s1).2 = 0) → ∀ (H : Heap) (locs : List Loc), Wd G n ad I L R (qA n ad s.heap.size) s.heap H locs s → ∀ ls : Array Slot, lv_has ls 11 [(4, .long (lN (g1))), (6, .long (lN (s1))), (8, .int (nI (i)))] → W p_ l e_ ({ frames := 0, cells := 0, slots := 0, locals := 0 } : Room) s m_ ([.long (lN (a)), .long (lN (b))] : List Value).toArray below meth c_ H locs 0 0 (MQ below (qL0 G (qA n ad s.heap.size) (n, ad, I, L, R) (fun z => z = lN (Nat.gcd a b))) ([.long (lN (a)), .long (lN (b))] : List Value).toArray s 0 0 (qA n ad s.heap.size)) (F0 m_ 9 ls []) := by
    intro fu_9
    induction fu_9 with
    | zero =>
      intro i g1 s1 hm; exact absurd hm (Nat.not_lt_zero _)
    | succ fu_9 ih_9 =>
      intro i g1 s1 hm_9 hi hgc hg63 hs63 hEu H locs hW ls hl
      refine lv_iload hx hb dX5_commonDivisor_9 (lv_at hl 2 rfl) ?_
      refine q_bp 100 hx hb dX5_commonDivisor_11 (by decide) ?_
      refine q_cge (tgt := 44) hx hb dX5_commonDivisor_13 (by decide) (by first | omega | exact Nat.lt_of_le_of_lt (hw3 _) (by decide)) (by first | omega | exact Nat.lt_of_le_of_lt (hw3 _) (by decide)) (fun c_13 => ?_) (fun c_13 => ?_)
      ·
        refine lv_lload hx hb dX5_commonDivisor_44 (lv_at hl 0 rfl) ?_
        exact q_lret0 hC hW hr hlk0 (by rw [← hgc, show s1 = 0 from by rw [show i = 100 by omega] at hEu; exact hEu, Nat.gcd_zero_right]) dX5_commonDivisor_46
      ·
        refine lv_lload hx hb dX5_commonDivisor_16 (lv_at hl 1 rfl) ?_
        refine q_lc 0 hx hb dX5_commonDivisor_18 (by decide) ?_
        refine q_lcmp hx hb dX5_commonDivisor_19 ?_
        refine q_leq (tgt := 44) hx hb dX5_commonDivisor_20 (by decide) hs63 (by decide) (fun c_20 => ?_) (fun c_20 => ?_)
        ·
          refine lv_lload hx hb dX5_commonDivisor_44 (lv_at hl 0 rfl) ?_
          exact q_lret0 hC hW hr hlk0 (by rw [← hgc, show s1 = 0 from c_20, Nat.gcd_zero_right]) dX5_commonDivisor_46
        ·
          refine lv_lload hx hb dX5_commonDivisor_23 (lv_at hl 0 rfl) ?_
          refine lv_lload hx hb dX5_commonDivisor_25 (lv_at hl 1 rfl) ?_
          have hs0 : s1 ≠ 0 := c_20
          refine lv_lrem hx hb dX5_commonDivisor_27 (fun q => hs0 ((pk_lEQ hs63 (by decide)).mp (show lN s1 = lN 0 from q))) ?_
          refine q_top (v2 := .long (lN (g1 % s1))) (congrArg Value.long (pk_lRem hg63 (by omega) hs63)) ?_
          refine lv_lstore (lv' := [(9, .long (lN (g1 % s1))), (4, .long (lN (g1))), (6, .long (lN (s1))), (8, .int (nI (i)))]) hx hb dX5_commonDivisor_28 hl (by decide) rfl (fun ls hl => ?_)
          refine lv_lload hx hb dX5_commonDivisor_30 (lv_at hl 2 rfl) ?_
          refine lv_lstore (lv' := [(4, .long (lN (s1))), (9, .long (lN (g1 % s1))), (6, .long (lN (s1))), (8, .int (nI (i)))]) hx hb dX5_commonDivisor_32 hl (by decide) rfl (fun ls hl => ?_)
          refine lv_lload hx hb dX5_commonDivisor_34 (lv_at hl 1 rfl) ?_
          refine lv_lstore (lv' := [(6, .long (lN (g1 % s1))), (4, .long (lN (s1))), (9, .long (lN (g1 % s1))), (8, .int (nI (i)))]) hx hb dX5_commonDivisor_36 hl (by decide) rfl (fun ls hl => ?_)
          refine q_iinc (z2 := i + 1) (lv' := [(8, .int (nI (i + 1))), (6, .long (lN (g1 % s1))), (4, .long (lN (s1))), (9, .long (lN (g1 % s1)))]) hx hb dX5_commonDivisor_38 hl (k := 3) rfl (inc_up _ 1 (by decide)) (by decide) rfl (fun ls hl => ?_)
          refine lv_goto (tgt := 9) hx hb dX5_commonDivisor_41 (by decide) ?_
          exact ih_9 (i + 1) s1 (g1 % s1) (by omega) (by omega) ((gcd_s g1 s1).trans hgc) hs63 (Nat.lt_of_le_of_lt (Nat.mod_le _ _) hg63) (by rw [show 100 - i = 100 - (i + 1) + 1 by omega, eu_s hs0] at hEu; exact hEu) _ _ hW _ (lv_sub hl [2, 1, 0] rfl)
  exact lp_9 (100 + 1) 0 a b (by omega) (by omega) rfl ha hb63 (eu_100 hb63) _ _ hW _ (lv_sub hl [2, 1, 0] rfl)
set_option maxRecDepth 100000 in
set_option maxHeartbeats 4000000 in
theorem k_lowest (l : Launch) (G : Gx) (n : Nat) (ad : Nat → Nat) (sz : Nat) (I : Ic) (L : Lc) (R : Rc) (u1 l1 b1 : Nat) (hu63 : u1 < 2 ^ 63) (hl63 : l1 < 2 ^ 63) (hl0 : 0 < l1) (hb2 : b1 < 2) : Met l yX5_inLowestTerms (Cond.code yX5_inLowestTerms cX5_inLowestTerms 7 (some .long) :: GW) ({ frames := 1, cells := 0, slots := 0, locals := 36 } : Room) (qPre G n ad sz I L R [.long (lN (u1)), .long (lN (l1)), .int (nI (b1))]) (qL0 G (qA n ad sz) (n, ad, I, L, R) (fun z => z = lowT u1 l1 b1)) 0 0 (qA n ad sz) := by
  refine q_met (by decide) (Nat.le_of_ble_eq_true rfl) ?_
  intro p_ e_ s m_ below meth c_ hC hr hlk0 hin hsz hW ls hl
  subst hsz
  have hC : CallFix p_ m_ c_ cX5_inLowestTerms 7 s ([.long (lN (u1)), .long (lN (l1)), .int (nI (b1))] : List Value).toArray GW "CoinRows" := hC
  have hx := hC.1
  have hb := hC.2.1
  have hg0 : 0 < Nat.gcd u1 l1 := Nat.gcd_pos_of_pos_right _ hl0
  have hg63 : Nat.gcd u1 l1 < 2 ^ 63 := Nat.lt_of_le_of_lt (Nat.gcd_le_right _ hl0) hl63
  have hgN : Nat.gcd u1 l1 ≠ 0 := by omega
  have hl : lv_has ls 7 [(0, .long (lN (u1))), (2, .long (lN (l1))), (4, .int (nI (b1)))] := hl
  refine lv_lload_n hx hb dX5_inLowestTerms_0 rfl (lv_at hl 0 rfl) ?_
  refine lv_lload_n hx hb dX5_inLowestTerms_1 rfl (lv_at hl 1 rfl) ?_
  refine q_kL0 (q_rS (As := [.long (lN (u1)), .long (lN (l1))]) (rest := []) hC hW mw_X5_commonDivisor gw_278 (k_gcd l G n ad s.heap.size I L R _ _ hu63 hl63) ⟨rfl, rfl⟩ ⟨Nat.le_of_ble_eq_true rfl, Nat.le_of_ble_eq_true rfl⟩ ⟨(Nat.le_of_ble_eq_true rfl), (Nat.le_of_ble_eq_true rfl)⟩ hl.1 rfl rfl (Nat.le_of_ble_eq_true rfl) dX5_inLowestTerms_2) hW (fun r_2 H locs hp hW => ?_)
  subst hp
  refine lv_lstore (lv' := [(5, .long (lN (Nat.gcd u1 l1))), (0, .long (lN (u1))), (2, .long (lN (l1))), (4, .int (nI (b1)))]) hx hb dX5_inLowestTerms_5 hl (by decide) rfl (fun ls hl => ?_)
  refine lv_lload hx hb dX5_inLowestTerms_7 (lv_at hl 0 rfl) ?_
  refine q_lc 0 hx hb dX5_inLowestTerms_9 (by decide) ?_
  refine q_lcmp hx hb dX5_inLowestTerms_10 ?_
  refine q_lne (tgt := 25) hx hb dX5_inLowestTerms_11 (by decide) hg63 (by decide) (fun c_11 => ?_) (fun c_11 => absurd c_11 (by omega))
  refine lv_iload hx hb dX5_inLowestTerms_25 (lv_at hl 3 rfl) ?_
  refine q_ine (tgt := 34) hx hb dX5_inLowestTerms_27 (by decide) (by first | omega | exact Nat.lt_of_le_of_lt (hw3 _) (by decide)) (fun c_27 => ?_) (fun c_27 => ?_)
  ·
    refine lv_lload_n hx hb dX5_inLowestTerms_34 rfl (lv_at hl 2 rfl) ?_
    refine lv_lload hx hb dX5_inLowestTerms_35 (lv_at hl 0 rfl) ?_
    refine lv_ldiv hx hb dX5_inLowestTerms_37 (fun q => hgN ((pk_lEQ hg63 (by decide)).mp (show lN (Nat.gcd u1 l1) = lN 0 from q))) ?_
    refine q_top (v2 := .long (lN (l1 / Nat.gcd u1 l1))) (congrArg Value.long (pk_lDiv hl63 hg0 hg63)) ?_
    exact q_lret0 hC hW hr hlk0 (by unfold lowT; rw [if_neg (show ¬ b1 = 0 by omega)]) dX5_inLowestTerms_38
  ·
    refine lv_lload_n hx hb dX5_inLowestTerms_30 rfl (lv_at hl 1 rfl) ?_
    refine lv_goto (tgt := 35) hx hb dX5_inLowestTerms_31 (by decide) ?_
    refine lv_lload hx hb dX5_inLowestTerms_35 (lv_at hl 0 rfl) ?_
    refine lv_ldiv hx hb dX5_inLowestTerms_37 (fun q => hgN ((pk_lEQ hg63 (by decide)).mp (show lN (Nat.gcd u1 l1) = lN 0 from q))) ?_
    refine q_top (v2 := .long (lN (u1 / Nat.gcd u1 l1))) (congrArg Value.long (pk_lDiv hu63 hg0 hg63)) ?_
    exact q_lret0 hC hW hr hlk0 (by unfold lowT; rw [if_pos (show b1 = 0 by omega)]) dX5_inLowestTerms_38
set_option maxRecDepth 100000 in
set_option maxHeartbeats 4000000 in
theorem k_total (l : Launch) (G : Gx) (n : Nat) (ad : Nat → Nat) (sz : Nat) (I : Ic) (L : Lc) (R : Rc)  (w : Nat → Nat) (K : Nat) (ro : Nat → Nat) (hc : Nat) (hi : Nat → CM) (sv : Nat → Option CM) (pn : Nat) (ch : Nat → Nat) (hI0 : InvA n I L R ((w, K, ro), hc, hi, sv, pn, ch)) : Met l yX5_total (Cond.code yX5_total cX5_total 1 (some .long) :: GW) ({ frames := 6, cells := 0, slots := 0, locals := 216 } : Room) (qPre G n ad sz I L R [.ref (ad 0)]) (qL2 G (qA n ad sz) (fun z u => PRl n ad I L R ((lN (aTot (w, K, ro)), ((w, K, ro), hc, hi, sv, pn, ch))) z u)) 0 0 (qA n ad sz) := by
  refine q_met (by decide) (Nat.le_of_ble_eq_true rfl) ?_
  intro p_ e_ s m_ below meth c_ hC hr hlk0 hin hsz hW ls hl
  subst hsz
  have hC : CallFix p_ m_ c_ cX5_total 1 s ([.ref (ad 0)] : List Value).toArray GW "CoinRows" := hC
  have hx := hC.1
  have hb := hC.2.1
  have hn : 71 ≤ n := hI0.1
  have hlk : LkOK n R := hI0.2.1
  have hM : MdI I w K ro := hI0.2.2.1
  have hSI : SI L := hI0.2.2.2.1
  have hPd : PadI I pn ch := hI0.2.2.2.2.1
  have hHi : HiA I R hc hi := hI0.2.2.2.2.2.1
  have hSv : SvA n I R sv := hI0.2.2.2.2.2.2
  have hh1 := hHi.1
  have hh6 := hHi.2.1
  have hp80 := hPd.2.1
  have hk6 : K ≤ 6 := hM.2.2.2.1
  have hw3 : ∀ i, w i ≤ 3 := hM.2.2.2.2.1.1
  have hr4 : ∀ j, ro j < 4 := hM.2.2.2.2.2
  have hT63 : Sx' w K ro K 6 < 2 ^ 63 := Nat.lt_of_le_of_lt (Sx_b hM.2.2.2.2.1 K K 6 hk6) (by decide)
  have hC31 : Cx' w K ro K 6 < 2 ^ 31 := Nat.lt_of_le_of_lt (Cx_b hM.2.2.2.2.1 K K 6 hk6) (by decide)
  have hCT : (nI (Cx' w K ro K 6)).toInt = (Cx' w K ro K 6 : Int) := nI_toInt hC31
  have hw := hM.2.2.2.2.1
  have hl : lv_has ls 1 [(0, .ref (ad 0))] := hl
  refine lv_aload_n hx hb dX5_total_0 rfl (lv_at hl 0 rfl) ?_
  refine g_5_5 (x := 0) (y := 8) hC hW (by omega) kd_0 gw_129 (hlk 0 5 8 (by omega) rfl) dX5_total_1 ?_
  refine lv_aload_n hx hb dX5_total_4 rfl (lv_at hl 0 rfl) ?_
  refine g_5_0 (x := 0) (y := 1) hC hW (by omega) kd_0 gw_124 (hlk 0 0 1 (by omega) rfl) dX5_total_5 ?_
  refine q_kV1 (q_rV (As := [.ref (ad 1)]) (rest := []) (x := 8) hC hW mw_X2_measure gw_202 (k_measure l G n ad s.heap.size I L R w K ro hn hlk hM hSI) (by omega) (ct_o2 kd_8) rfl ⟨rfl, rfl⟩ ⟨Nat.le_of_ble_eq_true rfl, Nat.le_of_ble_eq_true rfl⟩ ⟨(Nat.le_of_ble_eq_true rfl), (Nat.le_of_ble_eq_true rfl)⟩ hl.1 rfl rfl (Nat.le_of_ble_eq_true rfl) dX5_total_8) hW (fun I_8 L_8 H locs hp hW => ?_)
  obtain ⟨hMs_8, hLf_8, hIf_8⟩ := hp
  have hM_8 : MdI I_8 w K ro := MdI_fr hM hIf_8
  refine lv_aload_n hx hb dX5_total_11 rfl (lv_at hl 0 rfl) ?_
  refine g_5_5 (x := 0) (y := 8) hC hW (by omega) kd_0 gw_129 (hlk 0 5 8 (by omega) rfl) dX5_total_12 ?_
  refine q_kL0 (q_rV (As := []) (rest := []) (x := 8) hC hW mw_X2_whole gw_247 (k_whole l G n ad H.size I_8 L_8 R w K ro hn hlk hM_8 hMs_8) (by omega) (ct_o2 kd_8) rfl ⟨rfl, rfl⟩ ⟨Nat.le_of_ble_eq_true rfl, Nat.le_of_ble_eq_true rfl⟩ ⟨(Nat.le_of_ble_eq_true rfl), (Nat.le_of_ble_eq_true rfl)⟩ hl.1 rfl rfl (Nat.le_of_ble_eq_true rfl) dX5_total_15) hW (fun r_15 H locs hp hW => ?_)
  subst hp
  exact q_lret2 hC hW hr hlk0 (PR_l rfl ⟨rfl, PA_q hI0 (fun a ha => hIf_8 a (by omega)) hMs_8.2.2.2 (fun a ha => hLf_8 a (by omega))⟩) dX5_total_18
set_option maxRecDepth 100000 in
set_option maxHeartbeats 4000000 in
theorem k_ways (l : Launch) (G : Gx) (n : Nat) (ad : Nat → Nat) (sz : Nat) (I : Ic) (L : Lc) (R : Rc)  (w : Nat → Nat) (K : Nat) (ro : Nat → Nat) (hc : Nat) (hi : Nat → CM) (sv : Nat → Option CM) (pn : Nat) (ch : Nat → Nat) (hI0 : InvA n I L R ((w, K, ro), hc, hi, sv, pn, ch)) : Met l yX5_ways (Cond.code yX5_ways cX5_ways 1 (some .int) :: GW) ({ frames := 6, cells := 0, slots := 0, locals := 216 } : Room) (qPre G n ad sz I L R [.ref (ad 0)]) (qI2 G (qA n ad sz) (fun z u => PR n ad I L R ((nI (aCnt (w, K, ro)), ((w, K, ro), hc, hi, sv, pn, ch))) z u)) 0 0 (qA n ad sz) := by
  refine q_met (by decide) (Nat.le_of_ble_eq_true rfl) ?_
  intro p_ e_ s m_ below meth c_ hC hr hlk0 hin hsz hW ls hl
  subst hsz
  have hC : CallFix p_ m_ c_ cX5_ways 1 s ([.ref (ad 0)] : List Value).toArray GW "CoinRows" := hC
  have hx := hC.1
  have hb := hC.2.1
  have hn : 71 ≤ n := hI0.1
  have hlk : LkOK n R := hI0.2.1
  have hM : MdI I w K ro := hI0.2.2.1
  have hSI : SI L := hI0.2.2.2.1
  have hPd : PadI I pn ch := hI0.2.2.2.2.1
  have hHi : HiA I R hc hi := hI0.2.2.2.2.2.1
  have hSv : SvA n I R sv := hI0.2.2.2.2.2.2
  have hh1 := hHi.1
  have hh6 := hHi.2.1
  have hp80 := hPd.2.1
  have hk6 : K ≤ 6 := hM.2.2.2.1
  have hw3 : ∀ i, w i ≤ 3 := hM.2.2.2.2.1.1
  have hr4 : ∀ j, ro j < 4 := hM.2.2.2.2.2
  have hT63 : Sx' w K ro K 6 < 2 ^ 63 := Nat.lt_of_le_of_lt (Sx_b hM.2.2.2.2.1 K K 6 hk6) (by decide)
  have hC31 : Cx' w K ro K 6 < 2 ^ 31 := Nat.lt_of_le_of_lt (Cx_b hM.2.2.2.2.1 K K 6 hk6) (by decide)
  have hCT : (nI (Cx' w K ro K 6)).toInt = (Cx' w K ro K 6 : Int) := nI_toInt hC31
  have hw := hM.2.2.2.2.1
  have hl : lv_has ls 1 [(0, .ref (ad 0))] := hl
  refine lv_aload_n hx hb dX5_ways_0 rfl (lv_at hl 0 rfl) ?_
  refine g_5_5 (x := 0) (y := 8) hC hW (by omega) kd_0 gw_129 (hlk 0 5 8 (by omega) rfl) dX5_ways_1 ?_
  refine lv_aload_n hx hb dX5_ways_4 rfl (lv_at hl 0 rfl) ?_
  refine g_5_0 (x := 0) (y := 1) hC hW (by omega) kd_0 gw_124 (hlk 0 0 1 (by omega) rfl) dX5_ways_5 ?_
  refine q_kV1 (q_rV (As := [.ref (ad 1)]) (rest := []) (x := 8) hC hW mw_X2_measure gw_202 (k_measure l G n ad s.heap.size I L R w K ro hn hlk hM hSI) (by omega) (ct_o2 kd_8) rfl ⟨rfl, rfl⟩ ⟨Nat.le_of_ble_eq_true rfl, Nat.le_of_ble_eq_true rfl⟩ ⟨(Nat.le_of_ble_eq_true rfl), (Nat.le_of_ble_eq_true rfl)⟩ hl.1 rfl rfl (Nat.le_of_ble_eq_true rfl) dX5_ways_8) hW (fun I_8 L_8 H locs hp hW => ?_)
  obtain ⟨hMs_8, hLf_8, hIf_8⟩ := hp
  have hM_8 : MdI I_8 w K ro := MdI_fr hM hIf_8
  refine lv_aload_n hx hb dX5_ways_11 rfl (lv_at hl 0 rfl) ?_
  refine g_5_5 (x := 0) (y := 8) hC hW (by omega) kd_0 gw_129 (hlk 0 5 8 (by omega) rfl) dX5_ways_12 ?_
  refine q_kI0 (q_rV (As := []) (rest := []) (x := 8) hC hW mw_X2_number gw_255 (k_number l G n ad H.size I_8 L_8 R w K ro hn hlk hM_8 hMs_8) (by omega) (ct_o2 kd_8) rfl ⟨rfl, rfl⟩ ⟨Nat.le_of_ble_eq_true rfl, Nat.le_of_ble_eq_true rfl⟩ ⟨(Nat.le_of_ble_eq_true rfl), (Nat.le_of_ble_eq_true rfl)⟩ hl.1 rfl rfl (Nat.le_of_ble_eq_true rfl) dX5_ways_15) hW (fun r_15 H locs hp hW => ?_)
  subst hp
  exact q_iret2 hC hW hr hlk0 (PR_i rfl ⟨rfl, PA_q hI0 (fun a ha => hIf_8 a (by omega)) hMs_8.2.2.2 (fun a ha => hLf_8 a (by omega))⟩) dX5_ways_18
set_option maxRecDepth 100000 in
set_option maxHeartbeats 4000000 in
theorem k_forward (l : Launch) (G : Gx) (n : Nat) (ad : Nat → Nat) (sz : Nat) (I : Ic) (L : Lc) (R : Rc) (place coin : Int32) (w : Nat → Nat) (K : Nat) (ro : Nat → Nat) (hc : Nat) (hi : Nat → CM) (sv : Nat → Option CM) (pn : Nat) (ch : Nat → Nat) (hI0 : InvA n I L R ((w, K, ro), hc, hi, sv, pn, ch)) : Met l yX5_forward (Cond.code yX5_forward cX5_forward 3 (some .long) :: GW) ({ frames := 6, cells := 0, slots := 0, locals := 216 } : Room) (qPre G n ad sz I L R [.ref (ad 0), .int (place), .int (coin)]) (qL2 G (qA n ad sz) (fun z u => PRl n ad I L R (aFwd (w, K, ro) place coin, ((w, K, ro), hc, hi, sv, pn, ch)) z u)) 0 0 (qA n ad sz) := by
  refine q_met (by decide) (Nat.le_of_ble_eq_true rfl) ?_
  intro p_ e_ s m_ below meth c_ hC hr hlk0 hin hsz hW ls hl
  subst hsz
  have hC : CallFix p_ m_ c_ cX5_forward 3 s ([.ref (ad 0), .int (place), .int (coin)] : List Value).toArray GW "CoinRows" := hC
  have hx := hC.1
  have hb := hC.2.1
  have hn : 71 ≤ n := hI0.1
  have hlk : LkOK n R := hI0.2.1
  have hM : MdI I w K ro := hI0.2.2.1
  have hSI : SI L := hI0.2.2.2.1
  have hPd : PadI I pn ch := hI0.2.2.2.2.1
  have hHi : HiA I R hc hi := hI0.2.2.2.2.2.1
  have hSv : SvA n I R sv := hI0.2.2.2.2.2.2
  have hh1 := hHi.1
  have hh6 := hHi.2.1
  have hp80 := hPd.2.1
  have hk6 : K ≤ 6 := hM.2.2.2.1
  have hw3 : ∀ i, w i ≤ 3 := hM.2.2.2.2.1.1
  have hr4 : ∀ j, ro j < 4 := hM.2.2.2.2.2
  have hT63 : Sx' w K ro K 6 < 2 ^ 63 := Nat.lt_of_le_of_lt (Sx_b hM.2.2.2.2.1 K K 6 hk6) (by decide)
  have hC31 : Cx' w K ro K 6 < 2 ^ 31 := Nat.lt_of_le_of_lt (Cx_b hM.2.2.2.2.1 K K 6 hk6) (by decide)
  have hCT : (nI (Cx' w K ro K 6)).toInt = (Cx' w K ro K 6 : Int) := nI_toInt hC31
  have hw := hM.2.2.2.2.1
  have hl : lv_has ls 3 [(0, .ref (ad 0)), (1, .int (place)), (2, .int (coin))] := hl
  refine lv_aload_n hx hb dX5_forward_0 rfl (lv_at hl 0 rfl) ?_
  refine g_5_0 (x := 0) (y := 1) hC hW (by omega) kd_0 gw_124 (hlk 0 0 1 (by omega) rfl) dX5_forward_1 ?_
  refine lv_iload_n hx hb dX5_forward_4 rfl (lv_at hl 1 rfl) ?_
  refine q_kI0 (q_rV (As := [.int (place)]) (rest := []) (x := 1) hC hW mw_X0_hasPlace gw_187 (k_hasPlace l G n ad s.heap.size I L R _ w K ro hn hlk hM) (by omega) (ct_o0 kd_1) rfl ⟨rfl, rfl⟩ ⟨Nat.le_of_ble_eq_true rfl, Nat.le_of_ble_eq_true rfl⟩ ⟨(Nat.le_of_ble_eq_true rfl), (Nat.le_of_ble_eq_true rfl)⟩ hl.1 rfl rfl (Nat.le_of_ble_eq_true rfl) dX5_forward_5) hW (fun r_5 H locs hp hW => ?_)
  rcases hp with ⟨k_5, hk_5, rfl, rfl⟩ | ⟨hk_5, rfl⟩
  ·
    refine q_ieq (tgt := 18) hx hb dX5_forward_8 (by decide) (by first | omega | exact Nat.lt_of_le_of_lt (hw3 _) (by decide)) (fun c_8 => absurd c_8 (by decide)) (fun c_8 => ?_)
    refine lv_iload_n hx hb dX5_forward_11 rfl (lv_at hl 2 rfl) ?_
    refine q_kI0 (q_rS (As := [.int (coin)]) (rest := []) hC hW mw_X5_isLoud gw_169 (k_isLoud l G n ad H.size I L R _) ⟨rfl, rfl⟩ ⟨Nat.le_of_ble_eq_true rfl, Nat.le_of_ble_eq_true rfl⟩ ⟨(Nat.le_of_ble_eq_true rfl), (Nat.le_of_ble_eq_true rfl)⟩ hl.1 rfl rfl (Nat.le_of_ble_eq_true rfl) dX5_forward_12) hW (fun r_12 H locs hp hW => ?_)
    rcases hp with ⟨k_12, hk_12, rfl, rfl⟩ | ⟨hk_12, rfl⟩
    ·
      refine q_ine (tgt := 22) hx hb dX5_forward_15 (by decide) (by first | omega | exact Nat.lt_of_le_of_lt (hw3 _) (by decide)) (fun c_15 => ?_) (fun c_15 => absurd c_15 (by decide))
      refine lv_aload_n hx hb dX5_forward_22 rfl (lv_at hl 0 rfl) ?_
      refine g_5_5 (x := 0) (y := 8) hC hW (by omega) kd_0 gw_129 (hlk 0 5 8 (by omega) rfl) dX5_forward_23 ?_
      refine lv_aload_n hx hb dX5_forward_26 rfl (lv_at hl 0 rfl) ?_
      refine g_5_0 (x := 0) (y := 1) hC hW (by omega) kd_0 gw_124 (hlk 0 0 1 (by omega) rfl) dX5_forward_27 ?_
      refine q_kV1 (q_rV (As := [.ref (ad 1)]) (rest := []) (x := 8) hC hW mw_X2_measure gw_202 (k_measure l G n ad H.size I L R w K ro hn hlk hM hSI) (by omega) (ct_o2 kd_8) rfl ⟨rfl, rfl⟩ ⟨Nat.le_of_ble_eq_true rfl, Nat.le_of_ble_eq_true rfl⟩ ⟨(Nat.le_of_ble_eq_true rfl), (Nat.le_of_ble_eq_true rfl)⟩ hl.1 rfl rfl (Nat.le_of_ble_eq_true rfl) dX5_forward_30) hW (fun I_30 L_30 H locs hp hW => ?_)
      obtain ⟨hMs_30, hLf_30, hIf_30⟩ := hp
      have hM_30 : MdI I_30 w K ro := MdI_fr hM hIf_30
      refine lv_aload_n hx hb dX5_forward_33 rfl (lv_at hl 0 rfl) ?_
      refine g_5_5 (x := 0) (y := 8) hC hW (by omega) kd_0 gw_129 (hlk 0 5 8 (by omega) rfl) dX5_forward_34 ?_
      refine g_2_0 (x := 8) (y := 9) hC hW (by omega) kd_8 gw_74 (hlk 8 0 9 (by omega) rfl) dX5_forward_37 ?_
      refine lv_iload_n hx hb dX5_forward_40 rfl (lv_at hl 1 rfl) ?_
      refine q_ic 1 hx hb dX5_forward_41 (by decide) ?_
      refine q_iadd hx hb dX5_forward_42 ?_
      refine q_aald5 (x := 9) (i := k_5 + 1) (y := 10 + (k_5 + 1)) hC hW (by omega) kd_9 (by omega) (lk_row9 hlk (by omega) (by omega)) dX5_forward_43 ?_
      refine lv_iload_n hx hb dX5_forward_44 rfl (lv_at hl 2 rfl) ?_
      refine q_lald (x := (10 + (k_5 + 1))) (i := k_12) hC hW (by omega) (kd_r10 (by omega)) (by omega) dX5_forward_45 ?_
      refine q_top (v2 := .long (lN (uB w ro (k_5 + 1) k_12))) (congrArg _ ((hMs_30.1 (k_5 + 1) k_12 (by omega) (by omega)).trans (congrArg _ (bF_lo (by omega))))) ?_
      exact q_lret2 hC hW hr hlk0 (PR_l (a' := (lN (uB w ro (k_5 + 1) k_12), ((w, K, ro), hc, hi, sv, pn, ch))) (by simp only [aFwd, rng_nI hk_5 (show K ≤ 1000 by omega), rng_nI hk_12 (by decide)]) ⟨rfl, PA_q hI0 (fun a ha => hIf_30 a (by omega)) hMs_30.2.2.2 (fun a ha => hLf_30 a (by omega))⟩) dX5_forward_46
    ·
      refine q_ine (tgt := 22) hx hb dX5_forward_15 (by decide) (by first | omega | exact Nat.lt_of_le_of_lt (hw3 _) (by decide)) (fun c_15 => absurd c_15 (by decide)) (fun c_15 => ?_)
      refine lv_ldc2 (v := -1) hx hb hC.2.2.2.1 (hC.2.2.2.2 _ gw_201) dX5_forward_18 ?_
      exact q_lret2 hC hW hr hlk0 (PR_l (a' := (-1, ((w, K, ro), hc, hi, sv, pn, ch))) (by simp only [aFwd, rng_nI hk_5 (show K ≤ 1000 by omega), hk_12]) ⟨rfl, PA_0 hI0⟩) dX5_forward_21
  ·
    refine q_ieq (tgt := 18) hx hb dX5_forward_8 (by decide) (by first | omega | exact Nat.lt_of_le_of_lt (hw3 _) (by decide)) (fun c_8 => ?_) (fun c_8 => absurd c_8 (by decide))
    refine lv_ldc2 (v := -1) hx hb hC.2.2.2.1 (hC.2.2.2.2 _ gw_201) dX5_forward_18 ?_
    exact q_lret2 hC hW hr hlk0 (PR_l (a' := (-1, ((w, K, ro), hc, hi, sv, pn, ch))) (by simp only [aFwd, hk_5]) ⟨rfl, PA_0 hI0⟩) dX5_forward_21
set_option maxRecDepth 100000 in
set_option maxHeartbeats 4000000 in
theorem k_backward (l : Launch) (G : Gx) (n : Nat) (ad : Nat → Nat) (sz : Nat) (I : Ic) (L : Lc) (R : Rc) (place coin : Int32) (w : Nat → Nat) (K : Nat) (ro : Nat → Nat) (hc : Nat) (hi : Nat → CM) (sv : Nat → Option CM) (pn : Nat) (ch : Nat → Nat) (hI0 : InvA n I L R ((w, K, ro), hc, hi, sv, pn, ch)) : Met l yX5_backward (Cond.code yX5_backward cX5_backward 3 (some .long) :: GW) ({ frames := 6, cells := 0, slots := 0, locals := 216 } : Room) (qPre G n ad sz I L R [.ref (ad 0), .int (place), .int (coin)]) (qL2 G (qA n ad sz) (fun z u => PRl n ad I L R (aBwd (w, K, ro) place coin, ((w, K, ro), hc, hi, sv, pn, ch)) z u)) 0 0 (qA n ad sz) := by
  refine q_met (by decide) (Nat.le_of_ble_eq_true rfl) ?_
  intro p_ e_ s m_ below meth c_ hC hr hlk0 hin hsz hW ls hl
  subst hsz
  have hC : CallFix p_ m_ c_ cX5_backward 3 s ([.ref (ad 0), .int (place), .int (coin)] : List Value).toArray GW "CoinRows" := hC
  have hx := hC.1
  have hb := hC.2.1
  have hn : 71 ≤ n := hI0.1
  have hlk : LkOK n R := hI0.2.1
  have hM : MdI I w K ro := hI0.2.2.1
  have hSI : SI L := hI0.2.2.2.1
  have hPd : PadI I pn ch := hI0.2.2.2.2.1
  have hHi : HiA I R hc hi := hI0.2.2.2.2.2.1
  have hSv : SvA n I R sv := hI0.2.2.2.2.2.2
  have hh1 := hHi.1
  have hh6 := hHi.2.1
  have hp80 := hPd.2.1
  have hk6 : K ≤ 6 := hM.2.2.2.1
  have hw3 : ∀ i, w i ≤ 3 := hM.2.2.2.2.1.1
  have hr4 : ∀ j, ro j < 4 := hM.2.2.2.2.2
  have hT63 : Sx' w K ro K 6 < 2 ^ 63 := Nat.lt_of_le_of_lt (Sx_b hM.2.2.2.2.1 K K 6 hk6) (by decide)
  have hC31 : Cx' w K ro K 6 < 2 ^ 31 := Nat.lt_of_le_of_lt (Cx_b hM.2.2.2.2.1 K K 6 hk6) (by decide)
  have hCT : (nI (Cx' w K ro K 6)).toInt = (Cx' w K ro K 6 : Int) := nI_toInt hC31
  have hw := hM.2.2.2.2.1
  have hl : lv_has ls 3 [(0, .ref (ad 0)), (1, .int (place)), (2, .int (coin))] := hl
  refine lv_aload_n hx hb dX5_backward_0 rfl (lv_at hl 0 rfl) ?_
  refine g_5_0 (x := 0) (y := 1) hC hW (by omega) kd_0 gw_124 (hlk 0 0 1 (by omega) rfl) dX5_backward_1 ?_
  refine lv_iload_n hx hb dX5_backward_4 rfl (lv_at hl 1 rfl) ?_
  refine q_kI0 (q_rV (As := [.int (place)]) (rest := []) (x := 1) hC hW mw_X0_hasPlace gw_187 (k_hasPlace l G n ad s.heap.size I L R _ w K ro hn hlk hM) (by omega) (ct_o0 kd_1) rfl ⟨rfl, rfl⟩ ⟨Nat.le_of_ble_eq_true rfl, Nat.le_of_ble_eq_true rfl⟩ ⟨(Nat.le_of_ble_eq_true rfl), (Nat.le_of_ble_eq_true rfl)⟩ hl.1 rfl rfl (Nat.le_of_ble_eq_true rfl) dX5_backward_5) hW (fun r_5 H locs hp hW => ?_)
  rcases hp with ⟨k_5, hk_5, rfl, rfl⟩ | ⟨hk_5, rfl⟩
  ·
    refine q_ieq (tgt := 18) hx hb dX5_backward_8 (by decide) (by first | omega | exact Nat.lt_of_le_of_lt (hw3 _) (by decide)) (fun c_8 => absurd c_8 (by decide)) (fun c_8 => ?_)
    refine lv_iload_n hx hb dX5_backward_11 rfl (lv_at hl 2 rfl) ?_
    refine q_kI0 (q_rS (As := [.int (coin)]) (rest := []) hC hW mw_X5_isLoud gw_169 (k_isLoud l G n ad H.size I L R _) ⟨rfl, rfl⟩ ⟨Nat.le_of_ble_eq_true rfl, Nat.le_of_ble_eq_true rfl⟩ ⟨(Nat.le_of_ble_eq_true rfl), (Nat.le_of_ble_eq_true rfl)⟩ hl.1 rfl rfl (Nat.le_of_ble_eq_true rfl) dX5_backward_12) hW (fun r_12 H locs hp hW => ?_)
    rcases hp with ⟨k_12, hk_12, rfl, rfl⟩ | ⟨hk_12, rfl⟩
    ·
      refine q_ine (tgt := 22) hx hb dX5_backward_15 (by decide) (by first | omega | exact Nat.lt_of_le_of_lt (hw3 _) (by decide)) (fun c_15 => ?_) (fun c_15 => absurd c_15 (by decide))
      refine lv_aload_n hx hb dX5_backward_22 rfl (lv_at hl 0 rfl) ?_
      refine g_5_5 (x := 0) (y := 8) hC hW (by omega) kd_0 gw_129 (hlk 0 5 8 (by omega) rfl) dX5_backward_23 ?_
      refine lv_aload_n hx hb dX5_backward_26 rfl (lv_at hl 0 rfl) ?_
      refine g_5_0 (x := 0) (y := 1) hC hW (by omega) kd_0 gw_124 (hlk 0 0 1 (by omega) rfl) dX5_backward_27 ?_
      refine q_kV1 (q_rV (As := [.ref (ad 1)]) (rest := []) (x := 8) hC hW mw_X2_measure gw_202 (k_measure l G n ad H.size I L R w K ro hn hlk hM hSI) (by omega) (ct_o2 kd_8) rfl ⟨rfl, rfl⟩ ⟨Nat.le_of_ble_eq_true rfl, Nat.le_of_ble_eq_true rfl⟩ ⟨(Nat.le_of_ble_eq_true rfl), (Nat.le_of_ble_eq_true rfl)⟩ hl.1 rfl rfl (Nat.le_of_ble_eq_true rfl) dX5_backward_30) hW (fun I_30 L_30 H locs hp hW => ?_)
      obtain ⟨hMs_30, hLf_30, hIf_30⟩ := hp
      have hM_30 : MdI I_30 w K ro := MdI_fr hM hIf_30
      refine lv_aload_n hx hb dX5_backward_33 rfl (lv_at hl 0 rfl) ?_
      refine g_5_5 (x := 0) (y := 8) hC hW (by omega) kd_0 gw_129 (hlk 0 5 8 (by omega) rfl) dX5_backward_34 ?_
      refine g_2_2 (x := 8) (y := 25) hC hW (by omega) kd_8 gw_77 (hlk 8 2 25 (by omega) rfl) dX5_backward_37 ?_
      refine lv_iload_n hx hb dX5_backward_40 rfl (lv_at hl 1 rfl) ?_
      refine q_ic 1 hx hb dX5_backward_41 (by decide) ?_
      refine q_iadd hx hb dX5_backward_42 ?_
      refine q_aald5 (x := 25) (i := k_5 + 1) (y := 26 + (k_5 + 1)) hC hW (by omega) kd_25 (by omega) (lk_row25 hlk (by omega) (by omega)) dX5_backward_43 ?_
      refine lv_iload_n hx hb dX5_backward_44 rfl (lv_at hl 2 rfl) ?_
      refine q_lald (x := (26 + (k_5 + 1))) (i := k_12) hC hW (by omega) (kd_r26 (by omega)) (by omega) dX5_backward_45 ?_
      refine q_top (v2 := .long (lN (Sx' w K ro (K - (k_5 + 1)) k_12))) (congrArg _ (hMs_30.2.2.1 (k_5 + 1) k_12 (by omega) (by omega)).1) ?_
      exact q_lret2 hC hW hr hlk0 (PR_l (a' := (lN (Sx' w K ro (K - (k_5 + 1)) k_12), ((w, K, ro), hc, hi, sv, pn, ch))) (by simp only [aBwd, rng_nI hk_5 (show K ≤ 1000 by omega), rng_nI hk_12 (by decide)]) ⟨rfl, PA_q hI0 (fun a ha => hIf_30 a (by omega)) hMs_30.2.2.2 (fun a ha => hLf_30 a (by omega))⟩) dX5_backward_46
    ·
      refine q_ine (tgt := 22) hx hb dX5_backward_15 (by decide) (by first | omega | exact Nat.lt_of_le_of_lt (hw3 _) (by decide)) (fun c_15 => absurd c_15 (by decide)) (fun c_15 => ?_)
      refine lv_ldc2 (v := -1) hx hb hC.2.2.2.1 (hC.2.2.2.2 _ gw_201) dX5_backward_18 ?_
      exact q_lret2 hC hW hr hlk0 (PR_l (a' := (-1, ((w, K, ro), hc, hi, sv, pn, ch))) (by simp only [aBwd, rng_nI hk_5 (show K ≤ 1000 by omega), hk_12]) ⟨rfl, PA_0 hI0⟩) dX5_backward_21
  ·
    refine q_ieq (tgt := 18) hx hb dX5_backward_8 (by decide) (by first | omega | exact Nat.lt_of_le_of_lt (hw3 _) (by decide)) (fun c_8 => ?_) (fun c_8 => absurd c_8 (by decide))
    refine lv_ldc2 (v := -1) hx hb hC.2.2.2.1 (hC.2.2.2.2 _ gw_201) dX5_backward_18 ?_
    exact q_lret2 hC hW hr hlk0 (PR_l (a' := (-1, ((w, K, ro), hc, hi, sv, pn, ch))) (by simp only [aBwd, hk_5]) ⟨rfl, PA_0 hI0⟩) dX5_backward_21
set_option maxRecDepth 100000 in
set_option maxHeartbeats 4000000 in
theorem k_way (l : Launch) (G : Gx) (n : Nat) (ad : Nat → Nat) (sz : Nat) (I : Ic) (L : Lc) (R : Rc) (way what : Int32) (w : Nat → Nat) (K : Nat) (ro : Nat → Nat) (hc : Nat) (hi : Nat → CM) (sv : Nat → Option CM) (pn : Nat) (ch : Nat → Nat) (hI0 : InvA n I L R ((w, K, ro), hc, hi, sv, pn, ch)) : Met l yX5_way (Cond.code yX5_way cX5_way 3 (some .int) :: GW) ({ frames := 6, cells := 0, slots := 0, locals := 216 } : Room) (qPre G n ad sz I L R [.ref (ad 0), .int (way), .int (what)]) (qI2 G (qA n ad sz) (fun z u => PR n ad I L R (aWay (w, K, ro) way what, ((w, K, ro), hc, hi, sv, pn, ch)) z u)) 0 0 (qA n ad sz) := by
  refine q_met (by decide) (Nat.le_of_ble_eq_true rfl) ?_
  intro p_ e_ s m_ below meth c_ hC hr hlk0 hin hsz hW ls hl
  subst hsz
  have hC : CallFix p_ m_ c_ cX5_way 3 s ([.ref (ad 0), .int (way), .int (what)] : List Value).toArray GW "CoinRows" := hC
  have hx := hC.1
  have hb := hC.2.1
  have hn : 71 ≤ n := hI0.1
  have hlk : LkOK n R := hI0.2.1
  have hM : MdI I w K ro := hI0.2.2.1
  have hSI : SI L := hI0.2.2.2.1
  have hPd : PadI I pn ch := hI0.2.2.2.2.1
  have hHi : HiA I R hc hi := hI0.2.2.2.2.2.1
  have hSv : SvA n I R sv := hI0.2.2.2.2.2.2
  have hh1 := hHi.1
  have hh6 := hHi.2.1
  have hp80 := hPd.2.1
  have hk6 : K ≤ 6 := hM.2.2.2.1
  have hw3 : ∀ i, w i ≤ 3 := hM.2.2.2.2.1.1
  have hr4 : ∀ j, ro j < 4 := hM.2.2.2.2.2
  have hT63 : Sx' w K ro K 6 < 2 ^ 63 := Nat.lt_of_le_of_lt (Sx_b hM.2.2.2.2.1 K K 6 hk6) (by decide)
  have hC31 : Cx' w K ro K 6 < 2 ^ 31 := Nat.lt_of_le_of_lt (Cx_b hM.2.2.2.2.1 K K 6 hk6) (by decide)
  have hCT : (nI (Cx' w K ro K 6)).toInt = (Cx' w K ro K 6 : Int) := nI_toInt hC31
  have hw := hM.2.2.2.2.1
  have hl : lv_has ls 3 [(0, .ref (ad 0)), (1, .int (way)), (2, .int (what))] := hl
  refine lv_aload_n hx hb dX5_way_0 rfl (lv_at hl 0 rfl) ?_
  refine g_5_5 (x := 0) (y := 8) hC hW (by omega) kd_0 gw_129 (hlk 0 5 8 (by omega) rfl) dX5_way_1 ?_
  refine lv_aload_n hx hb dX5_way_4 rfl (lv_at hl 0 rfl) ?_
  refine g_5_0 (x := 0) (y := 1) hC hW (by omega) kd_0 gw_124 (hlk 0 0 1 (by omega) rfl) dX5_way_5 ?_
  refine q_kV1 (q_rV (As := [.ref (ad 1)]) (rest := []) (x := 8) hC hW mw_X2_measure gw_202 (k_measure l G n ad s.heap.size I L R w K ro hn hlk hM hSI) (by omega) (ct_o2 kd_8) rfl ⟨rfl, rfl⟩ ⟨Nat.le_of_ble_eq_true rfl, Nat.le_of_ble_eq_true rfl⟩ ⟨(Nat.le_of_ble_eq_true rfl), (Nat.le_of_ble_eq_true rfl)⟩ hl.1 rfl rfl (Nat.le_of_ble_eq_true rfl) dX5_way_8) hW (fun I_8 L_8 H locs hp hW => ?_)
  obtain ⟨hMs_8, hLf_8, hIf_8⟩ := hp
  have hM_8 : MdI I_8 w K ro := MdI_fr hM hIf_8
  refine lv_iload_n hx hb dX5_way_11 rfl (lv_at hl 1 rfl) ?_
  refine lv_if_lt (tgt := 26) hx hb dX5_way_12 (by decide) (fun c_12 => ?_) (fun c_12 => ?_)
  ·
    have hv_ : rng way (Cx' w K ro K 6) = none := rng_none.mpr (by simp only [hCT, Int32.lt_iff_toInt_lt, Int32.le_iff_toInt_le, ← Int32.toInt_inj, nT0, nT1, nT2, nT3, nT4, nT5, nT6, nT7, nT8, nT9, nT10, nT33, nT36, nT42, nT58, nT80, nT126, nT255, i_m1, i_m2, Int32.toInt_zero, Int32.toInt_one] at c_12; omega)
    refine lv_iconst (v := -1) hx hb dX5_way_26 (by decide) ?_
    exact q_iret2 hC hW hr hlk0 (PR_i (a' := (-1, ((w, K, ro), hc, hi, sv, pn, ch))) (by simp only [aWay, aCnt, hv_]) ⟨rfl, PA_q hI0 (fun a ha => hIf_8 a (by omega)) hMs_8.2.2.2 (fun a ha => hLf_8 a (by omega))⟩) dX5_way_27
  ·
    refine lv_iload_n hx hb dX5_way_15 rfl (lv_at hl 1 rfl) ?_
    refine lv_aload_n hx hb dX5_way_16 rfl (lv_at hl 0 rfl) ?_
    refine g_5_5 (x := 0) (y := 8) hC hW (by omega) kd_0 gw_129 (hlk 0 5 8 (by omega) rfl) dX5_way_17 ?_
    refine q_kI0 (q_rV (As := []) (rest := [.int (way)]) (x := 8) hC hW mw_X2_number gw_255 (k_number l G n ad H.size I_8 L_8 R w K ro hn hlk hM_8 hMs_8) (by omega) (ct_o2 kd_8) rfl ⟨rfl, rfl⟩ ⟨Nat.le_of_ble_eq_true rfl, Nat.le_of_ble_eq_true rfl⟩ ⟨(Nat.le_of_ble_eq_true rfl), (Nat.le_of_ble_eq_true rfl)⟩ hl.1 rfl rfl (Nat.le_of_ble_eq_true rfl) dX5_way_20) hW (fun r_20 H locs hp hW => ?_)
    subst hp
    refine lv_icmp_lt (tgt := 28) hx hb dX5_way_23 (by decide) (fun c_23 => ?_) (fun c_23 => ?_)
    ·
      obtain ⟨j_, hj_, rfl⟩ := rng_ex2 (N := Cx' w K ro K 6) (x := way) hC31 (by simp only [hCT, Int32.lt_iff_toInt_lt, Int32.le_iff_toInt_le, ← Int32.toInt_inj, nT0, nT1, nT2, nT3, nT4, nT5, nT6, nT7, nT8, nT9, nT10, nT33, nT36, nT42, nT58, nT80, nT126, nT255, i_m1, i_m2, Int32.toInt_zero, Int32.toInt_one] at c_12 c_23; omega) (by simp only [hCT, Int32.lt_iff_toInt_lt, Int32.le_iff_toInt_le, ← Int32.toInt_inj, nT0, nT1, nT2, nT3, nT4, nT5, nT6, nT7, nT8, nT9, nT10, nT33, nT36, nT42, nT58, nT80, nT126, nT255, i_m1, i_m2, Int32.toInt_zero, Int32.toInt_one] at c_12 c_23; omega)
      refine lv_iload_n hx hb dX5_way_28 rfl (lv_at hl 2 rfl) ?_
      refine lv_iconst (v := -1) hx hb dX5_way_29 (by decide) ?_
      refine lv_icmp_ge (tgt := 36) hx hb dX5_way_30 (by decide) (fun c_30 => ?_) (fun c_30 => ?_)
      ·
        refine lv_aload_n hx hb dX5_way_36 rfl (lv_at hl 0 rfl) ?_
        refine g_5_6 (x := 0) (y := 49) hC hW (by omega) kd_0 gw_130 (hlk 0 6 49 (by omega) rfl) dX5_way_37 ?_
        refine lv_aload_n hx hb dX5_way_40 rfl (lv_at hl 0 rfl) ?_
        refine g_5_0 (x := 0) (y := 1) hC hW (by omega) kd_0 gw_124 (hlk 0 0 1 (by omega) rfl) dX5_way_41 ?_
        refine lv_aload_n hx hb dX5_way_44 rfl (lv_at hl 0 rfl) ?_
        refine g_5_5 (x := 0) (y := 8) hC hW (by omega) kd_0 gw_129 (hlk 0 5 8 (by omega) rfl) dX5_way_45 ?_
        refine lv_iload_n hx hb dX5_way_48 rfl (lv_at hl 1 rfl) ?_
        refine q_kV1 (q_rV (As := [.ref (ad 1), .ref (ad 8), .int (nI (j_))]) (rest := []) (x := 49) hC hW mw_X4_follow gw_319 (k_follow l G n ad H.size I_8 L_8 R _ w K ro hn hlk hM_8 hMs_8 hj_) (by omega) (ct_o4 kd_49) rfl ⟨rfl, rfl⟩ ⟨Nat.le_of_ble_eq_true rfl, Nat.le_of_ble_eq_true rfl⟩ ⟨(Nat.le_of_ble_eq_true rfl), (Nat.le_of_ble_eq_true rfl)⟩ hl.1 rfl rfl (Nat.le_of_ble_eq_true rfl) dX5_way_49) hW (fun I_49 L_49 H locs hp hW => ?_)
        obtain ⟨hFo_49, hIg_49, hLg_49⟩ := hp
        refine lv_aload_n hx hb dX5_way_52 rfl (lv_at hl 0 rfl) ?_
        refine g_5_6 (x := 0) (y := 49) hC hW (by omega) kd_0 gw_130 (hlk 0 6 49 (by omega) rfl) dX5_way_53 ?_
        refine lv_iload_n hx hb dX5_way_56 rfl (lv_at hl 2 rfl) ?_
        refine q_kI0 (q_rV (As := [.int (what)]) (rest := []) (x := 49) hC hW mw_X4_tell gw_335 (k_tell l G n ad H.size I_49 L_49 R _ _ _ hn hlk hFo_49) (by omega) (ct_o4 kd_49) rfl ⟨rfl, rfl⟩ ⟨Nat.le_of_ble_eq_true rfl, Nat.le_of_ble_eq_true rfl⟩ ⟨(Nat.le_of_ble_eq_true rfl), (Nat.le_of_ble_eq_true rfl)⟩ hl.1 rfl rfl (Nat.le_of_ble_eq_true rfl) dX5_way_57) hW (fun r_57 H locs hp hW => ?_)
        subst hp
        have hx2 : ¬ what.toInt < -1 := by simp only [Int32.lt_iff_toInt_lt, Int32.le_iff_toInt_le, ← Int32.toInt_inj, nT0, nT1, nT2, nT3, nT4, nT5, nT6, nT7, nT8, nT9, nT10, nT33, nT36, nT42, nT58, nT80, nT126, nT255, i_m1, i_m2, Int32.toInt_zero, Int32.toInt_one] at c_30; omega
        exact q_iret2 hC hW hr hlk0 (PR_i (a' := (tellS (wayN w ro K j_) what, ((w, K, ro), hc, hi, sv, pn, ch))) (by simp only [aWay, aCnt, rng_nI2 hj_ hC31, if_neg hx2]) ⟨rfl, PA_q hI0 (fun a ha => (hIg_49 a (by omega)).trans (hIf_8 a (by omega))) (SI_lo hMs_8.2.2.2 (fun a ha => hLg_49 a (by omega))) (fun a ha => (hLg_49 a (by omega)).trans (hLf_8 a (by omega)))⟩) dX5_way_60
      ·
        refine lv_bipush (v := -2) hx hb dX5_way_33 (by decide) ?_
        have hx2 : what.toInt < -1 := by simp only [Int32.lt_iff_toInt_lt, Int32.le_iff_toInt_le, ← Int32.toInt_inj, nT0, nT1, nT2, nT3, nT4, nT5, nT6, nT7, nT8, nT9, nT10, nT33, nT36, nT42, nT58, nT80, nT126, nT255, i_m1, i_m2, Int32.toInt_zero, Int32.toInt_one] at c_30; omega
        exact q_iret2 hC hW hr hlk0 (PR_i (a' := (-2, ((w, K, ro), hc, hi, sv, pn, ch))) (by simp only [aWay, aCnt, rng_nI2 hj_ hC31, if_pos hx2]) ⟨rfl, PA_q hI0 (fun a ha => hIf_8 a (by omega)) hMs_8.2.2.2 (fun a ha => hLf_8 a (by omega))⟩) dX5_way_35
    ·
      have hv_ : rng way (Cx' w K ro K 6) = none := rng_none.mpr (by simp only [hCT, Int32.lt_iff_toInt_lt, Int32.le_iff_toInt_le, ← Int32.toInt_inj, nT0, nT1, nT2, nT3, nT4, nT5, nT6, nT7, nT8, nT9, nT10, nT33, nT36, nT42, nT58, nT80, nT126, nT255, i_m1, i_m2, Int32.toInt_zero, Int32.toInt_one] at c_12 c_23; omega)
      refine lv_iconst (v := -1) hx hb dX5_way_26 (by decide) ?_
      exact q_iret2 hC hW hr hlk0 (PR_i (a' := (-1, ((w, K, ro), hc, hi, sv, pn, ch))) (by simp only [aWay, aCnt, hv_]) ⟨rfl, PA_q hI0 (fun a ha => hIf_8 a (by omega)) hMs_8.2.2.2 (fun a ha => hLf_8 a (by omega))⟩) dX5_way_27
set_option maxRecDepth 100000 in
set_option maxHeartbeats 4000000 in
theorem k_weighs (l : Launch) (G : Gx) (n : Nat) (ad : Nat → Nat) (sz : Nat) (I : Ic) (L : Lc) (R : Rc) (way : Int32) (w : Nat → Nat) (K : Nat) (ro : Nat → Nat) (hc : Nat) (hi : Nat → CM) (sv : Nat → Option CM) (pn : Nat) (ch : Nat → Nat) (hI0 : InvA n I L R ((w, K, ro), hc, hi, sv, pn, ch)) : Met l yX5_weighs (Cond.code yX5_weighs cX5_weighs 2 (some .long) :: GW) ({ frames := 6, cells := 0, slots := 0, locals := 216 } : Room) (qPre G n ad sz I L R [.ref (ad 0), .int (way)]) (qL2 G (qA n ad sz) (fun z u => PRl n ad I L R (aWei (w, K, ro) way, ((w, K, ro), hc, hi, sv, pn, ch)) z u)) 0 0 (qA n ad sz) := by
  refine q_met (by decide) (Nat.le_of_ble_eq_true rfl) ?_
  intro p_ e_ s m_ below meth c_ hC hr hlk0 hin hsz hW ls hl
  subst hsz
  have hC : CallFix p_ m_ c_ cX5_weighs 2 s ([.ref (ad 0), .int (way)] : List Value).toArray GW "CoinRows" := hC
  have hx := hC.1
  have hb := hC.2.1
  have hn : 71 ≤ n := hI0.1
  have hlk : LkOK n R := hI0.2.1
  have hM : MdI I w K ro := hI0.2.2.1
  have hSI : SI L := hI0.2.2.2.1
  have hPd : PadI I pn ch := hI0.2.2.2.2.1
  have hHi : HiA I R hc hi := hI0.2.2.2.2.2.1
  have hSv : SvA n I R sv := hI0.2.2.2.2.2.2
  have hh1 := hHi.1
  have hh6 := hHi.2.1
  have hp80 := hPd.2.1
  have hk6 : K ≤ 6 := hM.2.2.2.1
  have hw3 : ∀ i, w i ≤ 3 := hM.2.2.2.2.1.1
  have hr4 : ∀ j, ro j < 4 := hM.2.2.2.2.2
  have hT63 : Sx' w K ro K 6 < 2 ^ 63 := Nat.lt_of_le_of_lt (Sx_b hM.2.2.2.2.1 K K 6 hk6) (by decide)
  have hC31 : Cx' w K ro K 6 < 2 ^ 31 := Nat.lt_of_le_of_lt (Cx_b hM.2.2.2.2.1 K K 6 hk6) (by decide)
  have hCT : (nI (Cx' w K ro K 6)).toInt = (Cx' w K ro K 6 : Int) := nI_toInt hC31
  have hw := hM.2.2.2.2.1
  have hl : lv_has ls 2 [(0, .ref (ad 0)), (1, .int (way))] := hl
  refine lv_aload_n hx hb dX5_weighs_0 rfl (lv_at hl 0 rfl) ?_
  refine g_5_5 (x := 0) (y := 8) hC hW (by omega) kd_0 gw_129 (hlk 0 5 8 (by omega) rfl) dX5_weighs_1 ?_
  refine lv_aload_n hx hb dX5_weighs_4 rfl (lv_at hl 0 rfl) ?_
  refine g_5_0 (x := 0) (y := 1) hC hW (by omega) kd_0 gw_124 (hlk 0 0 1 (by omega) rfl) dX5_weighs_5 ?_
  refine q_kV1 (q_rV (As := [.ref (ad 1)]) (rest := []) (x := 8) hC hW mw_X2_measure gw_202 (k_measure l G n ad s.heap.size I L R w K ro hn hlk hM hSI) (by omega) (ct_o2 kd_8) rfl ⟨rfl, rfl⟩ ⟨Nat.le_of_ble_eq_true rfl, Nat.le_of_ble_eq_true rfl⟩ ⟨(Nat.le_of_ble_eq_true rfl), (Nat.le_of_ble_eq_true rfl)⟩ hl.1 rfl rfl (Nat.le_of_ble_eq_true rfl) dX5_weighs_8) hW (fun I_8 L_8 H locs hp hW => ?_)
  obtain ⟨hMs_8, hLf_8, hIf_8⟩ := hp
  have hM_8 : MdI I_8 w K ro := MdI_fr hM hIf_8
  refine lv_iload_n hx hb dX5_weighs_11 rfl (lv_at hl 1 rfl) ?_
  refine lv_if_lt (tgt := 26) hx hb dX5_weighs_12 (by decide) (fun c_12 => ?_) (fun c_12 => ?_)
  ·
    have hv_ : rng way (Cx' w K ro K 6) = none := rng_none.mpr (by simp only [hCT, Int32.lt_iff_toInt_lt, Int32.le_iff_toInt_le, ← Int32.toInt_inj, nT0, nT1, nT2, nT3, nT4, nT5, nT6, nT7, nT8, nT9, nT10, nT33, nT36, nT42, nT58, nT80, nT126, nT255, i_m1, i_m2, Int32.toInt_zero, Int32.toInt_one] at c_12; omega)
    refine lv_ldc2 (v := -1) hx hb hC.2.2.2.1 (hC.2.2.2.2 _ gw_201) dX5_weighs_26 ?_
    exact q_lret2 hC hW hr hlk0 (PR_l (a' := (-1, ((w, K, ro), hc, hi, sv, pn, ch))) (by simp only [aWei, aCnt, hv_]) ⟨rfl, PA_q hI0 (fun a ha => hIf_8 a (by omega)) hMs_8.2.2.2 (fun a ha => hLf_8 a (by omega))⟩) dX5_weighs_29
  ·
    refine lv_iload_n hx hb dX5_weighs_15 rfl (lv_at hl 1 rfl) ?_
    refine lv_aload_n hx hb dX5_weighs_16 rfl (lv_at hl 0 rfl) ?_
    refine g_5_5 (x := 0) (y := 8) hC hW (by omega) kd_0 gw_129 (hlk 0 5 8 (by omega) rfl) dX5_weighs_17 ?_
    refine q_kI0 (q_rV (As := []) (rest := [.int (way)]) (x := 8) hC hW mw_X2_number gw_255 (k_number l G n ad H.size I_8 L_8 R w K ro hn hlk hM_8 hMs_8) (by omega) (ct_o2 kd_8) rfl ⟨rfl, rfl⟩ ⟨Nat.le_of_ble_eq_true rfl, Nat.le_of_ble_eq_true rfl⟩ ⟨(Nat.le_of_ble_eq_true rfl), (Nat.le_of_ble_eq_true rfl)⟩ hl.1 rfl rfl (Nat.le_of_ble_eq_true rfl) dX5_weighs_20) hW (fun r_20 H locs hp hW => ?_)
    subst hp
    refine lv_icmp_lt (tgt := 30) hx hb dX5_weighs_23 (by decide) (fun c_23 => ?_) (fun c_23 => ?_)
    ·
      obtain ⟨j_, hj_, rfl⟩ := rng_ex2 (N := Cx' w K ro K 6) (x := way) hC31 (by simp only [hCT, Int32.lt_iff_toInt_lt, Int32.le_iff_toInt_le, ← Int32.toInt_inj, nT0, nT1, nT2, nT3, nT4, nT5, nT6, nT7, nT8, nT9, nT10, nT33, nT36, nT42, nT58, nT80, nT126, nT255, i_m1, i_m2, Int32.toInt_zero, Int32.toInt_one] at c_12 c_23; omega) (by simp only [hCT, Int32.lt_iff_toInt_lt, Int32.le_iff_toInt_le, ← Int32.toInt_inj, nT0, nT1, nT2, nT3, nT4, nT5, nT6, nT7, nT8, nT9, nT10, nT33, nT36, nT42, nT58, nT80, nT126, nT255, i_m1, i_m2, Int32.toInt_zero, Int32.toInt_one] at c_12 c_23; omega)
      refine lv_aload_n hx hb dX5_weighs_30 rfl (lv_at hl 0 rfl) ?_
      refine g_5_6 (x := 0) (y := 49) hC hW (by omega) kd_0 gw_130 (hlk 0 6 49 (by omega) rfl) dX5_weighs_31 ?_
      refine lv_aload_n hx hb dX5_weighs_34 rfl (lv_at hl 0 rfl) ?_
      refine g_5_0 (x := 0) (y := 1) hC hW (by omega) kd_0 gw_124 (hlk 0 0 1 (by omega) rfl) dX5_weighs_35 ?_
      refine lv_aload_n hx hb dX5_weighs_38 rfl (lv_at hl 0 rfl) ?_
      refine g_5_5 (x := 0) (y := 8) hC hW (by omega) kd_0 gw_129 (hlk 0 5 8 (by omega) rfl) dX5_weighs_39 ?_
      refine lv_iload_n hx hb dX5_weighs_42 rfl (lv_at hl 1 rfl) ?_
      refine q_kV1 (q_rV (As := [.ref (ad 1), .ref (ad 8), .int (nI (j_))]) (rest := []) (x := 49) hC hW mw_X4_follow gw_319 (k_follow l G n ad H.size I_8 L_8 R _ w K ro hn hlk hM_8 hMs_8 hj_) (by omega) (ct_o4 kd_49) rfl ⟨rfl, rfl⟩ ⟨Nat.le_of_ble_eq_true rfl, Nat.le_of_ble_eq_true rfl⟩ ⟨(Nat.le_of_ble_eq_true rfl), (Nat.le_of_ble_eq_true rfl)⟩ hl.1 rfl rfl (Nat.le_of_ble_eq_true rfl) dX5_weighs_43) hW (fun I_43 L_43 H locs hp hW => ?_)
      obtain ⟨hFo_43, hIg_43, hLg_43⟩ := hp
      refine lv_aload_n hx hb dX5_weighs_46 rfl (lv_at hl 0 rfl) ?_
      refine g_5_6 (x := 0) (y := 49) hC hW (by omega) kd_0 gw_130 (hlk 0 6 49 (by omega) rfl) dX5_weighs_47 ?_
      refine g_4_2 (x := 49) hC hW (by omega) kd_49 gw_103 dX5_weighs_50 ?_
      refine q_top (v2 := .long (lN (prN w ro K 0 6 (wayN w ro K j_)))) (congrArg _ hFo_43.2.2.1) ?_
      exact q_lret2 hC hW hr hlk0 (PR_l (a' := (lN (prN w ro K 0 6 (wayN w ro K j_)), ((w, K, ro), hc, hi, sv, pn, ch))) (by simp only [aWei, aCnt, rng_nI2 hj_ hC31]) ⟨rfl, PA_q hI0 (fun a ha => (hIg_43 a (by omega)).trans (hIf_8 a (by omega))) (SI_lo hMs_8.2.2.2 (fun a ha => hLg_43 a (by omega))) (fun a ha => (hLg_43 a (by omega)).trans (hLf_8 a (by omega)))⟩) dX5_weighs_53
    ·
      have hv_ : rng way (Cx' w K ro K 6) = none := rng_none.mpr (by simp only [hCT, Int32.lt_iff_toInt_lt, Int32.le_iff_toInt_le, ← Int32.toInt_inj, nT0, nT1, nT2, nT3, nT4, nT5, nT6, nT7, nT8, nT9, nT10, nT33, nT36, nT42, nT58, nT80, nT126, nT255, i_m1, i_m2, Int32.toInt_zero, Int32.toInt_one] at c_12 c_23; omega)
      refine lv_ldc2 (v := -1) hx hb hC.2.2.2.1 (hC.2.2.2.2 _ gw_201) dX5_weighs_26 ?_
      exact q_lret2 hC hW hr hlk0 (PR_l (a' := (-1, ((w, K, ro), hc, hi, sv, pn, ch))) (by simp only [aWei, aCnt, hv_]) ⟨rfl, PA_q hI0 (fun a ha => hIf_8 a (by omega)) hMs_8.2.2.2 (fun a ha => hLf_8 a (by omega))⟩) dX5_weighs_29
