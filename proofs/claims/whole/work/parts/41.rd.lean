theorem Ax_00 {op : Nat → Nat → Nat → Nat} (w : Nat → Nat) (r : Nat → Nat) : Ax op 0 1 w 0 r 0 6 = 1 := rfl
theorem nx_K {K t d : Nat} (h : d < K) : nx t d ≤ K := by unfold nx; split <;> omega
set_option maxRecDepth 100000 in
set_option maxHeartbeats 4000000 in
theorem k_totalNow (l : Launch) (G : Gx) (n : Nat) (ad : Nat → Nat) (sz : Nat) (I : Ic) (L : Lc) (R : Rc)  (w : Nat → Nat) (K : Nat) (ro : Nat → Nat) (hn : 83 ≤ n) (hlk : LkOK n R) (hN : NwI (I 72) w K ro) : Met l yX6_totalNow (Cond.code yX6_totalNow cX6_totalNow 5 (some .long) :: GW) ({ frames := 4, cells := 0, slots := 0, locals := 144 } : Room) (qPre G n ad sz I L R [.ref (ad 71)]) (qL1 G (qA n ad sz) n ad R (fun z I1 L1 => z = lN (Sx' w K ro K 6) ∧ BhI w ro K I1 L1 0 ∧ FrBh I I1 L L1)) 0 0 (qA n ad sz) := by
  refine q_met (by decide) (Nat.le_of_ble_eq_true rfl) ?_
  intro p_ e_ s m_ below meth c_ hC hr hlk0 hin hsz hW ls hl
  subst hsz
  have hC : CallFix p_ m_ c_ cX6_totalNow 5 s ([.ref (ad 71)] : List Value).toArray GW "CoinRowsModel" := hC
  have hx := hC.1
  have hb := hC.2.1
  have hk6 : K ≤ 6 := hN.2.2.2.1
  have hw : Wok w := hN.2.2.2.2.1
  have hw3 : ∀ i, w i ≤ 3 := hw.1
  have hr4 : ∀ j, ro j < 4 := hN.2.2.2.2.2
  have hl : lv_has ls 5 [(0, .ref (ad 71))] := hl
  refine lv_aload_n hx hb dX6_totalNow_0 rfl (lv_at hl 0 rfl) ?_
  refine q_kV1 (q_rV (As := []) (rest := []) (x := 71) hC hW mw_X6_layBehind gw_578 (k_layBh l G n ad s.heap.size I L R w K ro hn hlk hN) (by omega) (ct_o6 kd_71) rfl ⟨rfl, rfl⟩ ⟨Nat.le_of_ble_eq_true rfl, Nat.le_of_ble_eq_true rfl⟩ ⟨(Nat.le_of_ble_eq_true rfl), (Nat.le_of_ble_eq_true rfl)⟩ hl.1 rfl rfl (Nat.le_of_ble_eq_true rfl) dX6_totalNow_1) hW (fun I_1 L_1 H locs hp hW => ?_)
  obtain ⟨hB_1, hFr_1⟩ := hp
  have hN_1 : NwI (I_1 72) w K ro := by rw [hFr_1.1 72 (by decide)]; exact hN
  refine lv_aload_n hx hb dX6_totalNow_4 rfl (lv_at hl 0 rfl) ?_
  refine g_6_0 (x := 71) (y := 72) hC hW (by omega) kd_71 gw_483 (hlk 71 0 72 (by omega) rfl) dX6_totalNow_5 ?_
  refine q_bp 58 hx hb dX6_totalNow_8 (by decide) ?_
  refine q_iald (x := 72) (i := 58) hC hW (by omega) kd_72 (by omega) dX6_totalNow_10 ?_
  refine q_top (v2 := .int (nI (K))) (congrArg _ hN_1.2.1) ?_
  refine q_ine (tgt := 16) hx hb dX6_totalNow_11 (by decide) (by first | omega | exact Nat.lt_of_le_of_lt (hw3 _) (by decide)) (fun c_11 => ?_) (fun c_11 => ?_)
  ·
    refine q_lc 0 hx hb dX6_totalNow_16 (by decide) ?_
    refine lv_lstore_n (lv' := [(1, .long (lN 0)), (0, .ref (ad 71))]) hx hb dX6_totalNow_17 rfl hl (by decide) rfl (fun ls hl => ?_)
    refine q_ic 0 hx hb dX6_totalNow_18 (by decide) ?_
    refine lv_istore_n (lv' := [(3, .int (nI 0)), (1, .long (lN 0)), (0, .ref (ad 71))]) hx hb dX6_totalNow_19 rfl hl (by decide) rfl (fun ls hl => ?_)
    have lp_20 : ∀ (fu_20 : Nat) (t1 : Nat), 6 - t1 < fu_20 → (t1 ≤ 6) → ∀ (H : Heap) (locs : List Loc), Wd G n ad I_1 L_1 R (qA n ad s.heap.size) s.heap H locs s → ∀ ls : Array Slot, lv_has ls 5 [(0, .ref (ad 71)), (1, .long (lN (fS w ro K 0 6 t1))), (3, .int (nI (t1)))] → W p_ l e_ ({ frames := 4, cells := 0, slots := 0, locals := 144 } : Room) s m_ ([.ref (ad 71)] : List Value).toArray below meth c_ H locs 0 0 (MQ below (qL1 G (qA n ad s.heap.size) n ad R (fun z I1 L1 => z = lN (Sx' w K ro K 6) ∧ BhI w ro K I1 L1 0 ∧ FrBh I I1 L L1)) ([.ref (ad 71)] : List Value).toArray s 0 0 (qA n ad s.heap.size)) (F0 m_ 20 ls []) := by
      intro fu_20
      induction fu_20 with
      | zero =>
        intro t1 hm; exact absurd hm (Nat.not_lt_zero _)
      | succ fu_20 ih_20 =>
        intro t1 hm_20 ht6 H locs hW ls hl
        refine lv_iload_n hx hb dX6_totalNow_20 rfl (lv_at hl 2 rfl) ?_
        refine q_bp 6 hx hb dX6_totalNow_21 (by decide) ?_
        refine q_cge (tgt := 77) hx hb dX6_totalNow_23 (by decide) (by first | omega | exact Nat.lt_of_le_of_lt (hw3 _) (by decide)) (by first | omega | exact Nat.lt_of_le_of_lt (hw3 _) (by decide)) (fun c_23 => ?_) (fun c_23 => ?_)
        ·
          refine lv_lload_n hx hb dX6_totalNow_77 rfl (lv_at hl 1 rfl) ?_
          have e6 : t1 = 6 := by omega
          subst e6
          exact q_lret1 hC hW hr hlk0 ⟨congrArg lN (Sx_f hw K 0 6 (by omega)).symm, hB_1, hFr_1⟩ dX6_totalNow_78
        ·
          refine lv_aload_n hx hb dX6_totalNow_26 rfl (lv_at hl 0 rfl) ?_
          refine lv_aload_n hx hb dX6_totalNow_27 rfl (lv_at hl 0 rfl) ?_
          refine g_6_0 (x := 71) (y := 72) hC hW (by omega) kd_71 gw_483 (hlk 71 0 72 (by omega) rfl) dX6_totalNow_28 ?_
          refine lv_iload_n hx hb dX6_totalNow_31 rfl (lv_at hl 2 rfl) ?_
          refine q_iald (x := 72) (i := t1) hC hW (by omega) kd_72 (by omega) dX6_totalNow_32 ?_
          refine q_top (v2 := .int (nI (w (6 * 6 + t1)))) (congrArg _ ((hN_1.1 _ (by omega)).trans (congrArg nI (rwt_b w (by omega))))) ?_
          refine lv_iload_n hx hb dX6_totalNow_33 rfl (lv_at hl 2 rfl) ?_
          refine q_ic 0 hx hb dX6_totalNow_34 (by decide) ?_
          refine q_kI0 (q_rV (As := [.int (nI (w (6 * 6 + t1))), .int (nI (t1)), .int (nI 0)]) (rest := []) (x := 71) hC hW mw_X6_going gw_590 (k_going l G n ad H.size I_1 L_1 R _ _ _ (hw3 _) (by omega) (by omega) w K ro hn hlk hN_1) (by omega) (ct_o6 kd_71) rfl ⟨rfl, rfl⟩ ⟨Nat.le_of_ble_eq_true rfl, Nat.le_of_ble_eq_true rfl⟩ ⟨(Nat.le_of_ble_eq_true rfl), (Nat.le_of_ble_eq_true rfl)⟩ hl.1 rfl rfl (Nat.le_of_ble_eq_true rfl) dX6_totalNow_35) hW (fun r_35 H locs hp hW => ?_)
          subst hp
          refine q_top (v2 := .int (nI (mv w K ro 6 t1 0))) rfl ?_
          have hm9 := mv_le hw K ro 6 t1 0
          refine lv_istore (lv' := [(4, .int (nI (mv w K ro 6 t1 0))), (0, .ref (ad 71)), (1, .long (lN (fS w ro K 0 6 t1))), (3, .int (nI (t1)))]) hx hb dX6_totalNow_38 hl (by decide) rfl (fun ls hl => ?_)
          refine lv_lload_n hx hb dX6_totalNow_40 rfl (lv_at hl 2 rfl) ?_
          refine lv_iload hx hb dX6_totalNow_41 (lv_at hl 0 rfl) ?_
          refine q_ile (tgt := 68) hx hb dX6_totalNow_43 (by decide) (by first | omega | exact Nat.lt_of_le_of_lt (hw3 _) (by decide)) (fun c_43 => ?_) (fun c_43 => ?_)
          ·
            have hz1 : mv w K ro 6 t1 0 = 0 := by omega
            refine q_lc 0 hx hb dX6_totalNow_68 (by decide) ?_
            refine q_ladd hx hb dX6_totalNow_69 ?_
            refine q_top (v2 := .long (lN (fS w ro K 0 6 (t1 + 1)))) (by rw [fS_n hz1, Nat.add_zero]) ?_
            refine lv_lstore_n (lv' := [(1, .long (lN (fS w ro K 0 6 (t1 + 1)))), (4, .int (nI (mv w K ro 6 t1 0))), (0, .ref (ad 71)), (3, .int (nI (t1)))]) hx hb dX6_totalNow_70 rfl hl (by decide) rfl (fun ls hl => ?_)
            refine q_iinc (z2 := t1 + 1) (lv' := [(3, .int (nI (t1 + 1))), (1, .long (lN (fS w ro K 0 6 (t1 + 1)))), (4, .int (nI (mv w K ro 6 t1 0))), (0, .ref (ad 71))]) hx hb dX6_totalNow_71 hl (k := 3) rfl (inc_up _ 1 (by decide)) (by decide) rfl (fun ls hl => ?_)
            refine lv_goto (tgt := 20) hx hb dX6_totalNow_74 (by decide) ?_
            exact ih_20 (t1 + 1) (by omega) (by omega) _ _ hW _ (lv_sub hl [3, 1, 0] rfl)
          ·
            have hp1 : 0 < mv w K ro 6 t1 0 := by omega
            have hnx : nx t1 0 ≤ K := nx_K (by omega)
            refine lv_iload hx hb dX6_totalNow_46 (lv_at hl 0 rfl) ?_
            refine q_i2l hx hb dX6_totalNow_48 (by first | omega | exact Nat.lt_of_le_of_lt (hw3 _) (by decide)) ?_
            refine lv_aload_n hx hb dX6_totalNow_49 rfl (lv_at hl 1 rfl) ?_
            refine g_6_8 (x := 71) (y := 78) hC hW (by omega) kd_71 gw_491 (hlk 71 8 78 (by omega) rfl) dX6_totalNow_50 ?_
            refine q_bp 7 hx hb dX6_totalNow_53 (by decide) ?_
            refine lv_iload_n hx hb dX6_totalNow_55 rfl (lv_at hl 3 rfl) ?_
            refine q_imul hx hb dX6_totalNow_56 ?_
            refine lv_iload_n hx hb dX6_totalNow_57 rfl (lv_at hl 3 rfl) ?_
            refine q_ic 0 hx hb dX6_totalNow_58 (by decide) ?_
            refine q_kI0 (q_rS (As := [.int (nI (t1)), .int (nI 0)]) (rest := [.int (nI (7 * t1)), .ref (ad 78), .long (lN (mv w K ro 6 t1 0)), .long (lN (fS w ro K 0 6 t1))]) hC hW mw_X6_toldThen gw_598 (k_toldThen l G n ad H.size I_1 L_1 R _ _ (by omega) (by omega)) ⟨rfl, rfl⟩ ⟨Nat.le_of_ble_eq_true rfl, Nat.le_of_ble_eq_true rfl⟩ ⟨(Nat.le_of_ble_eq_true rfl), (Nat.le_of_ble_eq_true rfl)⟩ hl.1 rfl rfl (Nat.le_of_ble_eq_true rfl) dX6_totalNow_59) hW (fun r_59 H locs hp hW => ?_)
            subst hp
            refine q_iadd hx hb dX6_totalNow_62 ?_
            refine q_lald (x := 78) (i := (7 * t1) + (nx t1 0)) hC hW (by omega) kd_78 (by omega) dX6_totalNow_63 ?_
            refine q_top (v2 := .long (lN (Sx' w K ro (K - (nx t1 0)) t1))) (congrArg _ (hB_1 (nx t1 0) t1 (by omega) (nx_K (by omega)) (by omega)).1) ?_
            refine q_lmul hx hb dX6_totalNow_64 ?_
            refine lv_goto (tgt := 69) hx hb dX6_totalNow_65 (by decide) ?_
            refine q_ladd hx hb dX6_totalNow_69 ?_
            refine q_top (v2 := .long (lN (fS w ro K 0 6 (t1 + 1)))) (by rw [fS_p hp1]) ?_
            refine lv_lstore_n (lv' := [(1, .long (lN (fS w ro K 0 6 (t1 + 1)))), (4, .int (nI (mv w K ro 6 t1 0))), (0, .ref (ad 71)), (3, .int (nI (t1)))]) hx hb dX6_totalNow_70 rfl hl (by decide) rfl (fun ls hl => ?_)
            refine q_iinc (z2 := t1 + 1) (lv' := [(3, .int (nI (t1 + 1))), (1, .long (lN (fS w ro K 0 6 (t1 + 1)))), (4, .int (nI (mv w K ro 6 t1 0))), (0, .ref (ad 71))]) hx hb dX6_totalNow_71 hl (k := 3) rfl (inc_up _ 1 (by decide)) (by decide) rfl (fun ls hl => ?_)
            refine lv_goto (tgt := 20) hx hb dX6_totalNow_74 (by decide) ?_
            exact ih_20 (t1 + 1) (by omega) (by omega) _ _ hW _ (lv_sub hl [3, 1, 0] rfl)
    exact lp_20 (6 + 1) 0 (by omega) (by omega) _ _ hW _ (lv_sub hl [2, 1, 0] rfl)
  ·
    refine q_lc 1 hx hb dX6_totalNow_14 (by decide) ?_
    exact q_lret1 hC hW hr hlk0 ⟨by rw [show K = 0 from c_11]; rfl, hB_1, hFr_1⟩ dX6_totalNow_15
set_option maxRecDepth 100000 in
set_option maxHeartbeats 4000000 in
theorem k_waysNow (l : Launch) (G : Gx) (n : Nat) (ad : Nat → Nat) (sz : Nat) (I : Ic) (L : Lc) (R : Rc)  (w : Nat → Nat) (K : Nat) (ro : Nat → Nat) (hn : 83 ≤ n) (hlk : LkOK n R) (hN : NwI (I 72) w K ro) : Met l yX6_waysNow (Cond.code yX6_waysNow cX6_waysNow 3 (some .int) :: GW) ({ frames := 4, cells := 0, slots := 0, locals := 144 } : Room) (qPre G n ad sz I L R [.ref (ad 71)]) (qI1 G (qA n ad sz) n ad R (fun z I1 L1 => z = nI (Cx' w K ro K 6) ∧ BhI w ro K I1 L1 0 ∧ FrBh I I1 L L1)) 0 0 (qA n ad sz) := by
  refine q_met (by decide) (Nat.le_of_ble_eq_true rfl) ?_
  intro p_ e_ s m_ below meth c_ hC hr hlk0 hin hsz hW ls hl
  subst hsz
  have hC : CallFix p_ m_ c_ cX6_waysNow 3 s ([.ref (ad 71)] : List Value).toArray GW "CoinRowsModel" := hC
  have hx := hC.1
  have hb := hC.2.1
  have hk6 : K ≤ 6 := hN.2.2.2.1
  have hw : Wok w := hN.2.2.2.2.1
  have hw3 : ∀ i, w i ≤ 3 := hw.1
  have hr4 : ∀ j, ro j < 4 := hN.2.2.2.2.2
  have hl : lv_has ls 3 [(0, .ref (ad 71))] := hl
  refine lv_aload_n hx hb dX6_waysNow_0 rfl (lv_at hl 0 rfl) ?_
  refine q_kV1 (q_rV (As := []) (rest := []) (x := 71) hC hW mw_X6_layBehind gw_578 (k_layBh l G n ad s.heap.size I L R w K ro hn hlk hN) (by omega) (ct_o6 kd_71) rfl ⟨rfl, rfl⟩ ⟨Nat.le_of_ble_eq_true rfl, Nat.le_of_ble_eq_true rfl⟩ ⟨(Nat.le_of_ble_eq_true rfl), (Nat.le_of_ble_eq_true rfl)⟩ hl.1 rfl rfl (Nat.le_of_ble_eq_true rfl) dX6_waysNow_1) hW (fun I_1 L_1 H locs hp hW => ?_)
  obtain ⟨hB_1, hFr_1⟩ := hp
  have hN_1 : NwI (I_1 72) w K ro := by rw [hFr_1.1 72 (by decide)]; exact hN
  refine lv_aload_n hx hb dX6_waysNow_4 rfl (lv_at hl 0 rfl) ?_
  refine g_6_0 (x := 71) (y := 72) hC hW (by omega) kd_71 gw_483 (hlk 71 0 72 (by omega) rfl) dX6_waysNow_5 ?_
  refine q_bp 58 hx hb dX6_waysNow_8 (by decide) ?_
  refine q_iald (x := 72) (i := 58) hC hW (by omega) kd_72 (by omega) dX6_waysNow_10 ?_
  refine q_top (v2 := .int (nI (K))) (congrArg _ hN_1.2.1) ?_
  refine q_ine (tgt := 16) hx hb dX6_waysNow_11 (by decide) (by first | omega | exact Nat.lt_of_le_of_lt (hw3 _) (by decide)) (fun c_11 => ?_) (fun c_11 => ?_)
  ·
    refine q_ic 0 hx hb dX6_waysNow_16 (by decide) ?_
    refine lv_istore_n (lv' := [(1, .int (nI 0)), (0, .ref (ad 71))]) hx hb dX6_waysNow_17 rfl hl (by decide) rfl (fun ls hl => ?_)
    refine q_ic 0 hx hb dX6_waysNow_18 (by decide) ?_
    refine lv_istore_n (lv' := [(2, .int (nI 0)), (1, .int (nI 0)), (0, .ref (ad 71))]) hx hb dX6_waysNow_19 rfl hl (by decide) rfl (fun ls hl => ?_)
    have lp_20 : ∀ (fu_20 : Nat) (t1 : Nat), 6 - t1 < fu_20 → (t1 ≤ 6) → ∀ (H : Heap) (locs : List Loc), Wd G n ad I_1 L_1 R (qA n ad s.heap.size) s.heap H locs s → ∀ ls : Array Slot, lv_has ls 3 [(0, .ref (ad 71)), (1, .int (nI (fC w ro K 0 6 t1))), (2, .int (nI (t1)))] → W p_ l e_ ({ frames := 4, cells := 0, slots := 0, locals := 144 } : Room) s m_ ([.ref (ad 71)] : List Value).toArray below meth c_ H locs 0 0 (MQ below (qI1 G (qA n ad s.heap.size) n ad R (fun z I1 L1 => z = nI (Cx' w K ro K 6) ∧ BhI w ro K I1 L1 0 ∧ FrBh I I1 L L1)) ([.ref (ad 71)] : List Value).toArray s 0 0 (qA n ad s.heap.size)) (F0 m_ 20 ls []) := by
      intro fu_20
      induction fu_20 with
      | zero =>
        intro t1 hm; exact absurd hm (Nat.not_lt_zero _)
      | succ fu_20 ih_20 =>
        intro t1 hm_20 ht6 H locs hW ls hl
        refine lv_iload_n hx hb dX6_waysNow_20 rfl (lv_at hl 2 rfl) ?_
        refine q_bp 6 hx hb dX6_waysNow_21 (by decide) ?_
        refine q_cge (tgt := 69) hx hb dX6_waysNow_23 (by decide) (by first | omega | exact Nat.lt_of_le_of_lt (hw3 _) (by decide)) (by first | omega | exact Nat.lt_of_le_of_lt (hw3 _) (by decide)) (fun c_23 => ?_) (fun c_23 => ?_)
        ·
          refine lv_iload_n hx hb dX6_waysNow_69 rfl (lv_at hl 1 rfl) ?_
          have e6 : t1 = 6 := by omega
          subst e6
          exact q_iret1 hC hW hr hlk0 ⟨congrArg nI (Cx_f hw K 0 6 (by omega)).symm, hB_1, hFr_1⟩ dX6_waysNow_70
        ·
          refine lv_iload_n hx hb dX6_waysNow_26 rfl (lv_at hl 1 rfl) ?_
          refine lv_aload_n hx hb dX6_waysNow_27 rfl (lv_at hl 0 rfl) ?_
          refine lv_aload_n hx hb dX6_waysNow_28 rfl (lv_at hl 0 rfl) ?_
          refine g_6_0 (x := 71) (y := 72) hC hW (by omega) kd_71 gw_483 (hlk 71 0 72 (by omega) rfl) dX6_waysNow_29 ?_
          refine lv_iload_n hx hb dX6_waysNow_32 rfl (lv_at hl 2 rfl) ?_
          refine q_iald (x := 72) (i := t1) hC hW (by omega) kd_72 (by omega) dX6_waysNow_33 ?_
          refine q_top (v2 := .int (nI (w (6 * 6 + t1)))) (congrArg _ ((hN_1.1 _ (by omega)).trans (congrArg nI (rwt_b w (by omega))))) ?_
          refine lv_iload_n hx hb dX6_waysNow_34 rfl (lv_at hl 2 rfl) ?_
          refine q_ic 0 hx hb dX6_waysNow_35 (by decide) ?_
          refine q_kI0 (q_rV (As := [.int (nI (w (6 * 6 + t1))), .int (nI (t1)), .int (nI 0)]) (rest := [.int (nI (fC w ro K 0 6 t1))]) (x := 71) hC hW mw_X6_going gw_590 (k_going l G n ad H.size I_1 L_1 R _ _ _ (hw3 _) (by omega) (by omega) w K ro hn hlk hN_1) (by omega) (ct_o6 kd_71) rfl ⟨rfl, rfl⟩ ⟨Nat.le_of_ble_eq_true rfl, Nat.le_of_ble_eq_true rfl⟩ ⟨(Nat.le_of_ble_eq_true rfl), (Nat.le_of_ble_eq_true rfl)⟩ hl.1 rfl rfl (Nat.le_of_ble_eq_true rfl) dX6_waysNow_36) hW (fun r_36 H locs hp hW => ?_)
          subst hp
          refine q_top (v2 := .int (nI (mv w K ro 6 t1 0))) rfl ?_
          have hm9 := mv_le hw K ro 6 t1 0
          refine q_ile (tgt := 60) hx hb dX6_waysNow_39 (by decide) (by first | omega | exact Nat.lt_of_le_of_lt (hw3 _) (by decide)) (fun c_39 => ?_) (fun c_39 => ?_)
          ·
            have hz1 : mv w K ro 6 t1 0 = 0 := by omega
            refine q_ic 0 hx hb dX6_waysNow_60 (by decide) ?_
            refine q_iadd hx hb dX6_waysNow_61 ?_
            refine q_top (v2 := .int (nI (fC w ro K 0 6 (t1 + 1)))) (by rw [fC_n hz1, Nat.add_zero]) ?_
            refine lv_istore_n (lv' := [(1, .int (nI (fC w ro K 0 6 (t1 + 1)))), (0, .ref (ad 71)), (2, .int (nI (t1)))]) hx hb dX6_waysNow_62 rfl hl (by decide) rfl (fun ls hl => ?_)
            refine q_iinc (z2 := t1 + 1) (lv' := [(2, .int (nI (t1 + 1))), (1, .int (nI (fC w ro K 0 6 (t1 + 1)))), (0, .ref (ad 71))]) hx hb dX6_waysNow_63 hl (k := 2) rfl (inc_up _ 1 (by decide)) (by decide) rfl (fun ls hl => ?_)
            refine lv_goto (tgt := 20) hx hb dX6_waysNow_66 (by decide) ?_
            exact ih_20 (t1 + 1) (by omega) (by omega) _ _ hW _ (lv_sub hl [2, 1, 0] rfl)
          ·
            have hp1 : 0 < mv w K ro 6 t1 0 := by omega
            have hnx : nx t1 0 ≤ K := nx_K (by omega)
            refine lv_aload_n hx hb dX6_waysNow_42 rfl (lv_at hl 0 rfl) ?_
            refine g_6_9 (x := 71) (y := 79) hC hW (by omega) kd_71 gw_492 (hlk 71 9 79 (by omega) rfl) dX6_waysNow_43 ?_
            refine q_bp 7 hx hb dX6_waysNow_46 (by decide) ?_
            refine lv_iload_n hx hb dX6_waysNow_48 rfl (lv_at hl 2 rfl) ?_
            refine q_imul hx hb dX6_waysNow_49 ?_
            refine lv_iload_n hx hb dX6_waysNow_50 rfl (lv_at hl 2 rfl) ?_
            refine q_ic 0 hx hb dX6_waysNow_51 (by decide) ?_
            refine q_kI0 (q_rS (As := [.int (nI (t1)), .int (nI 0)]) (rest := [.int (nI (7 * t1)), .ref (ad 79), .int (nI (fC w ro K 0 6 t1))]) hC hW mw_X6_toldThen gw_598 (k_toldThen l G n ad H.size I_1 L_1 R _ _ (by omega) (by omega)) ⟨rfl, rfl⟩ ⟨Nat.le_of_ble_eq_true rfl, Nat.le_of_ble_eq_true rfl⟩ ⟨(Nat.le_of_ble_eq_true rfl), (Nat.le_of_ble_eq_true rfl)⟩ hl.1 rfl rfl (Nat.le_of_ble_eq_true rfl) dX6_waysNow_52) hW (fun r_52 H locs hp hW => ?_)
            subst hp
            refine q_iadd hx hb dX6_waysNow_55 ?_
            refine q_iald (x := 79) (i := (7 * t1) + (nx t1 0)) hC hW (by omega) kd_79 (by omega) dX6_waysNow_56 ?_
            refine q_top (v2 := .int (nI (Cx' w K ro (K - (nx t1 0)) t1))) (congrArg _ (hB_1 (nx t1 0) t1 (by omega) (nx_K (by omega)) (by omega)).2.2) ?_
            refine lv_goto (tgt := 61) hx hb dX6_waysNow_57 (by decide) ?_
            refine q_iadd hx hb dX6_waysNow_61 ?_
            refine q_top (v2 := .int (nI (fC w ro K 0 6 (t1 + 1)))) (by rw [fC_p hp1]) ?_
            refine lv_istore_n (lv' := [(1, .int (nI (fC w ro K 0 6 (t1 + 1)))), (0, .ref (ad 71)), (2, .int (nI (t1)))]) hx hb dX6_waysNow_62 rfl hl (by decide) rfl (fun ls hl => ?_)
            refine q_iinc (z2 := t1 + 1) (lv' := [(2, .int (nI (t1 + 1))), (1, .int (nI (fC w ro K 0 6 (t1 + 1)))), (0, .ref (ad 71))]) hx hb dX6_waysNow_63 hl (k := 2) rfl (inc_up _ 1 (by decide)) (by decide) rfl (fun ls hl => ?_)
            refine lv_goto (tgt := 20) hx hb dX6_waysNow_66 (by decide) ?_
            exact ih_20 (t1 + 1) (by omega) (by omega) _ _ hW _ (lv_sub hl [2, 1, 0] rfl)
    exact lp_20 (6 + 1) 0 (by omega) (by omega) _ _ hW _ (lv_sub hl [2, 1, 0] rfl)
  ·
    refine q_ic 1 hx hb dX6_waysNow_14 (by decide) ?_
    exact q_iret1 hC hW hr hlk0 ⟨by rw [show K = 0 from c_11]; rfl, hB_1, hFr_1⟩ dX6_waysNow_15
set_option maxRecDepth 100000 in
set_option maxHeartbeats 4000000 in
theorem k_isWay (l : Launch) (G : Gx) (n : Nat) (ad : Nat → Nat) (sz : Nat) (I : Ic) (L : Lc) (R : Rc) (x : Int32) (w : Nat → Nat) (K : Nat) (ro : Nat → Nat) (hn : 83 ≤ n) (hlk : LkOK n R) (hN : NwI (I 72) w K ro) : Met l yX6_isWay (Cond.code yX6_isWay cX6_isWay 2 (some .boolean) :: GW) ({ frames := 5, cells := 0, slots := 0, locals := 180 } : Room) (qPre G n ad sz I L R [.ref (ad 71), .int (x)]) (qI1 G (qA n ad sz) n ad R (fun z I1 L1 => ((∃ j, j < Cx' w K ro K 6 ∧ x = nI j ∧ z = nI 1) ∨ (rng x (Cx' w K ro K 6) = none ∧ z = nI 0)) ∧ BhI w ro K I1 L1 0 ∧ FrBh I I1 L L1)) 0 0 (qA n ad sz) := by
  refine q_met (by decide) (Nat.le_of_ble_eq_true rfl) ?_
  intro p_ e_ s m_ below meth c_ hC hr hlk0 hin hsz hW ls hl
  subst hsz
  have hC : CallFix p_ m_ c_ cX6_isWay 2 s ([.ref (ad 71), .int (x)] : List Value).toArray GW "CoinRowsModel" := hC
  have hx := hC.1
  have hb := hC.2.1
  have hk6 : K ≤ 6 := hN.2.2.2.1
  have hw : Wok w := hN.2.2.2.2.1
  have hw3 : ∀ i, w i ≤ 3 := hw.1
  have hr4 : ∀ j, ro j < 4 := hN.2.2.2.2.2
  have hC24 := Cx_b (r := ro) hw K K 6 hk6
  have hl : lv_has ls 2 [(0, .ref (ad 71)), (1, .int (x))] := hl
  refine lv_iload_n hx hb dX6_isWay_0 rfl (lv_at hl 1 rfl) ?_
  refine q_ic 0 hx hb dX6_isWay_1 (by decide) ?_
  refine lv_aload_n hx hb dX6_isWay_2 rfl (lv_at hl 0 rfl) ?_
  refine q_kI1 (q_rV (As := []) (rest := [.int (nI 0), .int (x)]) (x := 71) hC hW mw_X6_waysNow gw_626 (k_waysNow l G n ad s.heap.size I L R w K ro hn hlk hN) (by omega) (ct_o6 kd_71) rfl ⟨rfl, rfl⟩ ⟨Nat.le_of_ble_eq_true rfl, Nat.le_of_ble_eq_true rfl⟩ ⟨(Nat.le_of_ble_eq_true rfl), (Nat.le_of_ble_eq_true rfl)⟩ hl.1 rfl rfl (Nat.le_of_ble_eq_true rfl) dX6_isWay_3) hW (fun r_3 I_3 L_3 H locs hp hW => ?_)
  obtain ⟨rfl, hB_3, hFr_3⟩ := hp
  have hN_3 : NwI (I_3 72) w K ro := by rw [hFr_3.1 72 (by decide)]; exact hN
  refine q_ic 1 hx hb dX6_isWay_6 (by decide) ?_
  refine lv_isub hx hb dX6_isWay_7 ?_
  refine q_kI0 (q_rS (As := [.int (x), .int (nI 0), .int (nI (Cx' w K ro K 6) - nI 1)]) (rest := []) hC hW mw_X6_in gw_537 (k_in l G n ad H.size I_3 L_3 R _ _ _) ⟨rfl, rfl⟩ ⟨Nat.le_of_ble_eq_true rfl, Nat.le_of_ble_eq_true rfl⟩ ⟨(Nat.le_of_ble_eq_true rfl), (Nat.le_of_ble_eq_true rfl)⟩ hl.1 rfl rfl (Nat.le_of_ble_eq_true rfl) dX6_isWay_8) hW (fun r_8 H locs hp hW => ?_)
  rw [show (nI 0).toInt = 0 by decide, k_m1 (by omega)] at hp
  rcases hp with ⟨rfl, hx_8, hy_8⟩ | ⟨rfl, hx_8⟩
  ·
    obtain ⟨kf, hf1, hf2⟩ := rng_ex2 (N := Cx' w K ro K 6) (x := x) (by omega) (by omega) (by omega)
    exact q_zret1 hC hW hr hlk0 rfl ⟨Or.inl ⟨kf, hf1, hf2, rfl⟩, hB_3, hFr_3⟩ dX6_isWay_11
  ·
    exact q_zret1 hC hW hr hlk0 rfl ⟨Or.inr ⟨rng_none.mpr (by omega), rfl⟩, hB_3, hFr_3⟩ dX6_isWay_11
