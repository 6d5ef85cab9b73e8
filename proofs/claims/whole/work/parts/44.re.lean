theorem ix_lt {w r : Nat → Nat} {K i j d x : Nat} (hK : K ≤ 6) (hd : d ≤ 6) (hj : j < 6) (h : 0 < x * mv w K r i j d) : 7 * j + nx j d < 42 := by
  by_cases h4 : j < 4
  · have hdK : d < K := Classical.byContradiction fun y => by rw [mv_0 h4 y, Nat.mul_zero] at h; omega
    have e : nx j d = d + 1 := if_pos h4
    omega
  · have e : nx j d = d := if_neg h4
    omega
theorem ah_63 {w : Nat → Nat} (hw : Wok w) (r : Nat → Nat) {K d i x : Nat} (hd : d ≤ 6) (hi : i < 6) (hx : x ≤ 9) : Ah w r K d i * x < 2 ^ 63 := by
  have h : Ah w r K d i ≤ 438244169232678912 := by
    unfold Ah; split
    · exact bF_b hw r hd hi
    · exact Nat.zero_le _
  have := Nat.mul_le_mul h hx
  omega
set_option maxRecDepth 100000 in
set_option maxHeartbeats 4000000 in
theorem k_addAhead (l : Launch) (G : Gx) (n : Nat) (ad : Nat → Nat) (sz : Nat) (I : Ic) (L : Lc) (R : Rc) (v t d : Nat) (hv : v < 2 ^ 63) (ht : t < 6) (hd : d < 7) (hix : 0 < v → 7 * t + nx t d < 42) (hn : 83 ≤ n) (hlk : LkOK n R) : Met l yX6_addAhead (Cond.code yX6_addAhead cX6_addAhead 5 none :: GW) ({ frames := 1, cells := 0, slots := 0, locals := 36 } : Room) (qPre G n ad sz I L R [.ref (ad 71), .long (lN (v)), .int (nI (t)), .int (nI (d))]) (qV1 G (qA n ad sz) n ad R (fun I1 L1 => I = I1 ∧ AddP L L1 (7 * t + nx t d) v)) 0 0 (qA n ad sz) := by
  refine q_met (by decide) (Nat.le_of_ble_eq_true rfl) ?_
  intro p_ e_ s m_ below meth c_ hC hr hlk0 hin hsz hW ls hl
  subst hsz
  have hC : CallFix p_ m_ c_ cX6_addAhead 5 s ([.ref (ad 71), .long (lN (v)), .int (nI (t)), .int (nI (d))] : List Value).toArray GW "CoinRowsModel" := hC
  have hx := hC.1
  have hb := hC.2.1
  have hl : lv_has ls 5 [(0, .ref (ad 71)), (1, .long (lN (v))), (3, .int (nI (t))), (4, .int (nI (d)))] := hl
  refine lv_lload_n hx hb dX6_addAhead_0 rfl (lv_at hl 1 rfl) ?_
  refine q_lc 0 hx hb dX6_addAhead_1 (by decide) ?_
  refine q_lcmp hx hb dX6_addAhead_2 ?_
  refine q_lle (tgt := 26) hx hb dX6_addAhead_3 (by decide) hv (by decide) (fun c_3 => ?_) (fun c_3 => ?_)
  ·
    exact q_vret1 hC hW hr hlk0 ⟨rfl, fun q => (by rw [if_neg (fun x => by omega)]), fun _ _ => rfl⟩ dX6_addAhead_26
  ·
    have hix2 := hix (by omega)
    refine lv_aload_n hx hb dX6_addAhead_6 rfl (lv_at hl 0 rfl) ?_
    refine g_6_7 (x := 71) (y := 77) hC hW (by omega) kd_71 gw_490 (hlk 71 7 77 (by omega) rfl) dX6_addAhead_7 ?_
    refine q_bp 7 hx hb dX6_addAhead_10 (by decide) ?_
    refine lv_iload_n hx hb dX6_addAhead_12 rfl (lv_at hl 2 rfl) ?_
    refine q_imul hx hb dX6_addAhead_13 ?_
    refine lv_iload_n hx hb dX6_addAhead_14 rfl (lv_at hl 2 rfl) ?_
    refine lv_iload hx hb dX6_addAhead_15 (lv_at hl 3 rfl) ?_
    refine q_kI0 (q_rS (As := [.int (nI (t)), .int (nI (d))]) (rest := [.int (nI (7 * t)), .ref (ad 77)]) hC hW mw_X6_toldThen gw_598 (k_toldThen l G n ad s.heap.size I L R _ _ (by omega) (by omega)) ⟨rfl, rfl⟩ ⟨Nat.le_of_ble_eq_true rfl, Nat.le_of_ble_eq_true rfl⟩ ⟨(Nat.le_of_ble_eq_true rfl), (Nat.le_of_ble_eq_true rfl)⟩ hl.1 rfl rfl (Nat.le_of_ble_eq_true rfl) dX6_addAhead_17) hW (fun r_17 H locs hp hW => ?_)
    subst hp
    refine q_iadd hx hb dX6_addAhead_20 ?_
    refine lv_dup2_11 hx hb dX6_addAhead_21 rfl rfl ?_
    refine q_lald (x := 77) (i := (7 * t) + (nx t d)) hC hW (by omega) kd_77 (by omega) dX6_addAhead_22 ?_
    refine lv_lload_n hx hb dX6_addAhead_23 rfl (lv_at hl 1 rfl) ?_
    refine lv_ladd hx hb dX6_addAhead_24 ?_
    refine q_last (x := 77) (i := (7 * t) + (nx t d)) (v := (L 77 ((7 * t) + (nx t d))) + (lN v)) hC hW (by omega) kd_77 (by omega) dX6_addAhead_25 (fun H locs hW => ?_)
    exact q_vret1 hC hW hr hlk0 ⟨rfl, fun q => (by rw [up2_at]; by_cases e : q = 7 * t + nx t d; (rw [if_pos ⟨rfl, e⟩, if_pos ⟨e, by omega⟩, e]); rw [if_neg (fun x => e x.2), if_neg (fun x => e x.1)]), fun a ha => up2_ne ha⟩ dX6_addAhead_26
set_option maxRecDepth 100000 in
set_option maxHeartbeats 4000000 in
theorem k_spread (l : Launch) (G : Gx) (n : Nat) (ad : Nat → Nat) (sz : Nat) (I : Ic) (L : Lc) (R : Rc) (w : Nat → Nat) (K : Nat) (ro : Nat → Nat) (hn : 83 ≤ n) (hlk : LkOK n R) (hN : NwI (I 72) w K ro) (i d : Nat) (hi6 : i < 6) (hd6 : d ≤ 6) (hA : AS w ro K L d (fun _ => i))  : Met l yX6_spread (Cond.code yX6_spread cX6_spread 4 none :: GW) ({ frames := 2, cells := 0, slots := 0, locals := 72 } : Room) (qPre G n ad sz I L R [.ref (ad 71), .int (nI (i)), .int (nI (d))]) (qV1 G (qA n ad sz) n ad R (fun I1 L1 => I = I1 ∧ AS w ro K L1 d (fun _ => i + 1) ∧ ∀ a, a ≠ 77 → L1 a = L a)) 0 0 (qA n ad sz) := by
  refine q_met (by decide) (Nat.le_of_ble_eq_true rfl) ?_
  intro p_ e_ s m_ below meth c_ hC hr hlk0 hin hsz hW ls hl
  subst hsz
  have hC : CallFix p_ m_ c_ cX6_spread 4 s ([.ref (ad 71), .int (nI (i)), .int (nI (d))] : List Value).toArray GW "CoinRowsModel" := hC
  have hx := hC.1
  have hb := hC.2.1
  have hk6 : K ≤ 6 := hN.2.2.2.1
  have hw : Wok w := hN.2.2.2.2.1
  have hw3 : ∀ i, w i ≤ 3 := hw.1
  have hr4 : ∀ j, ro j < 4 := hN.2.2.2.2.2
  have hl : lv_has ls 4 [(0, .ref (ad 71)), (1, .int (nI (i))), (2, .int (nI (d)))] := hl
  refine q_ic 0 hx hb dX6_spread_0 (by decide) ?_
  refine lv_istore_n (lv' := [(3, .int (nI 0)), (0, .ref (ad 71)), (1, .int (nI (i))), (2, .int (nI (d)))]) hx hb dX6_spread_1 rfl hl (by decide) rfl (fun ls hl => ?_)
  have lp_2 : ∀ (fu_2 : Nat) (j1 : Nat) (L1 : Lc), 6 - j1 < fu_2 → (j1 ≤ 6) → (AS w ro K L1 d (cJ i j1)) → (∀ a, a ≠ 77 → L1 a = L a) → ∀ (H : Heap) (locs : List Loc), Wd G n ad I L1 R (qA n ad s.heap.size) s.heap H locs s → ∀ ls : Array Slot, lv_has ls 4 [(0, .ref (ad 71)), (1, .int (nI (i))), (2, .int (nI (d))), (3, .int (nI (j1)))] → W p_ l e_ ({ frames := 2, cells := 0, slots := 0, locals := 72 } : Room) s m_ ([.ref (ad 71), .int (nI (i)), .int (nI (d))] : List Value).toArray below meth c_ H locs 0 0 (MQ below (qV1 G (qA n ad s.heap.size) n ad R (fun I1 L1 => I = I1 ∧ AS w ro K L1 d (fun _ => i + 1) ∧ ∀ a, a ≠ 77 → L1 a = L a)) ([.ref (ad 71), .int (nI (i)), .int (nI (d))] : List Value).toArray s 0 0 (qA n ad s.heap.size)) (F0 m_ 2 ls []) := by
    intro fu_2
    induction fu_2 with
    | zero =>
      intro j1 L1 hm; exact absurd hm (Nat.not_lt_zero _)
    | succ fu_2 ih_2 =>
      intro j1 L1 hm_2 hj6 hA1 hF1 H locs hW ls hl
      refine lv_iload_n hx hb dX6_spread_2 rfl (lv_at hl 3 rfl) ?_
      refine q_bp 6 hx hb dX6_spread_3 (by decide) ?_
      refine q_cge (tgt := 45) hx hb dX6_spread_5 (by decide) (by first | omega | exact Nat.lt_of_le_of_lt (hw3 _) (by decide)) (by first | omega | exact Nat.lt_of_le_of_lt (hw3 _) (by decide)) (fun c_5 => ?_) (fun c_5 => ?_)
      ·
        exact q_vret1 hC hW hr hlk0 ⟨rfl, AS_c (fun t ht => by unfold cJ; rw [if_pos (by omega)]) hA1, hF1⟩ dX6_spread_45
      ·
        refine lv_aload_n hx hb dX6_spread_8 rfl (lv_at hl 0 rfl) ?_
        refine lv_aload_n hx hb dX6_spread_9 rfl (lv_at hl 0 rfl) ?_
        refine g_6_7 (x := 71) (y := 77) hC hW (by omega) kd_71 gw_490 (hlk 71 7 77 (by omega) rfl) dX6_spread_10 ?_
        refine q_bp 7 hx hb dX6_spread_13 (by decide) ?_
        refine lv_iload_n hx hb dX6_spread_15 rfl (lv_at hl 1 rfl) ?_
        refine q_imul hx hb dX6_spread_16 ?_
        refine lv_iload_n hx hb dX6_spread_17 rfl (lv_at hl 2 rfl) ?_
        refine q_iadd hx hb dX6_spread_18 ?_
        refine q_lald (x := 77) (i := (7 * i) + d) hC hW (by omega) kd_77 (by omega) dX6_spread_19 ?_
        refine q_top (v2 := .long (lN (Ah w ro K d i))) (congrArg _ (AS_rd hw hd6 hi6 hA1)) ?_
        refine lv_aload_n hx hb dX6_spread_20 rfl (lv_at hl 0 rfl) ?_
        refine lv_aload_n hx hb dX6_spread_21 rfl (lv_at hl 0 rfl) ?_
        refine lv_iload_n hx hb dX6_spread_22 rfl (lv_at hl 1 rfl) ?_
        refine lv_iload_n hx hb dX6_spread_23 rfl (lv_at hl 3 rfl) ?_
        refine q_kI0 (q_rV (As := [.int (nI (i)), .int (nI (j1))]) (rest := [.ref (ad 71), .long (lN (Ah w ro K d i)), .ref (ad 71)]) (x := 71) hC hW mw_X6_step gw_586 (k_step l G n ad H.size I L1 R _ _ (by omega) (by omega) w K ro hn hlk hN) (by omega) (ct_o6 kd_71) rfl ⟨rfl, rfl⟩ ⟨Nat.le_of_ble_eq_true rfl, Nat.le_of_ble_eq_true rfl⟩ ⟨(Nat.le_of_ble_eq_true rfl), (Nat.le_of_ble_eq_true rfl)⟩ hl.1 rfl rfl (Nat.le_of_ble_eq_true rfl) dX6_spread_24) hW (fun r_24 H locs hp hW => ?_)
        subst hp
        refine lv_iload_n hx hb dX6_spread_27 rfl (lv_at hl 3 rfl) ?_
        refine lv_iload_n hx hb dX6_spread_28 rfl (lv_at hl 2 rfl) ?_
        refine q_kI0 (q_rV (As := [.int (nI (w (i * 6 + j1))), .int (nI (j1)), .int (nI (d))]) (rest := [.long (lN (Ah w ro K d i)), .ref (ad 71)]) (x := 71) hC hW mw_X6_going gw_590 (k_going l G n ad H.size I L1 R _ _ _ (hw3 _) (by omega) (by omega) w K ro hn hlk hN) (by omega) (ct_o6 kd_71) rfl ⟨rfl, rfl⟩ ⟨Nat.le_of_ble_eq_true rfl, Nat.le_of_ble_eq_true rfl⟩ ⟨(Nat.le_of_ble_eq_true rfl), (Nat.le_of_ble_eq_true rfl)⟩ hl.1 rfl rfl (Nat.le_of_ble_eq_true rfl) dX6_spread_29) hW (fun r_29 H locs hp hW => ?_)
        subst hp
        refine q_top (v2 := .int (nI (mv w K ro i j1 d))) rfl ?_
        have hm9 := mv_le hw K ro i j1 d
        refine q_i2l hx hb dX6_spread_32 (by first | omega | exact Nat.lt_of_le_of_lt (hw3 _) (by decide)) ?_
        refine q_lmul hx hb dX6_spread_33 ?_
        refine lv_iload_n hx hb dX6_spread_34 rfl (lv_at hl 3 rfl) ?_
        refine lv_iload_n hx hb dX6_spread_35 rfl (lv_at hl 2 rfl) ?_
        refine q_kV1 (q_rV (As := [.long (lN ((Ah w ro K d i) * (mv w K ro i j1 d))), .int (nI (j1)), .int (nI (d))]) (rest := []) (x := 71) hC hW mw_X6_addAhead gw_610 (k_addAhead l G n ad H.size I L1 R _ _ _ (ah_63 hw ro hd6 hi6 hm9) (by omega) (by omega) (fun q => ix_lt hk6 hd6 (by omega) q) hn hlk) (by omega) (ct_o6 kd_71) rfl ⟨rfl, rfl⟩ ⟨Nat.le_of_ble_eq_true rfl, Nat.le_of_ble_eq_true rfl⟩ ⟨(Nat.le_of_ble_eq_true rfl), (Nat.le_of_ble_eq_true rfl)⟩ hl.1 rfl rfl (Nat.le_of_ble_eq_true rfl) dX6_spread_36) hW (fun I_36 L_36 H locs hp hW => ?_)
        obtain ⟨rfl, hAd_36⟩ := hp
        refine q_iinc (z2 := j1 + 1) (lv' := [(3, .int (nI (j1 + 1))), (0, .ref (ad 71)), (1, .int (nI (i))), (2, .int (nI (d)))]) hx hb dX6_spread_39 hl (k := 3) rfl (inc_up _ 1 (by decide)) (by decide) rfl (fun ls hl => ?_)
        refine lv_goto (tgt := 2) hx hb dX6_spread_42 (by decide) ?_
        exact ih_2 (j1 + 1) L_36 (by omega) (by omega) (AS_s hk6 hd6 (by omega) hA1 hAd_36) (fun a ha => (hAd_36.2 a ha).trans (hF1 a ha)) _ _ hW _ (lv_sub hl [1, 2, 3, 0] rfl)
  exact lp_2 (6 + 1) 0 L (by omega) (by omega) (AS_c (fun t ht => by unfold cJ; rw [if_neg (by omega)]) hA) (fun _ _ => rfl) _ _ hW _ (lv_sub hl [1, 2, 3, 0] rfl)
set_option maxRecDepth 100000 in
set_option maxHeartbeats 4000000 in
theorem k_layAh (l : Launch) (G : Gx) (n : Nat) (ad : Nat → Nat) (sz : Nat) (I : Ic) (L : Lc) (R : Rc)  (w : Nat → Nat) (K : Nat) (ro : Nat → Nat) (hn : 83 ≤ n) (hlk : LkOK n R) (hN : NwI (I 72) w K ro) : Met l yX6_layAhead (Cond.code yX6_layAhead cX6_layAhead 3 none :: GW) ({ frames := 3, cells := 0, slots := 0, locals := 108 } : Room) (qPre G n ad sz I L R [.ref (ad 71)]) (qV1 G (qA n ad sz) n ad R (fun I1 L1 => I = I1 ∧ AhI w ro K L1 ∧ ∀ a, a ≠ 77 → L1 a = L a)) 0 0 (qA n ad sz) := by
  refine q_met (by decide) (Nat.le_of_ble_eq_true rfl) ?_
  intro p_ e_ s m_ below meth c_ hC hr hlk0 hin hsz hW ls hl
  subst hsz
  have hC : CallFix p_ m_ c_ cX6_layAhead 3 s ([.ref (ad 71)] : List Value).toArray GW "CoinRowsModel" := hC
  have hx := hC.1
  have hb := hC.2.1
  have hk6 : K ≤ 6 := hN.2.2.2.1
  have hw : Wok w := hN.2.2.2.2.1
  have hw3 : ∀ i, w i ≤ 3 := hw.1
  have hr4 : ∀ j, ro j < 4 := hN.2.2.2.2.2
  have hl : lv_has ls 3 [(0, .ref (ad 71))] := hl
  refine q_ic 0 hx hb dX6_layAhead_0 (by decide) ?_
  refine lv_istore_n (lv' := [(1, .int (nI 0)), (0, .ref (ad 71))]) hx hb dX6_layAhead_1 rfl hl (by decide) rfl (fun ls hl => ?_)
  have lp_2 : ∀ (fu_2 : Nat) (k1 : Nat) (L1 : Lc), 42 - k1 < fu_2 → (k1 ≤ 42) → (∀ q, q < k1 → L1 77 q = lN 0) → (∀ a, a ≠ 77 → L1 a = L a) → ∀ (H : Heap) (locs : List Loc), Wd G n ad I L1 R (qA n ad s.heap.size) s.heap H locs s → ∀ ls : Array Slot, lv_has ls 3 [(0, .ref (ad 71)), (1, .int (nI (k1)))] → W p_ l e_ ({ frames := 3, cells := 0, slots := 0, locals := 108 } : Room) s m_ ([.ref (ad 71)] : List Value).toArray below meth c_ H locs 0 0 (MQ below (qV1 G (qA n ad s.heap.size) n ad R (fun I1 L1 => I = I1 ∧ AhI w ro K L1 ∧ ∀ a, a ≠ 77 → L1 a = L a)) ([.ref (ad 71)] : List Value).toArray s 0 0 (qA n ad s.heap.size)) (F0 m_ 2 ls []) := by
    intro fu_2
    induction fu_2 with
    | zero =>
      intro k1 L1 hm; exact absurd hm (Nat.not_lt_zero _)
    | succ fu_2 ih_2 =>
      intro k1 L1 hm_2 hk42 hZ hF H locs hW ls hl
      refine lv_iload_n hx hb dX6_layAhead_2 rfl (lv_at hl 1 rfl) ?_
      refine q_bp 42 hx hb dX6_layAhead_3 (by decide) ?_
      refine q_cge (tgt := 21) hx hb dX6_layAhead_5 (by decide) (by first | omega | exact Nat.lt_of_le_of_lt (hw3 _) (by decide)) (by first | omega | exact Nat.lt_of_le_of_lt (hw3 _) (by decide)) (fun c_5 => ?_) (fun c_5 => ?_)
      ·
        refine q_ic 0 hx hb dX6_layAhead_21 (by decide) ?_
        refine lv_istore_n (lv' := [(1, .int (nI 0)), (0, .ref (ad 71))]) hx hb dX6_layAhead_22 rfl hl (by decide) rfl (fun ls hl => ?_)
        have lp_23 : ∀ (fu_23 : Nat) (t1 : Nat) (L2 : Lc), 6 - t1 < fu_23 → (t1 ≤ 6) → (A0 w ro K L2 t1) → (∀ a, a ≠ 77 → L2 a = L a) → ∀ (H : Heap) (locs : List Loc), Wd G n ad I L2 R (qA n ad s.heap.size) s.heap H locs s → ∀ ls : Array Slot, lv_has ls 3 [(0, .ref (ad 71)), (1, .int (nI (t1)))] → W p_ l e_ ({ frames := 3, cells := 0, slots := 0, locals := 108 } : Room) s m_ ([.ref (ad 71)] : List Value).toArray below meth c_ H locs 0 0 (MQ below (qV1 G (qA n ad s.heap.size) n ad R (fun I1 L1 => I = I1 ∧ AhI w ro K L1 ∧ ∀ a, a ≠ 77 → L1 a = L a)) ([.ref (ad 71)] : List Value).toArray s 0 0 (qA n ad s.heap.size)) (F0 m_ 23 ls []) := by
          intro fu_23
          induction fu_23 with
          | zero =>
            intro t1 L2 hm; exact absurd hm (Nat.not_lt_zero _)
          | succ fu_23 ih_23 =>
            intro t1 L2 hm_23 ht6 hA0 hF2 H locs hW ls hl
            refine lv_iload_n hx hb dX6_layAhead_23 rfl (lv_at hl 1 rfl) ?_
            refine q_bp 6 hx hb dX6_layAhead_24 (by decide) ?_
            refine q_cge (tgt := 54) hx hb dX6_layAhead_26 (by decide) (by first | omega | exact Nat.lt_of_le_of_lt (hw3 _) (by decide)) (by first | omega | exact Nat.lt_of_le_of_lt (hw3 _) (by decide)) (fun c_26 => ?_) (fun c_26 => ?_)
            ·
              refine q_ic 0 hx hb dX6_layAhead_54 (by decide) ?_
              refine lv_istore_n (lv' := [(1, .int (nI 0)), (0, .ref (ad 71))]) hx hb dX6_layAhead_55 rfl hl (by decide) rfl (fun ls hl => ?_)
              have lp_56 : ∀ (fu_56 : Nat) (d1 : Nat) (L3 : Lc), 7 - d1 < fu_56 → (d1 ≤ 7) → (AS w ro K L3 d1 (fun _ => 0)) → (∀ a, a ≠ 77 → L3 a = L a) → ∀ (H : Heap) (locs : List Loc), Wd G n ad I L3 R (qA n ad s.heap.size) s.heap H locs s → ∀ ls : Array Slot, lv_has ls 3 [(0, .ref (ad 71)), (1, .int (nI (d1)))] → W p_ l e_ ({ frames := 3, cells := 0, slots := 0, locals := 108 } : Room) s m_ ([.ref (ad 71)] : List Value).toArray below meth c_ H locs 0 0 (MQ below (qV1 G (qA n ad s.heap.size) n ad R (fun I1 L1 => I = I1 ∧ AhI w ro K L1 ∧ ∀ a, a ≠ 77 → L1 a = L a)) ([.ref (ad 71)] : List Value).toArray s 0 0 (qA n ad s.heap.size)) (F0 m_ 56 ls []) := by
                intro fu_56
                induction fu_56 with
                | zero =>
                  intro d1 L3 hm; exact absurd hm (Nat.not_lt_zero _)
                | succ fu_56 ih_56 =>
                  intro d1 L3 hm_56 hd7 hA2 hF2 H locs hW ls hl
                  refine lv_iload_n hx hb dX6_layAhead_56 rfl (lv_at hl 1 rfl) ?_
                  refine q_bp 7 hx hb dX6_layAhead_57 (by decide) ?_
                  refine q_cge (tgt := 88) hx hb dX6_layAhead_59 (by decide) (by first | omega | exact Nat.lt_of_le_of_lt (hw3 _) (by decide)) (by first | omega | exact Nat.lt_of_le_of_lt (hw3 _) (by decide)) (fun c_59 => ?_) (fun c_59 => ?_)
                  ·
                    exact q_vret1 hC hW hr hlk0 (by have e7 : d1 = 7 := (by omega); subst e7; exact ⟨rfl, AS_e hk6 hA2, hF2⟩) dX6_layAhead_88
                  ·
                    refine q_ic 0 hx hb dX6_layAhead_62 (by decide) ?_
                    refine lv_istore_n (lv' := [(2, .int (nI 0)), (0, .ref (ad 71)), (1, .int (nI (d1)))]) hx hb dX6_layAhead_63 rfl hl (by decide) rfl (fun ls hl => ?_)
                    have lp_64 : ∀ (fu_64 : Nat) (i1 : Nat) (L4 : Lc), 6 - i1 < fu_64 → (i1 ≤ 6) → (AS w ro K L4 d1 (fun _ => i1)) → (∀ a, a ≠ 77 → L4 a = L a) → ∀ (H : Heap) (locs : List Loc), Wd G n ad I L4 R (qA n ad s.heap.size) s.heap H locs s → ∀ ls : Array Slot, lv_has ls 3 [(0, .ref (ad 71)), (1, .int (nI (d1))), (2, .int (nI (i1)))] → W p_ l e_ ({ frames := 3, cells := 0, slots := 0, locals := 108 } : Room) s m_ ([.ref (ad 71)] : List Value).toArray below meth c_ H locs 0 0 (MQ below (qV1 G (qA n ad s.heap.size) n ad R (fun I1 L1 => I = I1 ∧ AhI w ro K L1 ∧ ∀ a, a ≠ 77 → L1 a = L a)) ([.ref (ad 71)] : List Value).toArray s 0 0 (qA n ad s.heap.size)) (F0 m_ 64 ls []) := by
                      intro fu_64
                      induction fu_64 with
                      | zero =>
                        intro i1 L4 hm; exact absurd hm (Nat.not_lt_zero _)
                      | succ fu_64 ih_64 =>
                        intro i1 L4 hm_64 hi6 hA3 hF3 H locs hW ls hl
                        refine lv_iload_n hx hb dX6_layAhead_64 rfl (lv_at hl 2 rfl) ?_
                        refine q_bp 6 hx hb dX6_layAhead_65 (by decide) ?_
                        refine q_cge (tgt := 82) hx hb dX6_layAhead_67 (by decide) (by first | omega | exact Nat.lt_of_le_of_lt (hw3 _) (by decide)) (by first | omega | exact Nat.lt_of_le_of_lt (hw3 _) (by decide)) (fun c_67 => ?_) (fun c_67 => ?_)
                        ·
                          refine q_iinc (z2 := d1 + 1) (lv' := [(1, .int (nI (d1 + 1))), (0, .ref (ad 71)), (2, .int (nI (i1)))]) hx hb dX6_layAhead_82 hl (k := 1) rfl (inc_up _ 1 (by decide)) (by decide) rfl (fun ls hl => ?_)
                          refine lv_goto (tgt := 56) hx hb dX6_layAhead_85 (by decide) ?_
                          exact ih_56 (d1 + 1) L4 (by omega) (by omega) (AS_n hw (by have e6 : i1 = 6 := (by omega); subst e6; exact hA3) (by omega)) hF3 _ _ hW _ (lv_sub hl [1, 0] rfl)
                        ·
                          refine lv_aload_n hx hb dX6_layAhead_70 rfl (lv_at hl 0 rfl) ?_
                          refine lv_iload_n hx hb dX6_layAhead_71 rfl (lv_at hl 2 rfl) ?_
                          refine lv_iload_n hx hb dX6_layAhead_72 rfl (lv_at hl 1 rfl) ?_
                          refine q_kV1 (q_rV (As := [.int (nI (i1)), .int (nI (d1))]) (rest := []) (x := 71) hC hW mw_X6_spread gw_614 (k_spread l G n ad H.size I L4 R w K ro hn hlk hN i1 d1 (by omega) (by omega) hA3) (by omega) (ct_o6 kd_71) rfl ⟨rfl, rfl⟩ ⟨Nat.le_of_ble_eq_true rfl, Nat.le_of_ble_eq_true rfl⟩ ⟨(Nat.le_of_ble_eq_true rfl), (Nat.le_of_ble_eq_true rfl)⟩ hl.1 rfl rfl (Nat.le_of_ble_eq_true rfl) dX6_layAhead_73) hW (fun I_73 L_73 H locs hp hW => ?_)
                          obtain ⟨rfl, hAs_73, hFs_73⟩ := hp
                          refine q_iinc (z2 := i1 + 1) (lv' := [(2, .int (nI (i1 + 1))), (0, .ref (ad 71)), (1, .int (nI (d1)))]) hx hb dX6_layAhead_76 hl (k := 2) rfl (inc_up _ 1 (by decide)) (by decide) rfl (fun ls hl => ?_)
                          refine lv_goto (tgt := 64) hx hb dX6_layAhead_79 (by decide) ?_
                          exact ih_64 (i1 + 1) L_73 (by omega) (by omega) hAs_73 (fun a ha => (hFs_73 a ha).trans (hF3 a ha)) _ _ hW _ (lv_sub hl [1, 2, 0] rfl)
                    exact lp_64 (6 + 1) 0 L3 (by omega) (by omega) hA2 hF2 _ _ hW _ (lv_sub hl [1, 2, 0] rfl)
              exact lp_56 (7 + 1) 0 L2 (by omega) (by omega) (by have e6 : t1 = 6 := (by omega); subst e6; exact A0_e hA0) hF2 _ _ hW _ (lv_sub hl [1, 0] rfl)
            ·
              refine lv_aload_n hx hb dX6_layAhead_29 rfl (lv_at hl 0 rfl) ?_
              refine lv_aload_n hx hb dX6_layAhead_30 rfl (lv_at hl 0 rfl) ?_
              refine lv_aload_n hx hb dX6_layAhead_31 rfl (lv_at hl 0 rfl) ?_
              refine g_6_0 (x := 71) (y := 72) hC hW (by omega) kd_71 gw_483 (hlk 71 0 72 (by omega) rfl) dX6_layAhead_32 ?_
              refine lv_iload_n hx hb dX6_layAhead_35 rfl (lv_at hl 1 rfl) ?_
              refine q_iald (x := 72) (i := t1) hC hW (by omega) kd_72 (by omega) dX6_layAhead_36 ?_
              refine q_top (v2 := .int (nI (w (6 * 6 + t1)))) (congrArg _ ((hN.1 _ (by omega)).trans (congrArg nI (rwt_b w (by omega))))) ?_
              refine lv_iload_n hx hb dX6_layAhead_37 rfl (lv_at hl 1 rfl) ?_
              refine q_ic 0 hx hb dX6_layAhead_38 (by decide) ?_
              refine q_kI0 (q_rV (As := [.int (nI (w (6 * 6 + t1))), .int (nI (t1)), .int (nI 0)]) (rest := [.ref (ad 71)]) (x := 71) hC hW mw_X6_going gw_590 (k_going l G n ad H.size I L2 R _ _ _ (hw3 _) (by omega) (by omega) w K ro hn hlk hN) (by omega) (ct_o6 kd_71) rfl ⟨rfl, rfl⟩ ⟨Nat.le_of_ble_eq_true rfl, Nat.le_of_ble_eq_true rfl⟩ ⟨(Nat.le_of_ble_eq_true rfl), (Nat.le_of_ble_eq_true rfl)⟩ hl.1 rfl rfl (Nat.le_of_ble_eq_true rfl) dX6_layAhead_39) hW (fun r_39 H locs hp hW => ?_)
              subst hp
              refine q_top (v2 := .int (nI (mv w K ro 6 t1 0))) rfl ?_
              have hm9 := mv_le hw K ro 6 t1 0
              refine q_i2l hx hb dX6_layAhead_42 (by first | omega | exact Nat.lt_of_le_of_lt (hw3 _) (by decide)) ?_
              refine lv_iload_n hx hb dX6_layAhead_43 rfl (lv_at hl 1 rfl) ?_
              refine q_ic 0 hx hb dX6_layAhead_44 (by decide) ?_
              refine q_kV1 (q_rV (As := [.long (lN (mv w K ro 6 t1 0)), .int (nI (t1)), .int (nI 0)]) (rest := []) (x := 71) hC hW mw_X6_addAhead gw_610 (k_addAhead l G n ad H.size I L2 R _ _ _ (by omega) (by omega) (by omega) (fun q => ix_lt (w := w) (K := K) (r := ro) (i := 6) (x := 1) hk6 (by omega) (by omega) (by omega)) hn hlk) (by omega) (ct_o6 kd_71) rfl ⟨rfl, rfl⟩ ⟨Nat.le_of_ble_eq_true rfl, Nat.le_of_ble_eq_true rfl⟩ ⟨(Nat.le_of_ble_eq_true rfl), (Nat.le_of_ble_eq_true rfl)⟩ hl.1 rfl rfl (Nat.le_of_ble_eq_true rfl) dX6_layAhead_45) hW (fun I_45 L_45 H locs hp hW => ?_)
              obtain ⟨rfl, hAd_45⟩ := hp
              refine q_iinc (z2 := t1 + 1) (lv' := [(1, .int (nI (t1 + 1))), (0, .ref (ad 71))]) hx hb dX6_layAhead_48 hl (k := 1) rfl (inc_up _ 1 (by decide)) (by decide) rfl (fun ls hl => ?_)
              refine lv_goto (tgt := 23) hx hb dX6_layAhead_51 (by decide) ?_
              exact ih_23 (t1 + 1) L_45 (by omega) (by omega) (A0_s hA0 hAd_45) (fun a ha => (hAd_45.2 a ha).trans (hF2 a ha)) _ _ hW _ (lv_sub hl [1, 0] rfl)
        exact lp_23 (6 + 1) 0 L1 (by omega) (by omega) (fun t d ht hd => by rw [hZ _ (by omega), if_neg (by omega)]) hF _ _ hW _ (lv_sub hl [1, 0] rfl)
      ·
        refine lv_aload_n hx hb dX6_layAhead_8 rfl (lv_at hl 0 rfl) ?_
        refine g_6_7 (x := 71) (y := 77) hC hW (by omega) kd_71 gw_490 (hlk 71 7 77 (by omega) rfl) dX6_layAhead_9 ?_
        refine lv_iload_n hx hb dX6_layAhead_12 rfl (lv_at hl 1 rfl) ?_
        refine q_lc 0 hx hb dX6_layAhead_13 (by decide) ?_
        refine q_last (x := 77) (i := k1) (v := lN 0) hC hW (by omega) kd_77 (by omega) dX6_layAhead_14 (fun H locs hW => ?_)
        refine q_iinc (z2 := k1 + 1) (lv' := [(1, .int (nI (k1 + 1))), (0, .ref (ad 71))]) hx hb dX6_layAhead_15 hl (k := 1) rfl (inc_up _ 1 (by decide)) (by decide) rfl (fun ls hl => ?_)
        refine lv_goto (tgt := 2) hx hb dX6_layAhead_18 (by decide) ?_
        exact ih_2 (k1 + 1) (up2 L1 77 k1 (lN 0)) (by omega) (by omega) (fun q hq => by rw [up2_at]; by_cases e : q = k1; (rw [if_pos ⟨rfl, e⟩]); rw [if_neg (fun x => e x.2)]; exact hZ q (by omega)) (fun a ha => by rw [up2_ne ha]; exact hF a ha) _ _ hW _ (lv_sub hl [1, 0] rfl)
  exact lp_2 (42 + 1) 0 L (by omega) (by omega) (fun q hq => absurd hq (by omega)) (fun _ _ => rfl) _ _ hW _ (lv_sub hl [1, 0] rfl)
