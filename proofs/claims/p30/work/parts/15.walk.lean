set_option maxRecDepth 100000 in
set_option maxHeartbeats 4000000 in
theorem k_rtN (l : Launch) (G : Gx) (n : Nat) (ad : Nat → Nat) (sz : Nat) (I : Ic) (L : Lc) (R : Rc) (d f t : Nat) (w : Nat → Nat) (K : Nat) (ro : Nat → Nat) (hn : 71 ≤ n) (hlk : LkOK n R) (hM : MdI I w K ro) (hMs : Meas w ro K I L) (hd : d < K) (hf : f ≤ 6) (ht : t < 6) : Met l yX4_restsThrough (Cond.code yX4_restsThrough cX4_restsThrough 6 (some .int) :: GW) ({ frames := 2, cells := 0, slots := 0, locals := 72 } : Room) (qPre G n ad sz I L R [.ref (ad 1), .ref (ad 8), .int (nI (d)), .int (nI (f)), .int (nI (t))]) (qI0 G (qA n ad sz) (n, ad, I, L, R) (fun z => z = nI (rtN w ro K d f t))) 0 0 (qA n ad sz) := by
  refine q_met (by decide) (Nat.le_of_ble_eq_true rfl) ?_
  intro p_ e_ s m_ below meth c_ hC hr hlk0 hin hsz hW ls hl
  subst hsz
  have hC : CallFix p_ m_ c_ cX4_restsThrough 6 s ([.ref (ad 1), .ref (ad 8), .int (nI (d)), .int (nI (f)), .int (nI (t))] : List Value).toArray GW "CoinRows$Walk" := hC
  have hx := hC.1
  have hb := hC.2.1
  have hk6 : K ≤ 6 := hM.2.2.2.1
  have hw3 : ∀ i, w i ≤ 3 := hM.2.2.2.2.1.1
  have hr4 : ∀ j, ro j < 4 := hM.2.2.2.2.2
  have hmv := mv_le hM.2.2.2.2.1 K ro f t d
  have hl : lv_has ls 6 [(0, .ref (ad 1)), (1, .ref (ad 8)), (2, .int (nI (d))), (3, .int (nI (f))), (4, .int (nI (t)))] := hl
  refine lv_iload hx hb dX4_restsThrough_0 (lv_at hl 4 rfl) ?_
  refine q_ic 4 hx hb dX4_restsThrough_2 (by decide) ?_
  refine q_cge (tgt := 12) hx hb dX4_restsThrough_3 (by decide) (by first | omega | exact Nat.lt_of_le_of_lt (hw3 _) (by decide)) (by first | omega | exact Nat.lt_of_le_of_lt (hw3 _) (by decide)) (fun c_3 => ?_) (fun c_3 => ?_)
  ·
    refine lv_iload_n hx hb dX4_restsThrough_12 rfl (lv_at hl 2 rfl) ?_
    refine lv_istore (lv' := [(5, .int (nI (d))), (0, .ref (ad 1)), (1, .ref (ad 8)), (2, .int (nI (d))), (3, .int (nI (f))), (4, .int (nI (t)))]) hx hb dX4_restsThrough_13 hl (by decide) rfl (fun ls hl => ?_)
    refine lv_aload_n hx hb dX4_restsThrough_15 rfl (lv_at hl 1 rfl) ?_
    refine lv_iload_n hx hb dX4_restsThrough_16 rfl (lv_at hl 4 rfl) ?_
    refine lv_iload hx hb dX4_restsThrough_17 (lv_at hl 5 rfl) ?_
    refine lv_iload_n hx hb dX4_restsThrough_19 rfl (lv_at hl 3 rfl) ?_
    refine q_kI0 (q_rV (As := [.int (nI (f)), .int (nI (t)), .int (nI (d))]) (rest := []) (x := 1) hC hW mw_X0_moveWeight gw_330 (k_moveWeight l G n ad s.heap.size I L R _ _ _ w K ro hn hlk hM (by omega) (by omega) (by omega)) (by omega) (ct_o0 kd_1) rfl ⟨rfl, rfl⟩ ⟨Nat.le_of_ble_eq_true rfl, Nat.le_of_ble_eq_true rfl⟩ ⟨(Nat.le_of_ble_eq_true rfl), (Nat.le_of_ble_eq_true rfl)⟩ hl.1 rfl rfl (Nat.le_of_ble_eq_true rfl) dX4_restsThrough_20) hW (fun r_20 H locs hp hW => ?_)
    subst hp
    refine q_ile (tgt := 39) hx hb dX4_restsThrough_23 (by decide) (by first | omega | exact Nat.lt_of_le_of_lt (hw3 _) (by decide)) (fun c_23 => ?_) (fun c_23 => ?_)
    ·
      refine q_ic 0 hx hb dX4_restsThrough_39 (by decide) ?_
      exact q_iret0 hC hW hr hlk0 (by unfold rtN; rw [if_neg (by omega)]) dX4_restsThrough_40
    ·
      refine lv_aload_n hx hb dX4_restsThrough_26 rfl (lv_at hl 2 rfl) ?_
      refine g_2_4 (x := 8) (y := 41) hC hW (by omega) kd_8 gw_81 (hlk 8 4 41 (by omega) rfl) dX4_restsThrough_27 ?_
      refine lv_iload hx hb dX4_restsThrough_30 (lv_at hl 0 rfl) ?_
      refine q_aald6 (x := 41) (i := d) (y := 42 + d) hC hW (by omega) kd_41 (by omega) (lk_row41 hlk (by omega) (by omega)) dX4_restsThrough_32 ?_
      refine lv_iload hx hb dX4_restsThrough_33 (lv_at hl 5 rfl) ?_
      refine q_iald (x := (42 + d)) (i := t) hC hW (by omega) (kd_r42 (by omega)) (by omega) dX4_restsThrough_35 ?_
      refine q_top (v2 := .int (nI (Cx' w K ro (K - d) t))) (congrArg _ (hMs.2.2.1 d t (by omega) (by omega)).2.2) ?_
      refine lv_goto (tgt := 40) hx hb dX4_restsThrough_36 (by decide) ?_
      exact q_iret0 hC hW hr hlk0 (by unfold rtN nx; rw [if_pos (by omega), if_neg (show ¬ t < 4 by omega)]) dX4_restsThrough_40
  ·
    refine lv_iload_n hx hb dX4_restsThrough_6 rfl (lv_at hl 2 rfl) ?_
    refine q_ic 1 hx hb dX4_restsThrough_7 (by decide) ?_
    refine q_iadd hx hb dX4_restsThrough_8 ?_
    refine lv_goto (tgt := 13) hx hb dX4_restsThrough_9 (by decide) ?_
    refine lv_istore (lv' := [(5, .int (nI (d + 1))), (0, .ref (ad 1)), (1, .ref (ad 8)), (2, .int (nI (d))), (3, .int (nI (f))), (4, .int (nI (t)))]) hx hb dX4_restsThrough_13 hl (by decide) rfl (fun ls hl => ?_)
    refine lv_aload_n hx hb dX4_restsThrough_15 rfl (lv_at hl 1 rfl) ?_
    refine lv_iload_n hx hb dX4_restsThrough_16 rfl (lv_at hl 4 rfl) ?_
    refine lv_iload hx hb dX4_restsThrough_17 (lv_at hl 5 rfl) ?_
    refine lv_iload_n hx hb dX4_restsThrough_19 rfl (lv_at hl 3 rfl) ?_
    refine q_kI0 (q_rV (As := [.int (nI (f)), .int (nI (t)), .int (nI (d))]) (rest := []) (x := 1) hC hW mw_X0_moveWeight gw_330 (k_moveWeight l G n ad s.heap.size I L R _ _ _ w K ro hn hlk hM (by omega) (by omega) (by omega)) (by omega) (ct_o0 kd_1) rfl ⟨rfl, rfl⟩ ⟨Nat.le_of_ble_eq_true rfl, Nat.le_of_ble_eq_true rfl⟩ ⟨(Nat.le_of_ble_eq_true rfl), (Nat.le_of_ble_eq_true rfl)⟩ hl.1 rfl rfl (Nat.le_of_ble_eq_true rfl) dX4_restsThrough_20) hW (fun r_20 H locs hp hW => ?_)
    subst hp
    refine q_ile (tgt := 39) hx hb dX4_restsThrough_23 (by decide) (by first | omega | exact Nat.lt_of_le_of_lt (hw3 _) (by decide)) (fun c_23 => ?_) (fun c_23 => ?_)
    ·
      refine q_ic 0 hx hb dX4_restsThrough_39 (by decide) ?_
      exact q_iret0 hC hW hr hlk0 (by unfold rtN; rw [if_neg (by omega)]) dX4_restsThrough_40
    ·
      refine lv_aload_n hx hb dX4_restsThrough_26 rfl (lv_at hl 2 rfl) ?_
      refine g_2_4 (x := 8) (y := 41) hC hW (by omega) kd_8 gw_81 (hlk 8 4 41 (by omega) rfl) dX4_restsThrough_27 ?_
      refine lv_iload hx hb dX4_restsThrough_30 (lv_at hl 0 rfl) ?_
      refine q_aald6 (x := 41) (i := d + 1) (y := 42 + (d + 1)) hC hW (by omega) kd_41 (by omega) (lk_row41 hlk (by omega) (by omega)) dX4_restsThrough_32 ?_
      refine lv_iload hx hb dX4_restsThrough_33 (lv_at hl 5 rfl) ?_
      refine q_iald (x := (42 + (d + 1))) (i := t) hC hW (by omega) (kd_r42 (by omega)) (by omega) dX4_restsThrough_35 ?_
      refine q_top (v2 := .int (nI (Cx' w K ro (K - (d + 1)) t))) (congrArg _ (hMs.2.2.1 (d + 1) t (by omega) (by omega)).2.2) ?_
      refine lv_goto (tgt := 40) hx hb dX4_restsThrough_36 (by decide) ?_
      exact q_iret0 hC hW hr hlk0 (by unfold rtN nx; rw [if_pos (by omega), if_pos (show t < 4 by omega)]) dX4_restsThrough_40
set_option maxRecDepth 100000 in
set_option maxHeartbeats 4000000 in
theorem k_chB (l : Launch) (G : Gx) (n : Nat) (ad : Nat → Nat) (sz : Nat) (I : Ic) (L : Lc) (R : Rc) (d f q : Nat) (w : Nat → Nat) (K : Nat) (ro : Nat → Nat) (hn : 71 ≤ n) (hlk : LkOK n R) (hM : MdI I w K ro) (hMs : Meas w ro K I L) (hd : d < K) (hf : f ≤ 6) (hq : q < Cx' w K ro (K - d) f) : Met l yX4_chooseByNumber (Cond.code yX4_chooseByNumber cX4_chooseByNumber 8 (some .int) :: GW) ({ frames := 3, cells := 0, slots := 0, locals := 108 } : Room) (qPre G n ad sz I L R [.ref (ad 49), .ref (ad 1), .ref (ad 8), .int (nI (d)), .int (nI (f)), .int (nI (q))]) (qI1 G (qA n ad sz) n ad R (fun z I1 L1 => ∃ t, t < 6 ∧ z = nI t ∧ I1 = up2 I 49 3 (nI (fC w ro K d f t)) ∧ L = L1 ∧ fC w ro K d f t ≤ q ∧ (t < 5 → q < fC w ro K d f (t + 1)))) 0 0 (qA n ad sz) := by
  refine q_met (by decide) (Nat.le_of_ble_eq_true rfl) ?_
  intro p_ e_ s m_ below meth c_ hC hr hlk0 hin hsz hW ls hl
  subst hsz
  have hC : CallFix p_ m_ c_ cX4_chooseByNumber 8 s ([.ref (ad 49), .ref (ad 1), .ref (ad 8), .int (nI (d)), .int (nI (f)), .int (nI (q))] : List Value).toArray GW "CoinRows$Walk" := hC
  have hx := hC.1
  have hb := hC.2.1
  have hk6 : K ≤ 6 := hM.2.2.2.1
  have hw3 : ∀ i, w i ≤ 3 := hM.2.2.2.2.1.1
  have hr4 : ∀ j, ro j < 4 := hM.2.2.2.2.2
  have hCb := Cx_b hM.2.2.2.2.1 (r := ro) K (K - d) f (by omega)
  have hl : lv_has ls 8 [(0, .ref (ad 49)), (1, .ref (ad 1)), (2, .ref (ad 8)), (3, .int (nI (d))), (4, .int (nI (f))), (5, .int (nI (q)))] := hl
  refine lv_aload_n hx hb dX4_chooseByNumber_0 rfl (lv_at hl 0 rfl) ?_
  refine q_ic 0 hx hb dX4_chooseByNumber_1 (by decide) ?_
  refine p_4_3 (x := 49) (v := nI 0) hC hW (by omega) kd_49 gw_104 dX4_chooseByNumber_2 (fun H locs hW => ?_)
  refine q_ic 0 hx hb dX4_chooseByNumber_5 (by decide) ?_
  refine lv_istore (lv' := [(6, .int (nI 0)), (0, .ref (ad 49)), (1, .ref (ad 1)), (2, .ref (ad 8)), (3, .int (nI (d))), (4, .int (nI (f))), (5, .int (nI (q)))]) hx hb dX4_chooseByNumber_6 hl (by decide) rfl (fun ls hl => ?_)
  have lp_8 : ∀ (fu_8 : Nat) (i : Nat), 5 - i < fu_8 → (i ≤ 5) → (fC w ro K d f i ≤ q) → ∀ (H : Heap) (locs : List Loc), Wd G n ad (up2 I 49 3 (nI (fC w ro K d f i))) L R (qA n ad s.heap.size) s.heap H locs s → ∀ ls : Array Slot, lv_has ls 8 [(0, .ref (ad 49)), (1, .ref (ad 1)), (2, .ref (ad 8)), (3, .int (nI (d))), (4, .int (nI (f))), (5, .int (nI (q))), (6, .int (nI (i)))] → W p_ l e_ ({ frames := 3, cells := 0, slots := 0, locals := 108 } : Room) s m_ ([.ref (ad 49), .ref (ad 1), .ref (ad 8), .int (nI (d)), .int (nI (f)), .int (nI (q))] : List Value).toArray below meth c_ H locs 0 0 (MQ below (qI1 G (qA n ad s.heap.size) n ad R (fun z I1 L1 => ∃ t, t < 6 ∧ z = nI t ∧ I1 = up2 I 49 3 (nI (fC w ro K d f t)) ∧ L = L1 ∧ fC w ro K d f t ≤ q ∧ (t < 5 → q < fC w ro K d f (t + 1)))) ([.ref (ad 49), .ref (ad 1), .ref (ad 8), .int (nI (d)), .int (nI (f)), .int (nI (q))] : List Value).toArray s 0 0 (qA n ad s.heap.size)) (F0 m_ 8 ls []) := by
    intro fu_8
    induction fu_8 with
    | zero =>
      intro i hm; exact absurd hm (Nat.not_lt_zero _)
    | succ fu_8 ih_8 =>
      intro i hm_8 hi hc H locs hW ls hl
      have hM1 : MdI (up2 I 49 3 (nI (fC w ro K d f i))) w K ro := MdI_lo hM (fun a ha => up2_ne (by omega))
      have hMs1 : Meas w ro K (up2 I 49 3 (nI (fC w ro K d f i))) L := Meas_lo hMs hk6 (fun a ha => up2_ne (by omega)) (fun _ _ => rfl)
      have hfb := fC_b hM.2.2.2.2.1 (r := ro) (d := d) (f := f) hk6 i
      have hrb := rtN_b hM.2.2.2.2.1 (r := ro) (d := d) (f := f) (t := i) hk6
      refine lv_iload hx hb dX4_chooseByNumber_8 (lv_at hl 6 rfl) ?_
      refine q_ic 5 hx hb dX4_chooseByNumber_10 (by decide) ?_
      refine q_cge (tgt := 58) hx hb dX4_chooseByNumber_11 (by decide) (by first | omega | exact Nat.lt_of_le_of_lt (hw3 _) (by decide)) (by first | omega | exact Nat.lt_of_le_of_lt (hw3 _) (by decide)) (fun c_11 => ?_) (fun c_11 => ?_)
      ·
        refine q_ic 5 hx hb dX4_chooseByNumber_58 (by decide) ?_
        exact q_iret1 hC hW hr hlk0 ⟨5, by decide, rfl, by rw [show i = 5 by omega], rfl, by rw [show (5 : Nat) = i by omega]; exact hc, fun h => absurd h (by decide)⟩ dX4_chooseByNumber_59
      ·
        refine lv_aload_n hx hb dX4_chooseByNumber_14 rfl (lv_at hl 1 rfl) ?_
        refine lv_aload_n hx hb dX4_chooseByNumber_15 rfl (lv_at hl 2 rfl) ?_
        refine lv_iload_n hx hb dX4_chooseByNumber_16 rfl (lv_at hl 3 rfl) ?_
        refine lv_iload hx hb dX4_chooseByNumber_17 (lv_at hl 4 rfl) ?_
        refine lv_iload hx hb dX4_chooseByNumber_19 (lv_at hl 6 rfl) ?_
        refine q_kI0 (q_rS (As := [.ref (ad 1), .ref (ad 8), .int (nI (d)), .int (nI (f)), .int (nI (i))]) (rest := []) hC hW mw_X4_restsThrough gw_327 (k_rtN l G n ad H.size (up2 I 49 3 (nI (fC w ro K d f i))) L R _ _ _ w K ro hn hlk hM1 hMs1 (by omega) (by omega) (by omega)) ⟨rfl, rfl⟩ ⟨Nat.le_of_ble_eq_true rfl, Nat.le_of_ble_eq_true rfl⟩ ⟨(Nat.le_of_ble_eq_true rfl), (Nat.le_of_ble_eq_true rfl)⟩ hl.1 rfl rfl (Nat.le_of_ble_eq_true rfl) dX4_chooseByNumber_21) hW (fun r_21 H locs hp hW => ?_)
        subst hp
        refine lv_istore (lv' := [(7, .int (nI (rtN w ro K d f i))), (0, .ref (ad 49)), (1, .ref (ad 1)), (2, .ref (ad 8)), (3, .int (nI (d))), (4, .int (nI (f))), (5, .int (nI (q))), (6, .int (nI (i)))]) hx hb dX4_chooseByNumber_24 hl (by decide) rfl (fun ls hl => ?_)
        refine lv_iload hx hb dX4_chooseByNumber_26 (lv_at hl 6 rfl) ?_
        refine lv_aload_n hx hb dX4_chooseByNumber_28 rfl (lv_at hl 1 rfl) ?_
        refine g_4_3 (x := 49) hC hW (by omega) kd_49 gw_104 dX4_chooseByNumber_29 ?_
        refine q_top (v2 := .int (nI (fC w ro K d f i))) (congrArg _ (by rw [up2_at, if_pos ⟨rfl, rfl⟩])) ?_
        refine lv_iload hx hb dX4_chooseByNumber_32 (lv_at hl 0 rfl) ?_
        refine q_iadd hx hb dX4_chooseByNumber_34 ?_
        refine q_cge (tgt := 41) hx hb dX4_chooseByNumber_35 (by decide) (by first | omega | exact Nat.lt_of_le_of_lt (hw3 _) (by decide)) (by first | omega | exact Nat.lt_of_le_of_lt (hw3 _) (by decide)) (fun c_35 => ?_) (fun c_35 => ?_)
        ·
          refine lv_aload_n hx hb dX4_chooseByNumber_41 rfl (lv_at hl 1 rfl) ?_
          refine lv_dup hx hb dX4_chooseByNumber_42 rfl ?_
          refine g_4_3 (x := 49) hC hW (by omega) kd_49 gw_104 dX4_chooseByNumber_43 ?_
          refine q_top (v2 := .int (nI (fC w ro K d f i))) (congrArg _ (by rw [up2_at, if_pos ⟨rfl, rfl⟩])) ?_
          refine lv_iload hx hb dX4_chooseByNumber_46 (lv_at hl 0 rfl) ?_
          refine q_iadd hx hb dX4_chooseByNumber_48 ?_
          refine p_4_3 (x := 49) (v := nI ((fC w ro K d f i) + (rtN w ro K d f i))) hC hW (by omega) kd_49 gw_104 dX4_chooseByNumber_49 (fun H locs hW => ?_)
          refine q_iinc (z2 := i + 1) (lv' := [(6, .int (nI (i + 1))), (7, .int (nI (rtN w ro K d f i))), (0, .ref (ad 49)), (1, .ref (ad 1)), (2, .ref (ad 8)), (3, .int (nI (d))), (4, .int (nI (f))), (5, .int (nI (q)))]) hx hb dX4_chooseByNumber_52 hl (k := 7) rfl (inc_up _ 1 (by decide)) (by decide) rfl (fun ls hl => ?_)
          refine lv_goto (tgt := 8) hx hb dX4_chooseByNumber_55 (by decide) ?_
          rw [up2_up2, ← fC_s] at hW
          exact ih_8 (i + 1) (by omega) (by omega) (by rw [fC_s]; omega) _ _ hW _ (lv_sub hl [2, 3, 4, 5, 6, 7, 0] rfl)
        ·
          refine lv_iload hx hb dX4_chooseByNumber_38 (lv_at hl 7 rfl) ?_
          exact q_iret1 hC hW hr hlk0 ⟨i, by omega, rfl, rfl, rfl, hc, fun _ => by rw [fC_s]; exact c_35⟩ dX4_chooseByNumber_40
  exact lp_8 (5 + 1) 0 (by omega) (by omega) (Nat.zero_le _) _ _ hW _ (lv_sub hl [1, 2, 3, 4, 5, 6, 0] rfl)
set_option maxRecDepth 100000 in
set_option maxHeartbeats 4000000 in
theorem k_chM (l : Launch) (G : Gx) (n : Nat) (ad : Nat → Nat) (sz : Nat) (I : Ic) (L : Lc) (R : Rc) (d f : Nat) (w : Nat → Nat) (K : Nat) (ro : Nat → Nat) (hn : 71 ≤ n) (hlk : LkOK n R) (hM : MdI I w K ro) (hMs : Meas w ro K I L) (hd : d < K) (hf : f ≤ 6) : Met l yX4_chooseBest (Cond.code yX4_chooseBest cX4_chooseBest 10 (some .int) :: GW) ({ frames := 3, cells := 0, slots := 0, locals := 108 } : Room) (qPre G n ad sz I L R [.ref (ad 49), .ref (ad 1), .ref (ad 8), .int (nI (d)), .int (nI (f))]) (qI1 G (qA n ad sz) n ad R (fun z I1 L1 => ∃ t, t < 6 ∧ z = nI t ∧ I1 = up2 I 49 3 (nI (fC w ro K d f t)) ∧ L = L1 ∧ (∀ i, i < t → ¬ okM w ro K d f i = true) ∧ (t < 5 → okM w ro K d f t = true))) 0 0 (qA n ad sz) := by
  refine q_met (by decide) (Nat.le_of_ble_eq_true rfl) ?_
  intro p_ e_ s m_ below meth c_ hC hr hlk0 hin hsz hW ls hl
  subst hsz
  have hC : CallFix p_ m_ c_ cX4_chooseBest 10 s ([.ref (ad 49), .ref (ad 1), .ref (ad 8), .int (nI (d)), .int (nI (f))] : List Value).toArray GW "CoinRows$Walk" := hC
  have hx := hC.1
  have hb := hC.2.1
  have hk6 : K ≤ 6 := hM.2.2.2.1
  have hw3 : ∀ i, w i ≤ 3 := hM.2.2.2.2.1.1
  have hr4 : ∀ j, ro j < 4 := hM.2.2.2.2.2
  have hl : lv_has ls 10 [(0, .ref (ad 49)), (1, .ref (ad 1)), (2, .ref (ad 8)), (3, .int (nI (d))), (4, .int (nI (f)))] := hl
  refine lv_aload_n hx hb dX4_chooseBest_0 rfl (lv_at hl 0 rfl) ?_
  refine q_ic 0 hx hb dX4_chooseBest_1 (by decide) ?_
  refine p_4_3 (x := 49) (v := nI 0) hC hW (by omega) kd_49 gw_104 dX4_chooseBest_2 (fun H locs hW => ?_)
  refine q_ic 0 hx hb dX4_chooseBest_5 (by decide) ?_
  refine lv_istore (lv' := [(5, .int (nI 0)), (0, .ref (ad 49)), (1, .ref (ad 1)), (2, .ref (ad 8)), (3, .int (nI (d))), (4, .int (nI (f)))]) hx hb dX4_chooseBest_6 hl (by decide) rfl (fun ls hl => ?_)
  have lp_8 : ∀ (fu_8 : Nat) (i : Nat), 5 - i < fu_8 → (i ≤ 5) → (∀ j, j < i → ¬ okM w ro K d f j = true) → ∀ (H : Heap) (locs : List Loc), Wd G n ad (up2 I 49 3 (nI (fC w ro K d f i))) L R (qA n ad s.heap.size) s.heap H locs s → ∀ ls : Array Slot, lv_has ls 10 [(0, .ref (ad 49)), (1, .ref (ad 1)), (2, .ref (ad 8)), (3, .int (nI (d))), (4, .int (nI (f))), (5, .int (nI (i)))] → W p_ l e_ ({ frames := 3, cells := 0, slots := 0, locals := 108 } : Room) s m_ ([.ref (ad 49), .ref (ad 1), .ref (ad 8), .int (nI (d)), .int (nI (f))] : List Value).toArray below meth c_ H locs 0 0 (MQ below (qI1 G (qA n ad s.heap.size) n ad R (fun z I1 L1 => ∃ t, t < 6 ∧ z = nI t ∧ I1 = up2 I 49 3 (nI (fC w ro K d f t)) ∧ L = L1 ∧ (∀ i, i < t → ¬ okM w ro K d f i = true) ∧ (t < 5 → okM w ro K d f t = true))) ([.ref (ad 49), .ref (ad 1), .ref (ad 8), .int (nI (d)), .int (nI (f))] : List Value).toArray s 0 0 (qA n ad s.heap.size)) (F0 m_ 8 ls []) := by
    intro fu_8
    induction fu_8 with
    | zero =>
      intro i hm; exact absurd hm (Nat.not_lt_zero _)
    | succ fu_8 ih_8 =>
      intro i hm_8 hi hno H locs hW ls hl
      have hM1 : MdI (up2 I 49 3 (nI (fC w ro K d f i))) w K ro := MdI_lo hM (fun a ha => up2_ne (by omega))
      have hMs1 : Meas w ro K (up2 I 49 3 (nI (fC w ro K d f i))) L := Meas_lo hMs hk6 (fun a ha => up2_ne (by omega)) (fun _ _ => rfl)
      have hmv := mv_le hM.2.2.2.2.1 K ro f i d
      have hrb := rtN_b hM.2.2.2.2.1 (r := ro) (d := d) (f := f) (t := i) hk6
      have hb1 := mM_lt hM.2.2.2.2.1 (r := ro) K d f i hk6
      have hb2 : Mx' w K ro (K - d) f < 2 ^ 63 := Nat.lt_of_le_of_lt (Mx_b hM.2.2.2.2.1 (r := ro) K (K - d) f (by omega)) (by decide)
      refine lv_iload hx hb dX4_chooseBest_8 (lv_at hl 5 rfl) ?_
      refine q_ic 5 hx hb dX4_chooseBest_10 (by decide) ?_
      refine q_cge (tgt := 104) hx hb dX4_chooseBest_11 (by decide) (by first | omega | exact Nat.lt_of_le_of_lt (hw3 _) (by decide)) (by first | omega | exact Nat.lt_of_le_of_lt (hw3 _) (by decide)) (fun c_11 => ?_) (fun c_11 => ?_)
      ·
        refine q_ic 5 hx hb dX4_chooseBest_104 (by decide) ?_
        exact q_iret1 hC hW hr hlk0 ⟨5, by decide, rfl, by rw [show i = 5 by omega], rfl, fun j hj => hno j (by omega), fun h => absurd h (by decide)⟩ dX4_chooseBest_105
      ·
        refine lv_aload_n hx hb dX4_chooseBest_14 rfl (lv_at hl 1 rfl) ?_
        refine lv_aload_n hx hb dX4_chooseBest_15 rfl (lv_at hl 2 rfl) ?_
        refine lv_iload_n hx hb dX4_chooseBest_16 rfl (lv_at hl 3 rfl) ?_
        refine lv_iload hx hb dX4_chooseBest_17 (lv_at hl 4 rfl) ?_
        refine lv_iload hx hb dX4_chooseBest_19 (lv_at hl 5 rfl) ?_
        refine q_kI0 (q_rS (As := [.ref (ad 1), .ref (ad 8), .int (nI (d)), .int (nI (f)), .int (nI (i))]) (rest := []) hC hW mw_X4_restsThrough gw_327 (k_rtN l G n ad H.size (up2 I 49 3 (nI (fC w ro K d f i))) L R _ _ _ w K ro hn hlk hM1 hMs1 (by omega) (by omega) (by omega)) ⟨rfl, rfl⟩ ⟨Nat.le_of_ble_eq_true rfl, Nat.le_of_ble_eq_true rfl⟩ ⟨(Nat.le_of_ble_eq_true rfl), (Nat.le_of_ble_eq_true rfl)⟩ hl.1 rfl rfl (Nat.le_of_ble_eq_true rfl) dX4_chooseBest_21) hW (fun r_21 H locs hp hW => ?_)
        subst hp
        refine lv_istore (lv' := [(6, .int (nI (rtN w ro K d f i))), (0, .ref (ad 49)), (1, .ref (ad 1)), (2, .ref (ad 8)), (3, .int (nI (d))), (4, .int (nI (f))), (5, .int (nI (i)))]) hx hb dX4_chooseBest_24 hl (by decide) rfl (fun ls hl => ?_)
        refine lv_iload hx hb dX4_chooseBest_26 (lv_at hl 6 rfl) ?_
        refine q_ic 4 hx hb dX4_chooseBest_28 (by decide) ?_
        refine q_cge (tgt := 38) hx hb dX4_chooseBest_29 (by decide) (by first | omega | exact Nat.lt_of_le_of_lt (hw3 _) (by decide)) (by first | omega | exact Nat.lt_of_le_of_lt (hw3 _) (by decide)) (fun c_29 => ?_) (fun c_29 => ?_)
        ·
          refine lv_iload_n hx hb dX4_chooseBest_38 rfl (lv_at hl 4 rfl) ?_
          refine lv_istore (lv' := [(7, .int (nI (d))), (6, .int (nI (rtN w ro K d f i))), (0, .ref (ad 49)), (1, .ref (ad 1)), (2, .ref (ad 8)), (3, .int (nI (d))), (4, .int (nI (f))), (5, .int (nI (i)))]) hx hb dX4_chooseBest_39 hl (by decide) rfl (fun ls hl => ?_)
          refine lv_aload_n hx hb dX4_chooseBest_41 rfl (lv_at hl 3 rfl) ?_
          refine lv_iload hx hb dX4_chooseBest_42 (lv_at hl 6 rfl) ?_
          refine lv_iload hx hb dX4_chooseBest_44 (lv_at hl 7 rfl) ?_
          refine lv_iload_n hx hb dX4_chooseBest_46 rfl (lv_at hl 5 rfl) ?_
          refine q_kI0 (q_rV (As := [.int (nI (f)), .int (nI (i)), .int (nI (d))]) (rest := []) (x := 1) hC hW mw_X0_moveWeight gw_330 (k_moveWeight l G n ad H.size (up2 I 49 3 (nI (fC w ro K d f i))) L R _ _ _ w K ro hn hlk hM1 (by omega) (by omega) (by omega)) (by omega) (ct_o0 kd_1) rfl ⟨rfl, rfl⟩ ⟨Nat.le_of_ble_eq_true rfl, Nat.le_of_ble_eq_true rfl⟩ ⟨(Nat.le_of_ble_eq_true rfl), (Nat.le_of_ble_eq_true rfl)⟩ hl.1 rfl rfl (Nat.le_of_ble_eq_true rfl) dX4_chooseBest_47) hW (fun r_47 H locs hp hW => ?_)
          subst hp
          refine q_i2l hx hb dX4_chooseBest_50 (by first | omega | exact Nat.lt_of_le_of_lt (hw3 _) (by decide)) ?_
          refine lv_aload_n hx hb dX4_chooseBest_51 rfl (lv_at hl 4 rfl) ?_
          refine g_2_3 (x := 8) (y := 33) hC hW (by omega) kd_8 gw_79 (hlk 8 3 33 (by omega) rfl) dX4_chooseBest_52 ?_
          refine lv_iload hx hb dX4_chooseBest_55 (lv_at hl 0 rfl) ?_
          refine q_aald5 (x := 33) (i := d) (y := 34 + d) hC hW (by omega) kd_33 (by omega) (lk_row33 hlk (by omega) (by omega)) dX4_chooseBest_57 ?_
          refine lv_iload hx hb dX4_chooseBest_58 (lv_at hl 7 rfl) ?_
          refine q_lald (x := (34 + d)) (i := i) hC hW (by omega) (kd_r34 (by omega)) (by omega) dX4_chooseBest_60 ?_
          refine q_top (v2 := .long (lN (Mx' w K ro (K - d) i))) (congrArg _ (hMs1.2.2.1 d i (by omega) (by omega)).2.1) ?_
          refine q_lmul hx hb dX4_chooseBest_61 ?_
          refine q_top (v2 := .long (lN (mv w K ro f i d * Mx' w K ro (K - nx i d) i))) (by unfold nx; rw [if_neg (show ¬ i < 4 by omega)]) ?_
          refine lv_lstore (lv' := [(8, .long (lN (mv w K ro f i d * Mx' w K ro (K - nx i d) i))), (7, .int (nI (d))), (6, .int (nI (rtN w ro K d f i))), (0, .ref (ad 49)), (1, .ref (ad 1)), (2, .ref (ad 8)), (3, .int (nI (d))), (4, .int (nI (f))), (5, .int (nI (i)))]) hx hb dX4_chooseBest_62 hl (by decide) rfl (fun ls hl => ?_)
          refine lv_iload hx hb dX4_chooseBest_64 (lv_at hl 2 rfl) ?_
          refine q_ile (tgt := 87) hx hb dX4_chooseBest_66 (by decide) (by first | omega | exact Nat.lt_of_le_of_lt (hw3 _) (by decide)) (fun c_66 => ?_) (fun c_66 => ?_)
          ·
            refine lv_aload_n hx hb dX4_chooseBest_87 rfl (lv_at hl 3 rfl) ?_
            refine lv_dup hx hb dX4_chooseBest_88 rfl ?_
            refine g_4_3 (x := 49) hC hW (by omega) kd_49 gw_104 dX4_chooseBest_89 ?_
            refine q_top (v2 := .int (nI (fC w ro K d f i))) (congrArg _ (by rw [up2_at, if_pos ⟨rfl, rfl⟩])) ?_
            refine lv_iload hx hb dX4_chooseBest_92 (lv_at hl 2 rfl) ?_
            refine q_iadd hx hb dX4_chooseBest_94 ?_
            refine p_4_3 (x := 49) (v := nI ((fC w ro K d f i) + (rtN w ro K d f i))) hC hW (by omega) kd_49 gw_104 dX4_chooseBest_95 (fun H locs hW => ?_)
            refine q_iinc (z2 := i + 1) (lv' := [(5, .int (nI (i + 1))), (8, .long (lN (mv w K ro f i d * Mx' w K ro (K - nx i d) i))), (7, .int (nI (d))), (6, .int (nI (rtN w ro K d f i))), (0, .ref (ad 49)), (1, .ref (ad 1)), (2, .ref (ad 8)), (3, .int (nI (d))), (4, .int (nI (f)))]) hx hb dX4_chooseBest_98 hl (k := 8) rfl (inc_up _ 1 (by decide)) (by decide) rfl (fun ls hl => ?_)
            refine lv_goto (tgt := 8) hx hb dX4_chooseBest_101 (by decide) ?_
            rw [up2_up2, ← fC_s] at hW
            exact ih_8 (i + 1) (by omega) (by omega) (fun j hj => by by_cases e9 : j = i; (subst e9; exact fun q9 => by have h9 := okM_iff.mp q9; first | omega | exact c_81 h9.2); exact hno j (by omega)) _ _ hW _ (lv_sub hl [4, 5, 6, 7, 8, 0] rfl)
          ·
            refine lv_lload hx hb dX4_chooseBest_69 (lv_at hl 0 rfl) ?_
            refine lv_aload_n hx hb dX4_chooseBest_71 rfl (lv_at hl 5 rfl) ?_
            refine g_2_3 (x := 8) (y := 33) hC hW (by omega) kd_8 gw_79 (hlk 8 3 33 (by omega) rfl) dX4_chooseBest_72 ?_
            refine lv_iload_n hx hb dX4_chooseBest_75 rfl (lv_at hl 6 rfl) ?_
            refine q_aald5 (x := 33) (i := d) (y := 34 + d) hC hW (by omega) kd_33 (by omega) (lk_row33 hlk (by omega) (by omega)) dX4_chooseBest_76 ?_
            refine lv_iload hx hb dX4_chooseBest_77 (lv_at hl 7 rfl) ?_
            refine q_lald (x := (34 + d)) (i := f) hC hW (by omega) (kd_r34 (by omega)) (by omega) dX4_chooseBest_79 ?_
            refine q_top (v2 := .long (lN (Mx' w K ro (K - d) f))) (congrArg _ (hMs1.2.2.1 d f (by omega) (by omega)).2.1) ?_
            refine q_lcmp hx hb dX4_chooseBest_80 ?_
            refine q_lne (tgt := 87) hx hb dX4_chooseBest_81 (by decide) (by first | decide | omega | assumption) (by first | decide | omega | assumption) (fun c_81 => ?_) (fun c_81 => ?_)
            ·
              refine lv_aload_n hx hb dX4_chooseBest_87 rfl (lv_at hl 3 rfl) ?_
              refine lv_dup hx hb dX4_chooseBest_88 rfl ?_
              refine g_4_3 (x := 49) hC hW (by omega) kd_49 gw_104 dX4_chooseBest_89 ?_
              refine q_top (v2 := .int (nI (fC w ro K d f i))) (congrArg _ (by rw [up2_at, if_pos ⟨rfl, rfl⟩])) ?_
              refine lv_iload hx hb dX4_chooseBest_92 (lv_at hl 2 rfl) ?_
              refine q_iadd hx hb dX4_chooseBest_94 ?_
              refine p_4_3 (x := 49) (v := nI ((fC w ro K d f i) + (rtN w ro K d f i))) hC hW (by omega) kd_49 gw_104 dX4_chooseBest_95 (fun H locs hW => ?_)
              refine q_iinc (z2 := i + 1) (lv' := [(5, .int (nI (i + 1))), (8, .long (lN (mv w K ro f i d * Mx' w K ro (K - nx i d) i))), (7, .int (nI (d))), (6, .int (nI (rtN w ro K d f i))), (0, .ref (ad 49)), (1, .ref (ad 1)), (2, .ref (ad 8)), (3, .int (nI (d))), (4, .int (nI (f)))]) hx hb dX4_chooseBest_98 hl (k := 8) rfl (inc_up _ 1 (by decide)) (by decide) rfl (fun ls hl => ?_)
              refine lv_goto (tgt := 8) hx hb dX4_chooseBest_101 (by decide) ?_
              rw [up2_up2, ← fC_s] at hW
              exact ih_8 (i + 1) (by omega) (by omega) (fun j hj => by by_cases e9 : j = i; (subst e9; exact fun q9 => by have h9 := okM_iff.mp q9; first | omega | exact c_81 h9.2); exact hno j (by omega)) _ _ hW _ (lv_sub hl [4, 5, 6, 7, 8, 0] rfl)
            ·
              refine lv_iload hx hb dX4_chooseBest_84 (lv_at hl 8 rfl) ?_
              exact q_iret1 hC hW hr hlk0 ⟨i, by omega, rfl, rfl, rfl, hno, fun _ => okM_iff.mpr ⟨by omega, c_81⟩⟩ dX4_chooseBest_86
        ·
          refine lv_iload_n hx hb dX4_chooseBest_32 rfl (lv_at hl 4 rfl) ?_
          refine q_ic 1 hx hb dX4_chooseBest_33 (by decide) ?_
          refine q_iadd hx hb dX4_chooseBest_34 ?_
          refine lv_goto (tgt := 39) hx hb dX4_chooseBest_35 (by decide) ?_
          refine lv_istore (lv' := [(7, .int (nI (d + 1))), (6, .int (nI (rtN w ro K d f i))), (0, .ref (ad 49)), (1, .ref (ad 1)), (2, .ref (ad 8)), (3, .int (nI (d))), (4, .int (nI (f))), (5, .int (nI (i)))]) hx hb dX4_chooseBest_39 hl (by decide) rfl (fun ls hl => ?_)
          refine lv_aload_n hx hb dX4_chooseBest_41 rfl (lv_at hl 3 rfl) ?_
          refine lv_iload hx hb dX4_chooseBest_42 (lv_at hl 6 rfl) ?_
          refine lv_iload hx hb dX4_chooseBest_44 (lv_at hl 7 rfl) ?_
          refine lv_iload_n hx hb dX4_chooseBest_46 rfl (lv_at hl 5 rfl) ?_
          refine q_kI0 (q_rV (As := [.int (nI (f)), .int (nI (i)), .int (nI (d))]) (rest := []) (x := 1) hC hW mw_X0_moveWeight gw_330 (k_moveWeight l G n ad H.size (up2 I 49 3 (nI (fC w ro K d f i))) L R _ _ _ w K ro hn hlk hM1 (by omega) (by omega) (by omega)) (by omega) (ct_o0 kd_1) rfl ⟨rfl, rfl⟩ ⟨Nat.le_of_ble_eq_true rfl, Nat.le_of_ble_eq_true rfl⟩ ⟨(Nat.le_of_ble_eq_true rfl), (Nat.le_of_ble_eq_true rfl)⟩ hl.1 rfl rfl (Nat.le_of_ble_eq_true rfl) dX4_chooseBest_47) hW (fun r_47 H locs hp hW => ?_)
          subst hp
          refine q_i2l hx hb dX4_chooseBest_50 (by first | omega | exact Nat.lt_of_le_of_lt (hw3 _) (by decide)) ?_
          refine lv_aload_n hx hb dX4_chooseBest_51 rfl (lv_at hl 4 rfl) ?_
          refine g_2_3 (x := 8) (y := 33) hC hW (by omega) kd_8 gw_79 (hlk 8 3 33 (by omega) rfl) dX4_chooseBest_52 ?_
          refine lv_iload hx hb dX4_chooseBest_55 (lv_at hl 0 rfl) ?_
          refine q_aald5 (x := 33) (i := d + 1) (y := 34 + (d + 1)) hC hW (by omega) kd_33 (by omega) (lk_row33 hlk (by omega) (by omega)) dX4_chooseBest_57 ?_
          refine lv_iload hx hb dX4_chooseBest_58 (lv_at hl 7 rfl) ?_
          refine q_lald (x := (34 + (d + 1))) (i := i) hC hW (by omega) (kd_r34 (by omega)) (by omega) dX4_chooseBest_60 ?_
          refine q_top (v2 := .long (lN (Mx' w K ro (K - (d + 1)) i))) (congrArg _ (hMs1.2.2.1 (d + 1) i (by omega) (by omega)).2.1) ?_
          refine q_lmul hx hb dX4_chooseBest_61 ?_
          refine q_top (v2 := .long (lN (mv w K ro f i d * Mx' w K ro (K - nx i d) i))) (by unfold nx; rw [if_pos (show i < 4 by omega)]) ?_
          refine lv_lstore (lv' := [(8, .long (lN (mv w K ro f i d * Mx' w K ro (K - nx i d) i))), (7, .int (nI (d + 1))), (6, .int (nI (rtN w ro K d f i))), (0, .ref (ad 49)), (1, .ref (ad 1)), (2, .ref (ad 8)), (3, .int (nI (d))), (4, .int (nI (f))), (5, .int (nI (i)))]) hx hb dX4_chooseBest_62 hl (by decide) rfl (fun ls hl => ?_)
          refine lv_iload hx hb dX4_chooseBest_64 (lv_at hl 2 rfl) ?_
          refine q_ile (tgt := 87) hx hb dX4_chooseBest_66 (by decide) (by first | omega | exact Nat.lt_of_le_of_lt (hw3 _) (by decide)) (fun c_66 => ?_) (fun c_66 => ?_)
          ·
            refine lv_aload_n hx hb dX4_chooseBest_87 rfl (lv_at hl 3 rfl) ?_
            refine lv_dup hx hb dX4_chooseBest_88 rfl ?_
            refine g_4_3 (x := 49) hC hW (by omega) kd_49 gw_104 dX4_chooseBest_89 ?_
            refine q_top (v2 := .int (nI (fC w ro K d f i))) (congrArg _ (by rw [up2_at, if_pos ⟨rfl, rfl⟩])) ?_
            refine lv_iload hx hb dX4_chooseBest_92 (lv_at hl 2 rfl) ?_
            refine q_iadd hx hb dX4_chooseBest_94 ?_
            refine p_4_3 (x := 49) (v := nI ((fC w ro K d f i) + (rtN w ro K d f i))) hC hW (by omega) kd_49 gw_104 dX4_chooseBest_95 (fun H locs hW => ?_)
            refine q_iinc (z2 := i + 1) (lv' := [(5, .int (nI (i + 1))), (8, .long (lN (mv w K ro f i d * Mx' w K ro (K - nx i d) i))), (7, .int (nI (d + 1))), (6, .int (nI (rtN w ro K d f i))), (0, .ref (ad 49)), (1, .ref (ad 1)), (2, .ref (ad 8)), (3, .int (nI (d))), (4, .int (nI (f)))]) hx hb dX4_chooseBest_98 hl (k := 8) rfl (inc_up _ 1 (by decide)) (by decide) rfl (fun ls hl => ?_)
            refine lv_goto (tgt := 8) hx hb dX4_chooseBest_101 (by decide) ?_
            rw [up2_up2, ← fC_s] at hW
            exact ih_8 (i + 1) (by omega) (by omega) (fun j hj => by by_cases e9 : j = i; (subst e9; exact fun q9 => by have h9 := okM_iff.mp q9; first | omega | exact c_81 h9.2); exact hno j (by omega)) _ _ hW _ (lv_sub hl [4, 5, 6, 7, 8, 0] rfl)
          ·
            refine lv_lload hx hb dX4_chooseBest_69 (lv_at hl 0 rfl) ?_
            refine lv_aload_n hx hb dX4_chooseBest_71 rfl (lv_at hl 5 rfl) ?_
            refine g_2_3 (x := 8) (y := 33) hC hW (by omega) kd_8 gw_79 (hlk 8 3 33 (by omega) rfl) dX4_chooseBest_72 ?_
            refine lv_iload_n hx hb dX4_chooseBest_75 rfl (lv_at hl 6 rfl) ?_
            refine q_aald5 (x := 33) (i := d) (y := 34 + d) hC hW (by omega) kd_33 (by omega) (lk_row33 hlk (by omega) (by omega)) dX4_chooseBest_76 ?_
            refine lv_iload hx hb dX4_chooseBest_77 (lv_at hl 7 rfl) ?_
            refine q_lald (x := (34 + d)) (i := f) hC hW (by omega) (kd_r34 (by omega)) (by omega) dX4_chooseBest_79 ?_
            refine q_top (v2 := .long (lN (Mx' w K ro (K - d) f))) (congrArg _ (hMs1.2.2.1 d f (by omega) (by omega)).2.1) ?_
            refine q_lcmp hx hb dX4_chooseBest_80 ?_
            refine q_lne (tgt := 87) hx hb dX4_chooseBest_81 (by decide) (by first | decide | omega | assumption) (by first | decide | omega | assumption) (fun c_81 => ?_) (fun c_81 => ?_)
            ·
              refine lv_aload_n hx hb dX4_chooseBest_87 rfl (lv_at hl 3 rfl) ?_
              refine lv_dup hx hb dX4_chooseBest_88 rfl ?_
              refine g_4_3 (x := 49) hC hW (by omega) kd_49 gw_104 dX4_chooseBest_89 ?_
              refine q_top (v2 := .int (nI (fC w ro K d f i))) (congrArg _ (by rw [up2_at, if_pos ⟨rfl, rfl⟩])) ?_
              refine lv_iload hx hb dX4_chooseBest_92 (lv_at hl 2 rfl) ?_
              refine q_iadd hx hb dX4_chooseBest_94 ?_
              refine p_4_3 (x := 49) (v := nI ((fC w ro K d f i) + (rtN w ro K d f i))) hC hW (by omega) kd_49 gw_104 dX4_chooseBest_95 (fun H locs hW => ?_)
              refine q_iinc (z2 := i + 1) (lv' := [(5, .int (nI (i + 1))), (8, .long (lN (mv w K ro f i d * Mx' w K ro (K - nx i d) i))), (7, .int (nI (d + 1))), (6, .int (nI (rtN w ro K d f i))), (0, .ref (ad 49)), (1, .ref (ad 1)), (2, .ref (ad 8)), (3, .int (nI (d))), (4, .int (nI (f)))]) hx hb dX4_chooseBest_98 hl (k := 8) rfl (inc_up _ 1 (by decide)) (by decide) rfl (fun ls hl => ?_)
              refine lv_goto (tgt := 8) hx hb dX4_chooseBest_101 (by decide) ?_
              rw [up2_up2, ← fC_s] at hW
              exact ih_8 (i + 1) (by omega) (by omega) (fun j hj => by by_cases e9 : j = i; (subst e9; exact fun q9 => by have h9 := okM_iff.mp q9; first | omega | exact c_81 h9.2); exact hno j (by omega)) _ _ hW _ (lv_sub hl [4, 5, 6, 7, 8, 0] rfl)
            ·
              refine lv_iload hx hb dX4_chooseBest_84 (lv_at hl 8 rfl) ?_
              exact q_iret1 hC hW hr hlk0 ⟨i, by omega, rfl, rfl, rfl, hno, fun _ => okM_iff.mpr ⟨by omega, c_81⟩⟩ dX4_chooseBest_86
  exact lp_8 (5 + 1) 0 (by omega) (by omega) (fun j hj => absurd hj (by omega)) _ _ hW _ (lv_sub hl [1, 2, 3, 4, 5, 0] rfl)
set_option maxRecDepth 100000 in
set_option maxHeartbeats 4000000 in
theorem k_follow (l : Launch) (G : Gx) (n : Nat) (ad : Nat → Nat) (sz : Nat) (I : Ic) (L : Lc) (R : Rc) (q0 : Nat) (w : Nat → Nat) (K : Nat) (ro : Nat → Nat) (hn : 71 ≤ n) (hlk : LkOK n R) (hM : MdI I w K ro) (hMs : Meas w ro K I L) (hq0 : q0 < Cx' w K ro K 6) : Met l yX4_follow (Cond.code yX4_follow cX4_follow 8 none :: GW) ({ frames := 4, cells := 0, slots := 0, locals := 144 } : Room) (qPre G n ad sz I L R [.ref (ad 49), .ref (ad 1), .ref (ad 8), .int (nI (q0))]) (qV1 G (qA n ad sz) n ad R (fun I1 L1 => Fol (wayN w ro K q0) (prN w ro K 0 6 (wayN w ro K q0)) I1 L1 ∧ (∀ a, a < 49 ∨ 50 < a → I1 a = I a) ∧ (∀ a, a < 49 ∨ 49 < a → L1 a = L a))) 0 0 (qA n ad sz) := by
  refine q_met (by decide) (Nat.le_of_ble_eq_true rfl) ?_
  intro p_ e_ s m_ below meth c_ hC hr hlk0 hin hsz hW ls hl
  subst hsz
  have hC : CallFix p_ m_ c_ cX4_follow 8 s ([.ref (ad 49), .ref (ad 1), .ref (ad 8), .int (nI (q0))] : List Value).toArray GW "CoinRows$Walk" := hC
  have hx := hC.1
  have hb := hC.2.1
  have hk6 : K ≤ 6 := hM.2.2.2.1
  have hw3 : ∀ i, w i ≤ 3 := hM.2.2.2.2.1.1
  have hr4 : ∀ j, ro j < 4 := hM.2.2.2.2.2
  have hl : lv_has ls 8 [(0, .ref (ad 49)), (1, .ref (ad 1)), (2, .ref (ad 8)), (3, .int (nI (q0)))] := hl
  refine lv_aload_n hx hb dX4_follow_0 rfl (lv_at hl 0 rfl) ?_
  refine q_ic 0 hx hb dX4_follow_1 (by decide) ?_
  refine p_4_1 (x := 49) (v := nI 0) hC hW (by omega) kd_49 gw_101 dX4_follow_2 (fun H locs hW => ?_)
  refine lv_aload_n hx hb dX4_follow_5 rfl (lv_at hl 0 rfl) ?_
  refine q_lc 1 hx hb dX4_follow_6 (by decide) ?_
  refine p_4_2 (x := 49) (v := lN 1) hC hW (by omega) kd_49 gw_102 dX4_follow_7 (fun H locs hW => ?_)
  refine lv_iload_n hx hb dX4_follow_10 rfl (lv_at hl 3 rfl) ?_
  refine lv_istore (lv' := [(4, .int (nI (q0))), (0, .ref (ad 49)), (1, .ref (ad 1)), (2, .ref (ad 8)), (3, .int (nI (q0)))]) hx hb dX4_follow_11 hl (by decide) rfl (fun ls hl => ?_)
  refine q_bp 6 hx hb dX4_follow_13 (by decide) ?_
  refine lv_istore (lv' := [(5, .int (nI 6)), (4, .int (nI (q0))), (0, .ref (ad 49)), (1, .ref (ad 1)), (2, .ref (ad 8)), (3, .int (nI (q0)))]) hx hb dX4_follow_15 hl (by decide) rfl (fun ls hl => ?_)
  refine q_ic 0 hx hb dX4_follow_17 (by decide) ?_
  refine lv_istore (lv' := [(6, .int (nI 0)), (5, .int (nI 6)), (4, .int (nI (q0))), (0, .ref (ad 49)), (1, .ref (ad 1)), (2, .ref (ad 8)), (3, .int (nI (q0)))]) hx hb dX4_follow_18 hl (by decide) rfl (fun ls hl => ?_)
  have lp_20 : ∀ (fu_20 : Nat) (s1 : Nat) (d : Nat) (f : Nat) (q : Nat) (I1 : Ic) (L1 : Lc), 18 - s1 < fu_20 → (FI w ro K q0 I L s1 d f q I1 L1) → ∀ (H : Heap) (locs : List Loc), Wd G n ad I1 L1 R (qA n ad s.heap.size) s.heap H locs s → ∀ ls : Array Slot, lv_has ls 8 [(0, .ref (ad 49)), (1, .ref (ad 1)), (2, .ref (ad 8)), (4, .int (nI (q))), (5, .int (nI (f))), (6, .int (nI (d)))] → W p_ l e_ ({ frames := 4, cells := 0, slots := 0, locals := 144 } : Room) s m_ ([.ref (ad 49), .ref (ad 1), .ref (ad 8), .int (nI (q0))] : List Value).toArray below meth c_ H locs 0 0 (MQ below (qV1 G (qA n ad s.heap.size) n ad R (fun I1 L1 => Fol (wayN w ro K q0) (prN w ro K 0 6 (wayN w ro K q0)) I1 L1 ∧ (∀ a, a < 49 ∨ 50 < a → I1 a = I a) ∧ (∀ a, a < 49 ∨ 49 < a → L1 a = L a))) ([.ref (ad 49), .ref (ad 1), .ref (ad 8), .int (nI (q0))] : List Value).toArray s 0 0 (qA n ad s.heap.size)) (F0 m_ 20 ls []) := by
    intro fu_20
    induction fu_20 with
    | zero =>
      intro s1 d f q I1 L1 hm; exact absurd hm (Nat.not_lt_zero _)
    | succ fu_20 ih_20 =>
      intro s1 d f q I1 L1 hm_20 hF H locs hW ls hl
      have hdK := hF.2.2.2.1
      have hf6 := hF.2.2.2.2.1
      have hqC := hF.2.2.2.2.2.1
      have hM1 : MdI I1 w K ro := MdI_lo hM (fun a ha => hF.2.2.2.2.2.2.1 a (by omega))
      have hMs1 : Meas w ro K I1 L1 := Meas_lo hMs hk6 (fun a ha => hF.2.2.2.2.2.2.1 a (by omega)) (fun a ha => hF.2.2.2.2.2.2.2 a (by omega))
      refine lv_iload hx hb dX4_follow_20 (lv_at hl 5 rfl) ?_
      refine lv_aload_n hx hb dX4_follow_22 rfl (lv_at hl 1 rfl) ?_
      refine g_0_2 (x := 1) hC hW (by omega) kd_1 gw_30 dX4_follow_23 ?_
      refine q_top (v2 := .int (nI (K))) (congrArg _ hM1.2.1) ?_
      refine q_cge (tgt := 125) hx hb dX4_follow_26 (by decide) (by first | omega | exact Nat.lt_of_le_of_lt (hw3 _) (by decide)) (by first | omega | exact Nat.lt_of_le_of_lt (hw3 _) (by decide)) (fun c_26 => ?_) (fun c_26 => ?_)
      ·
        exact q_vret1 hC hW hr hlk0 ⟨FI_e hF hk6 (by omega), hF.2.2.2.2.2.2.1, hF.2.2.2.2.2.2.2⟩ dX4_follow_125
      ·
        have hs18 : s1 < 18 := FI_lt hF hk6 (by omega)
        refine lv_aload_n hx hb dX4_follow_29 rfl (lv_at hl 0 rfl) ?_
        refine g_4_1 (x := 49) hC hW (by omega) kd_49 gw_101 dX4_follow_30 ?_
        refine q_top (v2 := .int (nI (s1))) (congrArg _ hF.2.1) ?_
        refine q_bp 18 hx hb dX4_follow_33 (by decide) ?_
        refine q_cge (tgt := 125) hx hb dX4_follow_35 (by decide) (by first | omega | exact Nat.lt_of_le_of_lt (hw3 _) (by decide)) (by first | omega | exact Nat.lt_of_le_of_lt (hw3 _) (by decide)) (fun c_35 => absurd c_35 (by omega)) (fun c_35 => ?_)
        refine lv_aload_n hx hb dX4_follow_38 rfl (lv_at hl 0 rfl) ?_
        refine lv_aload_n hx hb dX4_follow_39 rfl (lv_at hl 1 rfl) ?_
        refine lv_aload_n hx hb dX4_follow_40 rfl (lv_at hl 2 rfl) ?_
        refine lv_iload hx hb dX4_follow_41 (lv_at hl 5 rfl) ?_
        refine lv_iload hx hb dX4_follow_43 (lv_at hl 4 rfl) ?_
        refine lv_iload hx hb dX4_follow_45 (lv_at hl 3 rfl) ?_
        refine q_kI1 (q_rV (As := [.ref (ad 1), .ref (ad 8), .int (nI (d)), .int (nI (f)), .int (nI (q))]) (rest := []) (x := 49) hC hW mw_X4_chooseByNumber gw_323 (k_chB l G n ad H.size I1 L1 R _ _ _ w K ro hn hlk hM1 hMs1 (by omega) (by omega) hqC) (by omega) (ct_o4 kd_49) rfl ⟨rfl, rfl⟩ ⟨Nat.le_of_ble_eq_true rfl, Nat.le_of_ble_eq_true rfl⟩ ⟨(Nat.le_of_ble_eq_true rfl), (Nat.le_of_ble_eq_true rfl)⟩ hl.1 rfl rfl (Nat.le_of_ble_eq_true rfl) dX4_follow_47) hW (fun r_47 I_47 L_47 H locs hp hW => ?_)
        obtain ⟨t_47, ht_47, rfl, rfl, rfl, hc1_47, hc2_47⟩ := hp
        have hM_47 : MdI (up2 I1 49 3 (nI (fC w ro K d f t_47))) w K ro := MdI_lo hM1 (fun a ha => up2_ne (by omega))
        have hmv_47 := mv_le hM.2.2.2.2.1 K ro f t_47 d
        refine lv_istore (lv' := [(7, .int (nI (t_47))), (0, .ref (ad 49)), (1, .ref (ad 1)), (2, .ref (ad 8)), (4, .int (nI (q))), (5, .int (nI (f))), (6, .int (nI (d)))]) hx hb dX4_follow_50 hl (by decide) rfl (fun ls hl => ?_)
        refine lv_iload hx hb dX4_follow_52 (lv_at hl 4 rfl) ?_
        refine lv_aload_n hx hb dX4_follow_54 rfl (lv_at hl 1 rfl) ?_
        refine g_4_3 (x := 49) hC hW (by omega) kd_49 gw_104 dX4_follow_55 ?_
        refine q_top (v2 := .int (nI (fC w ro K d f t_47))) (congrArg _ (by rw [up2_at, if_pos ⟨rfl, rfl⟩])) ?_
        refine q_isub hx hb dX4_follow_58 (by omega) ?_
        refine lv_istore (lv' := [(4, .int (nI (q - (fC w ro K d f t_47)))), (7, .int (nI (t_47))), (0, .ref (ad 49)), (1, .ref (ad 1)), (2, .ref (ad 8)), (5, .int (nI (f))), (6, .int (nI (d)))]) hx hb dX4_follow_59 hl (by decide) rfl (fun ls hl => ?_)
        refine lv_aload_n hx hb dX4_follow_61 rfl (lv_at hl 2 rfl) ?_
        refine lv_dup hx hb dX4_follow_62 rfl ?_
        refine g_4_2 (x := 49) hC hW (by omega) kd_49 gw_102 dX4_follow_63 ?_
        refine lv_aload_n hx hb dX4_follow_66 rfl (lv_at hl 3 rfl) ?_
        refine lv_iload hx hb dX4_follow_67 (lv_at hl 5 rfl) ?_
        refine lv_iload hx hb dX4_follow_69 (lv_at hl 1 rfl) ?_
        refine lv_iload hx hb dX4_follow_71 (lv_at hl 6 rfl) ?_
        refine q_kI0 (q_rV (As := [.int (nI (f)), .int (nI (t_47)), .int (nI (d))]) (rest := [.long (L1 49 2), .ref (ad 49)]) (x := 1) hC hW mw_X0_moveWeight gw_330 (k_moveWeight l G n ad H.size (up2 I1 49 3 (nI (fC w ro K d f t_47))) L1 R _ _ _ w K ro hn hlk hM_47 (by omega) (by omega) (by omega)) (by omega) (ct_o0 kd_1) rfl ⟨rfl, rfl⟩ ⟨Nat.le_of_ble_eq_true rfl, Nat.le_of_ble_eq_true rfl⟩ ⟨(Nat.le_of_ble_eq_true rfl), (Nat.le_of_ble_eq_true rfl)⟩ hl.1 rfl rfl (Nat.le_of_ble_eq_true rfl) dX4_follow_73) hW (fun r_73 H locs hp hW => ?_)
        subst hp
        refine q_i2l hx hb dX4_follow_76 (by first | omega | exact Nat.lt_of_le_of_lt (hw3 _) (by decide)) ?_
        refine lv_lmul hx hb dX4_follow_77 ?_
        refine p_4_2 (x := 49) (v := (L1 49 2) * (lN (mv w K ro f t_47 d))) hC hW (by omega) kd_49 gw_102 dX4_follow_78 (fun H locs hW => ?_)
        refine lv_aload_n hx hb dX4_follow_81 rfl (lv_at hl 2 rfl) ?_
        refine g_4_0 (x := 49) (y := 50) hC hW (by omega) kd_49 gw_100 (hlk 49 0 50 (by omega) rfl) dX4_follow_82 ?_
        refine lv_aload_n hx hb dX4_follow_85 rfl (lv_at hl 2 rfl) ?_
        refine g_4_1 (x := 49) hC hW (by omega) kd_49 gw_101 dX4_follow_86 ?_
        refine q_top (v2 := .int (nI (s1))) (congrArg _ (by rw [up2_at, if_neg (by decide)]; exact hF.2.1)) ?_
        refine lv_iload hx hb dX4_follow_89 (lv_at hl 1 rfl) ?_
        refine q_iast (x := 50) (i := s1) (v := nI t_47) hC hW (by omega) kd_50 (by omega) dX4_follow_91 (fun H locs hW => ?_)
        refine lv_aload_n hx hb dX4_follow_92 rfl (lv_at hl 2 rfl) ?_
        refine lv_dup hx hb dX4_follow_93 rfl ?_
        refine g_4_1 (x := 49) hC hW (by omega) kd_49 gw_101 dX4_follow_94 ?_
        refine q_top (v2 := .int (nI (s1))) (congrArg _ (by rw [up2_at, if_neg (by omega), up2_at, if_neg (by omega)]; exact hF.2.1)) ?_
        refine q_ic 1 hx hb dX4_follow_97 (by decide) ?_
        refine q_iadd hx hb dX4_follow_98 ?_
        refine p_4_1 (x := 49) (v := nI (s1 + 1)) hC hW (by omega) kd_49 gw_101 dX4_follow_99 (fun H locs hW => ?_)
        refine lv_iload hx hb dX4_follow_102 (lv_at hl 6 rfl) ?_
        refine lv_iload hx hb dX4_follow_104 (lv_at hl 1 rfl) ?_
        refine q_ic 4 hx hb dX4_follow_106 (by decide) ?_
        refine q_cge (tgt := 114) hx hb dX4_follow_107 (by decide) (by first | omega | exact Nat.lt_of_le_of_lt (hw3 _) (by decide)) (by first | omega | exact Nat.lt_of_le_of_lt (hw3 _) (by decide)) (fun c_107 => ?_) (fun c_107 => ?_)
        ·
          refine q_ic 0 hx hb dX4_follow_114 (by decide) ?_
          refine q_iadd hx hb dX4_follow_115 ?_
          refine q_top (v2 := .int (nI (nx t_47 d))) (by unfold nx; rw [if_neg (show ¬ t_47 < 4 by omega)]; try rfl) ?_
          refine lv_istore (lv' := [(6, .int (nI (nx t_47 d))), (4, .int (nI (q - (fC w ro K d f t_47)))), (7, .int (nI (t_47))), (0, .ref (ad 49)), (1, .ref (ad 1)), (2, .ref (ad 8)), (5, .int (nI (f)))]) hx hb dX4_follow_116 hl (by decide) rfl (fun ls hl => ?_)
          refine lv_iload hx hb dX4_follow_118 (lv_at hl 2 rfl) ?_
          refine lv_istore (lv' := [(5, .int (nI (t_47))), (6, .int (nI (nx t_47 d))), (4, .int (nI (q - (fC w ro K d f t_47)))), (7, .int (nI (t_47))), (0, .ref (ad 49)), (1, .ref (ad 1)), (2, .ref (ad 8))]) hx hb dX4_follow_120 hl (by decide) rfl (fun ls hl => ?_)
          refine lv_goto (tgt := 20) hx hb dX4_follow_122 (by decide) ?_
          exact ih_20 (s1 + 1) (nx t_47 d) t_47 (q - fC w ro K d f t_47) (up2 (up2 (up2 I1 49 3 (nI (fC w ro K d f t_47))) 50 s1 (nI t_47)) 49 1 (nI (s1 + 1))) (up2 L1 49 2 ((L1 49 2) * (lN (mv w K ro f t_47 d)))) (by omega) ((FI_s hM.2.2.2.2.1 hF hk6 (by omega) ht_47 hc1_47 hc2_47).1) _ _ hW _ (lv_sub hl [4, 5, 6, 2, 0, 1] rfl)
        ·
          refine q_ic 1 hx hb dX4_follow_110 (by decide) ?_
          refine lv_goto (tgt := 115) hx hb dX4_follow_111 (by decide) ?_
          refine q_iadd hx hb dX4_follow_115 ?_
          refine q_top (v2 := .int (nI (nx t_47 d))) (by unfold nx; rw [if_pos (show t_47 < 4 by omega)]; try rfl) ?_
          refine lv_istore (lv' := [(6, .int (nI (nx t_47 d))), (4, .int (nI (q - (fC w ro K d f t_47)))), (7, .int (nI (t_47))), (0, .ref (ad 49)), (1, .ref (ad 1)), (2, .ref (ad 8)), (5, .int (nI (f)))]) hx hb dX4_follow_116 hl (by decide) rfl (fun ls hl => ?_)
          refine lv_iload hx hb dX4_follow_118 (lv_at hl 2 rfl) ?_
          refine lv_istore (lv' := [(5, .int (nI (t_47))), (6, .int (nI (nx t_47 d))), (4, .int (nI (q - (fC w ro K d f t_47)))), (7, .int (nI (t_47))), (0, .ref (ad 49)), (1, .ref (ad 1)), (2, .ref (ad 8))]) hx hb dX4_follow_120 hl (by decide) rfl (fun ls hl => ?_)
          refine lv_goto (tgt := 20) hx hb dX4_follow_122 (by decide) ?_
          exact ih_20 (s1 + 1) (nx t_47 d) t_47 (q - fC w ro K d f t_47) (up2 (up2 (up2 I1 49 3 (nI (fC w ro K d f t_47))) 50 s1 (nI t_47)) 49 1 (nI (s1 + 1))) (up2 L1 49 2 ((L1 49 2) * (lN (mv w K ro f t_47 d)))) (by omega) ((FI_s hM.2.2.2.2.1 hF hk6 (by omega) ht_47 hc1_47 hc2_47).1) _ _ hW _ (lv_sub hl [4, 5, 6, 2, 0, 1] rfl)
  exact lp_20 (18 + 1) 0 0 6 q0 (up2 I 49 1 (nI 0)) (up2 L 49 2 (lN 1)) (by omega) (FI_0 hq0 (by rw [up2_at, if_pos ⟨rfl, rfl⟩]) (by rw [up2_at, if_pos ⟨rfl, rfl⟩]) (fun a ha => up2_ne (by omega)) (fun a ha => up2_ne (by omega))) _ _ hW _ (lv_sub hl [3, 4, 5, 2, 1, 0] rfl)
set_option maxRecDepth 100000 in
set_option maxHeartbeats 4000000 in
theorem k_findBest (l : Launch) (G : Gx) (n : Nat) (ad : Nat → Nat) (sz : Nat) (I : Ic) (L : Lc) (R : Rc) (w : Nat → Nat) (K : Nat) (ro : Nat → Nat) (hn : 71 ≤ n) (hlk : LkOK n R) (hM : MdI I w K ro) (hMs : Meas w ro K I L) (hC0 : 0 < Cx' w K ro K 6) : Met l yX4_findBest (Cond.code yX4_findBest cX4_findBest 7 (some .int) :: GW) ({ frames := 4, cells := 0, slots := 0, locals := 144 } : Room) (qPre G n ad sz I L R [.ref (ad 49), .ref (ad 1), .ref (ad 8)]) (qI1 G (qA n ad sz) n ad R (fun z I1 L1 => z = nI (rkN w ro K 0 6 (wayM w ro K)) ∧ (∀ a, a < 49 ∨ 50 < a → I1 a = I a) ∧ (∀ a, a < 49 ∨ 49 < a → L1 a = L a))) 0 0 (qA n ad sz) := by
  refine q_met (by decide) (Nat.le_of_ble_eq_true rfl) ?_
  intro p_ e_ s m_ below meth c_ hC hr hlk0 hin hsz hW ls hl
  subst hsz
  have hC : CallFix p_ m_ c_ cX4_findBest 7 s ([.ref (ad 49), .ref (ad 1), .ref (ad 8)] : List Value).toArray GW "CoinRows$Walk" := hC
  have hx := hC.1
  have hb := hC.2.1
  have hk6 : K ≤ 6 := hM.2.2.2.1
  have hw3 : ∀ i, w i ≤ 3 := hM.2.2.2.2.1.1
  have hr4 : ∀ j, ro j < 4 := hM.2.2.2.2.2
  have hl : lv_has ls 7 [(0, .ref (ad 49)), (1, .ref (ad 1)), (2, .ref (ad 8))] := hl
  refine q_ic 0 hx hb dX4_findBest_0 (by decide) ?_
  refine lv_istore_n (lv' := [(3, .int (nI 0)), (0, .ref (ad 49)), (1, .ref (ad 1)), (2, .ref (ad 8))]) hx hb dX4_findBest_1 rfl hl (by decide) rfl (fun ls hl => ?_)
  refine q_bp 6 hx hb dX4_findBest_2 (by decide) ?_
  refine lv_istore (lv' := [(4, .int (nI 6)), (3, .int (nI 0)), (0, .ref (ad 49)), (1, .ref (ad 1)), (2, .ref (ad 8))]) hx hb dX4_findBest_4 hl (by decide) rfl (fun ls hl => ?_)
  refine q_ic 0 hx hb dX4_findBest_6 (by decide) ?_
  refine lv_istore (lv' := [(5, .int (nI 0)), (4, .int (nI 6)), (3, .int (nI 0)), (0, .ref (ad 49)), (1, .ref (ad 1)), (2, .ref (ad 8))]) hx hb dX4_findBest_7 hl (by decide) rfl (fun ls hl => ?_)
  refine q_ic 0 hx hb dX4_findBest_9 (by decide) ?_
  refine lv_istore (lv' := [(6, .int (nI 0)), (5, .int (nI 0)), (4, .int (nI 6)), (3, .int (nI 0)), (0, .ref (ad 49)), (1, .ref (ad 1)), (2, .ref (ad 8))]) hx hb dX4_findBest_10 hl (by decide) rfl (fun ls hl => ?_)
  have lp_12 : ∀ (fu_12 : Nat) (s1 : Nat) (d : Nat) (f : Nat) (a1 : Nat) (I1 : Ic), 18 - s1 < fu_12 → (GI w ro K s1 d f a1) → (∀ a, a < 49 ∨ 49 < a → I1 a = I a) → ∀ (H : Heap) (locs : List Loc), Wd G n ad I1 L R (qA n ad s.heap.size) s.heap H locs s → ∀ ls : Array Slot, lv_has ls 7 [(0, .ref (ad 49)), (1, .ref (ad 1)), (2, .ref (ad 8)), (3, .int (nI (a1))), (4, .int (nI (f))), (5, .int (nI (d))), (6, .int (nI (s1)))] → W p_ l e_ ({ frames := 4, cells := 0, slots := 0, locals := 144 } : Room) s m_ ([.ref (ad 49), .ref (ad 1), .ref (ad 8)] : List Value).toArray below meth c_ H locs 0 0 (MQ below (qI1 G (qA n ad s.heap.size) n ad R (fun z I1 L1 => z = nI (rkN w ro K 0 6 (wayM w ro K)) ∧ (∀ a, a < 49 ∨ 50 < a → I1 a = I a) ∧ (∀ a, a < 49 ∨ 49 < a → L1 a = L a))) ([.ref (ad 49), .ref (ad 1), .ref (ad 8)] : List Value).toArray s 0 0 (qA n ad s.heap.size)) (F0 m_ 12 ls []) := by
    intro fu_12
    induction fu_12 with
    | zero =>
      intro s1 d f a1 I1 hm; exact absurd hm (Nat.not_lt_zero _)
    | succ fu_12 ih_12 =>
      intro s1 d f a1 I1 hm_12 hG hIf H locs hW ls hl
      have hdK := hG.2.2.1
      have hf6 := hG.2.2.2.1
      have hM1 : MdI I1 w K ro := MdI_lo hM (fun a ha => hIf a (by omega))
      have hMs1 : Meas w ro K I1 L := Meas_lo hMs hk6 (fun a ha => hIf a (by omega)) (fun _ _ => rfl)
      refine lv_iload hx hb dX4_findBest_12 (lv_at hl 5 rfl) ?_
      refine lv_aload_n hx hb dX4_findBest_14 rfl (lv_at hl 1 rfl) ?_
      refine g_0_2 (x := 1) hC hW (by omega) kd_1 gw_30 dX4_findBest_15 ?_
      refine q_top (v2 := .int (nI (K))) (congrArg _ hM1.2.1) ?_
      refine q_cge (tgt := 69) hx hb dX4_findBest_18 (by decide) (by first | omega | exact Nat.lt_of_le_of_lt (hw3 _) (by decide)) (by first | omega | exact Nat.lt_of_le_of_lt (hw3 _) (by decide)) (fun c_18 => ?_) (fun c_18 => ?_)
      ·
        refine lv_iload_n hx hb dX4_findBest_69 rfl (lv_at hl 3 rfl) ?_
        exact q_iret1 hC hW hr hlk0 ⟨congrArg nI (GI_e hG (by omega)), fun a ha => hIf a (by omega), fun _ _ => rfl⟩ dX4_findBest_70
      ·
        have hs18 : s1 < 18 := GI_lt hG hk6 (by omega)
        refine lv_iload hx hb dX4_findBest_21 (lv_at hl 6 rfl) ?_
        refine q_bp 18 hx hb dX4_findBest_23 (by decide) ?_
        refine q_cge (tgt := 69) hx hb dX4_findBest_25 (by decide) (by first | omega | exact Nat.lt_of_le_of_lt (hw3 _) (by decide)) (by first | omega | exact Nat.lt_of_le_of_lt (hw3 _) (by decide)) (fun c_25 => absurd c_25 (by omega)) (fun c_25 => ?_)
        refine lv_aload_n hx hb dX4_findBest_28 rfl (lv_at hl 0 rfl) ?_
        refine lv_aload_n hx hb dX4_findBest_29 rfl (lv_at hl 1 rfl) ?_
        refine lv_aload_n hx hb dX4_findBest_30 rfl (lv_at hl 2 rfl) ?_
        refine lv_iload hx hb dX4_findBest_31 (lv_at hl 5 rfl) ?_
        refine lv_iload hx hb dX4_findBest_33 (lv_at hl 4 rfl) ?_
        refine q_kI1 (q_rV (As := [.ref (ad 1), .ref (ad 8), .int (nI (d)), .int (nI (f))]) (rest := []) (x := 49) hC hW mw_X4_chooseBest gw_350 (k_chM l G n ad H.size I1 L R _ _ w K ro hn hlk hM1 hMs1 (by omega) (by omega)) (by omega) (ct_o4 kd_49) rfl ⟨rfl, rfl⟩ ⟨Nat.le_of_ble_eq_true rfl, Nat.le_of_ble_eq_true rfl⟩ ⟨(Nat.le_of_ble_eq_true rfl), (Nat.le_of_ble_eq_true rfl)⟩ hl.1 rfl rfl (Nat.le_of_ble_eq_true rfl) dX4_findBest_35) hW (fun r_35 I_35 L_35 H locs hp hW => ?_)
        obtain ⟨t_35, ht_35, rfl, rfl, rfl, hc1_35, hc2_35⟩ := hp
        have hM_35 : MdI (up2 I1 49 3 (nI (fC w ro K d f t_35))) w K ro := MdI_lo hM1 (fun a ha => up2_ne (by omega))
        have hmv_35 := mv_le hM.2.2.2.2.1 K ro f t_35 d
        refine lv_istore (lv' := [(4, .int (nI (t_35))), (0, .ref (ad 49)), (1, .ref (ad 1)), (2, .ref (ad 8)), (3, .int (nI (a1))), (5, .int (nI (d))), (6, .int (nI (s1)))]) hx hb dX4_findBest_38 hl (by decide) rfl (fun ls hl => ?_)
        refine lv_iload_n hx hb dX4_findBest_40 rfl (lv_at hl 4 rfl) ?_
        refine lv_aload_n hx hb dX4_findBest_41 rfl (lv_at hl 1 rfl) ?_
        refine g_4_3 (x := 49) hC hW (by omega) kd_49 gw_104 dX4_findBest_42 ?_
        refine q_top (v2 := .int (nI (fC w ro K d f t_35))) (congrArg _ (by rw [up2_at, if_pos ⟨rfl, rfl⟩])) ?_
        refine q_iadd hx hb dX4_findBest_45 ?_
        refine lv_istore_n (lv' := [(3, .int (nI (a1 + (fC w ro K d f t_35)))), (4, .int (nI (t_35))), (0, .ref (ad 49)), (1, .ref (ad 1)), (2, .ref (ad 8)), (5, .int (nI (d))), (6, .int (nI (s1)))]) hx hb dX4_findBest_46 rfl hl (by decide) rfl (fun ls hl => ?_)
        refine lv_iload hx hb dX4_findBest_47 (lv_at hl 5 rfl) ?_
        refine lv_iload hx hb dX4_findBest_49 (lv_at hl 1 rfl) ?_
        refine q_ic 4 hx hb dX4_findBest_51 (by decide) ?_
        refine q_cge (tgt := 59) hx hb dX4_findBest_52 (by decide) (by first | omega | exact Nat.lt_of_le_of_lt (hw3 _) (by decide)) (by first | omega | exact Nat.lt_of_le_of_lt (hw3 _) (by decide)) (fun c_52 => ?_) (fun c_52 => ?_)
        ·
          refine q_ic 0 hx hb dX4_findBest_59 (by decide) ?_
          refine q_iadd hx hb dX4_findBest_60 ?_
          refine q_top (v2 := .int (nI (nx t_35 d))) (by unfold nx; rw [if_neg (show ¬ t_35 < 4 by omega)]; try rfl) ?_
          refine lv_istore (lv' := [(5, .int (nI (nx t_35 d))), (3, .int (nI (a1 + (fC w ro K d f t_35)))), (4, .int (nI (t_35))), (0, .ref (ad 49)), (1, .ref (ad 1)), (2, .ref (ad 8)), (6, .int (nI (s1)))]) hx hb dX4_findBest_61 hl (by decide) rfl (fun ls hl => ?_)
          refine q_iinc (z2 := s1 + 1) (lv' := [(6, .int (nI (s1 + 1))), (5, .int (nI (nx t_35 d))), (3, .int (nI (a1 + (fC w ro K d f t_35)))), (4, .int (nI (t_35))), (0, .ref (ad 49)), (1, .ref (ad 1)), (2, .ref (ad 8))]) hx hb dX4_findBest_63 hl (k := 6) rfl (inc_up _ 1 (by decide)) (by decide) rfl (fun ls hl => ?_)
          refine lv_goto (tgt := 12) hx hb dX4_findBest_66 (by decide) ?_
          exact ih_12 (s1 + 1) (nx t_35 d) t_35 (a1 + fC w ro K d f t_35) (up2 I1 49 3 (nI (fC w ro K d f t_35))) (by omega) (GI_s hM.2.2.2.2.1 hG hk6 (by omega) ht_35 hc1_35 hc2_35) (fun a ha => by rw [up2_ne (by omega)]; exact hIf a ha) _ _ hW _ (lv_sub hl [4, 5, 6, 2, 3, 1, 0] rfl)
        ·
          refine q_ic 1 hx hb dX4_findBest_55 (by decide) ?_
          refine lv_goto (tgt := 60) hx hb dX4_findBest_56 (by decide) ?_
          refine q_iadd hx hb dX4_findBest_60 ?_
          refine q_top (v2 := .int (nI (nx t_35 d))) (by unfold nx; rw [if_pos (show t_35 < 4 by omega)]; try rfl) ?_
          refine lv_istore (lv' := [(5, .int (nI (nx t_35 d))), (3, .int (nI (a1 + (fC w ro K d f t_35)))), (4, .int (nI (t_35))), (0, .ref (ad 49)), (1, .ref (ad 1)), (2, .ref (ad 8)), (6, .int (nI (s1)))]) hx hb dX4_findBest_61 hl (by decide) rfl (fun ls hl => ?_)
          refine q_iinc (z2 := s1 + 1) (lv' := [(6, .int (nI (s1 + 1))), (5, .int (nI (nx t_35 d))), (3, .int (nI (a1 + (fC w ro K d f t_35)))), (4, .int (nI (t_35))), (0, .ref (ad 49)), (1, .ref (ad 1)), (2, .ref (ad 8))]) hx hb dX4_findBest_63 hl (k := 6) rfl (inc_up _ 1 (by decide)) (by decide) rfl (fun ls hl => ?_)
          refine lv_goto (tgt := 12) hx hb dX4_findBest_66 (by decide) ?_
          exact ih_12 (s1 + 1) (nx t_35 d) t_35 (a1 + fC w ro K d f t_35) (up2 I1 49 3 (nI (fC w ro K d f t_35))) (by omega) (GI_s hM.2.2.2.2.1 hG hk6 (by omega) ht_35 hc1_35 hc2_35) (fun a ha => by rw [up2_ne (by omega)]; exact hIf a ha) _ _ hW _ (lv_sub hl [4, 5, 6, 2, 3, 1, 0] rfl)
  exact lp_12 (18 + 1) 0 0 6 0 I (by omega) (GI_0 hC0) (fun _ _ => rfl) _ _ hW _ (lv_sub hl [4, 5, 6, 3, 2, 1, 0] rfl)
set_option maxRecDepth 100000 in
set_option maxHeartbeats 4000000 in
theorem k_tell (l : Launch) (G : Gx) (n : Nat) (ad : Nat → Nat) (sz : Nat) (I : Ic) (L : Lc) (R : Rc) (x : Int32) (q : List Nat) (P : Nat) (hn : 71 ≤ n) (hlk : LkOK n R) (hF : Fol q P I L) : Met l yX4_tell (Cond.code yX4_tell cX4_tell 2 (some .int) :: GW) ({ frames := 0, cells := 0, slots := 0, locals := 0 } : Room) (qPre G n ad sz I L R [.ref (ad 49), .int (x)]) (qI0 G (qA n ad sz) (n, ad, I, L, R) (fun z => z = tellS q x)) 0 0 (qA n ad sz) := by
  refine q_met (by decide) (Nat.le_of_ble_eq_true rfl) ?_
  intro p_ e_ s m_ below meth c_ hC hr hlk0 hin hsz hW ls hl
  subst hsz
  have hC : CallFix p_ m_ c_ cX4_tell 2 s ([.ref (ad 49), .int (x)] : List Value).toArray GW "CoinRows$Walk" := hC
  have hx := hC.1
  have hb := hC.2.1
  have h18 := hF.2.2.2
  have hT : (nI q.length).toInt = (q.length : Int) := nI_toInt (by omega)
  have hl : lv_has ls 2 [(0, .ref (ad 49)), (1, .int (x))] := hl
  refine lv_iload_n hx hb dX4_tell_0 rfl (lv_at hl 1 rfl) ?_
  refine lv_iconst (v := -1) hx hb dX4_tell_1 (by decide) ?_
  refine lv_icmp_ne (tgt := 10) hx hb dX4_tell_2 (by decide) (fun c_2 => ?_) (fun c_2 => ?_)
  ·
    refine lv_iload_n hx hb dX4_tell_10 rfl (lv_at hl 1 rfl) ?_
    refine lv_if_lt (tgt := 31) hx hb dX4_tell_11 (by decide) (fun c_11 => ?_) (fun c_11 => ?_)
    ·
      refine lv_bipush (v := -6) hx hb dX4_tell_31 (by decide) ?_
      have hfin : rng x q.length = none := rng_none.mpr (by simp only [hT, Int32.lt_iff_toInt_lt, Int32.le_iff_toInt_le, ← Int32.toInt_inj, nT0, nT1, nT2, nT3, nT4, nT5, nT6, nT7, nT8, nT9, nT10, nT33, nT36, nT42, nT58, nT80, nT126, nT255, i_m1, i_m2, Int32.toInt_zero, Int32.toInt_one] at c_11; omega)
      exact q_iret0 hC hW hr hlk0 (tell_n (fun h => c_2 h) hfin).symm dX4_tell_33
    ·
      refine lv_iload_n hx hb dX4_tell_14 rfl (lv_at hl 1 rfl) ?_
      refine lv_aload_n hx hb dX4_tell_15 rfl (lv_at hl 0 rfl) ?_
      refine g_4_1 (x := 49) hC hW (by omega) kd_49 gw_101 dX4_tell_16 ?_
      refine q_top (v2 := .int (nI (q.length))) (congrArg _ hF.1) ?_
      refine lv_icmp_ge (tgt := 31) hx hb dX4_tell_19 (by decide) (fun c_19 => ?_) (fun c_19 => ?_)
      ·
        refine lv_bipush (v := -6) hx hb dX4_tell_31 (by decide) ?_
        have hfin : rng x q.length = none := rng_none.mpr (by simp only [hT, Int32.lt_iff_toInt_lt, Int32.le_iff_toInt_le, ← Int32.toInt_inj, nT0, nT1, nT2, nT3, nT4, nT5, nT6, nT7, nT8, nT9, nT10, nT33, nT36, nT42, nT58, nT80, nT126, nT255, i_m1, i_m2, Int32.toInt_zero, Int32.toInt_one] at c_11 c_19; omega)
        exact q_iret0 hC hW hr hlk0 (tell_n (fun h => c_2 h) hfin).symm dX4_tell_33
      ·
        obtain ⟨j1, hj1, rfl⟩ := rng_ex (N := q.length) (x := x) (by omega) (by simp only [hT, Int32.lt_iff_toInt_lt, Int32.le_iff_toInt_le, ← Int32.toInt_inj, nT0, nT1, nT2, nT3, nT4, nT5, nT6, nT7, nT8, nT9, nT10, nT33, nT36, nT42, nT58, nT80, nT126, nT255, i_m1, i_m2, Int32.toInt_zero, Int32.toInt_one] at c_11 c_19; omega) (by simp only [hT, Int32.lt_iff_toInt_lt, Int32.le_iff_toInt_le, ← Int32.toInt_inj, nT0, nT1, nT2, nT3, nT4, nT5, nT6, nT7, nT8, nT9, nT10, nT33, nT36, nT42, nT58, nT80, nT126, nT255, i_m1, i_m2, Int32.toInt_zero, Int32.toInt_one] at c_11 c_19; omega)
        refine lv_aload_n hx hb dX4_tell_22 rfl (lv_at hl 0 rfl) ?_
        refine g_4_0 (x := 49) (y := 50) hC hW (by omega) kd_49 gw_100 (hlk 49 0 50 (by omega) rfl) dX4_tell_23 ?_
        refine lv_iload_n hx hb dX4_tell_26 rfl (lv_at hl 1 rfl) ?_
        refine q_iald (x := 50) (i := j1) hC hW (by omega) kd_50 (by omega) dX4_tell_27 ?_
        refine q_top (v2 := .int (nI (q.getD j1 0))) (congrArg _ (hF.2.1 _ hj1)) ?_
        refine lv_goto (tgt := 33) hx hb dX4_tell_28 (by decide) ?_
        exact q_iret0 hC hW hr hlk0 (tell_s hj1 hF.2.2.2 rfl).symm dX4_tell_33
  ·
    refine lv_aload_n hx hb dX4_tell_5 rfl (lv_at hl 0 rfl) ?_
    refine g_4_1 (x := 49) hC hW (by omega) kd_49 gw_101 dX4_tell_6 ?_
    refine q_top (v2 := .int (nI (q.length))) (congrArg _ hF.1) ?_
    exact q_iret0 hC hW hr hlk0 (by rw [c_2, tell_m]) dX4_tell_9
