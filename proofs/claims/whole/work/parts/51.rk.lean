set_option maxRecDepth 100000 in
set_option maxHeartbeats 4000000 in
theorem k_rsave (l : Launch) (G : Gx) (n : Nat) (ad : Nat → Nat) (sz : Nat) (I : Ic) (L : Lc) (R : Rc) (slot : Int32) (w : Nat → Nat) (K : Nat) (ro : Nat → Nat) (hc : Nat) (hi : Nat → CM) (sv : Nat → Option CM) (pn : Nat) (ch : Nat → Nat) (hI0 : InvB n I R ((w, K, ro), hc, hi, sv, pn, ch)) : Met l yX6_save (Cond.code yX6_save cX6_save 3 (some .int) :: GW) ({ frames := 6, cells := 0, slots := 0, locals := 216 } : Room) (qPre G n ad sz I L R [.ref (ad 71), .int (slot)]) (qI1 G (qA n ad sz) n ad R (fun z I1 L1 => RR n I L R (aSave ((w, K, ro), hc, hi, sv, pn, ch) slot) z I1 L1)) 0 0 (qA n ad sz) := by
  refine q_met (by decide) (Nat.le_of_ble_eq_true rfl) ?_
  intro p_ e_ s m_ below meth c_ hC hr hlk0 hin hsz hW ls hl
  subst hsz
  have hC : CallFix p_ m_ c_ cX6_save 3 s ([.ref (ad 71), .int (slot)] : List Value).toArray GW "CoinRowsModel" := hC
  have hx := hC.1
  have hb := hC.2.1
  have hn : 83 ≤ n := hI0.1
  have hlk : LkOK n R := hI0.2.1
  have hN : NwI (I 72) w K ro := hI0.2.2.1
  have hH : HwB I hc hi := hI0.2.2.2.1
  have hSw : SwB I sv := hI0.2.2.2.2.1
  have hPd : PdB I pn ch := hI0.2.2.2.2.2
  have hh1 := hH.1
  have hh6 := hH.2.1
  have hp80 := hPd.2.1
  have hk6 : K ≤ 6 := hN.2.2.2.1
  have hw : Wok w := hN.2.2.2.2.1
  have hw3 : ∀ i, w i ≤ 3 := hw.1
  have hr4 : ∀ j, ro j < 4 := hN.2.2.2.2.2
  have hl : lv_has ls 3 [(0, .ref (ad 71)), (1, .int (slot))] := hl
  refine lv_iload_n hx hb dX6_save_0 rfl (lv_at hl 1 rfl) ?_
  refine q_ic 0 hx hb dX6_save_1 (by decide) ?_
  refine q_ic 1 hx hb dX6_save_2 (by decide) ?_
  refine q_kI0 (q_rS (As := [.int (slot), .int (nI 0), .int (nI 1)]) (rest := []) hC hW mw_X6_in gw_537 (k_in l G n ad s.heap.size I L R _ _ _) ⟨rfl, rfl⟩ ⟨Nat.le_of_ble_eq_true rfl, Nat.le_of_ble_eq_true rfl⟩ ⟨(Nat.le_of_ble_eq_true rfl), (Nat.le_of_ble_eq_true rfl)⟩ hl.1 rfl rfl (Nat.le_of_ble_eq_true rfl) dX6_save_3) hW (fun r_3 H locs hp hW => ?_)
  rw [show (nI 0).toInt = 0 by decide, (show (nI 1).toInt = 1 by decide)] at hp
  rcases hp with ⟨rfl, hx_3, hy_3⟩ | ⟨rfl, hx_3⟩
  ·
    obtain ⟨k_3, hk_3, rfl⟩ := rng_ex2 (N := 2) (x := slot) (by omega) (by omega) (by omega)
    refine q_ine (tgt := 12) hx hb dX6_save_6 (by decide) (by first | omega | exact Nat.lt_of_le_of_lt (hw3 _) (by decide)) (fun c_6 => ?_) (fun c_6 => absurd c_6 (by decide))
    refine q_ic 0 hx hb dX6_save_12 (by decide) ?_
    refine lv_istore_n (lv' := [(2, .int (nI 0)), (0, .ref (ad 71)), (1, .int (nI (k_3)))]) hx hb dX6_save_13 rfl hl (by decide) rfl (fun ls hl => ?_)
    have lp_14 : ∀ (fu_14 : Nat) (k1 : Nat) (I1 : Ic), 70 - k1 < fu_14 → (k1 ≤ 70) → (∀ q, I1 74 q = if 70 * k_3 ≤ q ∧ q < 70 * k_3 + k1 then I 72 (q - 70 * k_3) else I 74 q) → (∀ a, a ≠ 74 → I1 a = I a) → ∀ (H : Heap) (locs : List Loc), Wd G n ad I1 L R (qA n ad s.heap.size) s.heap H locs s → ∀ ls : Array Slot, lv_has ls 3 [(0, .ref (ad 71)), (1, .int (nI (k_3))), (2, .int (nI (k1)))] → W p_ l e_ ({ frames := 6, cells := 0, slots := 0, locals := 216 } : Room) s m_ ([.ref (ad 71), .int (nI (k_3))] : List Value).toArray below meth c_ H locs 0 0 (MQ below (qI1 G (qA n ad s.heap.size) n ad R (fun z I1 L1 => RR n I L R (aSave ((w, K, ro), hc, hi, sv, pn, ch) (nI k_3)) z I1 L1)) ([.ref (ad 71), .int (nI (k_3))] : List Value).toArray s 0 0 (qA n ad s.heap.size)) (F0 m_ 14 ls []) := by
      intro fu_14
      induction fu_14 with
      | zero =>
        intro k1 I1 hm; exact absurd hm (Nat.not_lt_zero _)
      | succ fu_14 ih_14 =>
        intro k1 I1 hm_14 hk70 hJ hJ2 H locs hW ls hl
        refine lv_iload_n hx hb dX6_save_14 rfl (lv_at hl 2 rfl) ?_
        refine q_bp 70 hx hb dX6_save_15 (by decide) ?_
        refine q_cge (tgt := 43) hx hb dX6_save_17 (by decide) (by first | omega | exact Nat.lt_of_le_of_lt (hw3 _) (by decide)) (by first | omega | exact Nat.lt_of_le_of_lt (hw3 _) (by decide)) (fun c_17 => ?_) (fun c_17 => ?_)
        ·
          refine lv_aload_n hx hb dX6_save_43 rfl (lv_at hl 0 rfl) ?_
          refine g_6_4 (x := 71) (y := 75) hC hW (by omega) kd_71 gw_487 (hlk 71 4 75 (by omega) rfl) dX6_save_44 ?_
          refine lv_iload_n hx hb dX6_save_47 rfl (lv_at hl 1 rfl) ?_
          refine q_ic 1 hx hb dX6_save_48 (by decide) ?_
          refine q_zast (x := 75) (i := k_3) (v := nI 1) hC hW (by omega) kd_75 (by omega) rfl dX6_save_49 (fun H locs hW => ?_)
          refine lv_aload_n hx hb dX6_save_50 rfl (lv_at hl 0 rfl) ?_
          refine g_6_0 (x := 71) (y := 72) hC hW (by omega) kd_71 gw_483 (hlk 71 0 72 (by omega) rfl) dX6_save_51 ?_
          refine q_bp 58 hx hb dX6_save_54 (by decide) ?_
          refine q_iald (x := 72) (i := 58) hC hW (by omega) kd_72 (by omega) dX6_save_56 ?_
          refine q_top (v2 := .int (nI (K))) (congrArg _ (by rw [up2_ne (by decide), hJ2 72 (by decide)]; exact hN.2.1)) ?_
          have e70 : k1 = 70 := by omega
          subst e70
          have hSw2 : SwB (up2 I1 75 k_3 (nI 1)) (fun i => if i = k_3 then some (w, K, ro) else sv i) := fun j hj => by
            show (∀ m, (if j = k_3 then some (w, K, ro) else sv j) = some m → up2 I1 75 k_3 (nI 1) 75 j = nI 1 ∧ NwA (fun k => up2 I1 75 k_3 (nI 1) 74 (70 * j + k)) m) ∧ ((if j = k_3 then some (w, K, ro) else sv j) = none → up2 I1 75 k_3 (nI 1) 75 j = nI 0)
            rw [u2q, hJ2 75 (by decide), up2_ne (by decide)]
            by_cases e : j = k_3
            · subst e; rw [if_pos rfl, if_pos rfl]; exact ⟨fun m hm => by cases hm; exact ⟨rfl, NwI_c hN (fun k hk => by show I1 74 (70 * j + k) = I 72 k; rw [hJ, if_pos (by omega)]; congr 1; omega)⟩, fun h => by cases h⟩
            · rw [if_neg e, if_neg e]; exact ⟨fun m hm => ⟨((hSw j hj).1 m hm).1, NwI_c ((hSw j hj).1 m hm).2 (fun k hk => by show I1 74 (70 * j + k) = I 74 (70 * j + k); rw [hJ, if_neg (by omega)])⟩, (hSw j hj).2⟩
          exact q_iret1 hC hW hr hlk0 (RR_i (a' := (nI K, ((w, K, ro), hc, hi, (fun i => if i = k_3 then some (w, K, ro) else sv i), pn, ch))) (by simp only [aSave, rng_nI hk_3 (by decide)]) ⟨rfl, ⟨⟨hn, hlk, (show NwA (up2 I1 75 k_3 (nI 1) 72) (w, K, ro) from by rw [up2_ne (by decide), hJ2 72 (by decide)]; exact hN), (show HwB (up2 I1 75 k_3 (nI 1)) hc hi from HwB_fr hH (by rw [up2_nr (by decide), hJ2 71 (by decide)]) (by rw [up2_ne (by decide), hJ2 73 (by decide)])), hSw2, (show PdB (up2 I1 75 k_3 (nI 1)) pn ch from PdB_fr hPd (by rw [up2_nr (by decide), hJ2 71 (by decide)]) (by rw [up2_ne (by decide), hJ2 76 (by decide)]))⟩, fun a ha => ⟨by rw [up2_ne (by omega)]; exact hJ2 a (by omega), rfl⟩⟩⟩) dX6_save_57
        ·
          refine lv_aload_n hx hb dX6_save_20 rfl (lv_at hl 0 rfl) ?_
          refine g_6_3 (x := 71) (y := 74) hC hW (by omega) kd_71 gw_486 (hlk 71 3 74 (by omega) rfl) dX6_save_21 ?_
          refine lv_iload_n hx hb dX6_save_24 rfl (lv_at hl 1 rfl) ?_
          refine q_bp 70 hx hb dX6_save_25 (by decide) ?_
          refine q_imul hx hb dX6_save_27 ?_
          refine lv_iload_n hx hb dX6_save_28 rfl (lv_at hl 2 rfl) ?_
          refine q_iadd hx hb dX6_save_29 ?_
          refine lv_aload_n hx hb dX6_save_30 rfl (lv_at hl 0 rfl) ?_
          refine g_6_0 (x := 71) (y := 72) hC hW (by omega) kd_71 gw_483 (hlk 71 0 72 (by omega) rfl) dX6_save_31 ?_
          refine lv_iload_n hx hb dX6_save_34 rfl (lv_at hl 2 rfl) ?_
          refine q_iald (x := 72) (i := k1) hC hW (by omega) kd_72 (by omega) dX6_save_35 ?_
          refine q_top (v2 := .int (I 72 k1)) (congrArg _ (by rw [hJ2 72 (by decide)])) ?_
          refine q_iast (x := 74) (i := (k_3 * 70) + k1) (v := I 72 k1) hC hW (by omega) kd_74 (by omega) dX6_save_36 (fun H locs hW => ?_)
          refine q_iinc (z2 := k1 + 1) (lv' := [(2, .int (nI (k1 + 1))), (0, .ref (ad 71)), (1, .int (nI (k_3)))]) hx hb dX6_save_37 hl (k := 2) rfl (inc_up _ 1 (by decide)) (by decide) rfl (fun ls hl => ?_)
          refine lv_goto (tgt := 14) hx hb dX6_save_40 (by decide) ?_
          exact ih_14 (k1 + 1) (up2 I1 74 ((k_3 * 70) + k1) (I 72 k1)) (by omega) (by omega) (fun q => by rw [u2q]; by_cases e : q = k_3 * 70 + k1; (rw [if_pos e, if_pos (by omega), e]; congr 1; omega); rw [if_neg e, hJ]; by_cases e2 : 70 * k_3 ≤ q ∧ q < 70 * k_3 + k1; (rw [if_pos e2, if_pos (by omega)]); rw [if_neg e2, if_neg (by omega)]) (fun a ha => by rw [up2_ne ha]; exact hJ2 a ha) _ _ hW _ (lv_sub hl [1, 2, 0] rfl)
    exact lp_14 (70 + 1) 0 I (by omega) (by omega) (fun q => by rw [if_neg (by omega)]) (fun _ _ => rfl) _ _ hW _ (lv_sub hl [1, 2, 0] rfl)
  ·
    have hk_3 : rng slot 2 = none := rng_none.mpr (by omega)
    refine q_ine (tgt := 12) hx hb dX6_save_6 (by decide) (by first | omega | exact Nat.lt_of_le_of_lt (hw3 _) (by decide)) (fun c_6 => absurd c_6 (by decide)) (fun c_6 => ?_)
    refine lv_bipush (v := -2) hx hb dX6_save_9 (by decide) ?_
    exact q_iret1 hC hW hr hlk0 (RR_i (a' := (-2, ((w, K, ro), hc, hi, sv, pn, ch))) (by simp only [aSave, hk_3]) ⟨rfl, PB_0 hI0⟩) dX6_save_11
set_option maxRecDepth 100000 in
set_option maxHeartbeats 4000000 in
theorem k_rrestore (l : Launch) (G : Gx) (n : Nat) (ad : Nat → Nat) (sz : Nat) (I : Ic) (L : Lc) (R : Rc) (slot : Int32) (w : Nat → Nat) (K : Nat) (ro : Nat → Nat) (hc : Nat) (hi : Nat → CM) (sv : Nat → Option CM) (pn : Nat) (ch : Nat → Nat) (hI0 : InvB n I R ((w, K, ro), hc, hi, sv, pn, ch)) : Met l yX6_restore (Cond.code yX6_restore cX6_restore 3 (some .int) :: GW) ({ frames := 6, cells := 0, slots := 0, locals := 216 } : Room) (qPre G n ad sz I L R [.ref (ad 71), .int (slot)]) (qI1 G (qA n ad sz) n ad R (fun z I1 L1 => RR n I L R (aRestore ((w, K, ro), hc, hi, sv, pn, ch) slot) z I1 L1)) 0 0 (qA n ad sz) := by
  refine q_met (by decide) (Nat.le_of_ble_eq_true rfl) ?_
  intro p_ e_ s m_ below meth c_ hC hr hlk0 hin hsz hW ls hl
  subst hsz
  have hC : CallFix p_ m_ c_ cX6_restore 3 s ([.ref (ad 71), .int (slot)] : List Value).toArray GW "CoinRowsModel" := hC
  have hx := hC.1
  have hb := hC.2.1
  have hn : 83 ≤ n := hI0.1
  have hlk : LkOK n R := hI0.2.1
  have hN : NwI (I 72) w K ro := hI0.2.2.1
  have hH : HwB I hc hi := hI0.2.2.2.1
  have hSw : SwB I sv := hI0.2.2.2.2.1
  have hPd : PdB I pn ch := hI0.2.2.2.2.2
  have hh1 := hH.1
  have hh6 := hH.2.1
  have hp80 := hPd.2.1
  have hk6 : K ≤ 6 := hN.2.2.2.1
  have hw : Wok w := hN.2.2.2.2.1
  have hw3 : ∀ i, w i ≤ 3 := hw.1
  have hr4 : ∀ j, ro j < 4 := hN.2.2.2.2.2
  have hl : lv_has ls 3 [(0, .ref (ad 71)), (1, .int (slot))] := hl
  refine lv_iload_n hx hb dX6_restore_0 rfl (lv_at hl 1 rfl) ?_
  refine q_ic 0 hx hb dX6_restore_1 (by decide) ?_
  refine q_ic 1 hx hb dX6_restore_2 (by decide) ?_
  refine q_kI0 (q_rS (As := [.int (slot), .int (nI 0), .int (nI 1)]) (rest := []) hC hW mw_X6_in gw_537 (k_in l G n ad s.heap.size I L R _ _ _) ⟨rfl, rfl⟩ ⟨Nat.le_of_ble_eq_true rfl, Nat.le_of_ble_eq_true rfl⟩ ⟨(Nat.le_of_ble_eq_true rfl), (Nat.le_of_ble_eq_true rfl)⟩ hl.1 rfl rfl (Nat.le_of_ble_eq_true rfl) dX6_restore_3) hW (fun r_3 H locs hp hW => ?_)
  rw [show (nI 0).toInt = 0 by decide, (show (nI 1).toInt = 1 by decide)] at hp
  rcases hp with ⟨rfl, hx_3, hy_3⟩ | ⟨rfl, hx_3⟩
  ·
    obtain ⟨k_3, hk_3, rfl⟩ := rng_ex2 (N := 2) (x := slot) (by omega) (by omega) (by omega)
    refine q_ine (tgt := 12) hx hb dX6_restore_6 (by decide) (by first | omega | exact Nat.lt_of_le_of_lt (hw3 _) (by decide)) (fun c_6 => ?_) (fun c_6 => absurd c_6 (by decide))
    rcases hsv : sv k_3 with _ | mm_
    ·
      have hi75 := (hSw k_3 hk_3).2 hsv
      refine lv_aload_n hx hb dX6_restore_12 rfl (lv_at hl 0 rfl) ?_
      refine g_6_4 (x := 71) (y := 75) hC hW (by omega) kd_71 gw_487 (hlk 71 4 75 (by omega) rfl) dX6_restore_13 ?_
      refine lv_iload_n hx hb dX6_restore_16 rfl (lv_at hl 1 rfl) ?_
      refine q_zald (x := 75) (i := k_3) hC hW (by omega) kd_75 (by omega) dX6_restore_17 ?_
      refine q_top (v2 := .int (nI 0)) (congrArg _ hi75) ?_
      refine q_ine (tgt := 24) hx hb dX6_restore_18 (by decide) (by first | omega | exact Nat.lt_of_le_of_lt (hw3 _) (by decide)) (fun c_18 => absurd c_18 (by decide)) (fun c_18 => ?_)
      refine lv_bipush (v := -5) hx hb dX6_restore_21 (by decide) ?_
      exact q_iret1 hC hW hr hlk0 (RR_i (a' := (-5, ((w, K, ro), hc, hi, sv, pn, ch))) (by simp only [aRestore, rng_nI hk_3 (by decide), hsv]) ⟨rfl, PB_0 hI0⟩) dX6_restore_23
    ·
      obtain ⟨hi75, hsm⟩ := (hSw k_3 hk_3).1 mm_ hsv
      refine lv_aload_n hx hb dX6_restore_12 rfl (lv_at hl 0 rfl) ?_
      refine g_6_4 (x := 71) (y := 75) hC hW (by omega) kd_71 gw_487 (hlk 71 4 75 (by omega) rfl) dX6_restore_13 ?_
      refine lv_iload_n hx hb dX6_restore_16 rfl (lv_at hl 1 rfl) ?_
      refine q_zald (x := 75) (i := k_3) hC hW (by omega) kd_75 (by omega) dX6_restore_17 ?_
      refine q_top (v2 := .int (nI 1)) (congrArg _ hi75) ?_
      refine q_ine (tgt := 24) hx hb dX6_restore_18 (by decide) (by first | omega | exact Nat.lt_of_le_of_lt (hw3 _) (by decide)) (fun c_18 => ?_) (fun c_18 => absurd c_18 (by decide))
      refine lv_aload_n hx hb dX6_restore_24 rfl (lv_at hl 0 rfl) ?_
      refine q_kV1 (q_rV (As := []) (rest := []) (x := 71) hC hW mw_X6_record gw_546 (k_record l G n ad H.size I L R w K ro hc hi hn hlk hN hH) (by omega) (ct_o6 kd_71) rfl ⟨rfl, rfl⟩ ⟨Nat.le_of_ble_eq_true rfl, Nat.le_of_ble_eq_true rfl⟩ ⟨(Nat.le_of_ble_eq_true rfl), (Nat.le_of_ble_eq_true rfl)⟩ hl.1 rfl rfl (Nat.le_of_ble_eq_true rfl) dX6_restore_25) hW (fun I_25 L_25 H locs hp hW => ?_)
      obtain ⟨hHr_25, hf_25, hj_25, rfl⟩ := hp
      have hN_25 : NwI (I_25 72) w K ro := by rw [hf_25 72 (by decide) (by decide)]; exact hN
      refine q_ic 0 hx hb dX6_restore_28 (by decide) ?_
      refine lv_istore_n (lv' := [(2, .int (nI 0)), (0, .ref (ad 71)), (1, .int (nI (k_3)))]) hx hb dX6_restore_29 rfl hl (by decide) rfl (fun ls hl => ?_)
      have lp_30 : ∀ (fu_30 : Nat) (k1 : Nat) (I1 : Ic), 70 - k1 < fu_30 → (k1 ≤ 70) → (∀ q, I1 72 q = if q < k1 then I 74 (70 * k_3 + q) else I_25 72 q) → (∀ a, a ≠ 72 → I1 a = I_25 a) → ∀ (H : Heap) (locs : List Loc), Wd G n ad I1 L R (qA n ad s.heap.size) s.heap H locs s → ∀ ls : Array Slot, lv_has ls 3 [(0, .ref (ad 71)), (1, .int (nI (k_3))), (2, .int (nI (k1)))] → W p_ l e_ ({ frames := 6, cells := 0, slots := 0, locals := 216 } : Room) s m_ ([.ref (ad 71), .int (nI (k_3))] : List Value).toArray below meth c_ H locs 0 0 (MQ below (qI1 G (qA n ad s.heap.size) n ad R (fun z I1 L1 => RR n I L R (aRestore ((w, K, ro), hc, hi, sv, pn, ch) (nI k_3)) z I1 L1)) ([.ref (ad 71), .int (nI (k_3))] : List Value).toArray s 0 0 (qA n ad s.heap.size)) (F0 m_ 30 ls []) := by
        intro fu_30
        induction fu_30 with
        | zero =>
          intro k1 I1 hm; exact absurd hm (Nat.not_lt_zero _)
        | succ fu_30 ih_30 =>
          intro k1 I1 hm_30 hk70 hJ hJ2 H locs hW ls hl
          refine lv_iload_n hx hb dX6_restore_30 rfl (lv_at hl 2 rfl) ?_
          refine q_bp 70 hx hb dX6_restore_31 (by decide) ?_
          refine q_cge (tgt := 59) hx hb dX6_restore_33 (by decide) (by first | omega | exact Nat.lt_of_le_of_lt (hw3 _) (by decide)) (by first | omega | exact Nat.lt_of_le_of_lt (hw3 _) (by decide)) (fun c_33 => ?_) (fun c_33 => ?_)
          ·
            refine lv_aload_n hx hb dX6_restore_59 rfl (lv_at hl 0 rfl) ?_
            refine g_6_0 (x := 71) (y := 72) hC hW (by omega) kd_71 gw_483 (hlk 71 0 72 (by omega) rfl) dX6_restore_60 ?_
            refine q_bp 58 hx hb dX6_restore_63 (by decide) ?_
            refine q_iald (x := 72) (i := 58) hC hW (by omega) kd_72 (by omega) dX6_restore_65 ?_
            refine q_top (v2 := .int (nI (mm_.2.1))) (congrArg _ (by rw [hJ, if_pos (by omega)]; exact hsm.2.1)) ?_
            exact q_iret1 hC hW hr hlk0 (RR_i (a' := (nI mm_.2.1, (mm_, hcN hc, hiN hc hi (w, K, ro), sv, pn, ch))) (by simp only [aRestore, rng_nI hk_3 (by decide), hsv, remS]) ⟨rfl, PB_rec (m := mm_) hI0 hHr_25 hf_25 (by rw [hJ2 71 (by decide)]) (hJ2 73 (by decide)) (hJ2 74 (by decide)) (hJ2 75 (by decide)) (show NwA (I1 72) mm_ from NwI_c hsm (fun k hk => by rw [hJ, if_pos (by omega)])) (PdB_fr hPd (by rw [hJ2 71 (by decide)]; exact hj_25 6 (by decide)) (by rw [hJ2 76 (by decide)]; exact hf_25 76 (by decide) (by decide))) (fun a ha => hJ2 a (by omega)) (fun _ _ => rfl)⟩) dX6_restore_66
          ·
            refine lv_aload_n hx hb dX6_restore_36 rfl (lv_at hl 0 rfl) ?_
            refine g_6_0 (x := 71) (y := 72) hC hW (by omega) kd_71 gw_483 (hlk 71 0 72 (by omega) rfl) dX6_restore_37 ?_
            refine lv_iload_n hx hb dX6_restore_40 rfl (lv_at hl 2 rfl) ?_
            refine lv_aload_n hx hb dX6_restore_41 rfl (lv_at hl 0 rfl) ?_
            refine g_6_3 (x := 71) (y := 74) hC hW (by omega) kd_71 gw_486 (hlk 71 3 74 (by omega) rfl) dX6_restore_42 ?_
            refine lv_iload_n hx hb dX6_restore_45 rfl (lv_at hl 1 rfl) ?_
            refine q_bp 70 hx hb dX6_restore_46 (by decide) ?_
            refine q_imul hx hb dX6_restore_48 ?_
            refine lv_iload_n hx hb dX6_restore_49 rfl (lv_at hl 2 rfl) ?_
            refine q_iadd hx hb dX6_restore_50 ?_
            refine q_iald (x := 74) (i := (k_3 * 70) + k1) hC hW (by omega) kd_74 (by omega) dX6_restore_51 ?_
            refine q_top (v2 := .int (I 74 ((k_3 * 70) + k1))) (congrArg _ (by rw [hJ2 74 (by decide), hf_25 74 (by decide) (by decide)])) ?_
            refine q_iast (x := 72) (i := k1) (v := I 74 ((k_3 * 70) + k1)) hC hW (by omega) kd_72 (by omega) dX6_restore_52 (fun H locs hW => ?_)
            refine q_iinc (z2 := k1 + 1) (lv' := [(2, .int (nI (k1 + 1))), (0, .ref (ad 71)), (1, .int (nI (k_3)))]) hx hb dX6_restore_53 hl (k := 2) rfl (inc_up _ 1 (by decide)) (by decide) rfl (fun ls hl => ?_)
            refine lv_goto (tgt := 30) hx hb dX6_restore_56 (by decide) ?_
            exact ih_30 (k1 + 1) (up2 I1 72 k1 (I 74 ((k_3 * 70) + k1))) (by omega) (by omega) (fun q => by rw [u2q]; by_cases e : q = k1; (rw [if_pos e, if_pos (by omega), e]; congr 1; omega); rw [if_neg e, hJ]; by_cases e2 : q < k1; (rw [if_pos e2, if_pos (by omega)]); rw [if_neg e2, if_neg (by omega)]) (fun a ha => by rw [up2_ne ha]; exact hJ2 a ha) _ _ hW _ (lv_sub hl [1, 2, 0] rfl)
      exact lp_30 (70 + 1) 0 I_25 (by omega) (by omega) (fun q => by rw [if_neg (by omega)]) (fun _ _ => rfl) _ _ hW _ (lv_sub hl [1, 2, 0] rfl)
  ·
    have hk_3 : rng slot 2 = none := rng_none.mpr (by omega)
    refine q_ine (tgt := 12) hx hb dX6_restore_6 (by decide) (by first | omega | exact Nat.lt_of_le_of_lt (hw3 _) (by decide)) (fun c_6 => absurd c_6 (by decide)) (fun c_6 => ?_)
    refine lv_bipush (v := -2) hx hb dX6_restore_9 (by decide) ?_
    exact q_iret1 hC hW hr hlk0 (RR_i (a' := (-2, ((w, K, ro), hc, hi, sv, pn, ch))) (by simp only [aRestore, hk_3]) ⟨rfl, PB_0 hI0⟩) dX6_restore_11
