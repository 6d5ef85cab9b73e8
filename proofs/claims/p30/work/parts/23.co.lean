set_option maxRecDepth 100000 in
set_option maxHeartbeats 4000000 in
theorem k_remember (l : Launch) (G : Gx) (n : Nat) (ad : Nat → Nat) (sz : Nat) (I : Ic) (L : Lc) (R : Rc) (w : Nat → Nat) (K : Nat) (ro : Nat → Nat) (hc : Nat) (hi : Nat → CM) (sv : Nat → Option CM) (hn : 71 ≤ n) (hlk : LkOK n R) (hM : MdI I w K ro) (hH : HiA I R hc hi) (hS : SvA n I R sv) : Met l yX5_remember (Cond.code yX5_remember cX5_remember 3 none :: GW) ({ frames := 2, cells := 0, slots := 0, locals := 72 } : Room) (qPre G n ad sz I L R [.ref (ad 0)]) (qV2 G (qA n ad sz) (fun u => RemP n ad I L hc hi sv R (w, K, ro) u.1 u.2.1 u.2.2.1 u.2.2.2.1 u.2.2.2.2)) 0 0 (qA n ad sz) := by
  refine q_met (by decide) (Nat.le_of_ble_eq_true rfl) ?_
  intro p_ e_ s m_ below meth c_ hC hr hlk0 hin hsz hW ls hl
  subst hsz
  have hC : CallFix p_ m_ c_ cX5_remember 3 s ([.ref (ad 0)] : List Value).toArray GW "CoinRows" := hC
  have hx := hC.1
  have hb := hC.2.1
  obtain ⟨hh1, hh6, hm, hmA, hmB, hmC⟩ := hH
  have hl : lv_has ls 3 [(0, .ref (ad 0))] := hl
  refine lv_aload_n hx hb dX5_remember_0 rfl (lv_at hl 0 rfl) ?_
  refine g_5_2 (x := 0) hC hW (by omega) kd_0 gw_126 dX5_remember_1 ?_
  refine q_top (v2 := .int (nI (hc))) (congrArg _ hh1) ?_
  refine q_bp 6 hx hb dX5_remember_4 (by decide) ?_
  refine q_clt (tgt := 56) hx hb dX5_remember_6 (by decide) (by first | omega | exact Nat.lt_of_le_of_lt (hw3 _) (by decide)) (by first | omega | exact Nat.lt_of_le_of_lt (hw3 _) (by decide)) (fun c_6 => ?_) (fun c_6 => ?_)
  ·
    have hb1 := (hmA hc (by omega)).1
    refine lv_aload_n hx hb dX5_remember_56 rfl (lv_at hl 0 rfl) ?_
    refine g_5_1 (x := 0) (y := 4) hC hW (by omega) kd_0 gw_125 (hlk 0 1 4 (by omega) rfl) dX5_remember_57 ?_
    refine lv_aload_n hx hb dX5_remember_60 rfl (lv_at hl 0 rfl) ?_
    refine g_5_2 (x := 0) hC hW (by omega) kd_0 gw_126 dX5_remember_61 ?_
    refine q_top (v2 := .int (nI (hc))) (congrArg _ hh1) ?_
    refine q_aald4 (x := 4) (i := hc) (y := 53 + 3 * hm hc) hC hW (by omega) kd_4 (by omega) (hmA hc (by omega)).2 dX5_remember_64 ?_
    refine lv_aload_n hx hb dX5_remember_65 rfl (lv_at hl 0 rfl) ?_
    refine g_5_0 (x := 0) (y := 1) hC hW (by omega) kd_0 gw_124 (hlk 0 0 1 (by omega) rfl) dX5_remember_66 ?_
    refine q_kV1 (q_rV (As := [.ref (ad 1)]) (rest := []) (x := (53 + 3 * hm hc)) hC hW mw_X0_copyFrom gw_381 (k_copyFrom l G n ad s.heap.size I L R (53 + 3 * hm hc) 1 hlk (by omega) (by omega) (mdl_h hb1) mdl_1) (by omega) (ct_o0 (mdl_h hb1).1) rfl ⟨rfl, rfl⟩ ⟨Nat.le_of_ble_eq_true rfl, Nat.le_of_ble_eq_true rfl⟩ ⟨(Nat.le_of_ble_eq_true rfl), (Nat.le_of_ble_eq_true rfl)⟩ hl.1 rfl rfl (Nat.le_of_ble_eq_true rfl) dX5_remember_69) hW (fun I_69 L_69 H locs hp hW => ?_)
    obtain ⟨rfl, rfl⟩ := hp
    refine lv_aload_n hx hb dX5_remember_72 rfl (lv_at hl 0 rfl) ?_
    refine lv_dup hx hb dX5_remember_73 rfl ?_
    refine g_5_2 (x := 0) hC hW (by omega) kd_0 gw_126 dX5_remember_74 ?_
    refine q_top (v2 := .int (nI (hc))) (congrArg _ (by rw [cpM_ne (by omega) (by omega) (by omega)]; exact hh1)) ?_
    refine q_ic 1 hx hb dX5_remember_77 (by decide) ?_
    refine q_iadd hx hb dX5_remember_78 ?_
    refine p_5_2 (x := 0) (v := nI (hc + 1)) hC hW (by omega) kd_0 gw_126 dX5_remember_79 (fun H locs hW => ?_)
    exact q_vret2 hC hW hr hlk0 (rem_lo hlk (by omega) hmA hmB hmC hS hM) dX5_remember_82
  ·
    have hb1 := (hmA 0 (by omega)).1
    have he6 : hc = 6 := by omega
    refine lv_aload_n hx hb dX5_remember_9 rfl (lv_at hl 0 rfl) ?_
    refine g_5_1 (x := 0) (y := 4) hC hW (by omega) kd_0 gw_125 (hlk 0 1 4 (by omega) rfl) dX5_remember_10 ?_
    refine q_ic 0 hx hb dX5_remember_13 (by decide) ?_
    refine q_aald4 (x := 4) (i := 0) (y := 53 + 3 * hm 0) hC hW (by omega) kd_4 (by omega) (hmA 0 (by omega)).2 dX5_remember_14 ?_
    refine lv_astore_n (lv' := [(1, .ref (ad (53 + 3 * hm 0))), (0, .ref (ad 0))]) hx hb dX5_remember_15 rfl hl (by decide) rfl (fun ls hl => ?_)
    refine q_ic 1 hx hb dX5_remember_16 (by decide) ?_
    refine lv_istore_n (lv' := [(2, .int (nI 1)), (1, .ref (ad (53 + 3 * hm 0))), (0, .ref (ad 0))]) hx hb dX5_remember_17 rfl hl (by decide) rfl (fun ls hl => ?_)
    have lp_18 : ∀ (fu_18 : Nat) (i : Nat) (R1 : Rc), 6 - i < fu_18 → (1 ≤ i) → (i ≤ 6) → (RotS R R1 hm i) → ∀ (H : Heap) (locs : List Loc), Wd G n ad I L R1 (qA n ad s.heap.size) s.heap H locs s → ∀ ls : Array Slot, lv_has ls 3 [(0, .ref (ad 0)), (1, .ref (ad (53 + 3 * hm 0))), (2, .int (nI (i)))] → W p_ l e_ ({ frames := 2, cells := 0, slots := 0, locals := 72 } : Room) s m_ ([.ref (ad 0)] : List Value).toArray below meth c_ H locs 0 0 (MQ below (qV2 G (qA n ad s.heap.size) (fun u => RemP n ad I L hc hi sv R (w, K, ro) u.1 u.2.1 u.2.2.1 u.2.2.2.1 u.2.2.2.2)) ([.ref (ad 0)] : List Value).toArray s 0 0 (qA n ad s.heap.size)) (F0 m_ 18 ls []) := by
      intro fu_18
      induction fu_18 with
      | zero =>
        intro i R1 hm; exact absurd hm (Nat.not_lt_zero _)
      | succ fu_18 ih_18 =>
        intro i R1 hm_18 h1i hi6 hR1 H locs hW ls hl
        have hlk1 : LkOK n R1 := LkOK_4 hlk (fun a ha _ => hR1.2.1 a ha)
        refine lv_iload_n hx hb dX5_remember_18 rfl (lv_at hl 2 rfl) ?_
        refine q_bp 6 hx hb dX5_remember_19 (by decide) ?_
        refine q_cge (tgt := 44) hx hb dX5_remember_21 (by decide) (by first | omega | exact Nat.lt_of_le_of_lt (hw3 _) (by decide)) (by first | omega | exact Nat.lt_of_le_of_lt (hw3 _) (by decide)) (fun c_21 => ?_) (fun c_21 => ?_)
        ·
          refine lv_aload_n hx hb dX5_remember_44 rfl (lv_at hl 0 rfl) ?_
          refine g_5_1 (x := 0) (y := 4) hC hW (by omega) kd_0 gw_125 (hlk1 0 1 4 (by omega) rfl) dX5_remember_45 ?_
          refine q_ic 5 hx hb dX5_remember_48 (by decide) ?_
          refine lv_aload_n hx hb dX5_remember_49 rfl (lv_at hl 1 rfl) ?_
          refine q_aast4 (x := 4) (i := 5) (y := (53 + 3 * hm 0)) hC hW (by omega) kd_4 (by omega) (by omega) (mdl_h hb1).1 dX5_remember_50 (fun H locs hW => ?_)
          refine lv_aload_n hx hb dX5_remember_51 rfl (lv_at hl 0 rfl) ?_
          refine q_ic 5 hx hb dX5_remember_52 (by decide) ?_
          refine p_5_2 (x := 0) (v := nI 5) hC hW (by omega) kd_0 gw_126 dX5_remember_53 (fun H locs hW => ?_)
          refine lv_aload_n hx hb dX5_remember_56 rfl (lv_at hl 0 rfl) ?_
          refine g_5_1 (x := 0) (y := 4) hC hW (by omega) kd_0 gw_125 ((LkOK_4 hlk (fun a ha _ => by rw [up2_ne ha]; exact hR1.2.1 a ha)) 0 1 4 (by omega) rfl) dX5_remember_57 ?_
          refine lv_aload_n hx hb dX5_remember_60 rfl (lv_at hl 0 rfl) ?_
          refine g_5_2 (x := 0) hC hW (by omega) kd_0 gw_126 dX5_remember_61 ?_
          refine q_top (v2 := .int (nI 5)) (congrArg _ (by rw [up2_at, if_pos ⟨rfl, rfl⟩])) ?_
          refine q_aald4 (x := 4) (i := 5) (y := 53 + 3 * hm 0) hC hW (by omega) kd_4 (by omega) (by rw [up2_at, if_pos ⟨rfl, rfl⟩]) dX5_remember_64 ?_
          refine lv_aload_n hx hb dX5_remember_65 rfl (lv_at hl 0 rfl) ?_
          refine g_5_0 (x := 0) (y := 1) hC hW (by omega) kd_0 gw_124 ((LkOK_4 hlk (fun a ha _ => by rw [up2_ne ha]; exact hR1.2.1 a ha)) 0 0 1 (by omega) rfl) dX5_remember_66 ?_
          refine q_kV1 (q_rV (As := [.ref (ad 1)]) (rest := []) (x := (53 + 3 * hm 0)) hC hW mw_X0_copyFrom gw_381 (k_copyFrom l G n ad H.size (up2 I 0 2 (nI 5)) L (up2 R1 4 5 (some (53 + 3 * hm 0))) (53 + 3 * hm 0) 1 (LkOK_4 hlk (fun a ha _ => by rw [up2_ne ha]; exact hR1.2.1 a ha)) (by omega) (by omega) (mdl_h hb1) mdl_1) (by omega) (ct_o0 (mdl_h hb1).1) rfl ⟨rfl, rfl⟩ ⟨Nat.le_of_ble_eq_true rfl, Nat.le_of_ble_eq_true rfl⟩ ⟨(Nat.le_of_ble_eq_true rfl), (Nat.le_of_ble_eq_true rfl)⟩ hl.1 rfl rfl (Nat.le_of_ble_eq_true rfl) dX5_remember_69) hW (fun I_69 L_69 H locs hp hW => ?_)
          obtain ⟨rfl, rfl⟩ := hp
          refine lv_aload_n hx hb dX5_remember_72 rfl (lv_at hl 0 rfl) ?_
          refine lv_dup hx hb dX5_remember_73 rfl ?_
          refine g_5_2 (x := 0) hC hW (by omega) kd_0 gw_126 dX5_remember_74 ?_
          refine q_top (v2 := .int (nI 5)) (congrArg _ (by rw [cpM_ne (by omega) (by omega) (by omega), up2_at, if_pos ⟨rfl, rfl⟩])) ?_
          refine q_ic 1 hx hb dX5_remember_77 (by decide) ?_
          refine q_iadd hx hb dX5_remember_78 ?_
          refine p_5_2 (x := 0) (v := nI 6) hC hW (by omega) kd_0 gw_126 dX5_remember_79 (fun H locs hW => ?_)
          exact q_vret2 hC hW hr hlk0 (rem_hi hlk he6 hmA hmB hmC hS hM hR1 (by omega)) dX5_remember_82
        ·
          have hbi := (hmA i (by omega)).1
          refine lv_aload_n hx hb dX5_remember_24 rfl (lv_at hl 0 rfl) ?_
          refine g_5_1 (x := 0) (y := 4) hC hW (by omega) kd_0 gw_125 (hlk1 0 1 4 (by omega) rfl) dX5_remember_25 ?_
          refine lv_iload_n hx hb dX5_remember_28 rfl (lv_at hl 2 rfl) ?_
          refine q_ic 1 hx hb dX5_remember_29 (by decide) ?_
          refine q_isub hx hb dX5_remember_30 (by omega) ?_
          refine lv_aload_n hx hb dX5_remember_31 rfl (lv_at hl 0 rfl) ?_
          refine g_5_1 (x := 0) (y := 4) hC hW (by omega) kd_0 gw_125 (hlk1 0 1 4 (by omega) rfl) dX5_remember_32 ?_
          refine lv_iload_n hx hb dX5_remember_35 rfl (lv_at hl 2 rfl) ?_
          refine q_aald4 (x := 4) (i := i) (y := 53 + 3 * hm i) hC hW (by omega) kd_4 (by omega) (by rw [hR1.1 i (by omega), if_neg (by omega)]) dX5_remember_36 ?_
          refine q_aast4 (x := 4) (i := i - 1) (y := (53 + 3 * hm i)) hC hW (by omega) kd_4 (by omega) (by omega) (mdl_h hbi).1 dX5_remember_37 (fun H locs hW => ?_)
          refine q_iinc (z2 := i + 1) (lv' := [(2, .int (nI (i + 1))), (0, .ref (ad 0)), (1, .ref (ad (53 + 3 * hm 0)))]) hx hb dX5_remember_38 hl (k := 2) rfl (inc_up _ 1 (by decide)) (by decide) rfl (fun ls hl => ?_)
          refine lv_goto (tgt := 18) hx hb dX5_remember_41 (by decide) ?_
          exact ih_18 (i + 1) (up2 R1 4 (i - 1) (some (53 + 3 * hm i))) (by omega) (by omega) (by omega) (RotS_s hR1 h1i (by omega)) _ _ hW _ (lv_sub hl [1, 2, 0] rfl)
    exact lp_18 (6 + 1) 1 R (by omega) (by omega) (by omega) (⟨fun j hj => by rw [if_neg (by omega)]; exact (hmA j hj).2, fun _ _ => rfl, fun _ _ => rfl⟩) _ _ hW _ (lv_sub hl [2, 1, 0] rfl)
