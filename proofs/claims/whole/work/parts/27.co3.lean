set_option maxRecDepth 100000 in
set_option maxHeartbeats 4000000 in
theorem k_count (l : Launch) (G : Gx) (n : Nat) (ad : Nat → Nat) (sz : Nat) (I : Ic) (L : Lc) (R : Rc) (what : Int32) (w : Nat → Nat) (K : Nat) (ro : Nat → Nat) (hc : Nat) (hi : Nat → CM) (sv : Nat → Option CM) (pn : Nat) (ch : Nat → Nat) (hI0 : InvA n I L R ((w, K, ro), hc, hi, sv, pn, ch)) : Met l yX5_count (Cond.code yX5_count cX5_count 2 (some .int) :: GW) ({ frames := 6, cells := 0, slots := 0, locals := 216 } : Room) (qPre G n ad sz I L R [.ref (ad 0), .int (what)]) (qI2 G (qA n ad sz) (fun z u => PR n ad I L R (aCount ((w, K, ro), hc, hi, sv, pn, ch) what, ((w, K, ro), hc, hi, sv, pn, ch)) z u)) 0 0 (qA n ad sz) := by
  refine q_met (by decide) (Nat.le_of_ble_eq_true rfl) ?_
  intro p_ e_ s m_ below meth c_ hC hr hlk0 hin hsz hW ls hl
  subst hsz
  have hC : CallFix p_ m_ c_ cX5_count 2 s ([.ref (ad 0), .int (what)] : List Value).toArray GW "CoinRows" := hC
  have hx := hC.1
  have hb := hC.2.1
  have hn : 83 ≤ n := hI0.1
  have hlk : LkOK n R := hI0.2.1
  have hM : MdI I w K ro := hI0.2.2.1
  have hSI : SI L := hI0.2.2.2.1
  have hPd : PadI I pn ch := hI0.2.2.2.2.1
  have hHi : HiA I R hc hi := hI0.2.2.2.2.2.1
  have hSv : SvA n I R sv := hI0.2.2.2.2.2.2
  have hh1 := hHi.1
  have hh6 := hHi.2.1
  have hp80 := hPd.2.1
  have hk6 : K ≤ 6 := hM.2.2.2.1
  have hw3 : ∀ i, w i ≤ 3 := hM.2.2.2.2.1.1
  have hr4 : ∀ j, ro j < 4 := hM.2.2.2.2.2
  have hl : lv_has ls 2 [(0, .ref (ad 0)), (1, .int (what))] := hl
  refine lv_iload_n hx hb dX5_count_0 rfl (lv_at hl 1 rfl) ?_
  by_cases hsw_ : what.toInt < 0 ∨ 3 < what.toInt
  ·
    have hv_ : rng what 4 = none := rng_none.mpr (by omega)
    refine lv_tableOut (tgt := 61) hx hb dX5_count_1 hsw_ (by decide) ?_
    refine lv_bipush (v := -2) hx hb dX5_count_61 (by decide) ?_
    exact q_iret2 hC hW hr hlk0 (PR_i (a' := (-2, ((w, K, ro), hc, hi, sv, pn, ch))) (by simp only [aCount, hv_]) ⟨rfl, PA_0 hI0⟩) dX5_count_63
  ·
    obtain ⟨u_, hu_, rfl⟩ := rng_ex (N := 4) (x := what) (by decide) (by omega) (by omega)
    have hu9 : u_ = 0 ∨ u_ = 1 ∨ u_ = 2 ∨ u_ = 3 := by omega
    rcases hu9 with rfl | rfl | rfl | rfl
    ·
      refine lv_tableIn (off := 31) (tgt := 32) hx hb dX5_count_1 (by decide) (by decide) rfl (by decide) ?_
      refine lv_aload_n hx hb dX5_count_32 rfl (lv_at hl 0 rfl) ?_
      refine g_5_0 (x := 0) (y := 1) hC hW (by omega) kd_0 gw_130 (hlk 0 0 1 (by omega) rfl) dX5_count_33 ?_
      refine g_0_2 (x := 1) hC hW (by omega) kd_1 gw_34 dX5_count_36 ?_
      refine q_top (v2 := .int (nI (K))) (congrArg _ hM.2.1) ?_
      exact q_iret2 hC hW hr hlk0 (PR_i (a' := (nI (K), ((w, K, ro), hc, hi, sv, pn, ch))) (by simp only [aCount, rng_nI (show 0 < 4 by decide) (by decide)]) ⟨rfl, PA_0 hI0⟩) dX5_count_39
    ·
      refine lv_tableIn (off := 39) (tgt := 40) hx hb dX5_count_1 (by decide) (by decide) rfl (by decide) ?_
      refine lv_aload_n hx hb dX5_count_40 rfl (lv_at hl 0 rfl) ?_
      refine g_5_0 (x := 0) (y := 1) hC hW (by omega) kd_0 gw_130 (hlk 0 0 1 (by omega) rfl) dX5_count_41 ?_
      refine q_kI0 (q_rV (As := []) (rest := []) (x := 1) hC hW mw_X0_countWeights gw_461 (k_countWeights l G n ad s.heap.size I L R w K ro hn hlk hM) (by omega) (ct_o0 kd_1) rfl ⟨rfl, rfl⟩ ⟨Nat.le_of_ble_eq_true rfl, Nat.le_of_ble_eq_true rfl⟩ ⟨Nat.le_of_ble_eq_true rfl, Nat.le_of_ble_eq_true rfl⟩ hl.1 rfl rfl (Nat.le_of_ble_eq_true rfl) dX5_count_44) hW (fun r_44 H locs hp hW => ?_)
      subst hp
      exact q_iret2 hC hW hr hlk0 (PR_i (a' := (nI (cntW w 58), ((w, K, ro), hc, hi, sv, pn, ch))) (by simp only [aCount, rng_nI (show 1 < 4 by decide) (by decide)]) ⟨rfl, PA_0 hI0⟩) dX5_count_47
    ·
      refine lv_tableIn (off := 47) (tgt := 48) hx hb dX5_count_1 (by decide) (by decide) rfl (by decide) ?_
      refine lv_aload_n hx hb dX5_count_48 rfl (lv_at hl 0 rfl) ?_
      refine g_5_4 (x := 0) (y := 6) hC hW (by omega) kd_0 gw_134 (hlk 0 4 6 (by omega) rfl) dX5_count_49 ?_
      refine g_1_1 (x := 6) hC hW (by omega) kd_6 gw_54 dX5_count_52 ?_
      refine q_top (v2 := .int (nI (pn))) (congrArg _ hPd.1) ?_
      exact q_iret2 hC hW hr hlk0 (PR_i (a' := (nI (pn), ((w, K, ro), hc, hi, sv, pn, ch))) (by simp only [aCount, rng_nI (show 2 < 4 by decide) (by decide)]) ⟨rfl, PA_0 hI0⟩) dX5_count_55
    ·
      refine lv_tableIn (off := 55) (tgt := 56) hx hb dX5_count_1 (by decide) (by decide) rfl (by decide) ?_
      refine lv_aload_n hx hb dX5_count_56 rfl (lv_at hl 0 rfl) ?_
      refine g_5_2 (x := 0) hC hW (by omega) kd_0 gw_132 dX5_count_57 ?_
      refine q_top (v2 := .int (nI (hc))) (congrArg _ hh1) ?_
      exact q_iret2 hC hW hr hlk0 (PR_i (a' := (nI (hc), ((w, K, ro), hc, hi, sv, pn, ch))) (by simp only [aCount, rng_nI (show 3 < 4 by decide) (by decide)]) ⟨rfl, PA_0 hI0⟩) dX5_count_60
set_option maxRecDepth 100000 in
set_option maxHeartbeats 4000000 in
theorem k_put (l : Launch) (G : Gx) (n : Nat) (ad : Nat → Nat) (sz : Nat) (I : Ic) (L : Lc) (R : Rc) (X : Nat) (hX : X < 2 ^ 64) (w : Nat → Nat) (K : Nat) (ro : Nat → Nat) (hc : Nat) (hi : Nat → CM) (sv : Nat → Option CM) (pn : Nat) (ch : Nat → Nat) (hI0 : InvA n I L R ((w, K, ro), hc, hi, sv, pn, ch)) : Met l yX5_put (Cond.code yX5_put cX5_put 4 (some .int) :: GW) ({ frames := 6, cells := 0, slots := 0, locals := 216 } : Room) (qPre G n ad sz I L R [.ref (ad 0), .long (lN (X))]) (qI2 G (qA n ad sz) (fun z u => PR n ad I L R (aPut ((w, K, ro), hc, hi, sv, pn, ch) X) z u)) 0 0 (qA n ad sz) := by
  refine q_met (by decide) (Nat.le_of_ble_eq_true rfl) ?_
  intro p_ e_ s m_ below meth c_ hC hr hlk0 hin hsz hW ls hl
  subst hsz
  have hC : CallFix p_ m_ c_ cX5_put 4 s ([.ref (ad 0), .long (lN (X))] : List Value).toArray GW "CoinRows" := hC
  have hx := hC.1
  have hb := hC.2.1
  have hn : 83 ≤ n := hI0.1
  have hlk : LkOK n R := hI0.2.1
  have hM : MdI I w K ro := hI0.2.2.1
  have hSI : SI L := hI0.2.2.2.1
  have hPd : PadI I pn ch := hI0.2.2.2.2.1
  have hHi : HiA I R hc hi := hI0.2.2.2.2.2.1
  have hSv : SvA n I R sv := hI0.2.2.2.2.2.2
  have hh1 := hHi.1
  have hh6 := hHi.2.1
  have hp80 := hPd.2.1
  have hk6 : K ≤ 6 := hM.2.2.2.1
  have hw3 : ∀ i, w i ≤ 3 := hM.2.2.2.2.1.1
  have hr4 : ∀ j, ro j < 4 := hM.2.2.2.2.2
  have hl : lv_has ls 4 [(0, .ref (ad 0)), (1, .long (lN (X)))] := hl
  refine lv_lload_n hx hb dX5_put_0 rfl (lv_at hl 1 rfl) ?_
  refine q_kI0 (q_rSO (As := [.long (lN (X))]) (rest := []) hC hW mw_X1_countSigns gw_281 (k_countSigns l G n ad s.heap.size I L R X hX) ⟨rfl, rfl⟩ ⟨Nat.le_of_ble_eq_true rfl, Nat.le_of_ble_eq_true rfl⟩ ⟨Nat.le_of_ble_eq_true rfl, Nat.le_of_ble_eq_true rfl⟩ hl.1 rfl rfl (Nat.le_of_ble_eq_true rfl) dX5_put_1) hW (fun r_1 H locs hp hW => ?_)
  rcases hp with ⟨k_, hk_, rfl⟩ | ⟨hk_, rfl⟩
  ·
    have hk8 := hk_.2.1
    have hk1 := hk_.1
    refine lv_istore_n (lv' := [(3, .int (nI (k_))), (0, .ref (ad 0)), (1, .long (lN (X)))]) hx hb dX5_put_4 rfl hl (by decide) rfl (fun ls hl => ?_)
    refine lv_iload_n hx hb dX5_put_5 rfl (lv_at hl 0 rfl) ?_
    refine q_ic 1 hx hb dX5_put_6 (by decide) ?_
    refine q_cge (tgt := 13) hx hb dX5_put_7 (by decide) (by first | omega | exact Nat.lt_of_le_of_lt (hw3 _) (by decide)) (by first | omega | exact Nat.lt_of_le_of_lt (hw3 _) (by decide)) (fun c_7 => ?_) (fun c_7 => absurd hk1 (by omega))
    refine lv_aload_n hx hb dX5_put_13 rfl (lv_at hl 1 rfl) ?_
    refine g_5_4 (x := 0) (y := 6) hC hW (by omega) kd_0 gw_134 (hlk 0 4 6 (by omega) rfl) dX5_put_14 ?_
    refine g_1_1 (x := 6) hC hW (by omega) kd_6 gw_54 dX5_put_17 ?_
    refine q_top (v2 := .int (nI (pn))) (congrArg _ hPd.1) ?_
    refine lv_iload_n hx hb dX5_put_20 rfl (lv_at hl 0 rfl) ?_
    refine q_iadd hx hb dX5_put_21 ?_
    refine q_bp 80 hx hb dX5_put_22 (by decide) ?_
    refine q_cle (tgt := 30) hx hb dX5_put_24 (by decide) (by first | omega | exact Nat.lt_of_le_of_lt (hw3 _) (by decide)) (by first | omega | exact Nat.lt_of_le_of_lt (hw3 _) (by decide)) (fun c_24 => ?_) (fun c_24 => ?_)
    ·
      refine lv_aload_n hx hb dX5_put_30 rfl (lv_at hl 1 rfl) ?_
      refine g_5_4 (x := 0) (y := 6) hC hW (by omega) kd_0 gw_134 (hlk 0 4 6 (by omega) rfl) dX5_put_31 ?_
      refine lv_lload_n hx hb dX5_put_34 rfl (lv_at hl 2 rfl) ?_
      refine lv_iload_n hx hb dX5_put_35 rfl (lv_at hl 0 rfl) ?_
      refine q_kV1 (q_rV (As := [.long (lN (X)), .int (nI (k_))]) (rest := []) (x := 6) hC hW mw_X1_append gw_287 (k_pappend l G n ad H.size I L R pn ch X k_ hn hlk hPd hX hk_ (by omega)) (by omega) (ct_o1 kd_6) rfl ⟨rfl, rfl⟩ ⟨Nat.le_of_ble_eq_true rfl, Nat.le_of_ble_eq_true rfl⟩ ⟨Nat.le_of_ble_eq_true rfl, Nat.le_of_ble_eq_true rfl⟩ hl.1 rfl rfl (Nat.le_of_ble_eq_true rfl) dX5_put_36) hW (fun I_36 L_36 H locs hp hW => ?_)
      obtain ⟨hP1, hF1, rfl⟩ := hp
      refine lv_aload_n hx hb dX5_put_39 rfl (lv_at hl 1 rfl) ?_
      refine g_5_4 (x := 0) (y := 6) hC hW (by omega) kd_0 gw_134 (hlk 0 4 6 (by omega) rfl) dX5_put_40 ?_
      refine g_1_1 (x := 6) hC hW (by omega) kd_6 gw_54 dX5_put_43 ?_
      refine q_top (v2 := .int (nI (pn + k_))) (congrArg _ hP1.1) ?_
      exact q_iret2 hC hW hr hlk0 (PR_i (a' := (nI (pn + k_), ((w, K, ro), hc, hi, sv, pn + k_, chA ch pn X k_))) (by simp only [aPut, cs_some hk_, if_neg (show ¬ 80 < pn + k_ by omega)]) ⟨rfl, PA_p hI0 hF1 hP1⟩) dX5_put_46
    ·
      refine lv_bipush (v := -4) hx hb dX5_put_27 (by decide) ?_
      exact q_iret2 hC hW hr hlk0 (PR_i (a' := (-4, ((w, K, ro), hc, hi, sv, pn, ch))) (by simp only [aPut, cs_some hk_, if_pos (show 80 < pn + k_ by omega)]) ⟨rfl, PA_0 hI0⟩) dX5_put_29
  ·
    refine lv_istore_n (lv' := [(3, .int (-1)), (0, .ref (ad 0)), (1, .long (lN (X)))]) hx hb dX5_put_4 rfl hl (by decide) rfl (fun ls hl => ?_)
    refine lv_iload_n hx hb dX5_put_5 rfl (lv_at hl 0 rfl) ?_
    refine q_ic 1 hx hb dX5_put_6 (by decide) ?_
    refine lv_icmp_ge (tgt := 13) hx hb dX5_put_7 (by decide) (fun c_7 => absurd c_7 (by decide)) (fun c_7 => ?_)
    refine lv_bipush (v := -2) hx hb dX5_put_10 (by decide) ?_
    exact q_iret2 hC hW hr hlk0 (PR_i (a' := (-2, ((w, K, ro), hc, hi, sv, pn, ch))) (by simp only [aPut, cs_none hk_]) ⟨rfl, PA_0 hI0⟩) dX5_put_12
set_option maxRecDepth 100000 in
set_option maxHeartbeats 4000000 in
theorem k_wipe (l : Launch) (G : Gx) (n : Nat) (ad : Nat → Nat) (sz : Nat) (I : Ic) (L : Lc) (R : Rc)  (w : Nat → Nat) (K : Nat) (ro : Nat → Nat) (hc : Nat) (hi : Nat → CM) (sv : Nat → Option CM) (pn : Nat) (ch : Nat → Nat) (hI0 : InvA n I L R ((w, K, ro), hc, hi, sv, pn, ch)) : Met l yX5_wipe (Cond.code yX5_wipe cX5_wipe 1 (some .int) :: GW) ({ frames := 6, cells := 0, slots := 0, locals := 216 } : Room) (qPre G n ad sz I L R [.ref (ad 0)]) (qI2 G (qA n ad sz) (fun z u => PR n ad I L R (aWipe ((w, K, ro), hc, hi, sv, pn, ch)) z u)) 0 0 (qA n ad sz) := by
  refine q_met (by decide) (Nat.le_of_ble_eq_true rfl) ?_
  intro p_ e_ s m_ below meth c_ hC hr hlk0 hin hsz hW ls hl
  subst hsz
  have hC : CallFix p_ m_ c_ cX5_wipe 1 s ([.ref (ad 0)] : List Value).toArray GW "CoinRows" := hC
  have hx := hC.1
  have hb := hC.2.1
  have hn : 83 ≤ n := hI0.1
  have hlk : LkOK n R := hI0.2.1
  have hM : MdI I w K ro := hI0.2.2.1
  have hSI : SI L := hI0.2.2.2.1
  have hPd : PadI I pn ch := hI0.2.2.2.2.1
  have hHi : HiA I R hc hi := hI0.2.2.2.2.2.1
  have hSv : SvA n I R sv := hI0.2.2.2.2.2.2
  have hh1 := hHi.1
  have hh6 := hHi.2.1
  have hp80 := hPd.2.1
  have hk6 : K ≤ 6 := hM.2.2.2.1
  have hw3 : ∀ i, w i ≤ 3 := hM.2.2.2.2.1.1
  have hr4 : ∀ j, ro j < 4 := hM.2.2.2.2.2
  have hl : lv_has ls 1 [(0, .ref (ad 0))] := hl
  refine lv_aload_n hx hb dX5_wipe_0 rfl (lv_at hl 0 rfl) ?_
  refine g_5_4 (x := 0) (y := 6) hC hW (by omega) kd_0 gw_134 (hlk 0 4 6 (by omega) rfl) dX5_wipe_1 ?_
  refine q_kI1 (q_rV (As := []) (rest := []) (x := 6) hC hW mw_X1_clear gw_295 (k_clear l G n ad s.heap.size I L R pn ch hn hlk hPd) (by omega) (ct_o1 kd_6) rfl ⟨rfl, rfl⟩ ⟨Nat.le_of_ble_eq_true rfl, Nat.le_of_ble_eq_true rfl⟩ ⟨Nat.le_of_ble_eq_true rfl, Nat.le_of_ble_eq_true rfl⟩ hl.1 rfl rfl (Nat.le_of_ble_eq_true rfl) dX5_wipe_4) hW (fun r_4 I_4 L_4 H locs hp hW => ?_)
  obtain ⟨rfl, rfl, rfl⟩ := hp
  exact q_iret2 hC hW hr hlk0 (PR_i (a' := (nI pn, ((w, K, ro), hc, hi, sv, 0, ch))) (by simp only [aWipe]) ⟨rfl, PA_p hI0 (fun a h6 _ => up2_ne h6) (Pad_clr hPd)⟩) dX5_wipe_7
set_option maxRecDepth 100000 in
set_option maxHeartbeats 4000000 in
theorem k_fault (l : Launch) (G : Gx) (n : Nat) (ad : Nat → Nat) (sz : Nat) (I : Ic) (L : Lc) (R : Rc)  (w : Nat → Nat) (K : Nat) (ro : Nat → Nat) (hc : Nat) (hi : Nat → CM) (sv : Nat → Option CM) (pn : Nat) (ch : Nat → Nat) (hI0 : InvA n I L R ((w, K, ro), hc, hi, sv, pn, ch)) : Met l yX5_fault (Cond.code yX5_fault cX5_fault 1 (some .int) :: GW) ({ frames := 6, cells := 0, slots := 0, locals := 216 } : Room) (qPre G n ad sz I L R [.ref (ad 0)]) (qI2 G (qA n ad sz) (fun z u => PR n ad I L R (aFault ((w, K, ro), hc, hi, sv, pn, ch), ((w, K, ro), hc, hi, sv, pn, ch)) z u)) 0 0 (qA n ad sz) := by
  refine q_met (by decide) (Nat.le_of_ble_eq_true rfl) ?_
  intro p_ e_ s m_ below meth c_ hC hr hlk0 hin hsz hW ls hl
  subst hsz
  have hC : CallFix p_ m_ c_ cX5_fault 1 s ([.ref (ad 0)] : List Value).toArray GW "CoinRows" := hC
  have hx := hC.1
  have hb := hC.2.1
  have hn : 83 ≤ n := hI0.1
  have hlk : LkOK n R := hI0.2.1
  have hM : MdI I w K ro := hI0.2.2.1
  have hSI : SI L := hI0.2.2.2.1
  have hPd : PadI I pn ch := hI0.2.2.2.2.1
  have hHi : HiA I R hc hi := hI0.2.2.2.2.2.1
  have hSv : SvA n I R sv := hI0.2.2.2.2.2.2
  have hh1 := hHi.1
  have hh6 := hHi.2.1
  have hp80 := hPd.2.1
  have hk6 : K ≤ 6 := hM.2.2.2.1
  have hw3 : ∀ i, w i ≤ 3 := hM.2.2.2.2.1.1
  have hr4 : ∀ j, ro j < 4 := hM.2.2.2.2.2
  have hl : lv_has ls 1 [(0, .ref (ad 0))] := hl
  refine lv_aload_n hx hb dX5_fault_0 rfl (lv_at hl 0 rfl) ?_
  refine g_5_4 (x := 0) (y := 6) hC hW (by omega) kd_0 gw_134 (hlk 0 4 6 (by omega) rfl) dX5_fault_1 ?_
  refine lv_null hx hb dX5_fault_4 ?_
  refine q_kI1 (q_rV (As := [.null]) (rest := []) (x := 6) hC hW mw_X1_read gw_303 (k_readN l G n ad s.heap.size I L R pn ch w K ro hn hlk hPd) (by omega) (ct_o1 kd_6) rfl ⟨rfl, rfl⟩ ⟨Nat.le_of_ble_eq_true rfl, Nat.le_of_ble_eq_true rfl⟩ ⟨Nat.le_of_ble_eq_true rfl, Nat.le_of_ble_eq_true rfl⟩ hl.1 rfl rfl (Nat.le_of_ble_eq_true rfl) dX5_fault_5) hW (fun r_5 I_5 L_5 H locs hp hW => ?_)
  rcases hp with ⟨rfl, ⟨q_5, a_5, b_5, m_5, w_5, K_5, r_5, p_5, hO_5, h3_5, hP_5, hR_5, hf_5⟩, rfl⟩ | ⟨rfl, hF_5, rfl⟩
  ·
    have hG_5 := rd_fr hR_5 hf_5
    refine q_ieq (tgt := 16) hx hb dX5_fault_8 (by decide) (by first | omega | exact Nat.lt_of_le_of_lt (hw3 _) (by decide)) (fun c_8 => absurd c_8 (by decide)) (fun c_8 => ?_)
    refine lv_bipush (v := -6) hx hb dX5_fault_11 (by decide) ?_
    refine lv_goto (tgt := 23) hx hb dX5_fault_13 (by decide) ?_
    exact q_iret2 hC hW hr hlk0 (PR_i (a' := (-6, ((w, K, ro), hc, hi, sv, pn, ch))) (by simp only [aFault, flt_none hO_5]) ⟨rfl, PA_p hI0 hG_5 hP_5⟩) dX5_fault_23
  ·
    obtain ⟨i_5, hFL_5, hi_5, ha_5, hP_5, hR_5, hf_5⟩ := hF_5
    have hG_5 := rd_fr (hR_5 rfl) hf_5
    refine q_ieq (tgt := 16) hx hb dX5_fault_8 (by decide) (by first | omega | exact Nat.lt_of_le_of_lt (hw3 _) (by decide)) (fun c_8 => ?_) (fun c_8 => absurd c_8 (by decide))
    refine lv_aload_n hx hb dX5_fault_16 rfl (lv_at hl 0 rfl) ?_
    refine g_5_4 (x := 0) (y := 6) hC hW (by omega) kd_0 gw_134 (hlk 0 4 6 (by omega) rfl) dX5_fault_17 ?_
    refine g_1_2 (x := 6) hC hW (by omega) kd_6 gw_56 dX5_fault_20 ?_
    refine q_top (v2 := .int (nI (i_5))) (congrArg _ ha_5) ?_
    exact q_iret2 hC hW hr hlk0 (PR_i (a' := (nI i_5, ((w, K, ro), hc, hi, sv, pn, ch))) (by simp only [aFault, flt_some hFL_5]) ⟨rfl, PA_p hI0 hG_5 hP_5⟩) dX5_fault_23
set_option maxRecDepth 100000 in
set_option maxHeartbeats 4000000 in
theorem k_load (l : Launch) (G : Gx) (n : Nat) (ad : Nat → Nat) (sz : Nat) (I : Ic) (L : Lc) (R : Rc)  (w : Nat → Nat) (K : Nat) (ro : Nat → Nat) (hc : Nat) (hi : Nat → CM) (sv : Nat → Option CM) (pn : Nat) (ch : Nat → Nat) (hI0 : InvA n I L R ((w, K, ro), hc, hi, sv, pn, ch)) : Met l yX5_load (Cond.code yX5_load cX5_load 1 (some .int) :: GW) ({ frames := 6, cells := 0, slots := 0, locals := 216 } : Room) (qPre G n ad sz I L R [.ref (ad 0)]) (qI2 G (qA n ad sz) (fun z u => PR n ad I L R (aLoad ((w, K, ro), hc, hi, sv, pn, ch)) z u)) 0 0 (qA n ad sz) := by
  refine q_met (by decide) (Nat.le_of_ble_eq_true rfl) ?_
  intro p_ e_ s m_ below meth c_ hC hr hlk0 hin hsz hW ls hl
  subst hsz
  have hC : CallFix p_ m_ c_ cX5_load 1 s ([.ref (ad 0)] : List Value).toArray GW "CoinRows" := hC
  have hx := hC.1
  have hb := hC.2.1
  have hn : 83 ≤ n := hI0.1
  have hlk : LkOK n R := hI0.2.1
  have hM : MdI I w K ro := hI0.2.2.1
  have hSI : SI L := hI0.2.2.2.1
  have hPd : PadI I pn ch := hI0.2.2.2.2.1
  have hHi : HiA I R hc hi := hI0.2.2.2.2.2.1
  have hSv : SvA n I R sv := hI0.2.2.2.2.2.2
  have hh1 := hHi.1
  have hh6 := hHi.2.1
  have hp80 := hPd.2.1
  have hk6 : K ≤ 6 := hM.2.2.2.1
  have hw3 : ∀ i, w i ≤ 3 := hM.2.2.2.2.1.1
  have hr4 : ∀ j, ro j < 4 := hM.2.2.2.2.2
  have hl : lv_has ls 1 [(0, .ref (ad 0))] := hl
  refine lv_aload_n hx hb dX5_load_0 rfl (lv_at hl 0 rfl) ?_
  refine g_5_4 (x := 0) (y := 6) hC hW (by omega) kd_0 gw_134 (hlk 0 4 6 (by omega) rfl) dX5_load_1 ?_
  refine lv_null hx hb dX5_load_4 ?_
  refine q_kI1 (q_rV (As := [.null]) (rest := []) (x := 6) hC hW mw_X1_read gw_303 (k_readN l G n ad s.heap.size I L R pn ch w K ro hn hlk hPd) (by omega) (ct_o1 kd_6) rfl ⟨rfl, rfl⟩ ⟨Nat.le_of_ble_eq_true rfl, Nat.le_of_ble_eq_true rfl⟩ ⟨Nat.le_of_ble_eq_true rfl, Nat.le_of_ble_eq_true rfl⟩ hl.1 rfl rfl (Nat.le_of_ble_eq_true rfl) dX5_load_5) hW (fun r_5 I_5 L_5 H locs hp hW => ?_)
  rcases hp with ⟨rfl, ⟨q_5, a_5, b_5, m_5, w_5, K_5, r_5, p_5, hO_5, h3_5, hP_5, hR_5, hf_5⟩, rfl⟩ | ⟨rfl, hF_5, rfl⟩
  ·
    have hG_5 := rd_fr hR_5 hf_5
    refine q_ine (tgt := 14) hx hb dX5_load_8 (by decide) (by first | omega | exact Nat.lt_of_le_of_lt (hw3 _) (by decide)) (fun c_8 => ?_) (fun c_8 => absurd c_8 (by decide))
    have hM_5 : MdI I_5 w K ro := MdI_lo hM (fun a ha => hG_5 a (by omega) (by omega))
    have hHi_5 := HiA_fr hHi (hG_5 0 (by decide) (by decide)) (fun a h1 h2 => hG_5 a (by omega) (by omega))
    have hSv_5 := SvA_fr hSv (fun a h1 => hG_5 a (by omega) (by omega))
    have hI5 : InvA n I_5 L R ((w, K, ro), hc, hi, sv, pn, ch) := (PA_p (ad := ad) hI0 hG_5 hP_5).1
    refine lv_aload_n hx hb dX5_load_14 rfl (lv_at hl 0 rfl) ?_
    refine q_kV2 (q_rV (As := []) (rest := []) (x := 0) hC hW mw_X5_remember gw_174 (k_remember l G n ad H.size I_5 L R w K ro hc hi sv hn hlk hM_5 hHi_5 hSv_5) (by omega) (ct_o5 kd_0) rfl ⟨rfl, rfl⟩ ⟨Nat.le_of_ble_eq_true rfl, Nat.le_of_ble_eq_true rfl⟩ ⟨Nat.le_of_ble_eq_true rfl, Nat.le_of_ble_eq_true rfl⟩ hl.1 rfl rfl (Nat.le_of_ble_eq_true rfl) dX5_load_15) hW (fun n_15 ad_15 I_15 L_15 R_15 H locs hp hW => ?_)
    have hp : RemP n ad I_5 L hc hi sv R (w, K, ro) n_15 ad_15 I_15 L_15 R_15 := hp
    obtain ⟨rfl, rfl, rfl, hlk_15, hHi_15, hSv_15, hf_15, hRf_15⟩ := hp
    have hM_15 : MdI I_15 w K ro := MdA_fr (m := (w, K, ro)) (x := 1) hM_5 (hf_15 1 (by decide) (by decide)) (hf_15 2 (by decide) (by decide)) (hf_15 3 (by decide) (by decide))
    have hPd_15 := PadI_lo hP_5 (hf_15 6 (by decide) (by decide)) (hf_15 7 (by decide) (by decide))
    refine lv_aload_n hx hb dX5_load_18 rfl (lv_at hl 0 rfl) ?_
    refine g_5_4 (x := 0) (y := 6) hC hW (by omega) kd_0 gw_134 (hlk_15 0 4 6 (by omega) rfl) dX5_load_19 ?_
    refine lv_aload_n hx hb dX5_load_22 rfl (lv_at hl 0 rfl) ?_
    refine g_5_0 (x := 0) (y := 1) hC hW (by omega) kd_0 gw_130 (hlk_15 0 0 1 (by omega) rfl) dX5_load_23 ?_
    refine q_kI1 (q_rV (As := [.ref (ad 1)]) (rest := []) (x := 6) hC hW mw_X1_read gw_303 (k_readM l G n ad H.size I_15 L R_15 pn ch w K ro hn hlk_15 hPd_15 hM_15) (by omega) (ct_o1 kd_6) rfl ⟨rfl, rfl⟩ ⟨Nat.le_of_ble_eq_true rfl, Nat.le_of_ble_eq_true rfl⟩ ⟨Nat.le_of_ble_eq_true rfl, Nat.le_of_ble_eq_true rfl⟩ hl.1 rfl rfl (Nat.le_of_ble_eq_true rfl) dX5_load_26) hW (fun r_26 I_26 L_26 H locs hp hW => ?_)
    rcases hp with ⟨rfl, ⟨q_26, a_26, b_26, m_26, w_26, K_26, r_26, p_26, hO_26, h3_26, hP_26, hM_26, hf_26⟩, rfl⟩ | ⟨rfl, ⟨i_26, hFL_26, -⟩, rfl⟩
    rotate_left
    · exact absurd hO_5 (fun h => FL_OK hFL_26 h)
    have hMK_26 := hM_26.2.2.2.1
    refine lv_pop hx hb dX5_load_29 rfl ?_
    refine lv_aload_n hx hb dX5_load_30 rfl (lv_at hl 0 rfl) ?_
    refine g_5_4 (x := 0) (y := 6) hC hW (by omega) kd_0 gw_134 (hlk_15 0 4 6 (by omega) rfl) dX5_load_31 ?_
    refine q_kI1 (q_rV (As := []) (rest := []) (x := 6) hC hW mw_X1_clear gw_295 (k_clear l G n ad H.size I_26 L R_15 pn ch hn hlk_15 hP_26) (by omega) (ct_o1 kd_6) rfl ⟨rfl, rfl⟩ ⟨Nat.le_of_ble_eq_true rfl, Nat.le_of_ble_eq_true rfl⟩ ⟨Nat.le_of_ble_eq_true rfl, Nat.le_of_ble_eq_true rfl⟩ hl.1 rfl rfl (Nat.le_of_ble_eq_true rfl) dX5_load_34) hW (fun r_34 I_34 L_34 H locs hp hW => ?_)
    obtain ⟨rfl, rfl, rfl⟩ := hp
    refine lv_pop hx hb dX5_load_37 rfl ?_
    refine lv_aload_n hx hb dX5_load_38 rfl (lv_at hl 0 rfl) ?_
    refine g_5_4 (x := 0) (y := 6) hC hW (by omega) kd_0 gw_134 (hlk_15 0 4 6 (by omega) rfl) dX5_load_39 ?_
    refine g_1_3 (x := 6) hC hW (by omega) kd_6 gw_58 dX5_load_42 ?_
    refine q_top (v2 := .int (nI (p_26 + 1))) (congrArg _ (by rw [up2_at, if_neg (by decide)]; exact h3_26)) ?_
    exact q_iret2 hC hW hr hlk0 (PR_i (a' := (nI (p_26 + 1), ((w_26, K_26, r_26), hcN hc, hiN hc hi (w, K, ro), sv, 0, ch))) (by simp only [aLoad, sg0, flt_none hO_26, hO_26.1]) ⟨rfl, PA_tr (InvA_rem (m := (w_26, K_26, r_26)) (I := I_5) hI5 hlk_15 hHi_15 hSv_15 hf_15 (MdI_lo hM_26 (fun a ha => up2_ne (by omega))) (fun a ha => by rw [up2_ne (by omega)]; exact hf_26 a (by omega) (by omega) (by omega) (by omega)) hSI (Pad_clr hP_26) (fun _ _ => rfl)) (fun a h1 h2 => ⟨hG_5 a (by omega) (by omega), rfl⟩)⟩) dX5_load_45
  ·
    obtain ⟨i_5, hFL_5, hi_5, ha_5, hP_5, hR_5, hf_5⟩ := hF_5
    have hG_5 := rd_fr (hR_5 rfl) hf_5
    refine q_ine (tgt := 14) hx hb dX5_load_8 (by decide) (by first | omega | exact Nat.lt_of_le_of_lt (hw3 _) (by decide)) (fun c_8 => absurd c_8 (by decide)) (fun c_8 => ?_)
    refine lv_bipush (v := -3) hx hb dX5_load_11 (by decide) ?_
    exact q_iret2 hC hW hr hlk0 (PR_i (a' := (-3, ((w, K, ro), hc, hi, sv, pn, ch))) (by simp only [aLoad, flt_some hFL_5]) ⟨rfl, PA_p hI0 hG_5 hP_5⟩) dX5_load_13
set_option maxRecDepth 100000 in
set_option maxHeartbeats 4000000 in
theorem k_restore (l : Launch) (G : Gx) (n : Nat) (ad : Nat → Nat) (sz : Nat) (I : Ic) (L : Lc) (R : Rc) (slot : Int32) (w : Nat → Nat) (K : Nat) (ro : Nat → Nat) (hc : Nat) (hi : Nat → CM) (sv : Nat → Option CM) (pn : Nat) (ch : Nat → Nat) (hI0 : InvA n I L R ((w, K, ro), hc, hi, sv, pn, ch)) : Met l yX5_restore (Cond.code yX5_restore cX5_restore 2 (some .int) :: GW) ({ frames := 6, cells := 0, slots := 0, locals := 216 } : Room) (qPre G n ad sz I L R [.ref (ad 0), .int (slot)]) (qI2 G (qA n ad sz) (fun z u => PR n ad I L R (aRestore ((w, K, ro), hc, hi, sv, pn, ch) slot) z u)) 0 0 (qA n ad sz) := by
  refine q_met (by decide) (Nat.le_of_ble_eq_true rfl) ?_
  intro p_ e_ s m_ below meth c_ hC hr hlk0 hin hsz hW ls hl
  subst hsz
  have hC : CallFix p_ m_ c_ cX5_restore 2 s ([.ref (ad 0), .int (slot)] : List Value).toArray GW "CoinRows" := hC
  have hx := hC.1
  have hb := hC.2.1
  have hn : 83 ≤ n := hI0.1
  have hlk : LkOK n R := hI0.2.1
  have hM : MdI I w K ro := hI0.2.2.1
  have hSI : SI L := hI0.2.2.2.1
  have hPd : PadI I pn ch := hI0.2.2.2.2.1
  have hHi : HiA I R hc hi := hI0.2.2.2.2.2.1
  have hSv : SvA n I R sv := hI0.2.2.2.2.2.2
  have hh1 := hHi.1
  have hh6 := hHi.2.1
  have hp80 := hPd.2.1
  have hk6 : K ≤ 6 := hM.2.2.2.1
  have hw3 : ∀ i, w i ≤ 3 := hM.2.2.2.2.1.1
  have hr4 : ∀ j, ro j < 4 := hM.2.2.2.2.2
  have hSv' := hSv
  obtain ⟨sm, hsA, hsB⟩ := hSv'
  have hl : lv_has ls 2 [(0, .ref (ad 0)), (1, .int (slot))] := hl
  refine lv_iload_n hx hb dX5_restore_0 rfl (lv_at hl 1 rfl) ?_
  refine lv_if_lt (tgt := 9) hx hb dX5_restore_1 (by decide) (fun c_1 => ?_) (fun c_1 => ?_)
  ·
    have hv_ : rng slot 2 = none := rng_none.mpr (by simp only [Int32.lt_iff_toInt_lt, Int32.le_iff_toInt_le, ← Int32.toInt_inj, nT0, nT1, nT2, nT3, nT4, nT5, nT6, nT7, nT8, nT9, nT10, nT33, nT36, nT42, nT58, nT80, nT126, nT255, i_m1, i_m2, Int32.toInt_zero, Int32.toInt_one] at c_1; omega)
    refine lv_bipush (v := -2) hx hb dX5_restore_9 (by decide) ?_
    exact q_iret2 hC hW hr hlk0 (PR_i (a' := (-2, ((w, K, ro), hc, hi, sv, pn, ch))) (by simp only [aRestore, hv_]) ⟨rfl, PA_0 hI0⟩) dX5_restore_11
  ·
    refine lv_iload_n hx hb dX5_restore_4 rfl (lv_at hl 1 rfl) ?_
    refine q_ic 2 hx hb dX5_restore_5 (by decide) ?_
    refine lv_icmp_lt (tgt := 12) hx hb dX5_restore_6 (by decide) (fun c_6 => ?_) (fun c_6 => ?_)
    ·
      obtain ⟨u_, hu_, rfl⟩ := rng_ex (N := 2) (x := slot) (by decide) (by simp only [Int32.lt_iff_toInt_lt, Int32.le_iff_toInt_le, ← Int32.toInt_inj, nT0, nT1, nT2, nT3, nT4, nT5, nT6, nT7, nT8, nT9, nT10, nT33, nT36, nT42, nT58, nT80, nT126, nT255, i_m1, i_m2, Int32.toInt_zero, Int32.toInt_one] at c_1 c_6; omega) (by simp only [Int32.lt_iff_toInt_lt, Int32.le_iff_toInt_le, ← Int32.toInt_inj, nT0, nT1, nT2, nT3, nT4, nT5, nT6, nT7, nT8, nT9, nT10, nT33, nT36, nT42, nT58, nT80, nT126, nT255, i_m1, i_m2, Int32.toInt_zero, Int32.toInt_one] at c_1 c_6; omega)
      rcases hsv : sv u_ with _ | m_
      ·
        have hRN := (hsA u_ hu_).2 hsv
        refine lv_aload_n hx hb dX5_restore_12 rfl (lv_at hl 0 rfl) ?_
        refine g_5_3 (x := 0) (y := 5) hC hW (by omega) kd_0 gw_133 (hlk 0 3 5 (by omega) rfl) dX5_restore_13 ?_
        refine lv_iload_n hx hb dX5_restore_16 rfl (lv_at hl 1 rfl) ?_
        refine q_aald4N (x := 5) (i := u_) hC hW (by omega) kd_5 (by omega) hRN dX5_restore_17 ?_
        refine lv_ifnonnullN hx hb dX5_restore_18 ?_
        refine lv_bipush (v := -5) hx hb dX5_restore_21 (by decide) ?_
        exact q_iret2 hC hW hr hlk0 (PR_i (a' := (-5, ((w, K, ro), hc, hi, sv, pn, ch))) (by simp only [aRestore, rng_nI hu_ (by decide), hsv]) ⟨rfl, PA_0 hI0⟩) dX5_restore_23
      ·
        obtain ⟨hRS, hsn, hsm⟩ := (hsA u_ hu_).1 m_ hsv
        refine lv_aload_n hx hb dX5_restore_12 rfl (lv_at hl 0 rfl) ?_
        refine g_5_3 (x := 0) (y := 5) hC hW (by omega) kd_0 gw_133 (hlk 0 3 5 (by omega) rfl) dX5_restore_13 ?_
        refine lv_iload_n hx hb dX5_restore_16 rfl (lv_at hl 1 rfl) ?_
        refine q_aald4 (x := 5) (i := u_) (y := 83 + 3 * sm u_) hC hW (by omega) kd_5 (by omega) hRS dX5_restore_17 ?_
        refine lv_ifnonnull (tgt := 24) hx hb dX5_restore_18 (by decide) ?_
        refine lv_aload_n hx hb dX5_restore_24 rfl (lv_at hl 0 rfl) ?_
        refine q_kV2 (q_rV (As := []) (rest := []) (x := 0) hC hW mw_X5_remember gw_174 (k_remember l G n ad s.heap.size I L R w K ro hc hi sv hn hlk hM hHi hSv) (by omega) (ct_o5 kd_0) rfl ⟨rfl, rfl⟩ ⟨Nat.le_of_ble_eq_true rfl, Nat.le_of_ble_eq_true rfl⟩ ⟨Nat.le_of_ble_eq_true rfl, Nat.le_of_ble_eq_true rfl⟩ hl.1 rfl rfl (Nat.le_of_ble_eq_true rfl) dX5_restore_25) hW (fun n_25 ad_25 I_25 L_25 R_25 H locs hp hW => ?_)
        have hp : RemP n ad I L hc hi sv R (w, K, ro) n_25 ad_25 I_25 L_25 R_25 := hp
        obtain ⟨rfl, rfl, rfl, hlk_25, hHi_25, hSv_25, hf_25, hRf_25⟩ := hp
        have hM_25 : MdI I_25 w K ro := MdA_fr (m := (w, K, ro)) (x := 1) hM (hf_25 1 (by decide) (by decide)) (hf_25 2 (by decide) (by decide)) (hf_25 3 (by decide) (by decide))
        refine lv_aload_n hx hb dX5_restore_28 rfl (lv_at hl 0 rfl) ?_
        refine g_5_0 (x := 0) (y := 1) hC hW (by omega) kd_0 gw_130 (hlk_25 0 0 1 (by omega) rfl) dX5_restore_29 ?_
        refine lv_aload_n hx hb dX5_restore_32 rfl (lv_at hl 0 rfl) ?_
        refine g_5_3 (x := 0) (y := 5) hC hW (by omega) kd_0 gw_133 (hlk_25 0 3 5 (by omega) rfl) dX5_restore_33 ?_
        refine lv_iload_n hx hb dX5_restore_36 rfl (lv_at hl 1 rfl) ?_
        refine q_aald4 (x := 5) (i := u_) (y := 83 + 3 * sm u_) hC hW (by omega) kd_5 (by omega) ((congrFun (hRf_25 5 (by decide)) u_).trans hRS) dX5_restore_37 ?_
        refine q_kV1 (q_rV (As := [.ref (ad (83 + 3 * sm u_))]) (rest := []) (x := 1) hC hW mw_X0_copyFrom gw_178 (k_copyFrom l G n ad H.size I_25 L R_25 1 (83 + 3 * sm u_) hlk_25 (by omega) hsn mdl_1 (mdl_s (sm u_))) (by omega) (ct_o0 kd_1) rfl ⟨rfl, rfl⟩ ⟨Nat.le_of_ble_eq_true rfl, Nat.le_of_ble_eq_true rfl⟩ ⟨Nat.le_of_ble_eq_true rfl, Nat.le_of_ble_eq_true rfl⟩ hl.1 rfl rfl (Nat.le_of_ble_eq_true rfl) dX5_restore_38) hW (fun I_38 L_38 H locs hp hW => ?_)
        obtain ⟨rfl, rfl⟩ := hp
        have hmd : MdA (cpM I_25 1 (83 + 3 * sm u_)) 1 m_ := cpM_md (MdA_fr hsm (hf_25 _ (by omega) (by omega)) (hf_25 _ (by omega) (by omega)) (hf_25 _ (by omega) (by omega))) (by omega)
        refine lv_aload_n hx hb dX5_restore_41 rfl (lv_at hl 0 rfl) ?_
        refine g_5_0 (x := 0) (y := 1) hC hW (by omega) kd_0 gw_130 (hlk_25 0 0 1 (by omega) rfl) dX5_restore_42 ?_
        refine g_0_2 (x := 1) hC hW (by omega) kd_1 gw_34 dX5_restore_45 ?_
        refine q_top (v2 := .int (nI (m_.2.1))) (congrArg _ hmd.2.1) ?_
        exact q_iret2 hC hW hr hlk0 (PR_i (a' := (nI m_.2.1, (m_, hcN hc, hiN hc hi (w, K, ro), sv, pn, ch))) (by simp only [aRestore, rng_nI hu_ (by decide), hsv, remS]) ⟨rfl, InvA_rem hI0 hlk_25 hHi_25 hSv_25 hf_25 hmd (fun a ha => cpM_ne (by omega) (by omega) (by omega)) hSI (PadI_lo hPd ((cpM_ne (by decide) (by decide) (by decide)).trans (hf_25 6 (by decide) (by decide))) ((cpM_ne (by decide) (by decide) (by decide)).trans (hf_25 7 (by decide) (by decide)))) (fun _ _ => rfl)⟩) dX5_restore_48
    ·
      have hv_ : rng slot 2 = none := rng_none.mpr (by simp only [Int32.lt_iff_toInt_lt, Int32.le_iff_toInt_le, ← Int32.toInt_inj, nT0, nT1, nT2, nT3, nT4, nT5, nT6, nT7, nT8, nT9, nT10, nT33, nT36, nT42, nT58, nT80, nT126, nT255, i_m1, i_m2, Int32.toInt_zero, Int32.toInt_one] at c_1 c_6; omega)
      refine lv_bipush (v := -2) hx hb dX5_restore_9 (by decide) ?_
      exact q_iret2 hC hW hr hlk0 (PR_i (a' := (-2, ((w, K, ro), hc, hi, sv, pn, ch))) (by simp only [aRestore, hv_]) ⟨rfl, PA_0 hI0⟩) dX5_restore_11
