set_option maxRecDepth 100000 in
set_option maxHeartbeats 4000000 in
theorem k_count (l : Launch) (G : Gx) (n : Nat) (ad : Nat → Nat) (sz : Nat) (I : Ic) (L : Lc) (R : Rc) (what : Int32) (w : Nat → Nat) (K : Nat) (ro : Nat → Nat) (hc : Nat) (hi : Nat → CM) (sv : Nat → Option CM) (pn : Nat) (ch : Nat → Nat) (hI0 : InvA n I L R ((w, K, ro), hc, hi, sv, pn, ch)) : Met l yX5_count (Cond.code yX5_count cX5_count 2 (some .int) :: GW) ({ frames := 6, cells := 0, slots := 0, locals := 216 } : Room) (qPre G n ad sz I L R [.ref (ad 0), .int (what)]) (qI2 G (qA n ad sz) (fun z u => PR n ad I L R (aCount ((w, K, ro), hc, hi, sv, pn, ch) what, ((w, K, ro), hc, hi, sv, pn, ch)) z u)) 0 0 (qA n ad sz) := by
  refine q_met (by decide) (Nat.le_of_ble_eq_true rfl) ?_
  intro p_ e_ s m_ below meth c_ hC hr hlk0 hin hsz hW ls hl
  subst hsz
  have hC : CallFix p_ m_ c_ cX5_count 2 s ([.ref (ad 0), .int (what)] : List Value).toArray GW "CoinRows" := hC
  have hx := hC.1
  have hb := hC.2.1
  have hn : 71 ≤ n := hI0.1
  have hlk : LkOK n R := hI0.2.1
  have hM : MdI I w K ro := hI0.2.2.1
  have hSI : SI L := hI0.2.2.2.1
  have hPd : PadI I pn ch := hI0.2.2.2.2.1
  have hHi : HiA I R hc hi := hI0.2.2.2.2.2.1
  have hSv : SvA n I R sv := hI0.2.2.2.2.2.2
  have hh1 := hHi.1
  have hh6 := hHi.2.1
  have hp80 := hPd.2.1
  have hk6 : K ≤ 6 := hM.2.2.2.1
  have hw3 : ∀ i, w i ≤ 3 := hM.2.2.2.2.1.1
  have hr4 : ∀ j, ro j < 4 := hM.2.2.2.2.2
  have hl : lv_has ls 2 [(0, .ref (ad 0)), (1, .int (what))] := hl
  refine lv_iload_n hx hb dX5_count_0 rfl (lv_at hl 1 rfl) ?_
  by_cases hsw_ : what.toInt < 0 ∨ 3 < what.toInt
  ·
    have hv_ : rng what 4 = none := rng_none.mpr (by omega)
    refine lv_tableOut (tgt := 61) hx hb dX5_count_1 hsw_ (by decide) ?_
    refine lv_bipush (v := -2) hx hb dX5_count_61 (by decide) ?_
    exact q_iret2 hC hW hr hlk0 (PR_i (a' := (-2, ((w, K, ro), hc, hi, sv, pn, ch))) (by simp only [aCount, hv_]) ⟨rfl, PA_0 hI0⟩) dX5_count_63
  ·
    obtain ⟨u_, hu_, rfl⟩ := rng_ex (N := 4) (x := what) (by decide) (by omega) (by omega)
    have hu9 : u_ = 0 ∨ u_ = 1 ∨ u_ = 2 ∨ u_ = 3 := by omega
    rcases hu9 with rfl | rfl | rfl | rfl
    ·
      refine lv_tableIn (off := 31) (tgt := 32) hx hb dX5_count_1 (by decide) (by decide) rfl (by decide) ?_
      refine lv_aload_n hx hb dX5_count_32 rfl (lv_at hl 0 rfl) ?_
      refine g_5_0 (x := 0) (y := 1) hC hW (by omega) kd_0 gw_124 (hlk 0 0 1 (by omega) rfl) dX5_count_33 ?_
      refine g_0_2 (x := 1) hC hW (by omega) kd_1 gw_31 dX5_count_36 ?_
      refine q_top (v2 := .int (nI (K))) (congrArg _ hM.2.1) ?_
      exact q_iret2 hC hW hr hlk0 (PR_i (a' := (nI (K), ((w, K, ro), hc, hi, sv, pn, ch))) (by simp only [aCount, rng_nI (show 0 < 4 by decide) (by decide)]) ⟨rfl, PA_0 hI0⟩) dX5_count_39
    ·
      refine lv_tableIn (off := 39) (tgt := 40) hx hb dX5_count_1 (by decide) (by decide) rfl (by decide) ?_
      refine lv_aload_n hx hb dX5_count_40 rfl (lv_at hl 0 rfl) ?_
      refine g_5_0 (x := 0) (y := 1) hC hW (by omega) kd_0 gw_124 (hlk 0 0 1 (by omega) rfl) dX5_count_41 ?_
      refine q_kI0 (q_rV (As := []) (rest := []) (x := 1) hC hW mw_X0_countWeights gw_176 (k_countWeights l G n ad s.heap.size I L R w K ro hn hlk hM) (by omega) (ct_o0 kd_1) rfl ⟨rfl, rfl⟩ ⟨Nat.le_of_ble_eq_true rfl, Nat.le_of_ble_eq_true rfl⟩ ⟨(Nat.le_of_ble_eq_true rfl), (Nat.le_of_ble_eq_true rfl)⟩ hl.1 rfl rfl (Nat.le_of_ble_eq_true rfl) dX5_count_44) hW (fun r_44 H locs hp hW => ?_)
      subst hp
      exact q_iret2 hC hW hr hlk0 (PR_i (a' := (nI (cntW w 58), ((w, K, ro), hc, hi, sv, pn, ch))) (by simp only [aCount, rng_nI (show 1 < 4 by decide) (by decide)]) ⟨rfl, PA_0 hI0⟩) dX5_count_47
    ·
      refine lv_tableIn (off := 47) (tgt := 48) hx hb dX5_count_1 (by decide) (by decide) rfl (by decide) ?_
      refine lv_aload_n hx hb dX5_count_48 rfl (lv_at hl 0 rfl) ?_
      refine g_5_4 (x := 0) (y := 6) hC hW (by omega) kd_0 gw_128 (hlk 0 4 6 (by omega) rfl) dX5_count_49 ?_
      refine g_1_1 (x := 6) hC hW (by omega) kd_6 gw_50 dX5_count_52 ?_
      refine q_top (v2 := .int (nI (pn))) (congrArg _ hPd.1) ?_
      exact q_iret2 hC hW hr hlk0 (PR_i (a' := (nI (pn), ((w, K, ro), hc, hi, sv, pn, ch))) (by simp only [aCount, rng_nI (show 2 < 4 by decide) (by decide)]) ⟨rfl, PA_0 hI0⟩) dX5_count_55
    ·
      refine lv_tableIn (off := 55) (tgt := 56) hx hb dX5_count_1 (by decide) (by decide) rfl (by decide) ?_
      refine lv_aload_n hx hb dX5_count_56 rfl (lv_at hl 0 rfl) ?_
      refine g_5_2 (x := 0) hC hW (by omega) kd_0 gw_126 dX5_count_57 ?_
      refine q_top (v2 := .int (nI (hc))) (congrArg _ hh1) ?_
      exact q_iret2 hC hW hr hlk0 (PR_i (a' := (nI (hc), ((w, K, ro), hc, hi, sv, pn, ch))) (by simp only [aCount, rng_nI (show 3 < 4 by decide) (by decide)]) ⟨rfl, PA_0 hI0⟩) dX5_count_60





