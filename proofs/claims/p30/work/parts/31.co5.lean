theorem rk_in {w r : Nat → Nat} (hw : Wok w) {K : Nat} (hK : K ≤ 6) : ∀ u d f, d ≤ K → f ≤ 6 → 0 < Cx' w K r (K - d) f → mu K d f < u → rkN w r K d f (byM w r K u d f) < Cx' w K r (K - d) f
  | 0, _, _, _, _, _, h => absurd h (by omega)
  | u + 1, d, f, hd, hf, hC, hm => by
    unfold byM
    by_cases hdK : d < K
    · rw [if_pos hdK]
      have ho := (okM_iff.mp (chM_ok hw hdK hC)).1
      have ht := chM_lt w r K d f
      have h2 := rt_step ho
      have hms := mu_step (f := f) hw hdK ht h2.1
      have ih := rk_in hw hK u (nx (chM w r K d f) d) (chM w r K d f) (by unfold nx; split <;> omega) (by omega) (by rw [← h2.2]; exact ho) (by omega)
      show fC w r K d f (chM w r K d f) + rkN w r K (nx (chM w r K d f) d) (chM w r K d f) (byM w r K u (nx (chM w r K d f) d) (chM w r K d f)) < _
      have e1 := fC_s w r K d f (chM w r K d f)
      have e2 : fC w r K d f (chM w r K d f + 1) ≤ fC w r K d f 6 := fC_mono (by omega)
      rw [Cx_f hw K d f hdK]
      rw [h2.2] at e1
      omega
    · rw [if_neg hdK]
      exact hC
theorem rk_lt {w r : Nat → Nat} (hw : Wok w) {K : Nat} (hK : K ≤ 6) (hC : 0 < Cx' w K r K 6) : rkN w r K 0 6 (wayM w r K) < Cx' w K r K 6 := rk_in hw hK 19 0 6 (by omega) (by omega) hC (by unfold mu; simp; omega)
set_option maxRecDepth 100000 in
set_option maxHeartbeats 4000000 in
theorem k_likeliest (l : Launch) (G : Gx) (n : Nat) (ad : Nat → Nat) (sz : Nat) (I : Ic) (L : Lc) (R : Rc) (what : Int32) (w : Nat → Nat) (K : Nat) (ro : Nat → Nat) (hc : Nat) (hi : Nat → CM) (sv : Nat → Option CM) (pn : Nat) (ch : Nat → Nat) (hI0 : InvA n I L R ((w, K, ro), hc, hi, sv, pn, ch)) : Met l yX5_likeliest (Cond.code yX5_likeliest cX5_likeliest 3 (some .int) :: GW) ({ frames := 6, cells := 0, slots := 0, locals := 216 } : Room) (qPre G n ad sz I L R [.ref (ad 0), .int (what)]) (qI2 G (qA n ad sz) (fun z u => PR n ad I L R (aLik (w, K, ro) what, ((w, K, ro), hc, hi, sv, pn, ch)) z u)) 0 0 (qA n ad sz) := by
  refine q_met (by decide) (Nat.le_of_ble_eq_true rfl) ?_
  intro p_ e_ s m_ below meth c_ hC hr hlk0 hin hsz hW ls hl
  subst hsz
  have hC : CallFix p_ m_ c_ cX5_likeliest 3 s ([.ref (ad 0), .int (what)] : List Value).toArray GW "CoinRows" := hC
  have hx := hC.1
  have hb := hC.2.1
  have hn : 71 ≤ n := hI0.1
  have hlk : LkOK n R := hI0.2.1
  have hM : MdI I w K ro := hI0.2.2.1
  have hSI : SI L := hI0.2.2.2.1
  have hPd : PadI I pn ch := hI0.2.2.2.2.1
  have hHi : HiA I R hc hi := hI0.2.2.2.2.2.1
  have hSv : SvA n I R sv := hI0.2.2.2.2.2.2
  have hh1 := hHi.1
  have hh6 := hHi.2.1
  have hp80 := hPd.2.1
  have hk6 : K ≤ 6 := hM.2.2.2.1
  have hw3 : ∀ i, w i ≤ 3 := hM.2.2.2.2.1.1
  have hr4 : ∀ j, ro j < 4 := hM.2.2.2.2.2
  have hT63 : Sx' w K ro K 6 < 2 ^ 63 := Nat.lt_of_le_of_lt (Sx_b hM.2.2.2.2.1 K K 6 hk6) (by decide)
  have hC31 : Cx' w K ro K 6 < 2 ^ 31 := Nat.lt_of_le_of_lt (Cx_b hM.2.2.2.2.1 K K 6 hk6) (by decide)
  have hCT : (nI (Cx' w K ro K 6)).toInt = (Cx' w K ro K 6 : Int) := nI_toInt hC31
  have hw := hM.2.2.2.2.1
  have hl : lv_has ls 3 [(0, .ref (ad 0)), (1, .int (what))] := hl
  refine lv_iload_n hx hb dX5_likeliest_0 rfl (lv_at hl 1 rfl) ?_
  refine lv_bipush (v := -2) hx hb dX5_likeliest_1 (by decide) ?_
  refine lv_icmp_ge (tgt := 9) hx hb dX5_likeliest_3 (by decide) (fun c_3 => ?_) (fun c_3 => ?_)
  ·
    refine lv_aload_n hx hb dX5_likeliest_9 rfl (lv_at hl 0 rfl) ?_
    refine g_5_5 (x := 0) (y := 8) hC hW (by omega) kd_0 gw_129 (hlk 0 5 8 (by omega) rfl) dX5_likeliest_10 ?_
    refine lv_aload_n hx hb dX5_likeliest_13 rfl (lv_at hl 0 rfl) ?_
    refine g_5_0 (x := 0) (y := 1) hC hW (by omega) kd_0 gw_124 (hlk 0 0 1 (by omega) rfl) dX5_likeliest_14 ?_
    refine q_kV1 (q_rV (As := [.ref (ad 1)]) (rest := []) (x := 8) hC hW mw_X2_measure gw_202 (k_measure l G n ad s.heap.size I L R w K ro hn hlk hM hSI) (by omega) (ct_o2 kd_8) rfl ⟨rfl, rfl⟩ ⟨Nat.le_of_ble_eq_true rfl, Nat.le_of_ble_eq_true rfl⟩ ⟨(Nat.le_of_ble_eq_true rfl), (Nat.le_of_ble_eq_true rfl)⟩ hl.1 rfl rfl (Nat.le_of_ble_eq_true rfl) dX5_likeliest_17) hW (fun I_17 L_17 H locs hp hW => ?_)
    obtain ⟨hMs_17, hLf_17, hIf_17⟩ := hp
    have hM_17 : MdI I_17 w K ro := MdI_fr hM hIf_17
    refine lv_aload_n hx hb dX5_likeliest_20 rfl (lv_at hl 0 rfl) ?_
    refine g_5_5 (x := 0) (y := 8) hC hW (by omega) kd_0 gw_129 (hlk 0 5 8 (by omega) rfl) dX5_likeliest_21 ?_
    refine q_kL0 (q_rV (As := []) (rest := []) (x := 8) hC hW mw_X2_whole gw_247 (k_whole l G n ad H.size I_17 L_17 R w K ro hn hlk hM_17 hMs_17) (by omega) (ct_o2 kd_8) rfl ⟨rfl, rfl⟩ ⟨Nat.le_of_ble_eq_true rfl, Nat.le_of_ble_eq_true rfl⟩ ⟨(Nat.le_of_ble_eq_true rfl), (Nat.le_of_ble_eq_true rfl)⟩ hl.1 rfl rfl (Nat.le_of_ble_eq_true rfl) dX5_likeliest_24) hW (fun r_24 H locs hp hW => ?_)
    subst hp
    refine q_lc 0 hx hb dX5_likeliest_27 (by decide) ?_
    refine q_lcmp hx hb dX5_likeliest_28 ?_
    refine q_lne (tgt := 35) hx hb dX5_likeliest_29 (by decide) hT63 (by decide) (fun c_29 => ?_) (fun c_29 => ?_)
    ·
      have hC0 : 0 < Cx' w K ro K 6 := (SC_pos w K ro K 6).mp (Nat.pos_of_ne_zero c_29)
      refine lv_aload_n hx hb dX5_likeliest_35 rfl (lv_at hl 0 rfl) ?_
      refine g_5_6 (x := 0) (y := 49) hC hW (by omega) kd_0 gw_130 (hlk 0 6 49 (by omega) rfl) dX5_likeliest_36 ?_
      refine lv_aload_n hx hb dX5_likeliest_39 rfl (lv_at hl 0 rfl) ?_
      refine g_5_0 (x := 0) (y := 1) hC hW (by omega) kd_0 gw_124 (hlk 0 0 1 (by omega) rfl) dX5_likeliest_40 ?_
      refine lv_aload_n hx hb dX5_likeliest_43 rfl (lv_at hl 0 rfl) ?_
      refine g_5_5 (x := 0) (y := 8) hC hW (by omega) kd_0 gw_129 (hlk 0 5 8 (by omega) rfl) dX5_likeliest_44 ?_
      refine q_kI1 (q_rV (As := [.ref (ad 1), .ref (ad 8)]) (rest := []) (x := 49) hC hW mw_X4_findBest gw_346 (k_findBest l G n ad H.size I_17 L_17 R w K ro hn hlk hM_17 hMs_17 hC0) (by omega) (ct_o4 kd_49) rfl ⟨rfl, rfl⟩ ⟨Nat.le_of_ble_eq_true rfl, Nat.le_of_ble_eq_true rfl⟩ ⟨(Nat.le_of_ble_eq_true rfl), (Nat.le_of_ble_eq_true rfl)⟩ hl.1 rfl rfl (Nat.le_of_ble_eq_true rfl) dX5_likeliest_47) hW (fun r_47 I_47 L_47 H locs hp hW => ?_)
      obtain ⟨rfl, hIh_47, hLh_47⟩ := hp
      have hM_47 : MdI I_47 w K ro := MdI_lo hM_17 (fun a ha => hIh_47 a (by omega))
      have hMs_47 : Meas w ro K I_47 L_47 := Meas_lo hMs_17 hk6 (fun a ha => hIh_47 a (by omega)) (fun a ha => hLh_47 a (by omega))
      refine lv_istore_n (lv' := [(2, .int (nI (rkN w ro K 0 6 (wayM w ro K)))), (0, .ref (ad 0)), (1, .int (what))]) hx hb dX5_likeliest_50 rfl hl (by decide) rfl (fun ls hl => ?_)
      refine lv_iload_n hx hb dX5_likeliest_51 rfl (lv_at hl 2 rfl) ?_
      refine lv_bipush (v := -2) hx hb dX5_likeliest_52 (by decide) ?_
      refine lv_icmp_ne (tgt := 59) hx hb dX5_likeliest_54 (by decide) (fun c_54 => ?_) (fun c_54 => ?_)
      ·
        refine lv_aload_n hx hb dX5_likeliest_59 rfl (lv_at hl 1 rfl) ?_
        refine g_5_6 (x := 0) (y := 49) hC hW (by omega) kd_0 gw_130 (hlk 0 6 49 (by omega) rfl) dX5_likeliest_60 ?_
        refine lv_aload_n hx hb dX5_likeliest_63 rfl (lv_at hl 1 rfl) ?_
        refine g_5_0 (x := 0) (y := 1) hC hW (by omega) kd_0 gw_124 (hlk 0 0 1 (by omega) rfl) dX5_likeliest_64 ?_
        refine lv_aload_n hx hb dX5_likeliest_67 rfl (lv_at hl 1 rfl) ?_
        refine g_5_5 (x := 0) (y := 8) hC hW (by omega) kd_0 gw_129 (hlk 0 5 8 (by omega) rfl) dX5_likeliest_68 ?_
        refine lv_iload_n hx hb dX5_likeliest_71 rfl (lv_at hl 0 rfl) ?_
        refine q_kV1 (q_rV (As := [.ref (ad 1), .ref (ad 8), .int (nI (rkN w ro K 0 6 (wayM w ro K)))]) (rest := []) (x := 49) hC hW mw_X4_follow gw_319 (k_follow l G n ad H.size I_47 L_47 R _ w K ro hn hlk hM_47 hMs_47 (rk_lt hw hk6 hC0)) (by omega) (ct_o4 kd_49) rfl ⟨rfl, rfl⟩ ⟨Nat.le_of_ble_eq_true rfl, Nat.le_of_ble_eq_true rfl⟩ ⟨(Nat.le_of_ble_eq_true rfl), (Nat.le_of_ble_eq_true rfl)⟩ hl.1 rfl rfl (Nat.le_of_ble_eq_true rfl) dX5_likeliest_72) hW (fun I_72 L_72 H locs hp hW => ?_)
        obtain ⟨hFo_72, hIg_72, hLg_72⟩ := hp
        refine lv_aload_n hx hb dX5_likeliest_75 rfl (lv_at hl 1 rfl) ?_
        refine g_5_6 (x := 0) (y := 49) hC hW (by omega) kd_0 gw_130 (hlk 0 6 49 (by omega) rfl) dX5_likeliest_76 ?_
        refine lv_iload_n hx hb dX5_likeliest_79 rfl (lv_at hl 2 rfl) ?_
        refine q_kI0 (q_rV (As := [.int (what)]) (rest := []) (x := 49) hC hW mw_X4_tell gw_335 (k_tell l G n ad H.size I_72 L_72 R _ _ _ hn hlk hFo_72) (by omega) (ct_o4 kd_49) rfl ⟨rfl, rfl⟩ ⟨Nat.le_of_ble_eq_true rfl, Nat.le_of_ble_eq_true rfl⟩ ⟨(Nat.le_of_ble_eq_true rfl), (Nat.le_of_ble_eq_true rfl)⟩ hl.1 rfl rfl (Nat.le_of_ble_eq_true rfl) dX5_likeliest_80) hW (fun r_80 H locs hp hW => ?_)
        subst hp
        have hx2 : ¬ what.toInt < -2 := by simp only [Int32.lt_iff_toInt_lt, Int32.le_iff_toInt_le, ← Int32.toInt_inj, nT0, nT1, nT2, nT3, nT4, nT5, nT6, nT7, nT8, nT9, nT10, nT33, nT36, nT42, nT58, nT80, nT126, nT255, i_m1, i_m2, Int32.toInt_zero, Int32.toInt_one] at c_3; omega
        exact q_iret2 hC hW hr hlk0 (PR_i (a' := (tellS (wayN w ro K (rkN w ro K 0 6 (wayM w ro K))) what, ((w, K, ro), hc, hi, sv, pn, ch))) (by simp only [aLik, if_neg hx2, aTot, if_neg c_29, if_neg c_54, bstN]) ⟨rfl, PA_q hI0 (fun a ha => (hIg_72 a (by omega)).trans ((hIh_47 a (by omega)).trans (hIf_17 a (by omega)))) (SI_lo hMs_47.2.2.2 (fun a ha => hLg_72 a (by omega))) (fun a ha => (hLg_72 a (by omega)).trans ((hLh_47 a (by omega)).trans (hLf_17 a (by omega))))⟩) dX5_likeliest_83
      ·
        refine lv_iload_n hx hb dX5_likeliest_57 rfl (lv_at hl 0 rfl) ?_
        have hx2 : ¬ what.toInt < -2 := by simp only [Int32.lt_iff_toInt_lt, Int32.le_iff_toInt_le, ← Int32.toInt_inj, nT0, nT1, nT2, nT3, nT4, nT5, nT6, nT7, nT8, nT9, nT10, nT33, nT36, nT42, nT58, nT80, nT126, nT255, i_m1, i_m2, Int32.toInt_zero, Int32.toInt_one] at c_3; omega
        exact q_iret2 hC hW hr hlk0 (PR_i (a' := (nI (rkN w ro K 0 6 (wayM w ro K)), ((w, K, ro), hc, hi, sv, pn, ch))) (by simp only [aLik, if_neg hx2, aTot, if_neg c_29, if_pos c_54, bstN]) ⟨rfl, PA_q hI0 (fun a ha => (hIh_47 a (by omega)).trans (hIf_17 a (by omega))) (SI_lo hMs_47.2.2.2 (fun a ha => rfl)) (fun a ha => (hLh_47 a (by omega)).trans (hLf_17 a (by omega)))⟩) dX5_likeliest_58
    ·
      refine lv_bipush (v := -5) hx hb dX5_likeliest_32 (by decide) ?_
      have hx2 : ¬ what.toInt < -2 := by simp only [Int32.lt_iff_toInt_lt, Int32.le_iff_toInt_le, ← Int32.toInt_inj, nT0, nT1, nT2, nT3, nT4, nT5, nT6, nT7, nT8, nT9, nT10, nT33, nT36, nT42, nT58, nT80, nT126, nT255, i_m1, i_m2, Int32.toInt_zero, Int32.toInt_one] at c_3; omega
      exact q_iret2 hC hW hr hlk0 (PR_i (a' := (-5, ((w, K, ro), hc, hi, sv, pn, ch))) (by simp only [aLik, if_neg hx2, aTot, if_pos c_29]) ⟨rfl, PA_q hI0 (fun a ha => hIf_17 a (by omega)) hMs_17.2.2.2 (fun a ha => hLf_17 a (by omega))⟩) dX5_likeliest_34
  ·
    refine lv_bipush (v := -2) hx hb dX5_likeliest_6 (by decide) ?_
    have hx2 : what.toInt < -2 := by simp only [Int32.lt_iff_toInt_lt, Int32.le_iff_toInt_le, ← Int32.toInt_inj, nT0, nT1, nT2, nT3, nT4, nT5, nT6, nT7, nT8, nT9, nT10, nT33, nT36, nT42, nT58, nT80, nT126, nT255, i_m1, i_m2, Int32.toInt_zero, Int32.toInt_one] at c_3; omega
    exact q_iret2 hC hW hr hlk0 (PR_i (a' := (-2, ((w, K, ro), hc, hi, sv, pn, ch))) (by simp only [aLik, if_pos hx2]) ⟨rfl, PA_0 hI0⟩) dX5_likeliest_8
set_option maxRecDepth 100000 in
set_option maxHeartbeats 4000000 in
theorem k_odds (l : Launch) (G : Gx) (n : Nat) (ad : Nat → Nat) (sz : Nat) (I : Ic) (L : Lc) (R : Rc) (place coin part : Int32) (w : Nat → Nat) (K : Nat) (ro : Nat → Nat) (hc : Nat) (hi : Nat → CM) (sv : Nat → Option CM) (pn : Nat) (ch : Nat → Nat) (hI0 : InvA n I L R ((w, K, ro), hc, hi, sv, pn, ch)) : Met l yX5_odds (Cond.code yX5_odds cX5_odds 4 (some .long) :: GW) ({ frames := 6, cells := 0, slots := 0, locals := 216 } : Room) (qPre G n ad sz I L R [.ref (ad 0), .int (place), .int (coin), .int (part)]) (qL2 G (qA n ad sz) (fun z u => PRl n ad I L R (aOdds (w, K, ro) place coin part, ((w, K, ro), hc, hi, sv, pn, ch)) z u)) 0 0 (qA n ad sz) := by
  refine q_met (by decide) (Nat.le_of_ble_eq_true rfl) ?_
  intro p_ e_ s m_ below meth c_ hC hr hlk0 hin hsz hW ls hl
  subst hsz
  have hC : CallFix p_ m_ c_ cX5_odds 4 s ([.ref (ad 0), .int (place), .int (coin), .int (part)] : List Value).toArray GW "CoinRows" := hC
  have hx := hC.1
  have hb := hC.2.1
  have hn : 71 ≤ n := hI0.1
  have hlk : LkOK n R := hI0.2.1
  have hM : MdI I w K ro := hI0.2.2.1
  have hSI : SI L := hI0.2.2.2.1
  have hPd : PadI I pn ch := hI0.2.2.2.2.1
  have hHi : HiA I R hc hi := hI0.2.2.2.2.2.1
  have hSv : SvA n I R sv := hI0.2.2.2.2.2.2
  have hh1 := hHi.1
  have hh6 := hHi.2.1
  have hp80 := hPd.2.1
  have hk6 : K ≤ 6 := hM.2.2.2.1
  have hw3 : ∀ i, w i ≤ 3 := hM.2.2.2.2.1.1
  have hr4 : ∀ j, ro j < 4 := hM.2.2.2.2.2
  have hT63 : Sx' w K ro K 6 < 2 ^ 63 := Nat.lt_of_le_of_lt (Sx_b hM.2.2.2.2.1 K K 6 hk6) (by decide)
  have hC31 : Cx' w K ro K 6 < 2 ^ 31 := Nat.lt_of_le_of_lt (Cx_b hM.2.2.2.2.1 K K 6 hk6) (by decide)
  have hCT : (nI (Cx' w K ro K 6)).toInt = (Cx' w K ro K 6 : Int) := nI_toInt hC31
  have hw := hM.2.2.2.2.1
  have hl : lv_has ls 4 [(0, .ref (ad 0)), (1, .int (place)), (2, .int (coin)), (3, .int (part))] := hl
  refine lv_aload_n hx hb dX5_odds_0 rfl (lv_at hl 0 rfl) ?_
  refine g_5_0 (x := 0) (y := 1) hC hW (by omega) kd_0 gw_124 (hlk 0 0 1 (by omega) rfl) dX5_odds_1 ?_
  refine lv_iload_n hx hb dX5_odds_4 rfl (lv_at hl 1 rfl) ?_
  refine q_kI0 (q_rV (As := [.int (place)]) (rest := []) (x := 1) hC hW mw_X0_hasPlace gw_187 (k_hasPlace l G n ad s.heap.size I L R _ w K ro hn hlk hM) (by omega) (ct_o0 kd_1) rfl ⟨rfl, rfl⟩ ⟨Nat.le_of_ble_eq_true rfl, Nat.le_of_ble_eq_true rfl⟩ ⟨(Nat.le_of_ble_eq_true rfl), (Nat.le_of_ble_eq_true rfl)⟩ hl.1 rfl rfl (Nat.le_of_ble_eq_true rfl) dX5_odds_5) hW (fun r_5 H locs hp hW => ?_)
  rcases hp with ⟨k_5, hk_5, rfl, rfl⟩ | ⟨hk_5, rfl⟩
  ·
    refine q_ieq (tgt := 18) hx hb dX5_odds_8 (by decide) (by first | omega | exact Nat.lt_of_le_of_lt (hw3 _) (by decide)) (fun c_8 => absurd c_8 (by decide)) (fun c_8 => ?_)
    refine lv_iload_n hx hb dX5_odds_11 rfl (lv_at hl 2 rfl) ?_
    refine q_kI0 (q_rS (As := [.int (coin)]) (rest := []) hC hW mw_X5_isLoud gw_169 (k_isLoud l G n ad H.size I L R _) ⟨rfl, rfl⟩ ⟨Nat.le_of_ble_eq_true rfl, Nat.le_of_ble_eq_true rfl⟩ ⟨(Nat.le_of_ble_eq_true rfl), (Nat.le_of_ble_eq_true rfl)⟩ hl.1 rfl rfl (Nat.le_of_ble_eq_true rfl) dX5_odds_12) hW (fun r_12 H locs hp hW => ?_)
    rcases hp with ⟨k_12, hk_12, rfl, rfl⟩ | ⟨hk_12, rfl⟩
    ·
      refine q_ine (tgt := 22) hx hb dX5_odds_15 (by decide) (by first | omega | exact Nat.lt_of_le_of_lt (hw3 _) (by decide)) (fun c_15 => ?_) (fun c_15 => absurd c_15 (by decide))
      refine lv_iload_n hx hb dX5_odds_22 rfl (lv_at hl 3 rfl) ?_
      refine q_kI0 (q_rS (As := [.int (part)]) (rest := []) hC hW mw_X5_isPart gw_266 (k_isPart l G n ad H.size I L R _) ⟨rfl, rfl⟩ ⟨Nat.le_of_ble_eq_true rfl, Nat.le_of_ble_eq_true rfl⟩ ⟨(Nat.le_of_ble_eq_true rfl), (Nat.le_of_ble_eq_true rfl)⟩ hl.1 rfl rfl (Nat.le_of_ble_eq_true rfl) dX5_odds_23) hW (fun r_23 H locs hp hW => ?_)
      rcases hp with ⟨k_23, hk_23, rfl, rfl⟩ | ⟨hk_23, rfl⟩
      ·
        refine q_ine (tgt := 33) hx hb dX5_odds_26 (by decide) (by first | omega | exact Nat.lt_of_le_of_lt (hw3 _) (by decide)) (fun c_26 => ?_) (fun c_26 => absurd c_26 (by decide))
        refine lv_aload_n hx hb dX5_odds_33 rfl (lv_at hl 0 rfl) ?_
        refine g_5_5 (x := 0) (y := 8) hC hW (by omega) kd_0 gw_129 (hlk 0 5 8 (by omega) rfl) dX5_odds_34 ?_
        refine lv_aload_n hx hb dX5_odds_37 rfl (lv_at hl 0 rfl) ?_
        refine g_5_0 (x := 0) (y := 1) hC hW (by omega) kd_0 gw_124 (hlk 0 0 1 (by omega) rfl) dX5_odds_38 ?_
        refine q_kV1 (q_rV (As := [.ref (ad 1)]) (rest := []) (x := 8) hC hW mw_X2_measure gw_202 (k_measure l G n ad H.size I L R w K ro hn hlk hM hSI) (by omega) (ct_o2 kd_8) rfl ⟨rfl, rfl⟩ ⟨Nat.le_of_ble_eq_true rfl, Nat.le_of_ble_eq_true rfl⟩ ⟨(Nat.le_of_ble_eq_true rfl), (Nat.le_of_ble_eq_true rfl)⟩ hl.1 rfl rfl (Nat.le_of_ble_eq_true rfl) dX5_odds_41) hW (fun I_41 L_41 H locs hp hW => ?_)
        obtain ⟨hMs_41, hLf_41, hIf_41⟩ := hp
        have hM_41 : MdI I_41 w K ro := MdI_fr hM hIf_41
        refine lv_aload_n hx hb dX5_odds_44 rfl (lv_at hl 0 rfl) ?_
        refine g_5_5 (x := 0) (y := 8) hC hW (by omega) kd_0 gw_129 (hlk 0 5 8 (by omega) rfl) dX5_odds_45 ?_
        refine q_kL0 (q_rV (As := []) (rest := []) (x := 8) hC hW mw_X2_whole gw_247 (k_whole l G n ad H.size I_41 L_41 R w K ro hn hlk hM_41 hMs_41) (by omega) (ct_o2 kd_8) rfl ⟨rfl, rfl⟩ ⟨Nat.le_of_ble_eq_true rfl, Nat.le_of_ble_eq_true rfl⟩ ⟨(Nat.le_of_ble_eq_true rfl), (Nat.le_of_ble_eq_true rfl)⟩ hl.1 rfl rfl (Nat.le_of_ble_eq_true rfl) dX5_odds_48) hW (fun r_48 H locs hp hW => ?_)
        subst hp
        refine q_lc 0 hx hb dX5_odds_51 (by decide) ?_
        refine q_lcmp hx hb dX5_odds_52 ?_
        refine q_lne (tgt := 60) hx hb dX5_odds_53 (by decide) hT63 (by decide) (fun c_53 => ?_) (fun c_53 => ?_)
        ·
          refine lv_aload_n hx hb dX5_odds_60 rfl (lv_at hl 0 rfl) ?_
          refine g_5_5 (x := 0) (y := 8) hC hW (by omega) kd_0 gw_129 (hlk 0 5 8 (by omega) rfl) dX5_odds_61 ?_
          refine lv_iload_n hx hb dX5_odds_64 rfl (lv_at hl 1 rfl) ?_
          refine lv_iload_n hx hb dX5_odds_65 rfl (lv_at hl 2 rfl) ?_
          refine q_kL0 (q_rV (As := [.int (nI (k_5)), .int (nI (k_12))]) (rest := []) (x := 8) hC hW mw_X2_through gw_271 (k_through l G n ad H.size I_41 L_41 R _ _ w K ro hn hlk hM_41 hMs_41 (by omega) (by omega)) (by omega) (ct_o2 kd_8) rfl ⟨rfl, rfl⟩ ⟨Nat.le_of_ble_eq_true rfl, Nat.le_of_ble_eq_true rfl⟩ ⟨(Nat.le_of_ble_eq_true rfl), (Nat.le_of_ble_eq_true rfl)⟩ hl.1 rfl rfl (Nat.le_of_ble_eq_true rfl) dX5_odds_66) hW (fun r_66 H locs hp hW => ?_)
          subst hp
          refine lv_aload_n hx hb dX5_odds_69 rfl (lv_at hl 0 rfl) ?_
          refine g_5_5 (x := 0) (y := 8) hC hW (by omega) kd_0 gw_129 (hlk 0 5 8 (by omega) rfl) dX5_odds_70 ?_
          refine q_kL0 (q_rV (As := []) (rest := [.long (lN (thr w ro K k_5 k_12))]) (x := 8) hC hW mw_X2_whole gw_247 (k_whole l G n ad H.size I_41 L_41 R w K ro hn hlk hM_41 hMs_41) (by omega) (ct_o2 kd_8) rfl ⟨rfl, rfl⟩ ⟨Nat.le_of_ble_eq_true rfl, Nat.le_of_ble_eq_true rfl⟩ ⟨(Nat.le_of_ble_eq_true rfl), (Nat.le_of_ble_eq_true rfl)⟩ hl.1 rfl rfl (Nat.le_of_ble_eq_true rfl) dX5_odds_73) hW (fun r_73 H locs hp hW => ?_)
          subst hp
          refine lv_iload_n hx hb dX5_odds_76 rfl (lv_at hl 3 rfl) ?_
          refine q_kL0 (q_rS (As := [.long (lN (thr w ro K k_5 k_12)), .long (lN (Sx' w K ro K 6)), .int (nI (k_23))]) (rest := []) hC hW mw_X5_inLowestTerms gw_275 (k_lowest l G n ad H.size I_41 L_41 R _ _ _ (Nat.lt_of_le_of_lt (thr_b hw hk_5 hk_12) hT63) hT63 (Nat.pos_of_ne_zero c_53) hk_23) ⟨rfl, rfl⟩ ⟨Nat.le_of_ble_eq_true rfl, Nat.le_of_ble_eq_true rfl⟩ ⟨(Nat.le_of_ble_eq_true rfl), (Nat.le_of_ble_eq_true rfl)⟩ hl.1 rfl rfl (Nat.le_of_ble_eq_true rfl) dX5_odds_77) hW (fun r_77 H locs hp hW => ?_)
          subst hp
          exact q_lret2 hC hW hr hlk0 (PR_l (a' := (lowT (thr w ro K k_5 k_12) (aTot (w, K, ro)) k_23, ((w, K, ro), hc, hi, sv, pn, ch))) (by simp only [aOdds, rng_nI hk_5 (show K ≤ 1000 by omega), rng_nI hk_12 (by decide), rng_nI hk_23 (by decide), if_neg (show ¬ aTot (w, K, ro) = 0 from c_53)]) ⟨rfl, PA_q hI0 (fun a ha => hIf_41 a (by omega)) hMs_41.2.2.2 (fun a ha => hLf_41 a (by omega))⟩) dX5_odds_80
        ·
          refine lv_ldc2 (v := -5) hx hb hC.2.2.2.1 (hC.2.2.2.2 _ gw_270) dX5_odds_56 ?_
          exact q_lret2 hC hW hr hlk0 (PR_l (a' := (-5, ((w, K, ro), hc, hi, sv, pn, ch))) (by simp only [aOdds, rng_nI hk_5 (show K ≤ 1000 by omega), rng_nI hk_12 (by decide), rng_nI hk_23 (by decide), if_pos (show aTot (w, K, ro) = 0 from c_53)]) ⟨rfl, PA_q hI0 (fun a ha => hIf_41 a (by omega)) hMs_41.2.2.2 (fun a ha => hLf_41 a (by omega))⟩) dX5_odds_59
      ·
        refine q_ine (tgt := 33) hx hb dX5_odds_26 (by decide) (by first | omega | exact Nat.lt_of_le_of_lt (hw3 _) (by decide)) (fun c_26 => absurd c_26 (by decide)) (fun c_26 => ?_)
        refine lv_ldc2 (v := -2) hx hb hC.2.2.2.1 (hC.2.2.2.2 _ gw_269) dX5_odds_29 ?_
        exact q_lret2 hC hW hr hlk0 (PR_l (a' := (-2, ((w, K, ro), hc, hi, sv, pn, ch))) (by simp only [aOdds, rng_nI hk_5 (show K ≤ 1000 by omega), rng_nI hk_12 (by decide), hk_23]) ⟨rfl, PA_0 hI0⟩) dX5_odds_32
    ·
      refine q_ine (tgt := 22) hx hb dX5_odds_15 (by decide) (by first | omega | exact Nat.lt_of_le_of_lt (hw3 _) (by decide)) (fun c_15 => absurd c_15 (by decide)) (fun c_15 => ?_)
      refine lv_ldc2 (v := -1) hx hb hC.2.2.2.1 (hC.2.2.2.2 _ gw_201) dX5_odds_18 ?_
      exact q_lret2 hC hW hr hlk0 (PR_l (a' := (-1, ((w, K, ro), hc, hi, sv, pn, ch))) (by simp only [aOdds, rng_nI hk_5 (show K ≤ 1000 by omega), hk_12]) ⟨rfl, PA_0 hI0⟩) dX5_odds_21
  ·
    refine q_ieq (tgt := 18) hx hb dX5_odds_8 (by decide) (by first | omega | exact Nat.lt_of_le_of_lt (hw3 _) (by decide)) (fun c_8 => ?_) (fun c_8 => absurd c_8 (by decide))
    refine lv_ldc2 (v := -1) hx hb hC.2.2.2.1 (hC.2.2.2.2 _ gw_201) dX5_odds_18 ?_
    exact q_lret2 hC hW hr hlk0 (PR_l (a' := (-1, ((w, K, ro), hc, hi, sv, pn, ch))) (by simp only [aOdds, hk_5]) ⟨rfl, PA_0 hI0⟩) dX5_odds_21
set_option maxRecDepth 100000 in
set_option maxHeartbeats 4000000 in
theorem k_likelyAt (l : Launch) (G : Gx) (n : Nat) (ad : Nat → Nat) (sz : Nat) (I : Ic) (L : Lc) (R : Rc) (place : Int32) (w : Nat → Nat) (K : Nat) (ro : Nat → Nat) (hc : Nat) (hi : Nat → CM) (sv : Nat → Option CM) (pn : Nat) (ch : Nat → Nat) (hI0 : InvA n I L R ((w, K, ro), hc, hi, sv, pn, ch)) : Met l yX5_likelyAt (Cond.code yX5_likelyAt cX5_likelyAt 4 (some .int) :: GW) ({ frames := 6, cells := 0, slots := 0, locals := 216 } : Room) (qPre G n ad sz I L R [.ref (ad 0), .int (place)]) (qI2 G (qA n ad sz) (fun z u => PR n ad I L R (aLikely (w, K, ro) place, ((w, K, ro), hc, hi, sv, pn, ch)) z u)) 0 0 (qA n ad sz) := by
  refine q_met (by decide) (Nat.le_of_ble_eq_true rfl) ?_
  intro p_ e_ s m_ below meth c_ hC hr hlk0 hin hsz hW ls hl
  subst hsz
  have hC : CallFix p_ m_ c_ cX5_likelyAt 4 s ([.ref (ad 0), .int (place)] : List Value).toArray GW "CoinRows" := hC
  have hx := hC.1
  have hb := hC.2.1
  have hn : 71 ≤ n := hI0.1
  have hlk : LkOK n R := hI0.2.1
  have hM : MdI I w K ro := hI0.2.2.1
  have hSI : SI L := hI0.2.2.2.1
  have hPd : PadI I pn ch := hI0.2.2.2.2.1
  have hHi : HiA I R hc hi := hI0.2.2.2.2.2.1
  have hSv : SvA n I R sv := hI0.2.2.2.2.2.2
  have hh1 := hHi.1
  have hh6 := hHi.2.1
  have hp80 := hPd.2.1
  have hk6 : K ≤ 6 := hM.2.2.2.1
  have hw3 : ∀ i, w i ≤ 3 := hM.2.2.2.2.1.1
  have hr4 : ∀ j, ro j < 4 := hM.2.2.2.2.2
  have hT63 : Sx' w K ro K 6 < 2 ^ 63 := Nat.lt_of_le_of_lt (Sx_b hM.2.2.2.2.1 K K 6 hk6) (by decide)
  have hC31 : Cx' w K ro K 6 < 2 ^ 31 := Nat.lt_of_le_of_lt (Cx_b hM.2.2.2.2.1 K K 6 hk6) (by decide)
  have hCT : (nI (Cx' w K ro K 6)).toInt = (Cx' w K ro K 6 : Int) := nI_toInt hC31
  have hw := hM.2.2.2.2.1
  have hl : lv_has ls 4 [(0, .ref (ad 0)), (1, .int (place))] := hl
  refine lv_aload_n hx hb dX5_likelyAt_0 rfl (lv_at hl 0 rfl) ?_
  refine g_5_0 (x := 0) (y := 1) hC hW (by omega) kd_0 gw_124 (hlk 0 0 1 (by omega) rfl) dX5_likelyAt_1 ?_
  refine lv_iload_n hx hb dX5_likelyAt_4 rfl (lv_at hl 1 rfl) ?_
  refine q_kI0 (q_rV (As := [.int (place)]) (rest := []) (x := 1) hC hW mw_X0_hasPlace gw_187 (k_hasPlace l G n ad s.heap.size I L R _ w K ro hn hlk hM) (by omega) (ct_o0 kd_1) rfl ⟨rfl, rfl⟩ ⟨Nat.le_of_ble_eq_true rfl, Nat.le_of_ble_eq_true rfl⟩ ⟨(Nat.le_of_ble_eq_true rfl), (Nat.le_of_ble_eq_true rfl)⟩ hl.1 rfl rfl (Nat.le_of_ble_eq_true rfl) dX5_likelyAt_5) hW (fun r_5 H locs hp hW => ?_)
  rcases hp with ⟨k_5, hk_5, rfl, rfl⟩ | ⟨hk_5, rfl⟩
  ·
    refine q_ine (tgt := 13) hx hb dX5_likelyAt_8 (by decide) (by first | omega | exact Nat.lt_of_le_of_lt (hw3 _) (by decide)) (fun c_8 => ?_) (fun c_8 => absurd c_8 (by decide))
    refine lv_aload_n hx hb dX5_likelyAt_13 rfl (lv_at hl 0 rfl) ?_
    refine g_5_5 (x := 0) (y := 8) hC hW (by omega) kd_0 gw_129 (hlk 0 5 8 (by omega) rfl) dX5_likelyAt_14 ?_
    refine lv_aload_n hx hb dX5_likelyAt_17 rfl (lv_at hl 0 rfl) ?_
    refine g_5_0 (x := 0) (y := 1) hC hW (by omega) kd_0 gw_124 (hlk 0 0 1 (by omega) rfl) dX5_likelyAt_18 ?_
    refine q_kV1 (q_rV (As := [.ref (ad 1)]) (rest := []) (x := 8) hC hW mw_X2_measure gw_202 (k_measure l G n ad H.size I L R w K ro hn hlk hM hSI) (by omega) (ct_o2 kd_8) rfl ⟨rfl, rfl⟩ ⟨Nat.le_of_ble_eq_true rfl, Nat.le_of_ble_eq_true rfl⟩ ⟨(Nat.le_of_ble_eq_true rfl), (Nat.le_of_ble_eq_true rfl)⟩ hl.1 rfl rfl (Nat.le_of_ble_eq_true rfl) dX5_likelyAt_21) hW (fun I_21 L_21 H locs hp hW => ?_)
    obtain ⟨hMs_21, hLf_21, hIf_21⟩ := hp
    have hM_21 : MdI I_21 w K ro := MdI_fr hM hIf_21
    refine lv_aload_n hx hb dX5_likelyAt_24 rfl (lv_at hl 0 rfl) ?_
    refine g_5_5 (x := 0) (y := 8) hC hW (by omega) kd_0 gw_129 (hlk 0 5 8 (by omega) rfl) dX5_likelyAt_25 ?_
    refine q_kL0 (q_rV (As := []) (rest := []) (x := 8) hC hW mw_X2_whole gw_247 (k_whole l G n ad H.size I_21 L_21 R w K ro hn hlk hM_21 hMs_21) (by omega) (ct_o2 kd_8) rfl ⟨rfl, rfl⟩ ⟨Nat.le_of_ble_eq_true rfl, Nat.le_of_ble_eq_true rfl⟩ ⟨(Nat.le_of_ble_eq_true rfl), (Nat.le_of_ble_eq_true rfl)⟩ hl.1 rfl rfl (Nat.le_of_ble_eq_true rfl) dX5_likelyAt_28) hW (fun r_28 H locs hp hW => ?_)
    subst hp
    refine q_lc 0 hx hb dX5_likelyAt_31 (by decide) ?_
    refine q_lcmp hx hb dX5_likelyAt_32 ?_
    refine q_lne (tgt := 39) hx hb dX5_likelyAt_33 (by decide) hT63 (by decide) (fun c_33 => ?_) (fun c_33 => ?_)
    ·
      refine q_ic 0 hx hb dX5_likelyAt_39 (by decide) ?_
      refine lv_istore_n (lv' := [(2, .int (nI 0)), (0, .ref (ad 0)), (1, .int (nI (k_5)))]) hx hb dX5_likelyAt_40 rfl hl (by decide) rfl (fun ls hl => ?_)
      refine q_ic 1 hx hb dX5_likelyAt_41 (by decide) ?_
      have hl : lv_has ls 4 [(2, .int (nI (bestT (fun f => thr w ro K k_5 f) 1))), (0, .ref (ad 0)), (1, .int (nI (k_5)))] := by rw [show bestT (fun f => thr w ro K k_5 f) 1 = 0 from Nat.le_zero.mp (bestT_le (fun f => thr w ro K k_5 f) 0)]; exact hl
      refine lv_istore_n (lv' := [(3, .int (nI 1)), (2, .int (nI (bestT (fun f => thr w ro K k_5 f) 1))), (0, .ref (ad 0)), (1, .int (nI (k_5)))]) hx hb dX5_likelyAt_42 rfl hl (by decide) rfl (fun ls hl => ?_)
      have lp_43 : ∀ (fu_43 : Nat) (c1 : Nat), 4 - c1 < fu_43 → (1 ≤ c1) → (c1 ≤ 4) → ∀ (H : Heap) (locs : List Loc), Wd G n ad I_21 L_21 R (qA n ad s.heap.size) s.heap H locs s → ∀ ls : Array Slot, lv_has ls 4 [(0, .ref (ad 0)), (1, .int (nI (k_5))), (2, .int (nI (bestT (fun f => thr w ro K k_5 f) c1))), (3, .int (nI (c1)))] → W p_ l e_ ({ frames := 6, cells := 0, slots := 0, locals := 216 } : Room) s m_ ([.ref (ad 0), .int (nI (k_5))] : List Value).toArray below meth c_ H locs 0 0 (MQ below (qI2 G (qA n ad s.heap.size) (fun z u => PR n ad I L R (aLikely (w, K, ro) (nI k_5), ((w, K, ro), hc, hi, sv, pn, ch)) z u)) ([.ref (ad 0), .int (nI (k_5))] : List Value).toArray s 0 0 (qA n ad s.heap.size)) (F0 m_ 43 ls []) := by
        intro fu_43
        induction fu_43 with
        | zero =>
          intro c1 hm; exact absurd hm (Nat.not_lt_zero _)
        | succ fu_43 ih_43 =>
          intro c1 hm_43 hc1 hc4 H locs hW ls hl
          have hbl : bestT (fun f => thr w ro K k_5 f) c1 < c1 := by obtain ⟨c2, rfl⟩ : ∃ c2, c1 = c2 + 1 := ⟨c1 - 1, by omega⟩; exact Nat.lt_succ_of_le (bestT_le _ c2)
          refine lv_iload_n hx hb dX5_likelyAt_43 rfl (lv_at hl 3 rfl) ?_
          refine q_ic 4 hx hb dX5_likelyAt_44 (by decide) ?_
          refine q_cge (tgt := 78) hx hb dX5_likelyAt_45 (by decide) (by first | omega | exact Nat.lt_of_le_of_lt (hw3 _) (by decide)) (by first | omega | exact Nat.lt_of_le_of_lt (hw3 _) (by decide)) (fun c_45 => ?_) (fun c_45 => ?_)
          ·
            refine lv_iload_n hx hb dX5_likelyAt_78 rfl (lv_at hl 2 rfl) ?_
            have e4 : c1 = 4 := by omega
            subst e4
            exact q_iret2 hC hW hr hlk0 (PR_i (a' := (nI (bestT (fun f => thr w ro K k_5 f) 4), ((w, K, ro), hc, hi, sv, pn, ch))) (by simp only [aLikely, rng_nI hk_5 (show K ≤ 1000 by omega), if_neg (show ¬ aTot (w, K, ro) = 0 from c_33)]) ⟨rfl, PA_q hI0 (fun a ha => hIf_21 a (by omega)) hMs_21.2.2.2 (fun a ha => hLf_21 a (by omega))⟩) dX5_likelyAt_79
          ·
            refine lv_aload_n hx hb dX5_likelyAt_48 rfl (lv_at hl 0 rfl) ?_
            refine g_5_5 (x := 0) (y := 8) hC hW (by omega) kd_0 gw_129 (hlk 0 5 8 (by omega) rfl) dX5_likelyAt_49 ?_
            refine lv_iload_n hx hb dX5_likelyAt_52 rfl (lv_at hl 1 rfl) ?_
            refine lv_iload_n hx hb dX5_likelyAt_53 rfl (lv_at hl 3 rfl) ?_
            refine q_kL0 (q_rV (As := [.int (nI (k_5)), .int (nI (c1))]) (rest := []) (x := 8) hC hW mw_X2_through gw_271 (k_through l G n ad H.size I_21 L_21 R _ _ w K ro hn hlk hM_21 hMs_21 (by omega) (by omega)) (by omega) (ct_o2 kd_8) rfl ⟨rfl, rfl⟩ ⟨Nat.le_of_ble_eq_true rfl, Nat.le_of_ble_eq_true rfl⟩ ⟨(Nat.le_of_ble_eq_true rfl), (Nat.le_of_ble_eq_true rfl)⟩ hl.1 rfl rfl (Nat.le_of_ble_eq_true rfl) dX5_likelyAt_54) hW (fun r_54 H locs hp hW => ?_)
            subst hp
            refine lv_aload_n hx hb dX5_likelyAt_57 rfl (lv_at hl 0 rfl) ?_
            refine g_5_5 (x := 0) (y := 8) hC hW (by omega) kd_0 gw_129 (hlk 0 5 8 (by omega) rfl) dX5_likelyAt_58 ?_
            refine lv_iload_n hx hb dX5_likelyAt_61 rfl (lv_at hl 1 rfl) ?_
            refine lv_iload_n hx hb dX5_likelyAt_62 rfl (lv_at hl 2 rfl) ?_
            refine q_kL0 (q_rV (As := [.int (nI (k_5)), .int (nI (bestT (fun f => thr w ro K k_5 f) c1))]) (rest := [.long (lN (thr w ro K k_5 c1))]) (x := 8) hC hW mw_X2_through gw_271 (k_through l G n ad H.size I_21 L_21 R _ _ w K ro hn hlk hM_21 hMs_21 (by omega) (by omega)) (by omega) (ct_o2 kd_8) rfl ⟨rfl, rfl⟩ ⟨Nat.le_of_ble_eq_true rfl, Nat.le_of_ble_eq_true rfl⟩ ⟨(Nat.le_of_ble_eq_true rfl), (Nat.le_of_ble_eq_true rfl)⟩ hl.1 rfl rfl (Nat.le_of_ble_eq_true rfl) dX5_likelyAt_63) hW (fun r_63 H locs hp hW => ?_)
            subst hp
            have hta : thr w ro K k_5 c1 < 2 ^ 63 := Nat.lt_of_le_of_lt (thr_b hw hk_5 (by omega)) hT63
            have htb : thr w ro K k_5 (bestT (fun f => thr w ro K k_5 f) c1) < 2 ^ 63 := Nat.lt_of_le_of_lt (thr_b hw hk_5 (by omega)) hT63
            refine q_lcmp hx hb dX5_likelyAt_66 ?_
            refine q_lle (tgt := 72) hx hb dX5_likelyAt_67 (by decide) hta htb (fun c_67 => ?_) (fun c_67 => ?_)
            ·
              have hl : lv_has ls 4 [(0, .ref (ad 0)), (1, .int (nI (k_5))), (2, .int (nI (bestT (fun f => thr w ro K k_5 f) (c1 + 1)))), (3, .int (nI (c1)))] := by rw [show bestT (fun f => thr w ro K k_5 f) (c1 + 1) = bestT (fun f => thr w ro K k_5 f) c1 from bestT_n (Nat.not_lt.mpr c_67)]; exact hl
              refine q_iinc (z2 := c1 + 1) (lv' := [(3, .int (nI (c1 + 1))), (0, .ref (ad 0)), (1, .int (nI (k_5))), (2, .int (nI (bestT (fun f => thr w ro K k_5 f) (c1 + 1))))]) hx hb dX5_likelyAt_72 hl (k := 3) rfl (inc_up _ 1 (by decide)) (by decide) rfl (fun ls hl => ?_)
              refine lv_goto (tgt := 43) hx hb dX5_likelyAt_75 (by decide) ?_
              exact ih_43 (c1 + 1) (by omega) (by omega) (by omega) _ _ hW _ (lv_sub hl [1, 2, 3, 0] rfl)
            ·
              refine lv_iload_n hx hb dX5_likelyAt_70 rfl (lv_at hl 3 rfl) ?_
              refine lv_istore_n (lv' := [(2, .int (nI (c1))), (0, .ref (ad 0)), (1, .int (nI (k_5))), (3, .int (nI (c1)))]) hx hb dX5_likelyAt_71 rfl hl (by decide) rfl (fun ls hl => ?_)
              have hl : lv_has ls 4 [(2, .int (nI (bestT (fun f => thr w ro K k_5 f) (c1 + 1)))), (0, .ref (ad 0)), (1, .int (nI (k_5))), (3, .int (nI (c1)))] := by rw [show bestT (fun f => thr w ro K k_5 f) (c1 + 1) = c1 from bestT_y c_67]; exact hl
              refine q_iinc (z2 := c1 + 1) (lv' := [(3, .int (nI (c1 + 1))), (2, .int (nI (bestT (fun f => thr w ro K k_5 f) (c1 + 1)))), (0, .ref (ad 0)), (1, .int (nI (k_5)))]) hx hb dX5_likelyAt_72 hl (k := 3) rfl (inc_up _ 1 (by decide)) (by decide) rfl (fun ls hl => ?_)
              refine lv_goto (tgt := 43) hx hb dX5_likelyAt_75 (by decide) ?_
              exact ih_43 (c1 + 1) (by omega) (by omega) (by omega) _ _ hW _ (lv_sub hl [2, 3, 1, 0] rfl)
      exact lp_43 (4 + 1) 1 (by omega) (by omega) (by omega) _ _ hW _ (lv_sub hl [2, 3, 1, 0] rfl)
    ·
      refine lv_bipush (v := -5) hx hb dX5_likelyAt_36 (by decide) ?_
      exact q_iret2 hC hW hr hlk0 (PR_i (a' := (-5, ((w, K, ro), hc, hi, sv, pn, ch))) (by simp only [aLikely, rng_nI hk_5 (show K ≤ 1000 by omega), if_pos (show aTot (w, K, ro) = 0 from c_33)]) ⟨rfl, PA_q hI0 (fun a ha => hIf_21 a (by omega)) hMs_21.2.2.2 (fun a ha => hLf_21 a (by omega))⟩) dX5_likelyAt_38
  ·
    refine q_ine (tgt := 13) hx hb dX5_likelyAt_8 (by decide) (by first | omega | exact Nat.lt_of_le_of_lt (hw3 _) (by decide)) (fun c_8 => absurd c_8 (by decide)) (fun c_8 => ?_)
    refine lv_iconst (v := -1) hx hb dX5_likelyAt_11 (by decide) ?_
    exact q_iret2 hC hW hr hlk0 (PR_i (a' := (-1, ((w, K, ro), hc, hi, sv, pn, ch))) (by simp only [aLikely, hk_5]) ⟨rfl, PA_0 hI0⟩) dX5_likelyAt_12
set_option maxRecDepth 100000 in
set_option maxHeartbeats 4000000 in
theorem k_expected (l : Launch) (G : Gx) (n : Nat) (ad : Nat → Nat) (sz : Nat) (I : Ic) (L : Lc) (R : Rc) (kind coin to part : Int32) (w : Nat → Nat) (K : Nat) (ro : Nat → Nat) (hc : Nat) (hi : Nat → CM) (sv : Nat → Option CM) (pn : Nat) (ch : Nat → Nat) (hI0 : InvA n I L R ((w, K, ro), hc, hi, sv, pn, ch)) : Met l yX5_expected (Cond.code yX5_expected cX5_expected 7 (some .long) :: GW) ({ frames := 6, cells := 0, slots := 0, locals := 216 } : Room) (qPre G n ad sz I L R [.ref (ad 0), .int (kind), .int (coin), .int (to), .int (part)]) (qL2 G (qA n ad sz) (fun z u => PRl n ad I L R (aExp (w, K, ro) kind coin to part, ((w, K, ro), hc, hi, sv, pn, ch)) z u)) 0 0 (qA n ad sz) := by
  refine q_met (by decide) (Nat.le_of_ble_eq_true rfl) ?_
  intro p_ e_ s m_ below meth c_ hC hr hlk0 hin hsz hW ls hl
  subst hsz
  have hC : CallFix p_ m_ c_ cX5_expected 7 s ([.ref (ad 0), .int (kind), .int (coin), .int (to), .int (part)] : List Value).toArray GW "CoinRows" := hC
  have hx := hC.1
  have hb := hC.2.1
  have hn : 71 ≤ n := hI0.1
  have hlk : LkOK n R := hI0.2.1
  have hM : MdI I w K ro := hI0.2.2.1
  have hSI : SI L := hI0.2.2.2.1
  have hPd : PadI I pn ch := hI0.2.2.2.2.1
  have hHi : HiA I R hc hi := hI0.2.2.2.2.2.1
  have hSv : SvA n I R sv := hI0.2.2.2.2.2.2
  have hh1 := hHi.1
  have hh6 := hHi.2.1
  have hp80 := hPd.2.1
  have hk6 : K ≤ 6 := hM.2.2.2.1
  have hw3 : ∀ i, w i ≤ 3 := hM.2.2.2.2.1.1
  have hr4 : ∀ j, ro j < 4 := hM.2.2.2.2.2
  have hT63 : Sx' w K ro K 6 < 2 ^ 63 := Nat.lt_of_le_of_lt (Sx_b hM.2.2.2.2.1 K K 6 hk6) (by decide)
  have hC31 : Cx' w K ro K 6 < 2 ^ 31 := Nat.lt_of_le_of_lt (Cx_b hM.2.2.2.2.1 K K 6 hk6) (by decide)
  have hCT : (nI (Cx' w K ro K 6)).toInt = (Cx' w K ro K 6 : Int) := nI_toInt hC31
  have hw := hM.2.2.2.2.1
  have hl : lv_has ls 7 [(0, .ref (ad 0)), (1, .int (kind)), (2, .int (coin)), (3, .int (to)), (4, .int (part))] := hl
  refine lv_iload_n hx hb dX5_expected_0 rfl (lv_at hl 1 rfl) ?_
  refine q_kI0 (q_rS (As := [.int (kind)]) (rest := []) hC hW mw_X5_isKind gw_160 (k_isKind l G n ad s.heap.size I L R _) ⟨rfl, rfl⟩ ⟨Nat.le_of_ble_eq_true rfl, Nat.le_of_ble_eq_true rfl⟩ ⟨(Nat.le_of_ble_eq_true rfl), (Nat.le_of_ble_eq_true rfl)⟩ hl.1 rfl rfl (Nat.le_of_ble_eq_true rfl) dX5_expected_1) hW (fun r_1 H locs hp hW => ?_)
  rcases hp with ⟨k_1, hk_1, rfl, rfl⟩ | ⟨hk_1, rfl⟩
  ·
    refine q_ieq (tgt := 15) hx hb dX5_expected_4 (by decide) (by first | omega | exact Nat.lt_of_le_of_lt (hw3 _) (by decide)) (fun c_4 => absurd c_4 (by decide)) (fun c_4 => ?_)
    refine lv_iload hx hb dX5_expected_7 (lv_at hl 4 rfl) ?_
    refine q_kI0 (q_rS (As := [.int (part)]) (rest := []) hC hW mw_X5_isPart gw_266 (k_isPart l G n ad H.size I L R _) ⟨rfl, rfl⟩ ⟨Nat.le_of_ble_eq_true rfl, Nat.le_of_ble_eq_true rfl⟩ ⟨(Nat.le_of_ble_eq_true rfl), (Nat.le_of_ble_eq_true rfl)⟩ hl.1 rfl rfl (Nat.le_of_ble_eq_true rfl) dX5_expected_9) hW (fun r_9 H locs hp hW => ?_)
    rcases hp with ⟨k_9, hk_9, rfl, rfl⟩ | ⟨hk_9, rfl⟩
    ·
      refine q_ine (tgt := 19) hx hb dX5_expected_12 (by decide) (by first | omega | exact Nat.lt_of_le_of_lt (hw3 _) (by decide)) (fun c_12 => ?_) (fun c_12 => absurd c_12 (by decide))
      refine lv_iload_n hx hb dX5_expected_19 rfl (lv_at hl 1 rfl) ?_
      refine lv_iload_n hx hb dX5_expected_20 rfl (lv_at hl 2 rfl) ?_
      refine lv_iload_n hx hb dX5_expected_21 rfl (lv_at hl 3 rfl) ?_
      refine q_kI0 (q_rS (As := [.int (nI (k_1)), .int (coin), .int (to)]) (rest := []) hC hW mw_X5_indexOf gw_163 (k_indexOf l G n ad H.size I L R _ (by omega) _ _) ⟨rfl, rfl⟩ ⟨Nat.le_of_ble_eq_true rfl, Nat.le_of_ble_eq_true rfl⟩ ⟨(Nat.le_of_ble_eq_true rfl), (Nat.le_of_ble_eq_true rfl)⟩ hl.1 rfl rfl (Nat.le_of_ble_eq_true rfl) dX5_expected_22) hW (fun r_22 H locs hp hW => ?_)
      rcases hp with ⟨i_22, hi_22, hj_22, rfl⟩ | ⟨hi_22, rfl⟩
      ·
        refine lv_if_ge (tgt := 32) hx hb dX5_expected_25 (by decide) (fun c_25 => ?_) (fun c_25 => absurd (Int32.not_lt.mp (nI_pos (by omega))) c_25)
        refine lv_aload_n hx hb dX5_expected_32 rfl (lv_at hl 0 rfl) ?_
        refine g_5_5 (x := 0) (y := 8) hC hW (by omega) kd_0 gw_129 (hlk 0 5 8 (by omega) rfl) dX5_expected_33 ?_
        refine lv_aload_n hx hb dX5_expected_36 rfl (lv_at hl 0 rfl) ?_
        refine g_5_0 (x := 0) (y := 1) hC hW (by omega) kd_0 gw_124 (hlk 0 0 1 (by omega) rfl) dX5_expected_37 ?_
        refine q_kV1 (q_rV (As := [.ref (ad 1)]) (rest := []) (x := 8) hC hW mw_X2_measure gw_202 (k_measure l G n ad H.size I L R w K ro hn hlk hM hSI) (by omega) (ct_o2 kd_8) rfl ⟨rfl, rfl⟩ ⟨Nat.le_of_ble_eq_true rfl, Nat.le_of_ble_eq_true rfl⟩ ⟨(Nat.le_of_ble_eq_true rfl), (Nat.le_of_ble_eq_true rfl)⟩ hl.1 rfl rfl (Nat.le_of_ble_eq_true rfl) dX5_expected_40) hW (fun I_40 L_40 H locs hp hW => ?_)
        obtain ⟨hMs_40, hLf_40, hIf_40⟩ := hp
        have hM_40 : MdI I_40 w K ro := MdI_fr hM hIf_40
        refine lv_aload_n hx hb dX5_expected_43 rfl (lv_at hl 0 rfl) ?_
        refine g_5_5 (x := 0) (y := 8) hC hW (by omega) kd_0 gw_129 (hlk 0 5 8 (by omega) rfl) dX5_expected_44 ?_
        refine q_kL0 (q_rV (As := []) (rest := []) (x := 8) hC hW mw_X2_whole gw_247 (k_whole l G n ad H.size I_40 L_40 R w K ro hn hlk hM_40 hMs_40) (by omega) (ct_o2 kd_8) rfl ⟨rfl, rfl⟩ ⟨Nat.le_of_ble_eq_true rfl, Nat.le_of_ble_eq_true rfl⟩ ⟨(Nat.le_of_ble_eq_true rfl), (Nat.le_of_ble_eq_true rfl)⟩ hl.1 rfl rfl (Nat.le_of_ble_eq_true rfl) dX5_expected_47) hW (fun r_47 H locs hp hW => ?_)
        subst hp
        refine q_lc 0 hx hb dX5_expected_50 (by decide) ?_
        refine q_lcmp hx hb dX5_expected_51 ?_
        refine q_lne (tgt := 59) hx hb dX5_expected_52 (by decide) hT63 (by decide) (fun c_52 => ?_) (fun c_52 => ?_)
        ·
          refine lv_iload_n hx hb dX5_expected_59 rfl (lv_at hl 1 rfl) ?_
          refine q_ic 2 hx hb dX5_expected_60 (by decide) ?_
          refine q_cne (tgt := 82) hx hb dX5_expected_61 (by decide) (by first | omega | exact Nat.lt_of_le_of_lt (hw3 _) (by decide)) (by first | omega | exact Nat.lt_of_le_of_lt (hw3 _) (by decide)) (fun c_61 => ?_) (fun c_61 => ?_)
          ·
            refine lv_iload_n hx hb dX5_expected_82 rfl (lv_at hl 1 rfl) ?_
            refine q_ic 1 hx hb dX5_expected_83 (by decide) ?_
            refine q_cne (tgt := 105) hx hb dX5_expected_84 (by decide) (by first | omega | exact Nat.lt_of_le_of_lt (hw3 _) (by decide)) (by first | omega | exact Nat.lt_of_le_of_lt (hw3 _) (by decide)) (fun c_84 => ?_) (fun c_84 => ?_)
            ·
              obtain ⟨a_, ha_, rfl, he5⟩ := idx_s hi_22 (by omega)
              have hup : exN w ro K i_22 = stN w ro K 6 a_ K := by rw [he5]; exact exN_st (by omega) ha_
              refine lv_aload_n hx hb dX5_expected_105 rfl (lv_at hl 0 rfl) ?_
              refine g_5_5 (x := 0) (y := 8) hC hW (by omega) kd_0 gw_129 (hlk 0 5 8 (by omega) rfl) dX5_expected_106 ?_
              refine lv_aload_n hx hb dX5_expected_109 rfl (lv_at hl 0 rfl) ?_
              refine g_5_0 (x := 0) (y := 1) hC hW (by omega) kd_0 gw_124 (hlk 0 0 1 (by omega) rfl) dX5_expected_110 ?_
              refine q_bp 6 hx hb dX5_expected_113 (by decide) ?_
              refine lv_iload_n hx hb dX5_expected_115 rfl (lv_at hl 2 rfl) ?_
              refine q_kL0 (q_rV (As := [.ref (ad 1), .int (nI 6), .int (nI (a_))]) (rest := []) (x := 8) hC hW mw_X2_ofStep gw_305 (k_ofStep l G n ad H.size I_40 L_40 R _ _ w K ro hn hlk hM_40 hMs_40 (by omega) (by omega)) (by omega) (ct_o2 kd_8) rfl ⟨rfl, rfl⟩ ⟨Nat.le_of_ble_eq_true rfl, Nat.le_of_ble_eq_true rfl⟩ ⟨(Nat.le_of_ble_eq_true rfl), (Nat.le_of_ble_eq_true rfl)⟩ hl.1 rfl rfl (Nat.le_of_ble_eq_true rfl) dX5_expected_116) hW (fun r_116 H locs hp hW => ?_)
              subst hp
              refine lv_lstore (lv' := [(5, .long (lN (stN w ro K 6 a_ K))), (0, .ref (ad 0)), (1, .int (nI (k_1))), (2, .int (nI (a_))), (3, .int (to)), (4, .int (nI (k_9)))]) hx hb dX5_expected_119 hl (by decide) rfl (fun ls hl => ?_)
              refine lv_lload hx hb dX5_expected_121 (lv_at hl 0 rfl) ?_
              refine lv_aload_n hx hb dX5_expected_123 rfl (lv_at hl 1 rfl) ?_
              refine g_5_5 (x := 0) (y := 8) hC hW (by omega) kd_0 gw_129 (hlk 0 5 8 (by omega) rfl) dX5_expected_124 ?_
              refine q_kL0 (q_rV (As := []) (rest := [.long (lN (stN w ro K 6 a_ K))]) (x := 8) hC hW mw_X2_whole gw_247 (k_whole l G n ad H.size I_40 L_40 R w K ro hn hlk hM_40 hMs_40) (by omega) (ct_o2 kd_8) rfl ⟨rfl, rfl⟩ ⟨Nat.le_of_ble_eq_true rfl, Nat.le_of_ble_eq_true rfl⟩ ⟨(Nat.le_of_ble_eq_true rfl), (Nat.le_of_ble_eq_true rfl)⟩ hl.1 rfl rfl (Nat.le_of_ble_eq_true rfl) dX5_expected_127) hW (fun r_127 H locs hp hW => ?_)
              subst hp
              refine lv_iload hx hb dX5_expected_130 (lv_at hl 5 rfl) ?_
              refine q_kL0 (q_rS (As := [.long (lN (stN w ro K 6 a_ K)), .long (lN (Sx' w K ro K 6)), .int (nI (k_9))]) (rest := []) hC hW mw_X5_inLowestTerms gw_275 (k_lowest l G n ad H.size I_40 L_40 R _ _ _ (by rw [← hup]; exact Nat.lt_of_le_of_lt (exN_BB hw hk6 _) (by decide)) hT63 (Nat.pos_of_ne_zero c_52) hk_9) ⟨rfl, rfl⟩ ⟨Nat.le_of_ble_eq_true rfl, Nat.le_of_ble_eq_true rfl⟩ ⟨(Nat.le_of_ble_eq_true rfl), (Nat.le_of_ble_eq_true rfl)⟩ hl.1 rfl rfl (Nat.le_of_ble_eq_true rfl) dX5_expected_132) hW (fun r_132 H locs hp hW => ?_)
              subst hp
              exact q_lret2 hC hW hr hlk0 (PR_l (a' := (lowT (stN w ro K 6 a_ K) (aTot (w, K, ro)) k_9, ((w, K, ro), hc, hi, sv, pn, ch))) (by simp only [aExp, rng_nI hk_1 (by decide), rng_nI hk_9 (by decide), hi_22, if_neg (show ¬ aTot (w, K, ro) = 0 from c_52), hup]) ⟨rfl, PA_q hI0 (fun a ha => hIf_40 a (by omega)) hMs_40.2.2.2 (fun a ha => hLf_40 a (by omega))⟩) dX5_expected_135
            ·
              obtain ⟨a_, b_, ha_, hb_, rfl, rfl, he5⟩ := idx_b hi_22 (by omega)
              have hup : exN w ro K i_22 = stN w ro K a_ b_ K := by rw [he5]; exact exN_st (by omega) hb_
              refine lv_aload_n hx hb dX5_expected_87 rfl (lv_at hl 0 rfl) ?_
              refine g_5_5 (x := 0) (y := 8) hC hW (by omega) kd_0 gw_129 (hlk 0 5 8 (by omega) rfl) dX5_expected_88 ?_
              refine lv_aload_n hx hb dX5_expected_91 rfl (lv_at hl 0 rfl) ?_
              refine g_5_0 (x := 0) (y := 1) hC hW (by omega) kd_0 gw_124 (hlk 0 0 1 (by omega) rfl) dX5_expected_92 ?_
              refine lv_iload_n hx hb dX5_expected_95 rfl (lv_at hl 2 rfl) ?_
              refine lv_iload_n hx hb dX5_expected_96 rfl (lv_at hl 3 rfl) ?_
              refine q_kL0 (q_rV (As := [.ref (ad 1), .int (nI (a_)), .int (nI (b_))]) (rest := []) (x := 8) hC hW mw_X2_ofStep gw_305 (k_ofStep l G n ad H.size I_40 L_40 R _ _ w K ro hn hlk hM_40 hMs_40 (by omega) (by omega)) (by omega) (ct_o2 kd_8) rfl ⟨rfl, rfl⟩ ⟨Nat.le_of_ble_eq_true rfl, Nat.le_of_ble_eq_true rfl⟩ ⟨(Nat.le_of_ble_eq_true rfl), (Nat.le_of_ble_eq_true rfl)⟩ hl.1 rfl rfl (Nat.le_of_ble_eq_true rfl) dX5_expected_97) hW (fun r_97 H locs hp hW => ?_)
              subst hp
              refine lv_lstore (lv' := [(5, .long (lN (stN w ro K a_ b_ K))), (0, .ref (ad 0)), (1, .int (nI (k_1))), (2, .int (nI (a_))), (3, .int (nI (b_))), (4, .int (nI (k_9)))]) hx hb dX5_expected_100 hl (by decide) rfl (fun ls hl => ?_)
              refine lv_goto (tgt := 121) hx hb dX5_expected_102 (by decide) ?_
              refine lv_lload hx hb dX5_expected_121 (lv_at hl 0 rfl) ?_
              refine lv_aload_n hx hb dX5_expected_123 rfl (lv_at hl 1 rfl) ?_
              refine g_5_5 (x := 0) (y := 8) hC hW (by omega) kd_0 gw_129 (hlk 0 5 8 (by omega) rfl) dX5_expected_124 ?_
              refine q_kL0 (q_rV (As := []) (rest := [.long (lN (stN w ro K a_ b_ K))]) (x := 8) hC hW mw_X2_whole gw_247 (k_whole l G n ad H.size I_40 L_40 R w K ro hn hlk hM_40 hMs_40) (by omega) (ct_o2 kd_8) rfl ⟨rfl, rfl⟩ ⟨Nat.le_of_ble_eq_true rfl, Nat.le_of_ble_eq_true rfl⟩ ⟨(Nat.le_of_ble_eq_true rfl), (Nat.le_of_ble_eq_true rfl)⟩ hl.1 rfl rfl (Nat.le_of_ble_eq_true rfl) dX5_expected_127) hW (fun r_127 H locs hp hW => ?_)
              subst hp
              refine lv_iload hx hb dX5_expected_130 (lv_at hl 5 rfl) ?_
              refine q_kL0 (q_rS (As := [.long (lN (stN w ro K a_ b_ K)), .long (lN (Sx' w K ro K 6)), .int (nI (k_9))]) (rest := []) hC hW mw_X5_inLowestTerms gw_275 (k_lowest l G n ad H.size I_40 L_40 R _ _ _ (by rw [← hup]; exact Nat.lt_of_le_of_lt (exN_BB hw hk6 _) (by decide)) hT63 (Nat.pos_of_ne_zero c_52) hk_9) ⟨rfl, rfl⟩ ⟨Nat.le_of_ble_eq_true rfl, Nat.le_of_ble_eq_true rfl⟩ ⟨(Nat.le_of_ble_eq_true rfl), (Nat.le_of_ble_eq_true rfl)⟩ hl.1 rfl rfl (Nat.le_of_ble_eq_true rfl) dX5_expected_132) hW (fun r_132 H locs hp hW => ?_)
              subst hp
              exact q_lret2 hC hW hr hlk0 (PR_l (a' := (lowT (stN w ro K a_ b_ K) (aTot (w, K, ro)) k_9, ((w, K, ro), hc, hi, sv, pn, ch))) (by simp only [aExp, rng_nI hk_1 (by decide), rng_nI hk_9 (by decide), hi_22, if_neg (show ¬ aTot (w, K, ro) = 0 from c_52), hup]) ⟨rfl, PA_q hI0 (fun a ha => hIf_40 a (by omega)) hMs_40.2.2.2 (fun a ha => hLf_40 a (by omega))⟩) dX5_expected_135
          ·
            obtain ⟨a_, b_, ha_, hb_, rfl, rfl, he5⟩ := idx_l hi_22 (by omega)
            have hup : exN w ro K i_22 = leN w ro K a_ b_ K := by rw [he5]; exact exN_le ha_ hb_
            refine lv_aload_n hx hb dX5_expected_64 rfl (lv_at hl 0 rfl) ?_
            refine g_5_5 (x := 0) (y := 8) hC hW (by omega) kd_0 gw_129 (hlk 0 5 8 (by omega) rfl) dX5_expected_65 ?_
            refine lv_aload_n hx hb dX5_expected_68 rfl (lv_at hl 0 rfl) ?_
            refine g_5_0 (x := 0) (y := 1) hC hW (by omega) kd_0 gw_124 (hlk 0 0 1 (by omega) rfl) dX5_expected_69 ?_
            refine lv_iload_n hx hb dX5_expected_72 rfl (lv_at hl 2 rfl) ?_
            refine lv_iload_n hx hb dX5_expected_73 rfl (lv_at hl 3 rfl) ?_
            refine q_kL0 (q_rV (As := [.ref (ad 1), .int (nI (a_)), .int (nI (b_))]) (rest := []) (x := 8) hC hW mw_X2_ofLetter gw_300 (k_ofLetter l G n ad H.size I_40 L_40 R _ _ w K ro hn hlk hM_40 hMs_40 (by omega) (by omega)) (by omega) (ct_o2 kd_8) rfl ⟨rfl, rfl⟩ ⟨Nat.le_of_ble_eq_true rfl, Nat.le_of_ble_eq_true rfl⟩ ⟨(Nat.le_of_ble_eq_true rfl), (Nat.le_of_ble_eq_true rfl)⟩ hl.1 rfl rfl (Nat.le_of_ble_eq_true rfl) dX5_expected_74) hW (fun r_74 H locs hp hW => ?_)
            subst hp
            refine lv_lstore (lv' := [(5, .long (lN (leN w ro K a_ b_ K))), (0, .ref (ad 0)), (1, .int (nI (k_1))), (2, .int (nI (a_))), (3, .int (nI (b_))), (4, .int (nI (k_9)))]) hx hb dX5_expected_77 hl (by decide) rfl (fun ls hl => ?_)
            refine lv_goto (tgt := 121) hx hb dX5_expected_79 (by decide) ?_
            refine lv_lload hx hb dX5_expected_121 (lv_at hl 0 rfl) ?_
            refine lv_aload_n hx hb dX5_expected_123 rfl (lv_at hl 1 rfl) ?_
            refine g_5_5 (x := 0) (y := 8) hC hW (by omega) kd_0 gw_129 (hlk 0 5 8 (by omega) rfl) dX5_expected_124 ?_
            refine q_kL0 (q_rV (As := []) (rest := [.long (lN (leN w ro K a_ b_ K))]) (x := 8) hC hW mw_X2_whole gw_247 (k_whole l G n ad H.size I_40 L_40 R w K ro hn hlk hM_40 hMs_40) (by omega) (ct_o2 kd_8) rfl ⟨rfl, rfl⟩ ⟨Nat.le_of_ble_eq_true rfl, Nat.le_of_ble_eq_true rfl⟩ ⟨(Nat.le_of_ble_eq_true rfl), (Nat.le_of_ble_eq_true rfl)⟩ hl.1 rfl rfl (Nat.le_of_ble_eq_true rfl) dX5_expected_127) hW (fun r_127 H locs hp hW => ?_)
            subst hp
            refine lv_iload hx hb dX5_expected_130 (lv_at hl 5 rfl) ?_
            refine q_kL0 (q_rS (As := [.long (lN (leN w ro K a_ b_ K)), .long (lN (Sx' w K ro K 6)), .int (nI (k_9))]) (rest := []) hC hW mw_X5_inLowestTerms gw_275 (k_lowest l G n ad H.size I_40 L_40 R _ _ _ (by rw [← hup]; exact Nat.lt_of_le_of_lt (exN_BB hw hk6 _) (by decide)) hT63 (Nat.pos_of_ne_zero c_52) hk_9) ⟨rfl, rfl⟩ ⟨Nat.le_of_ble_eq_true rfl, Nat.le_of_ble_eq_true rfl⟩ ⟨(Nat.le_of_ble_eq_true rfl), (Nat.le_of_ble_eq_true rfl)⟩ hl.1 rfl rfl (Nat.le_of_ble_eq_true rfl) dX5_expected_132) hW (fun r_132 H locs hp hW => ?_)
            subst hp
            exact q_lret2 hC hW hr hlk0 (PR_l (a' := (lowT (leN w ro K a_ b_ K) (aTot (w, K, ro)) k_9, ((w, K, ro), hc, hi, sv, pn, ch))) (by simp only [aExp, rng_nI hk_1 (by decide), rng_nI hk_9 (by decide), hi_22, if_neg (show ¬ aTot (w, K, ro) = 0 from c_52), hup]) ⟨rfl, PA_q hI0 (fun a ha => hIf_40 a (by omega)) hMs_40.2.2.2 (fun a ha => hLf_40 a (by omega))⟩) dX5_expected_135
        ·
          refine lv_ldc2 (v := -5) hx hb hC.2.2.2.1 (hC.2.2.2.2 _ gw_270) dX5_expected_55 ?_
          exact q_lret2 hC hW hr hlk0 (PR_l (a' := (-5, ((w, K, ro), hc, hi, sv, pn, ch))) (by simp only [aExp, rng_nI hk_1 (by decide), rng_nI hk_9 (by decide), hi_22, if_pos (show aTot (w, K, ro) = 0 from c_52)]) ⟨rfl, PA_q hI0 (fun a ha => hIf_40 a (by omega)) hMs_40.2.2.2 (fun a ha => hLf_40 a (by omega))⟩) dX5_expected_58
      ·
        refine lv_if_ge (tgt := 32) hx hb dX5_expected_25 (by decide) (fun c_25 => absurd c_25 (by decide)) (fun c_25 => ?_)
        refine lv_ldc2 (v := -1) hx hb hC.2.2.2.1 (hC.2.2.2.2 _ gw_201) dX5_expected_28 ?_
        exact q_lret2 hC hW hr hlk0 (PR_l (a' := (-1, ((w, K, ro), hc, hi, sv, pn, ch))) (by simp only [aExp, rng_nI hk_1 (by decide), rng_nI hk_9 (by decide), hi_22]) ⟨rfl, PA_0 hI0⟩) dX5_expected_31
    ·
      refine q_ine (tgt := 19) hx hb dX5_expected_12 (by decide) (by first | omega | exact Nat.lt_of_le_of_lt (hw3 _) (by decide)) (fun c_12 => absurd c_12 (by decide)) (fun c_12 => ?_)
      refine lv_ldc2 (v := -2) hx hb hC.2.2.2.1 (hC.2.2.2.2 _ gw_269) dX5_expected_15 ?_
      exact q_lret2 hC hW hr hlk0 (PR_l (a' := (-2, ((w, K, ro), hc, hi, sv, pn, ch))) (by simp only [aExp, rng_nI hk_1 (by decide), hk_9]) ⟨rfl, PA_0 hI0⟩) dX5_expected_18
  ·
    refine q_ieq (tgt := 15) hx hb dX5_expected_4 (by decide) (by first | omega | exact Nat.lt_of_le_of_lt (hw3 _) (by decide)) (fun c_4 => ?_) (fun c_4 => absurd c_4 (by decide))
    refine lv_ldc2 (v := -2) hx hb hC.2.2.2.1 (hC.2.2.2.2 _ gw_269) dX5_expected_15 ?_
    exact q_lret2 hC hW hr hlk0 (PR_l (a' := (-2, ((w, K, ro), hc, hi, sv, pn, ch))) (by simp only [aExp, hk_1]) ⟨rfl, PA_0 hI0⟩) dX5_expected_18
