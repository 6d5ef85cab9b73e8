

set_option maxRecDepth 100000 in
set_option maxHeartbeats 4000000 in
theorem k_train (l : Launch) (G : Gx) (n : Nat) (ad : Nat → Nat) (sz : Nat) (I : Ic) (L : Lc) (R : Rc)  (w : Nat → Nat) (K : Nat) (ro : Nat → Nat) (hc : Nat) (hi : Nat → CM) (sv : Nat → Option CM) (pn : Nat) (ch : Nat → Nat) (hI0 : InvA n I L R ((w, K, ro), hc, hi, sv, pn, ch)) : Met l yX5_train (Cond.code yX5_train cX5_train 1 (some .int) :: GW) ({ frames := 6, cells := 0, slots := 0, locals := 216 } : Room) (qPre G n ad sz I L R [.ref (ad 0)]) (qI2 G (qA n ad sz) (fun z u => PR n ad I L R (aTrain ((w, K, ro), hc, hi, sv, pn, ch)) z u)) 0 0 (qA n ad sz) := by
  refine q_met (by decide) (Nat.le_of_ble_eq_true rfl) ?_
  intro p_ e_ s m_ below meth c_ hC hr hlk0 hin hsz hW ls hl
  subst hsz
  have hC : CallFix p_ m_ c_ cX5_train 1 s ([.ref (ad 0)] : List Value).toArray GW "CoinRows" := hC
  have hx := hC.1
  have hb := hC.2.1
  have hn : 71 ≤ n := hI0.1
  have hlk : LkOK n R := hI0.2.1
  have hM : MdI I w K ro := hI0.2.2.1
  have hSI : SI L := hI0.2.2.2.1
  have hPd : PadI I pn ch := hI0.2.2.2.2.1
  have hHi : HiA I R hc hi := hI0.2.2.2.2.2.1
  have hSv : SvA n I R sv := hI0.2.2.2.2.2.2
  have hh1 := hHi.1
  have hh6 := hHi.2.1
  have hp80 := hPd.2.1
  have hk6 : K ≤ 6 := hM.2.2.2.1
  have hw3 : ∀ i, w i ≤ 3 := hM.2.2.2.2.1.1
  have hr4 : ∀ j, ro j < 4 := hM.2.2.2.2.2
  have hT63 : Sx' w K ro K 6 < 2 ^ 63 := Nat.lt_of_le_of_lt (Sx_b hM.2.2.2.2.1 K K 6 hk6) (by decide)
  have hC31 : Cx' w K ro K 6 < 2 ^ 31 := Nat.lt_of_le_of_lt (Cx_b hM.2.2.2.2.1 K K 6 hk6) (by decide)
  have hCT : (nI (Cx' w K ro K 6)).toInt = (Cx' w K ro K 6 : Int) := nI_toInt hC31
  have hw := hM.2.2.2.2.1
  have hl : lv_has ls 1 [(0, .ref (ad 0))] := hl
  refine lv_aload_n hx hb dX5_train_0 rfl (lv_at hl 0 rfl) ?_
  refine g_5_0 (x := 0) (y := 1) hC hW (by omega) kd_0 gw_124 (hlk 0 0 1 (by omega) rfl) dX5_train_1 ?_
  refine g_0_2 (x := 1) hC hW (by omega) kd_1 gw_31 dX5_train_4 ?_
  refine q_top (v2 := .int (nI (K))) (congrArg _ hM.2.1) ?_
  refine q_ine (tgt := 13) hx hb dX5_train_7 (by decide) (by first | omega | exact Nat.lt_of_le_of_lt (hw3 _) (by decide)) (fun c_7 => ?_) (fun c_7 => ?_)
  ·
    refine lv_aload_n hx hb dX5_train_13 rfl (lv_at hl 0 rfl) ?_
    refine g_5_5 (x := 0) (y := 8) hC hW (by omega) kd_0 gw_129 (hlk 0 5 8 (by omega) rfl) dX5_train_14 ?_
    refine lv_aload_n hx hb dX5_train_17 rfl (lv_at hl 0 rfl) ?_
    refine g_5_0 (x := 0) (y := 1) hC hW (by omega) kd_0 gw_124 (hlk 0 0 1 (by omega) rfl) dX5_train_18 ?_
    refine q_kV1 (q_rV (As := [.ref (ad 1)]) (rest := []) (x := 8) hC hW mw_X2_measure gw_202 (k_measure l G n ad s.heap.size I L R w K ro hn hlk hM hSI) (by omega) (ct_o2 kd_8) rfl ⟨rfl, rfl⟩ ⟨Nat.le_of_ble_eq_true rfl, Nat.le_of_ble_eq_true rfl⟩ ⟨(Nat.le_of_ble_eq_true rfl), (Nat.le_of_ble_eq_true rfl)⟩ hl.1 rfl rfl (Nat.le_of_ble_eq_true rfl) dX5_train_21) hW (fun I_21 L_21 H locs hp hW => ?_)
    obtain ⟨hMs_21, hLf_21, hIf_21⟩ := hp
    have hM_21 : MdI I_21 w K ro := MdI_fr hM hIf_21
    refine lv_aload_n hx hb dX5_train_24 rfl (lv_at hl 0 rfl) ?_
    refine g_5_5 (x := 0) (y := 8) hC hW (by omega) kd_0 gw_129 (hlk 0 5 8 (by omega) rfl) dX5_train_25 ?_
    refine q_kL0 (q_rV (As := []) (rest := []) (x := 8) hC hW mw_X2_whole gw_247 (k_whole l G n ad H.size I_21 L_21 R w K ro hn hlk hM_21 hMs_21) (by omega) (ct_o2 kd_8) rfl ⟨rfl, rfl⟩ ⟨Nat.le_of_ble_eq_true rfl, Nat.le_of_ble_eq_true rfl⟩ ⟨(Nat.le_of_ble_eq_true rfl), (Nat.le_of_ble_eq_true rfl)⟩ hl.1 rfl rfl (Nat.le_of_ble_eq_true rfl) dX5_train_28) hW (fun r_28 H locs hp hW => ?_)
    subst hp
    refine q_lc 0 hx hb dX5_train_31 (by decide) ?_
    refine q_lcmp hx hb dX5_train_32 ?_
    refine q_lne (tgt := 39) hx hb dX5_train_33 (by decide) hT63 (by decide) (fun c_33 => ?_) (fun c_33 => ?_)
    ·
      have hI21 : InvA n I_21 L_21 R ((w, K, ro), hc, hi, sv, pn, ch) := (PA_q (ad := ad) hI0 (fun a ha => hIf_21 a (by omega)) hMs_21.2.2.2 (fun a ha => hLf_21 a (by omega))).1
      refine lv_aload_n hx hb dX5_train_39 rfl (lv_at hl 0 rfl) ?_
      refine q_kV2 (q_rV (As := []) (rest := []) (x := 0) hC hW mw_X5_remember gw_377 (k_remember l G n ad H.size I_21 L_21 R w K ro hc hi sv hn hlk hM_21 hI21.2.2.2.2.2.1 hI21.2.2.2.2.2.2) (by omega) (ct_o5 kd_0) rfl ⟨rfl, rfl⟩ ⟨Nat.le_of_ble_eq_true rfl, Nat.le_of_ble_eq_true rfl⟩ ⟨(Nat.le_of_ble_eq_true rfl), (Nat.le_of_ble_eq_true rfl)⟩ hl.1 rfl rfl (Nat.le_of_ble_eq_true rfl) dX5_train_40) hW (fun n_40 ad_40 I_40 L_40 R_40 H locs hp hW => ?_)
      have hp : RemP n ad I_21 L_21 hc hi sv R (w, K, ro) n_40 ad_40 I_40 L_40 R_40 := hp
      obtain ⟨rfl, rfl, rfl, hlk_40, hHi_40, hSv_40, hf_40, hRf_40⟩ := hp
      have hM_40 : MdI I_40 w K ro := MdA_fr (m := (w, K, ro)) (x := 1) hM_21 (hf_40 1 (by decide) (by decide)) (hf_40 2 (by decide) (by decide)) (hf_40 3 (by decide) (by decide))
      have hMs_40 : Meas w ro K I_40 L_21 := Meas_f2 hMs_21 hk6 (fun a h1 h2 => hf_40 a (by omega) (by omega))
      refine lv_aload_n hx hb dX5_train_43 rfl (lv_at hl 0 rfl) ?_
      refine g_5_7 (x := 0) (y := 51) hC hW (by omega) kd_0 gw_131 (hlk_40 0 7 51 (by omega) rfl) dX5_train_44 ?_
      refine lv_aload_n hx hb dX5_train_47 rfl (lv_at hl 0 rfl) ?_
      refine g_5_0 (x := 0) (y := 1) hC hW (by omega) kd_0 gw_124 (hlk_40 0 0 1 (by omega) rfl) dX5_train_48 ?_
      refine lv_aload_n hx hb dX5_train_51 rfl (lv_at hl 0 rfl) ?_
      refine g_5_5 (x := 0) (y := 8) hC hW (by omega) kd_0 gw_129 (hlk_40 0 5 8 (by omega) rfl) dX5_train_52 ?_
      refine q_kI1 (q_rV (As := [.ref (ad 1), .ref (ad 8)]) (rest := []) (x := 51) hC hW mw_X3_improve gw_410 (k_improve l G n ad H.size I_40 L_21 R_40 w K ro hn hlk_40 hM_40 hMs_40 (exN_BB hw hk6)) (by omega) (ct_o3 kd_51) rfl ⟨rfl, rfl⟩ ⟨Nat.le_of_ble_eq_true rfl, Nat.le_of_ble_eq_true rfl⟩ ⟨(Nat.le_of_ble_eq_true rfl), (Nat.le_of_ble_eq_true rfl)⟩ hl.1 rfl rfl (Nat.le_of_ble_eq_true rfl) dX5_train_55) hW (fun r_55 I_55 L_55 H locs hp hW => ?_)
      obtain ⟨rfl, rfl, hLi⟩ := hp
      exact q_iret2 hC hW hr hlk0 (PR_i (a' := (nI (cntF w (tnew (exN w ro K) w) 0 58), ((mixA w (tnew (exN w ro K) w) 0 58, K, ro), hcN hc, hiN hc hi (w, K, ro), sv, pn, ch))) (by simp only [aTrain, if_neg (show ¬ (K = 0 ∨ aTot (w, K, ro) = 0) from fun h => h.elim c_7 c_33), remS]) ⟨rfl, PA_tr (InvA_rem (m := (mixA w (tnew (exN w ro K) w) 0 58, K, ro)) (I := I_21) (L := L_21) hI21 hlk_40 hHi_40 hSv_40 hRf_40 hf_40 (MdI_wI hM_40 (train_ok hw K)) (fun a ha => wI_ne (by omega)) (SI_lo hMs_21.2.2.2 (fun a ha => hLi a (by omega))) (PadI_lo hPd ((wI_ne (by decide)).trans ((hf_40 6 (by decide) (by decide)).trans (hIf_21 6 (by decide)))) ((wI_ne (by decide)).trans ((hf_40 7 (by decide) (by decide)).trans (hIf_21 7 (by decide))))) (fun a ha => hLi a (by omega))) (fun a h1 => ⟨hIf_21 a (by omega), hLf_21 a (by omega), rfl⟩)⟩) dX5_train_58
    ·
      refine lv_bipush (v := -5) hx hb dX5_train_36 (by decide) ?_
      exact q_iret2 hC hW hr hlk0 (PR_i (a' := (-5, ((w, K, ro), hc, hi, sv, pn, ch))) (by simp only [aTrain, if_pos (show K = 0 ∨ aTot (w, K, ro) = 0 from Or.inr c_33)]) ⟨rfl, PA_q hI0 (fun a ha => hIf_21 a (by omega)) hMs_21.2.2.2 (fun a ha => hLf_21 a (by omega))⟩) dX5_train_38
  ·
    refine lv_bipush (v := -5) hx hb dX5_train_10 (by decide) ?_
    exact q_iret2 hC hW hr hlk0 (PR_i (a' := (-5, ((w, K, ro), hc, hi, sv, pn, ch))) (by simp only [aTrain, if_pos (show K = 0 ∨ aTot (w, K, ro) = 0 from Or.inl c_7)]) ⟨rfl, PA_0 hI0⟩) dX5_train_12
