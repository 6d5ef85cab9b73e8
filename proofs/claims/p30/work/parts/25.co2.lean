def PR (n : Nat) (ad : Nat → Nat) (I : Ic) (L : Lc) (R : Rc) (ans : Int32 × ST) (z : Int32) (u : Sx) : Prop := z = ans.1 ∧ PA n ad I L R ans.2 u
def PRl (n : Nat) (ad : Nat → Nat) (I : Ic) (L : Lc) (R : Rc) (ans : Int64 × ST) (z : Int64) (u : Sx) : Prop := z = ans.1 ∧ PA n ad I L R ans.2 u
theorem PR_i {n : Nat} {ad : Nat → Nat} {I : Ic} {L : Lc} {R : Rc} {ans a' : Int32 × ST} {z : Int32} {u : Sx} (h : ans = a') (h2 : z = a'.1 ∧ PA n ad I L R a'.2 u) : PR n ad I L R ans z u := by rw [h]; exact h2
theorem PR_l {n : Nat} {ad : Nat → Nat} {I : Ic} {L : Lc} {R : Rc} {ans a' : Int64 × ST} {z : Int64} {u : Sx} (h : ans = a') (h2 : z = a'.1 ∧ PA n ad I L R a'.2 u) : PRl n ad I L R ans z u := by rw [h]; exact h2

set_option maxRecDepth 100000 in
set_option maxHeartbeats 4000000 in
theorem k_give (l : Launch) (G : Gx) (n : Nat) (ad : Nat → Nat) (sz : Nat) (I : Ic) (L : Lc) (R : Rc) (kind coin to weight : Int32) (w : Nat → Nat) (K : Nat) (ro : Nat → Nat) (hc : Nat) (hi : Nat → CM) (sv : Nat → Option CM) (pn : Nat) (ch : Nat → Nat) (hI0 : InvA n I L R ((w, K, ro), hc, hi, sv, pn, ch)) : Met l yX5_give (Cond.code yX5_give cX5_give 7 (some .int) :: GW) ({ frames := 6, cells := 0, slots := 0, locals := 216 } : Room) (qPre G n ad sz I L R [.ref (ad 0), .int (kind), .int (coin), .int (to), .int (weight)]) (qI2 G (qA n ad sz) (fun z u => PR n ad I L R (aGive ((w, K, ro), hc, hi, sv, pn, ch) kind coin to weight) z u)) 0 0 (qA n ad sz) := by
  refine q_met (by decide) (Nat.le_of_ble_eq_true rfl) ?_
  intro p_ e_ s m_ below meth c_ hC hr hlk0 hin hsz hW ls hl
  subst hsz
  have hC : CallFix p_ m_ c_ cX5_give 7 s ([.ref (ad 0), .int (kind), .int (coin), .int (to), .int (weight)] : List Value).toArray GW "CoinRows" := hC
  have hx := hC.1
  have hb := hC.2.1
  have hn : 71 ≤ n := hI0.1
  have hlk : LkOK n R := hI0.2.1
  have hM : MdI I w K ro := hI0.2.2.1
  have hSI : SI L := hI0.2.2.2.1
  have hPd : PadI I pn ch := hI0.2.2.2.2.1
  have hHi : HiA I R hc hi := hI0.2.2.2.2.2.1
  have hSv : SvA n I R sv := hI0.2.2.2.2.2.2
  have hh1 := hHi.1
  have hh6 := hHi.2.1
  have hp80 := hPd.2.1
  have hk6 : K ≤ 6 := hM.2.2.2.1
  have hw3 : ∀ i, w i ≤ 3 := hM.2.2.2.2.1.1
  have hr4 : ∀ j, ro j < 4 := hM.2.2.2.2.2
  have hl : lv_has ls 7 [(0, .ref (ad 0)), (1, .int (kind)), (2, .int (coin)), (3, .int (to)), (4, .int (weight))] := hl
  refine lv_iload_n hx hb dX5_give_0 rfl (lv_at hl 1 rfl) ?_
  refine q_kI0 (q_rS (As := [.int (kind)]) (rest := []) hC hW mw_X5_isKind gw_160 (k_isKind l G n ad s.heap.size I L R _) ⟨rfl, rfl⟩ ⟨Nat.le_of_ble_eq_true rfl, Nat.le_of_ble_eq_true rfl⟩ ⟨(Nat.le_of_ble_eq_true rfl), (Nat.le_of_ble_eq_true rfl)⟩ hl.1 rfl rfl (Nat.le_of_ble_eq_true rfl) dX5_give_1) hW (fun r_1 H locs hp hW => ?_)
  rcases hp with ⟨k_1, hk_1, rfl, rfl⟩ | ⟨hk_1, rfl⟩
  ·
    refine q_ieq (tgt := 18) hx hb dX5_give_4 (by decide) (by first | omega | exact Nat.lt_of_le_of_lt (hw3 _) (by decide)) (fun c_4 => absurd c_4 (by decide)) (fun c_4 => ?_)
    refine lv_iload hx hb dX5_give_7 (lv_at hl 4 rfl) ?_
    refine lv_if_lt (tgt := 18) hx hb dX5_give_9 (by decide) (fun c_9 => ?_) (fun c_9 => ?_)
    ·
      have hv_ : rng weight 4 = none := rng_none.mpr (by simp only [Int32.lt_iff_toInt_lt, Int32.le_iff_toInt_le, ← Int32.toInt_inj, nT0, nT1, nT2, nT3, nT4, nT5, nT6, nT7, nT8, nT9, nT10, nT33, nT36, nT42, nT58, nT80, nT126, nT255, i_m1, i_m2, Int32.toInt_zero, Int32.toInt_one] at c_9; omega)
      refine lv_bipush (v := -2) hx hb dX5_give_18 (by decide) ?_
      exact q_iret2 hC hW hr hlk0 (PR_i (a' := (-2, ((w, K, ro), hc, hi, sv, pn, ch))) (by simp only [aGive, rng_nI hk_1 (by decide), hv_]) ⟨rfl, PA_0 hI0⟩) dX5_give_20
    ·
      refine lv_iload hx hb dX5_give_12 (lv_at hl 4 rfl) ?_
      refine q_ic 3 hx hb dX5_give_14 (by decide) ?_
      refine lv_icmp_le (tgt := 21) hx hb dX5_give_15 (by decide) (fun c_15 => ?_) (fun c_15 => ?_)
      ·
        obtain ⟨u_, hu_, rfl⟩ := rng_ex (N := 4) (x := weight) (by decide) (by simp only [Int32.lt_iff_toInt_lt, Int32.le_iff_toInt_le, ← Int32.toInt_inj, nT0, nT1, nT2, nT3, nT4, nT5, nT6, nT7, nT8, nT9, nT10, nT33, nT36, nT42, nT58, nT80, nT126, nT255, i_m1, i_m2, Int32.toInt_zero, Int32.toInt_one] at c_9 c_15; omega) (by simp only [Int32.lt_iff_toInt_lt, Int32.le_iff_toInt_le, ← Int32.toInt_inj, nT0, nT1, nT2, nT3, nT4, nT5, nT6, nT7, nT8, nT9, nT10, nT33, nT36, nT42, nT58, nT80, nT126, nT255, i_m1, i_m2, Int32.toInt_zero, Int32.toInt_one] at c_9 c_15; omega)
        refine lv_iload_n hx hb dX5_give_21 rfl (lv_at hl 1 rfl) ?_
        refine lv_iload_n hx hb dX5_give_22 rfl (lv_at hl 2 rfl) ?_
        refine lv_iload_n hx hb dX5_give_23 rfl (lv_at hl 3 rfl) ?_
        refine q_kI0 (q_rS (As := [.int (nI (k_1)), .int (coin), .int (to)]) (rest := []) hC hW mw_X5_indexOf gw_163 (k_indexOf l G n ad H.size I L R _ (by omega) _ _) ⟨rfl, rfl⟩ ⟨Nat.le_of_ble_eq_true rfl, Nat.le_of_ble_eq_true rfl⟩ ⟨(Nat.le_of_ble_eq_true rfl), (Nat.le_of_ble_eq_true rfl)⟩ hl.1 rfl rfl (Nat.le_of_ble_eq_true rfl) dX5_give_24) hW (fun r_24 H locs hp hW => ?_)
        rcases hp with ⟨i_24, hi_24, hj_24, rfl⟩ | ⟨hi_24, rfl⟩
        ·
          refine lv_istore (lv' := [(5, .int (nI (i_24))), (0, .ref (ad 0)), (1, .int (nI (k_1))), (2, .int (coin)), (3, .int (to)), (4, .int (nI (u_)))]) hx hb dX5_give_27 hl (by decide) rfl (fun ls hl => ?_)
          refine lv_iload hx hb dX5_give_29 (lv_at hl 0 rfl) ?_
          refine lv_if_ge (tgt := 36) hx hb dX5_give_31 (by decide) (fun c_31 => ?_) (fun c_31 => absurd (Int32.not_lt.mp (nI_pos (by omega))) c_31)
          refine lv_iload hx hb dX5_give_36 (lv_at hl 5 rfl) ?_
          refine q_ile (tgt := 57) hx hb dX5_give_38 (by decide) (by first | omega | exact Nat.lt_of_le_of_lt (hw3 _) (by decide)) (fun c_38 => ?_) (fun c_38 => ?_)
          ·
            have hbr : ¬ (0 < u_ ∧ (i_24 = 28 ∨ i_24 = 34 ∨ i_24 = 35)) := by omega
            refine lv_aload_n hx hb dX5_give_57 rfl (lv_at hl 1 rfl) ?_
            refine q_kV2 (q_rV (As := []) (rest := []) (x := 0) hC hW mw_X5_remember gw_377 (k_remember l G n ad H.size I L R w K ro hc hi sv hn hlk hM hHi hSv) (by omega) (ct_o5 kd_0) rfl ⟨rfl, rfl⟩ ⟨Nat.le_of_ble_eq_true rfl, Nat.le_of_ble_eq_true rfl⟩ ⟨(Nat.le_of_ble_eq_true rfl), (Nat.le_of_ble_eq_true rfl)⟩ hl.1 rfl rfl (Nat.le_of_ble_eq_true rfl) dX5_give_58) hW (fun n_58 ad_58 I_58 L_58 R_58 H locs hp hW => ?_)
            have hp : RemP n ad I L hc hi sv R (w, K, ro) n_58 ad_58 I_58 L_58 R_58 := hp
            obtain ⟨rfl, rfl, rfl, hlk_58, hHi_58, hSv_58, hf_58, hRf_58⟩ := hp
            have hM_58 : MdI I_58 w K ro := MdA_fr (m := (w, K, ro)) (x := 1) hM (hf_58 1 (by decide) (by decide)) (hf_58 2 (by decide) (by decide)) (hf_58 3 (by decide) (by decide))
            refine lv_aload_n hx hb dX5_give_61 rfl (lv_at hl 1 rfl) ?_
            refine g_5_0 (x := 0) (y := 1) hC hW (by omega) kd_0 gw_124 (hlk_58 0 0 1 (by omega) rfl) dX5_give_62 ?_
            refine g_0_0 (x := 1) (y := 2) hC hW (by omega) kd_1 gw_24 (hlk_58 1 0 2 (by omega) rfl) dX5_give_65 ?_
            refine lv_iload hx hb dX5_give_68 (lv_at hl 0 rfl) ?_
            refine q_iald (x := 2) (i := i_24) hC hW (by omega) kd_2 (by omega) dX5_give_70 ?_
            refine q_top (v2 := .int (nI (w (i_24)))) (congrArg _ (hM_58.1 _ (by omega))) ?_
            refine lv_istore (lv' := [(6, .int (nI (w (i_24)))), (5, .int (nI (i_24))), (0, .ref (ad 0)), (1, .int (nI (k_1))), (2, .int (coin)), (3, .int (to)), (4, .int (nI (u_)))]) hx hb dX5_give_71 hl (by decide) rfl (fun ls hl => ?_)
            refine lv_aload_n hx hb dX5_give_73 rfl (lv_at hl 2 rfl) ?_
            refine g_5_0 (x := 0) (y := 1) hC hW (by omega) kd_0 gw_124 (hlk_58 0 0 1 (by omega) rfl) dX5_give_74 ?_
            refine g_0_0 (x := 1) (y := 2) hC hW (by omega) kd_1 gw_24 (hlk_58 1 0 2 (by omega) rfl) dX5_give_77 ?_
            refine lv_iload hx hb dX5_give_80 (lv_at hl 1 rfl) ?_
            refine lv_iload hx hb dX5_give_82 (lv_at hl 6 rfl) ?_
            refine q_iast (x := 2) (i := i_24) (v := nI u_) hC hW (by omega) kd_2 (by omega) dX5_give_84 (fun H locs hW => ?_)
            refine lv_iload hx hb dX5_give_85 (lv_at hl 0 rfl) ?_
            exact q_iret2 hC hW hr hlk0 (PR_i (a' := (nI (w i_24), ((upN w i_24 u_, K, ro), hcN hc, hiN hc hi (w, K, ro), sv, pn, ch))) (by simp only [aGive, rng_nI hk_1 (by decide), rng_nI hu_ (by decide), hi_24, if_neg hbr, remS]) ⟨rfl, InvA_rem hI0 hlk_58 hHi_58 hSv_58 hRf_58 hf_58 (MdI_w2 hM_58 hj_24 (Wok_u2 hM.2.2.2.2.1 (by omega) hbr)) (fun a ha => up2_ne (by omega)) hSI (PadI_lo hPd ((up2_ne (by decide)).trans (hf_58 6 (by decide) (by decide))) ((up2_ne (by decide)).trans (hf_58 7 (by decide) (by decide)))) (fun _ _ => rfl)⟩) dX5_give_87
          ·
            refine lv_iload_n hx hb dX5_give_41 rfl (lv_at hl 2 rfl) ?_
            refine q_ic 1 hx hb dX5_give_42 (by decide) ?_
            refine q_cne (tgt := 57) hx hb dX5_give_43 (by decide) (by first | omega | exact Nat.lt_of_le_of_lt (hw3 _) (by decide)) (by first | omega | exact Nat.lt_of_le_of_lt (hw3 _) (by decide)) (fun c_43 => ?_) (fun c_43 => ?_)
            ·
              have hbr : ¬ (0 < u_ ∧ (i_24 = 28 ∨ i_24 = 34 ∨ i_24 = 35)) := bar_n hi_24 hk_1 c_43
              refine lv_aload_n hx hb dX5_give_57 rfl (lv_at hl 1 rfl) ?_
              refine q_kV2 (q_rV (As := []) (rest := []) (x := 0) hC hW mw_X5_remember gw_377 (k_remember l G n ad H.size I L R w K ro hc hi sv hn hlk hM hHi hSv) (by omega) (ct_o5 kd_0) rfl ⟨rfl, rfl⟩ ⟨Nat.le_of_ble_eq_true rfl, Nat.le_of_ble_eq_true rfl⟩ ⟨(Nat.le_of_ble_eq_true rfl), (Nat.le_of_ble_eq_true rfl)⟩ hl.1 rfl rfl (Nat.le_of_ble_eq_true rfl) dX5_give_58) hW (fun n_58 ad_58 I_58 L_58 R_58 H locs hp hW => ?_)
              have hp : RemP n ad I L hc hi sv R (w, K, ro) n_58 ad_58 I_58 L_58 R_58 := hp
              obtain ⟨rfl, rfl, rfl, hlk_58, hHi_58, hSv_58, hf_58, hRf_58⟩ := hp
              have hM_58 : MdI I_58 w K ro := MdA_fr (m := (w, K, ro)) (x := 1) hM (hf_58 1 (by decide) (by decide)) (hf_58 2 (by decide) (by decide)) (hf_58 3 (by decide) (by decide))
              refine lv_aload_n hx hb dX5_give_61 rfl (lv_at hl 1 rfl) ?_
              refine g_5_0 (x := 0) (y := 1) hC hW (by omega) kd_0 gw_124 (hlk_58 0 0 1 (by omega) rfl) dX5_give_62 ?_
              refine g_0_0 (x := 1) (y := 2) hC hW (by omega) kd_1 gw_24 (hlk_58 1 0 2 (by omega) rfl) dX5_give_65 ?_
              refine lv_iload hx hb dX5_give_68 (lv_at hl 0 rfl) ?_
              refine q_iald (x := 2) (i := i_24) hC hW (by omega) kd_2 (by omega) dX5_give_70 ?_
              refine q_top (v2 := .int (nI (w (i_24)))) (congrArg _ (hM_58.1 _ (by omega))) ?_
              refine lv_istore (lv' := [(6, .int (nI (w (i_24)))), (5, .int (nI (i_24))), (0, .ref (ad 0)), (1, .int (nI (k_1))), (2, .int (coin)), (3, .int (to)), (4, .int (nI (u_)))]) hx hb dX5_give_71 hl (by decide) rfl (fun ls hl => ?_)
              refine lv_aload_n hx hb dX5_give_73 rfl (lv_at hl 2 rfl) ?_
              refine g_5_0 (x := 0) (y := 1) hC hW (by omega) kd_0 gw_124 (hlk_58 0 0 1 (by omega) rfl) dX5_give_74 ?_
              refine g_0_0 (x := 1) (y := 2) hC hW (by omega) kd_1 gw_24 (hlk_58 1 0 2 (by omega) rfl) dX5_give_77 ?_
              refine lv_iload hx hb dX5_give_80 (lv_at hl 1 rfl) ?_
              refine lv_iload hx hb dX5_give_82 (lv_at hl 6 rfl) ?_
              refine q_iast (x := 2) (i := i_24) (v := nI u_) hC hW (by omega) kd_2 (by omega) dX5_give_84 (fun H locs hW => ?_)
              refine lv_iload hx hb dX5_give_85 (lv_at hl 0 rfl) ?_
              exact q_iret2 hC hW hr hlk0 (PR_i (a' := (nI (w i_24), ((upN w i_24 u_, K, ro), hcN hc, hiN hc hi (w, K, ro), sv, pn, ch))) (by simp only [aGive, rng_nI hk_1 (by decide), rng_nI hu_ (by decide), hi_24, if_neg hbr, remS]) ⟨rfl, InvA_rem hI0 hlk_58 hHi_58 hSv_58 hRf_58 hf_58 (MdI_w2 hM_58 hj_24 (Wok_u2 hM.2.2.2.2.1 (by omega) hbr)) (fun a ha => up2_ne (by omega)) hSI (PadI_lo hPd ((up2_ne (by decide)).trans (hf_58 6 (by decide) (by decide))) ((up2_ne (by decide)).trans (hf_58 7 (by decide) (by decide)))) (fun _ _ => rfl)⟩) dX5_give_87
            ·
              obtain ⟨a_, b_, ha_, hb_, rfl, rfl, he5⟩ := idx_b hi_24 c_43
              refine lv_iload_n hx hb dX5_give_46 rfl (lv_at hl 3 rfl) ?_
              refine lv_iload_n hx hb dX5_give_47 rfl (lv_at hl 4 rfl) ?_
              refine q_kI0 (q_rS (As := [.int (nI (a_)), .int (nI (b_))]) (rest := []) hC hW mw_X5_isBarred gw_374 (k_isBarred l G n ad H.size I L R _ _ (by omega) (by omega)) ⟨rfl, rfl⟩ ⟨Nat.le_of_ble_eq_true rfl, Nat.le_of_ble_eq_true rfl⟩ ⟨(Nat.le_of_ble_eq_true rfl), (Nat.le_of_ble_eq_true rfl)⟩ hl.1 rfl rfl (Nat.le_of_ble_eq_true rfl) dX5_give_48) hW (fun r_48 H locs hp hW => ?_)
              rcases hp with ⟨hb_48, rfl⟩ | ⟨hb_48, rfl⟩
              ·
                have hbr : 0 < u_ ∧ (i_24 = 28 ∨ i_24 = 34 ∨ i_24 = 35) := by have h9 := (bar_i ha_ hb_).mp hb_48; omega
                refine q_ieq (tgt := 57) hx hb dX5_give_51 (by decide) (by first | omega | exact Nat.lt_of_le_of_lt (hw3 _) (by decide)) (fun c_51 => absurd c_51 (by decide)) (fun c_51 => ?_)
                refine lv_bipush (v := -5) hx hb dX5_give_54 (by decide) ?_
                exact q_iret2 hC hW hr hlk0 (PR_i (a' := (-5, ((w, K, ro), hc, hi, sv, pn, ch))) (by simp only [aGive, rng_nI hk_1 (by decide), rng_nI hu_ (by decide), hi_24, if_pos hbr]) ⟨rfl, PA_0 hI0⟩) dX5_give_56
              ·
                have hbr : ¬ (0 < u_ ∧ (i_24 = 28 ∨ i_24 = 34 ∨ i_24 = 35)) := by have h9 := (not_congr (bar_i ha_ hb_)).mp hb_48; omega
                refine q_ieq (tgt := 57) hx hb dX5_give_51 (by decide) (by first | omega | exact Nat.lt_of_le_of_lt (hw3 _) (by decide)) (fun c_51 => ?_) (fun c_51 => absurd c_51 (by decide))
                refine lv_aload_n hx hb dX5_give_57 rfl (lv_at hl 1 rfl) ?_
                refine q_kV2 (q_rV (As := []) (rest := []) (x := 0) hC hW mw_X5_remember gw_377 (k_remember l G n ad H.size I L R w K ro hc hi sv hn hlk hM hHi hSv) (by omega) (ct_o5 kd_0) rfl ⟨rfl, rfl⟩ ⟨Nat.le_of_ble_eq_true rfl, Nat.le_of_ble_eq_true rfl⟩ ⟨(Nat.le_of_ble_eq_true rfl), (Nat.le_of_ble_eq_true rfl)⟩ hl.1 rfl rfl (Nat.le_of_ble_eq_true rfl) dX5_give_58) hW (fun n_58 ad_58 I_58 L_58 R_58 H locs hp hW => ?_)
                have hp : RemP n ad I L hc hi sv R (w, K, ro) n_58 ad_58 I_58 L_58 R_58 := hp
                obtain ⟨rfl, rfl, rfl, hlk_58, hHi_58, hSv_58, hf_58, hRf_58⟩ := hp
                have hM_58 : MdI I_58 w K ro := MdA_fr (m := (w, K, ro)) (x := 1) hM (hf_58 1 (by decide) (by decide)) (hf_58 2 (by decide) (by decide)) (hf_58 3 (by decide) (by decide))
                refine lv_aload_n hx hb dX5_give_61 rfl (lv_at hl 1 rfl) ?_
                refine g_5_0 (x := 0) (y := 1) hC hW (by omega) kd_0 gw_124 (hlk_58 0 0 1 (by omega) rfl) dX5_give_62 ?_
                refine g_0_0 (x := 1) (y := 2) hC hW (by omega) kd_1 gw_24 (hlk_58 1 0 2 (by omega) rfl) dX5_give_65 ?_
                refine lv_iload hx hb dX5_give_68 (lv_at hl 0 rfl) ?_
                refine q_iald (x := 2) (i := i_24) hC hW (by omega) kd_2 (by omega) dX5_give_70 ?_
                refine q_top (v2 := .int (nI (w (i_24)))) (congrArg _ (hM_58.1 _ (by omega))) ?_
                refine lv_istore (lv' := [(6, .int (nI (w (i_24)))), (5, .int (nI (i_24))), (0, .ref (ad 0)), (1, .int (nI (k_1))), (2, .int (nI (a_))), (3, .int (nI (b_))), (4, .int (nI (u_)))]) hx hb dX5_give_71 hl (by decide) rfl (fun ls hl => ?_)
                refine lv_aload_n hx hb dX5_give_73 rfl (lv_at hl 2 rfl) ?_
                refine g_5_0 (x := 0) (y := 1) hC hW (by omega) kd_0 gw_124 (hlk_58 0 0 1 (by omega) rfl) dX5_give_74 ?_
                refine g_0_0 (x := 1) (y := 2) hC hW (by omega) kd_1 gw_24 (hlk_58 1 0 2 (by omega) rfl) dX5_give_77 ?_
                refine lv_iload hx hb dX5_give_80 (lv_at hl 1 rfl) ?_
                refine lv_iload hx hb dX5_give_82 (lv_at hl 6 rfl) ?_
                refine q_iast (x := 2) (i := i_24) (v := nI u_) hC hW (by omega) kd_2 (by omega) dX5_give_84 (fun H locs hW => ?_)
                refine lv_iload hx hb dX5_give_85 (lv_at hl 0 rfl) ?_
                exact q_iret2 hC hW hr hlk0 (PR_i (a' := (nI (w i_24), ((upN w i_24 u_, K, ro), hcN hc, hiN hc hi (w, K, ro), sv, pn, ch))) (by simp only [aGive, rng_nI hk_1 (by decide), rng_nI hu_ (by decide), hi_24, if_neg hbr, remS]) ⟨rfl, InvA_rem hI0 hlk_58 hHi_58 hSv_58 hRf_58 hf_58 (MdI_w2 hM_58 hj_24 (Wok_u2 hM.2.2.2.2.1 (by omega) hbr)) (fun a ha => up2_ne (by omega)) hSI (PadI_lo hPd ((up2_ne (by decide)).trans (hf_58 6 (by decide) (by decide))) ((up2_ne (by decide)).trans (hf_58 7 (by decide) (by decide)))) (fun _ _ => rfl)⟩) dX5_give_87
        ·
          refine lv_istore (lv' := [(5, .int (-1)), (0, .ref (ad 0)), (1, .int (nI (k_1))), (2, .int (coin)), (3, .int (to)), (4, .int (nI (u_)))]) hx hb dX5_give_27 hl (by decide) rfl (fun ls hl => ?_)
          refine lv_iload hx hb dX5_give_29 (lv_at hl 0 rfl) ?_
          refine lv_if_ge (tgt := 36) hx hb dX5_give_31 (by decide) (fun c_31 => absurd c_31 (by decide)) (fun c_31 => ?_)
          refine lv_iconst (v := -1) hx hb dX5_give_34 (by decide) ?_
          exact q_iret2 hC hW hr hlk0 (PR_i (a' := (-1, ((w, K, ro), hc, hi, sv, pn, ch))) (by simp only [aGive, rng_nI hk_1 (by decide), rng_nI hu_ (by decide), hi_24]) ⟨rfl, PA_0 hI0⟩) dX5_give_35
      ·
        have hv_ : rng weight 4 = none := rng_none.mpr (by simp only [Int32.lt_iff_toInt_lt, Int32.le_iff_toInt_le, ← Int32.toInt_inj, nT0, nT1, nT2, nT3, nT4, nT5, nT6, nT7, nT8, nT9, nT10, nT33, nT36, nT42, nT58, nT80, nT126, nT255, i_m1, i_m2, Int32.toInt_zero, Int32.toInt_one] at c_9 c_15; omega)
        refine lv_bipush (v := -2) hx hb dX5_give_18 (by decide) ?_
        exact q_iret2 hC hW hr hlk0 (PR_i (a' := (-2, ((w, K, ro), hc, hi, sv, pn, ch))) (by simp only [aGive, rng_nI hk_1 (by decide), hv_]) ⟨rfl, PA_0 hI0⟩) dX5_give_20
  ·
    refine q_ieq (tgt := 18) hx hb dX5_give_4 (by decide) (by first | omega | exact Nat.lt_of_le_of_lt (hw3 _) (by decide)) (fun c_4 => ?_) (fun c_4 => absurd c_4 (by decide))
    refine lv_bipush (v := -2) hx hb dX5_give_18 (by decide) ?_
    exact q_iret2 hC hW hr hlk0 (PR_i (a' := (-2, ((w, K, ro), hc, hi, sv, pn, ch))) (by simp only [aGive, hk_1]) ⟨rfl, PA_0 hI0⟩) dX5_give_20
set_option maxRecDepth 100000 in
set_option maxHeartbeats 4000000 in
theorem k_weight (l : Launch) (G : Gx) (n : Nat) (ad : Nat → Nat) (sz : Nat) (I : Ic) (L : Lc) (R : Rc) (kind coin to : Int32) (w : Nat → Nat) (K : Nat) (ro : Nat → Nat) (hc : Nat) (hi : Nat → CM) (sv : Nat → Option CM) (pn : Nat) (ch : Nat → Nat) (hI0 : InvA n I L R ((w, K, ro), hc, hi, sv, pn, ch)) : Met l yX5_weight (Cond.code yX5_weight cX5_weight 5 (some .int) :: GW) ({ frames := 6, cells := 0, slots := 0, locals := 216 } : Room) (qPre G n ad sz I L R [.ref (ad 0), .int (kind), .int (coin), .int (to)]) (qI2 G (qA n ad sz) (fun z u => PR n ad I L R (aWeight ((w, K, ro), hc, hi, sv, pn, ch) kind coin to, ((w, K, ro), hc, hi, sv, pn, ch)) z u)) 0 0 (qA n ad sz) := by
  refine q_met (by decide) (Nat.le_of_ble_eq_true rfl) ?_
  intro p_ e_ s m_ below meth c_ hC hr hlk0 hin hsz hW ls hl
  subst hsz
  have hC : CallFix p_ m_ c_ cX5_weight 5 s ([.ref (ad 0), .int (kind), .int (coin), .int (to)] : List Value).toArray GW "CoinRows" := hC
  have hx := hC.1
  have hb := hC.2.1
  have hn : 71 ≤ n := hI0.1
  have hlk : LkOK n R := hI0.2.1
  have hM : MdI I w K ro := hI0.2.2.1
  have hSI : SI L := hI0.2.2.2.1
  have hPd : PadI I pn ch := hI0.2.2.2.2.1
  have hHi : HiA I R hc hi := hI0.2.2.2.2.2.1
  have hSv : SvA n I R sv := hI0.2.2.2.2.2.2
  have hh1 := hHi.1
  have hh6 := hHi.2.1
  have hp80 := hPd.2.1
  have hk6 : K ≤ 6 := hM.2.2.2.1
  have hw3 : ∀ i, w i ≤ 3 := hM.2.2.2.2.1.1
  have hr4 : ∀ j, ro j < 4 := hM.2.2.2.2.2
  have hl : lv_has ls 5 [(0, .ref (ad 0)), (1, .int (kind)), (2, .int (coin)), (3, .int (to))] := hl
  refine lv_iload_n hx hb dX5_weight_0 rfl (lv_at hl 1 rfl) ?_
  refine q_kI0 (q_rS (As := [.int (kind)]) (rest := []) hC hW mw_X5_isKind gw_160 (k_isKind l G n ad s.heap.size I L R _) ⟨rfl, rfl⟩ ⟨Nat.le_of_ble_eq_true rfl, Nat.le_of_ble_eq_true rfl⟩ ⟨(Nat.le_of_ble_eq_true rfl), (Nat.le_of_ble_eq_true rfl)⟩ hl.1 rfl rfl (Nat.le_of_ble_eq_true rfl) dX5_weight_1) hW (fun r_1 H locs hp hW => ?_)
  rcases hp with ⟨k_1, hk_1, rfl, rfl⟩ | ⟨hk_1, rfl⟩
  ·
    refine q_ine (tgt := 10) hx hb dX5_weight_4 (by decide) (by first | omega | exact Nat.lt_of_le_of_lt (hw3 _) (by decide)) (fun c_4 => ?_) (fun c_4 => absurd c_4 (by decide))
    refine lv_iload_n hx hb dX5_weight_10 rfl (lv_at hl 1 rfl) ?_
    refine lv_iload_n hx hb dX5_weight_11 rfl (lv_at hl 2 rfl) ?_
    refine lv_iload_n hx hb dX5_weight_12 rfl (lv_at hl 3 rfl) ?_
    refine q_kI0 (q_rS (As := [.int (nI (k_1)), .int (coin), .int (to)]) (rest := []) hC hW mw_X5_indexOf gw_163 (k_indexOf l G n ad H.size I L R _ (by omega) _ _) ⟨rfl, rfl⟩ ⟨Nat.le_of_ble_eq_true rfl, Nat.le_of_ble_eq_true rfl⟩ ⟨(Nat.le_of_ble_eq_true rfl), (Nat.le_of_ble_eq_true rfl)⟩ hl.1 rfl rfl (Nat.le_of_ble_eq_true rfl) dX5_weight_13) hW (fun r_13 H locs hp hW => ?_)
    rcases hp with ⟨i_13, hi_13, hj_13, rfl⟩ | ⟨hi_13, rfl⟩
    ·
      refine lv_istore (lv' := [(4, .int (nI (i_13))), (0, .ref (ad 0)), (1, .int (nI (k_1))), (2, .int (coin)), (3, .int (to))]) hx hb dX5_weight_16 hl (by decide) rfl (fun ls hl => ?_)
      refine lv_iload hx hb dX5_weight_18 (lv_at hl 0 rfl) ?_
      refine lv_if_ge (tgt := 27) hx hb dX5_weight_20 (by decide) (fun c_20 => ?_) (fun c_20 => absurd (Int32.not_lt.mp (nI_pos (by omega))) c_20)
      refine lv_aload_n hx hb dX5_weight_27 rfl (lv_at hl 1 rfl) ?_
      refine g_5_0 (x := 0) (y := 1) hC hW (by omega) kd_0 gw_124 (hlk 0 0 1 (by omega) rfl) dX5_weight_28 ?_
      refine g_0_0 (x := 1) (y := 2) hC hW (by omega) kd_1 gw_24 (hlk 1 0 2 (by omega) rfl) dX5_weight_31 ?_
      refine lv_iload hx hb dX5_weight_34 (lv_at hl 0 rfl) ?_
      refine q_iald (x := 2) (i := i_13) hC hW (by omega) kd_2 (by omega) dX5_weight_36 ?_
      refine q_top (v2 := .int (nI (w (i_13)))) (congrArg _ (hM.1 _ (by omega))) ?_
      exact q_iret2 hC hW hr hlk0 (PR_i (a' := (nI (w i_13), ((w, K, ro), hc, hi, sv, pn, ch))) (by simp only [aWeight, rng_nI hk_1 (by decide), hi_13]) ⟨rfl, PA_0 hI0⟩) dX5_weight_37
    ·
      refine lv_istore (lv' := [(4, .int (-1)), (0, .ref (ad 0)), (1, .int (nI (k_1))), (2, .int (coin)), (3, .int (to))]) hx hb dX5_weight_16 hl (by decide) rfl (fun ls hl => ?_)
      refine lv_iload hx hb dX5_weight_18 (lv_at hl 0 rfl) ?_
      refine lv_if_ge (tgt := 27) hx hb dX5_weight_20 (by decide) (fun c_20 => absurd c_20 (by decide)) (fun c_20 => ?_)
      refine lv_iconst (v := -1) hx hb dX5_weight_23 (by decide) ?_
      refine lv_goto (tgt := 37) hx hb dX5_weight_24 (by decide) ?_
      exact q_iret2 hC hW hr hlk0 (PR_i (a' := (-1, ((w, K, ro), hc, hi, sv, pn, ch))) (by simp only [aWeight, rng_nI hk_1 (by decide), hi_13]) ⟨rfl, PA_0 hI0⟩) dX5_weight_37
  ·
    refine q_ine (tgt := 10) hx hb dX5_weight_4 (by decide) (by first | omega | exact Nat.lt_of_le_of_lt (hw3 _) (by decide)) (fun c_4 => absurd c_4 (by decide)) (fun c_4 => ?_)
    refine lv_bipush (v := -2) hx hb dX5_weight_7 (by decide) ?_
    exact q_iret2 hC hW hr hlk0 (PR_i (a' := (-2, ((w, K, ro), hc, hi, sv, pn, ch))) (by simp only [aWeight, hk_1]) ⟨rfl, PA_0 hI0⟩) dX5_weight_9
set_option maxRecDepth 100000 in
set_option maxHeartbeats 4000000 in
theorem k_add (l : Launch) (G : Gx) (n : Nat) (ad : Nat → Nat) (sz : Nat) (I : Ic) (L : Lc) (R : Rc) (letter : Int32) (w : Nat → Nat) (K : Nat) (ro : Nat → Nat) (hc : Nat) (hi : Nat → CM) (sv : Nat → Option CM) (pn : Nat) (ch : Nat → Nat) (hI0 : InvA n I L R ((w, K, ro), hc, hi, sv, pn, ch)) : Met l yX5_add (Cond.code yX5_add cX5_add 2 (some .int) :: GW) ({ frames := 6, cells := 0, slots := 0, locals := 216 } : Room) (qPre G n ad sz I L R [.ref (ad 0), .int (letter)]) (qI2 G (qA n ad sz) (fun z u => PR n ad I L R (aAdd ((w, K, ro), hc, hi, sv, pn, ch) letter) z u)) 0 0 (qA n ad sz) := by
  refine q_met (by decide) (Nat.le_of_ble_eq_true rfl) ?_
  intro p_ e_ s m_ below meth c_ hC hr hlk0 hin hsz hW ls hl
  subst hsz
  have hC : CallFix p_ m_ c_ cX5_add 2 s ([.ref (ad 0), .int (letter)] : List Value).toArray GW "CoinRows" := hC
  have hx := hC.1
  have hb := hC.2.1
  have hn : 71 ≤ n := hI0.1
  have hlk : LkOK n R := hI0.2.1
  have hM : MdI I w K ro := hI0.2.2.1
  have hSI : SI L := hI0.2.2.2.1
  have hPd : PadI I pn ch := hI0.2.2.2.2.1
  have hHi : HiA I R hc hi := hI0.2.2.2.2.2.1
  have hSv : SvA n I R sv := hI0.2.2.2.2.2.2
  have hh1 := hHi.1
  have hh6 := hHi.2.1
  have hp80 := hPd.2.1
  have hk6 : K ≤ 6 := hM.2.2.2.1
  have hw3 : ∀ i, w i ≤ 3 := hM.2.2.2.2.1.1
  have hr4 : ∀ j, ro j < 4 := hM.2.2.2.2.2
  have hl : lv_has ls 2 [(0, .ref (ad 0)), (1, .int (letter))] := hl
  refine lv_iload_n hx hb dX5_add_0 rfl (lv_at hl 1 rfl) ?_
  refine lv_if_lt (tgt := 9) hx hb dX5_add_1 (by decide) (fun c_1 => ?_) (fun c_1 => ?_)
  ·
    have hv_ : rng letter 4 = none := rng_none.mpr (by simp only [Int32.lt_iff_toInt_lt, Int32.le_iff_toInt_le, ← Int32.toInt_inj, nT0, nT1, nT2, nT3, nT4, nT5, nT6, nT7, nT8, nT9, nT10, nT33, nT36, nT42, nT58, nT80, nT126, nT255, i_m1, i_m2, Int32.toInt_zero, Int32.toInt_one] at c_1; omega)
    refine lv_bipush (v := -2) hx hb dX5_add_9 (by decide) ?_
    exact q_iret2 hC hW hr hlk0 (PR_i (a' := (-2, ((w, K, ro), hc, hi, sv, pn, ch))) (by simp only [aAdd, hv_]) ⟨rfl, PA_0 hI0⟩) dX5_add_11
  ·
    refine lv_iload_n hx hb dX5_add_4 rfl (lv_at hl 1 rfl) ?_
    refine q_ic 4 hx hb dX5_add_5 (by decide) ?_
    refine lv_icmp_lt (tgt := 12) hx hb dX5_add_6 (by decide) (fun c_6 => ?_) (fun c_6 => ?_)
    ·
      obtain ⟨u_, hu_, rfl⟩ := rng_ex (N := 4) (x := letter) (by decide) (by simp only [Int32.lt_iff_toInt_lt, Int32.le_iff_toInt_le, ← Int32.toInt_inj, nT0, nT1, nT2, nT3, nT4, nT5, nT6, nT7, nT8, nT9, nT10, nT33, nT36, nT42, nT58, nT80, nT126, nT255, i_m1, i_m2, Int32.toInt_zero, Int32.toInt_one] at c_1 c_6; omega) (by simp only [Int32.lt_iff_toInt_lt, Int32.le_iff_toInt_le, ← Int32.toInt_inj, nT0, nT1, nT2, nT3, nT4, nT5, nT6, nT7, nT8, nT9, nT10, nT33, nT36, nT42, nT58, nT80, nT126, nT255, i_m1, i_m2, Int32.toInt_zero, Int32.toInt_one] at c_1 c_6; omega)
      refine lv_aload_n hx hb dX5_add_12 rfl (lv_at hl 0 rfl) ?_
      refine g_5_0 (x := 0) (y := 1) hC hW (by omega) kd_0 gw_124 (hlk 0 0 1 (by omega) rfl) dX5_add_13 ?_
      refine g_0_2 (x := 1) hC hW (by omega) kd_1 gw_31 dX5_add_16 ?_
      refine q_top (v2 := .int (nI (K))) (congrArg _ hM.2.1) ?_
      refine q_bp 6 hx hb dX5_add_19 (by decide) ?_
      refine q_clt (tgt := 27) hx hb dX5_add_21 (by decide) (by first | omega | exact Nat.lt_of_le_of_lt (hw3 _) (by decide)) (by first | omega | exact Nat.lt_of_le_of_lt (hw3 _) (by decide)) (fun c_21 => ?_) (fun c_21 => ?_)
      ·
        refine lv_aload_n hx hb dX5_add_27 rfl (lv_at hl 0 rfl) ?_
        refine q_kV2 (q_rV (As := []) (rest := []) (x := 0) hC hW mw_X5_remember gw_377 (k_remember l G n ad s.heap.size I L R w K ro hc hi sv hn hlk hM hHi hSv) (by omega) (ct_o5 kd_0) rfl ⟨rfl, rfl⟩ ⟨Nat.le_of_ble_eq_true rfl, Nat.le_of_ble_eq_true rfl⟩ ⟨(Nat.le_of_ble_eq_true rfl), (Nat.le_of_ble_eq_true rfl)⟩ hl.1 rfl rfl (Nat.le_of_ble_eq_true rfl) dX5_add_28) hW (fun n_28 ad_28 I_28 L_28 R_28 H locs hp hW => ?_)
        have hp : RemP n ad I L hc hi sv R (w, K, ro) n_28 ad_28 I_28 L_28 R_28 := hp
        obtain ⟨rfl, rfl, rfl, hlk_28, hHi_28, hSv_28, hf_28, hRf_28⟩ := hp
        have hM_28 : MdI I_28 w K ro := MdA_fr (m := (w, K, ro)) (x := 1) hM (hf_28 1 (by decide) (by decide)) (hf_28 2 (by decide) (by decide)) (hf_28 3 (by decide) (by decide))
        refine lv_aload_n hx hb dX5_add_31 rfl (lv_at hl 0 rfl) ?_
        refine g_5_0 (x := 0) (y := 1) hC hW (by omega) kd_0 gw_124 (hlk_28 0 0 1 (by omega) rfl) dX5_add_32 ?_
        refine lv_iload_n hx hb dX5_add_35 rfl (lv_at hl 1 rfl) ?_
        refine q_kV1 (q_rV (As := [.int (nI (u_))]) (rest := []) (x := 1) hC hW mw_X0_append gw_395 (k_append l G n ad H.size I_28 L R_28 _ w K ro hn hlk_28 hM_28 (by omega)) (by omega) (ct_o0 kd_1) rfl ⟨rfl, rfl⟩ ⟨Nat.le_of_ble_eq_true rfl, Nat.le_of_ble_eq_true rfl⟩ ⟨(Nat.le_of_ble_eq_true rfl), (Nat.le_of_ble_eq_true rfl)⟩ hl.1 rfl rfl (Nat.le_of_ble_eq_true rfl) dX5_add_36) hW (fun I_36 L_36 H locs hp hW => ?_)
        obtain ⟨rfl, rfl⟩ := hp
        refine lv_aload_n hx hb dX5_add_39 rfl (lv_at hl 0 rfl) ?_
        refine g_5_0 (x := 0) (y := 1) hC hW (by omega) kd_0 gw_124 (hlk_28 0 0 1 (by omega) rfl) dX5_add_40 ?_
        refine g_0_2 (x := 1) hC hW (by omega) kd_1 gw_31 dX5_add_43 ?_
        refine q_top (v2 := .int (nI (K + 1))) (congrArg _ (by rw [up2_at, if_pos ⟨rfl, rfl⟩])) ?_
        exact q_iret2 hC hW hr hlk0 (PR_i (a' := (nI (K + 1), ((w, K + 1, upN ro K u_), hcN hc, hiN hc hi (w, K, ro), sv, pn, ch))) (by simp only [aAdd, rng_nI hu_ (by decide), if_neg (show ¬ K = 6 by omega), remS]) ⟨rfl, InvA_rem hI0 hlk_28 hHi_28 hSv_28 hRf_28 hf_28 (MdI_ap hM_28 (by omega) hu_) (fun a ha => by rw [up2_ne (by omega), up2_ne (by omega)]) hSI (PadI_lo hPd (by rw [up2_ne (by decide), up2_ne (by decide)]; exact hf_28 6 (by decide) (by decide)) (by rw [up2_ne (by decide), up2_ne (by decide)]; exact hf_28 7 (by decide) (by decide))) (fun _ _ => rfl)⟩) dX5_add_46
      ·
        refine lv_bipush (v := -4) hx hb dX5_add_24 (by decide) ?_
        exact q_iret2 hC hW hr hlk0 (PR_i (a' := (-4, ((w, K, ro), hc, hi, sv, pn, ch))) (by simp only [aAdd, rng_nI hu_ (by decide), if_pos (show K = 6 by omega)]) ⟨rfl, PA_0 hI0⟩) dX5_add_26
    ·
      have hv_ : rng letter 4 = none := rng_none.mpr (by simp only [Int32.lt_iff_toInt_lt, Int32.le_iff_toInt_le, ← Int32.toInt_inj, nT0, nT1, nT2, nT3, nT4, nT5, nT6, nT7, nT8, nT9, nT10, nT33, nT36, nT42, nT58, nT80, nT126, nT255, i_m1, i_m2, Int32.toInt_zero, Int32.toInt_one] at c_1 c_6; omega)
      refine lv_bipush (v := -2) hx hb dX5_add_9 (by decide) ?_
      exact q_iret2 hC hW hr hlk0 (PR_i (a' := (-2, ((w, K, ro), hc, hi, sv, pn, ch))) (by simp only [aAdd, hv_]) ⟨rfl, PA_0 hI0⟩) dX5_add_11
set_option maxRecDepth 100000 in
set_option maxHeartbeats 4000000 in
theorem k_cut (l : Launch) (G : Gx) (n : Nat) (ad : Nat → Nat) (sz : Nat) (I : Ic) (L : Lc) (R : Rc)  (w : Nat → Nat) (K : Nat) (ro : Nat → Nat) (hc : Nat) (hi : Nat → CM) (sv : Nat → Option CM) (pn : Nat) (ch : Nat → Nat) (hI0 : InvA n I L R ((w, K, ro), hc, hi, sv, pn, ch)) : Met l yX5_cut (Cond.code yX5_cut cX5_cut 1 (some .int) :: GW) ({ frames := 6, cells := 0, slots := 0, locals := 216 } : Room) (qPre G n ad sz I L R [.ref (ad 0)]) (qI2 G (qA n ad sz) (fun z u => PR n ad I L R (aCut ((w, K, ro), hc, hi, sv, pn, ch)) z u)) 0 0 (qA n ad sz) := by
  refine q_met (by decide) (Nat.le_of_ble_eq_true rfl) ?_
  intro p_ e_ s m_ below meth c_ hC hr hlk0 hin hsz hW ls hl
  subst hsz
  have hC : CallFix p_ m_ c_ cX5_cut 1 s ([.ref (ad 0)] : List Value).toArray GW "CoinRows" := hC
  have hx := hC.1
  have hb := hC.2.1
  have hn : 71 ≤ n := hI0.1
  have hlk : LkOK n R := hI0.2.1
  have hM : MdI I w K ro := hI0.2.2.1
  have hSI : SI L := hI0.2.2.2.1
  have hPd : PadI I pn ch := hI0.2.2.2.2.1
  have hHi : HiA I R hc hi := hI0.2.2.2.2.2.1
  have hSv : SvA n I R sv := hI0.2.2.2.2.2.2
  have hh1 := hHi.1
  have hh6 := hHi.2.1
  have hp80 := hPd.2.1
  have hk6 : K ≤ 6 := hM.2.2.2.1
  have hw3 : ∀ i, w i ≤ 3 := hM.2.2.2.2.1.1
  have hr4 : ∀ j, ro j < 4 := hM.2.2.2.2.2
  have hl : lv_has ls 1 [(0, .ref (ad 0))] := hl
  refine lv_aload_n hx hb dX5_cut_0 rfl (lv_at hl 0 rfl) ?_
  refine g_5_0 (x := 0) (y := 1) hC hW (by omega) kd_0 gw_124 (hlk 0 0 1 (by omega) rfl) dX5_cut_1 ?_
  refine g_0_2 (x := 1) hC hW (by omega) kd_1 gw_31 dX5_cut_4 ?_
  refine q_top (v2 := .int (nI (K))) (congrArg _ hM.2.1) ?_
  refine q_igt (tgt := 13) hx hb dX5_cut_7 (by decide) (by first | omega | exact Nat.lt_of_le_of_lt (hw3 _) (by decide)) (fun c_7 => ?_) (fun c_7 => ?_)
  ·
    refine lv_aload_n hx hb dX5_cut_13 rfl (lv_at hl 0 rfl) ?_
    refine q_kV2 (q_rV (As := []) (rest := []) (x := 0) hC hW mw_X5_remember gw_377 (k_remember l G n ad s.heap.size I L R w K ro hc hi sv hn hlk hM hHi hSv) (by omega) (ct_o5 kd_0) rfl ⟨rfl, rfl⟩ ⟨Nat.le_of_ble_eq_true rfl, Nat.le_of_ble_eq_true rfl⟩ ⟨(Nat.le_of_ble_eq_true rfl), (Nat.le_of_ble_eq_true rfl)⟩ hl.1 rfl rfl (Nat.le_of_ble_eq_true rfl) dX5_cut_14) hW (fun n_14 ad_14 I_14 L_14 R_14 H locs hp hW => ?_)
    have hp : RemP n ad I L hc hi sv R (w, K, ro) n_14 ad_14 I_14 L_14 R_14 := hp
    obtain ⟨rfl, rfl, rfl, hlk_14, hHi_14, hSv_14, hf_14, hRf_14⟩ := hp
    have hM_14 : MdI I_14 w K ro := MdA_fr (m := (w, K, ro)) (x := 1) hM (hf_14 1 (by decide) (by decide)) (hf_14 2 (by decide) (by decide)) (hf_14 3 (by decide) (by decide))
    refine lv_aload_n hx hb dX5_cut_17 rfl (lv_at hl 0 rfl) ?_
    refine g_5_0 (x := 0) (y := 1) hC hW (by omega) kd_0 gw_124 (hlk_14 0 0 1 (by omega) rfl) dX5_cut_18 ?_
    refine lv_dup hx hb dX5_cut_21 rfl ?_
    refine g_0_2 (x := 1) hC hW (by omega) kd_1 gw_31 dX5_cut_22 ?_
    refine q_top (v2 := .int (nI (K))) (congrArg _ hM_14.2.1) ?_
    refine q_ic 1 hx hb dX5_cut_25 (by decide) ?_
    refine q_isub hx hb dX5_cut_26 (by omega) ?_
    refine p_0_2 (x := 1) (v := nI (K - 1)) hC hW (by omega) kd_1 gw_31 dX5_cut_27 (fun H locs hW => ?_)
    refine lv_aload_n hx hb dX5_cut_30 rfl (lv_at hl 0 rfl) ?_
    refine g_5_0 (x := 0) (y := 1) hC hW (by omega) kd_0 gw_124 (hlk_14 0 0 1 (by omega) rfl) dX5_cut_31 ?_
    refine g_0_1 (x := 1) (y := 3) hC hW (by omega) kd_1 gw_27 (hlk_14 1 1 3 (by omega) rfl) dX5_cut_34 ?_
    refine lv_aload_n hx hb dX5_cut_37 rfl (lv_at hl 0 rfl) ?_
    refine g_5_0 (x := 0) (y := 1) hC hW (by omega) kd_0 gw_124 (hlk_14 0 0 1 (by omega) rfl) dX5_cut_38 ?_
    refine g_0_2 (x := 1) hC hW (by omega) kd_1 gw_31 dX5_cut_41 ?_
    refine q_top (v2 := .int (nI (K - 1))) (congrArg _ (by rw [up2_at, if_pos ⟨rfl, rfl⟩])) ?_
    refine q_iald (x := 3) (i := K - 1) hC hW (by omega) kd_3 (by omega) dX5_cut_44 ?_
    refine q_top (v2 := .int (nI (ro (K - 1)))) (congrArg _ ((congrFun (up2_ne (by decide)) _).trans (hM_14.2.2.1 _ (by omega)))) ?_
    exact q_iret2 hC hW hr hlk0 (PR_i (a' := (nI (ro (K - 1)), ((w, K - 1, ro), hcN hc, hiN hc hi (w, K, ro), sv, pn, ch))) (by simp only [aCut, if_neg (show ¬ K = 0 by omega), remS]) ⟨rfl, InvA_rem hI0 hlk_14 hHi_14 hSv_14 hRf_14 hf_14 (MdI_cut hM_14) (fun a ha => up2_ne (by omega)) hSI (PadI_lo hPd ((up2_ne (by decide)).trans (hf_14 6 (by decide) (by decide))) ((up2_ne (by decide)).trans (hf_14 7 (by decide) (by decide)))) (fun _ _ => rfl)⟩) dX5_cut_45
  ·
    refine lv_bipush (v := -5) hx hb dX5_cut_10 (by decide) ?_
    exact q_iret2 hC hW hr hlk0 (PR_i (a' := (-5, ((w, K, ro), hc, hi, sv, pn, ch))) (by simp only [aCut, if_pos (show K = 0 by omega)]) ⟨rfl, PA_0 hI0⟩) dX5_cut_12
set_option maxRecDepth 100000 in
set_option maxHeartbeats 4000000 in
theorem k_letter (l : Launch) (G : Gx) (n : Nat) (ad : Nat → Nat) (sz : Nat) (I : Ic) (L : Lc) (R : Rc) (place : Int32) (w : Nat → Nat) (K : Nat) (ro : Nat → Nat) (hc : Nat) (hi : Nat → CM) (sv : Nat → Option CM) (pn : Nat) (ch : Nat → Nat) (hI0 : InvA n I L R ((w, K, ro), hc, hi, sv, pn, ch)) : Met l yX5_letter (Cond.code yX5_letter cX5_letter 2 (some .int) :: GW) ({ frames := 6, cells := 0, slots := 0, locals := 216 } : Room) (qPre G n ad sz I L R [.ref (ad 0), .int (place)]) (qI2 G (qA n ad sz) (fun z u => PR n ad I L R (aLetter ((w, K, ro), hc, hi, sv, pn, ch) place, ((w, K, ro), hc, hi, sv, pn, ch)) z u)) 0 0 (qA n ad sz) := by
  refine q_met (by decide) (Nat.le_of_ble_eq_true rfl) ?_
  intro p_ e_ s m_ below meth c_ hC hr hlk0 hin hsz hW ls hl
  subst hsz
  have hC : CallFix p_ m_ c_ cX5_letter 2 s ([.ref (ad 0), .int (place)] : List Value).toArray GW "CoinRows" := hC
  have hx := hC.1
  have hb := hC.2.1
  have hn : 71 ≤ n := hI0.1
  have hlk : LkOK n R := hI0.2.1
  have hM : MdI I w K ro := hI0.2.2.1
  have hSI : SI L := hI0.2.2.2.1
  have hPd : PadI I pn ch := hI0.2.2.2.2.1
  have hHi : HiA I R hc hi := hI0.2.2.2.2.2.1
  have hSv : SvA n I R sv := hI0.2.2.2.2.2.2
  have hh1 := hHi.1
  have hh6 := hHi.2.1
  have hp80 := hPd.2.1
  have hk6 : K ≤ 6 := hM.2.2.2.1
  have hw3 : ∀ i, w i ≤ 3 := hM.2.2.2.2.1.1
  have hr4 : ∀ j, ro j < 4 := hM.2.2.2.2.2
  have hl : lv_has ls 2 [(0, .ref (ad 0)), (1, .int (place))] := hl
  refine lv_aload_n hx hb dX5_letter_0 rfl (lv_at hl 0 rfl) ?_
  refine g_5_0 (x := 0) (y := 1) hC hW (by omega) kd_0 gw_124 (hlk 0 0 1 (by omega) rfl) dX5_letter_1 ?_
  refine lv_iload_n hx hb dX5_letter_4 rfl (lv_at hl 1 rfl) ?_
  refine q_kI0 (q_rV (As := [.int (place)]) (rest := []) (x := 1) hC hW mw_X0_hasPlace gw_187 (k_hasPlace l G n ad s.heap.size I L R _ w K ro hn hlk hM) (by omega) (ct_o0 kd_1) rfl ⟨rfl, rfl⟩ ⟨Nat.le_of_ble_eq_true rfl, Nat.le_of_ble_eq_true rfl⟩ ⟨(Nat.le_of_ble_eq_true rfl), (Nat.le_of_ble_eq_true rfl)⟩ hl.1 rfl rfl (Nat.le_of_ble_eq_true rfl) dX5_letter_5) hW (fun r_5 H locs hp hW => ?_)
  rcases hp with ⟨k_5, hk_5, rfl, rfl⟩ | ⟨hk_5, rfl⟩
  ·
    refine q_ieq (tgt := 23) hx hb dX5_letter_8 (by decide) (by first | omega | exact Nat.lt_of_le_of_lt (hw3 _) (by decide)) (fun c_8 => absurd c_8 (by decide)) (fun c_8 => ?_)
    refine lv_aload_n hx hb dX5_letter_11 rfl (lv_at hl 0 rfl) ?_
    refine g_5_0 (x := 0) (y := 1) hC hW (by omega) kd_0 gw_124 (hlk 0 0 1 (by omega) rfl) dX5_letter_12 ?_
    refine g_0_1 (x := 1) (y := 3) hC hW (by omega) kd_1 gw_27 (hlk 1 1 3 (by omega) rfl) dX5_letter_15 ?_
    refine lv_iload_n hx hb dX5_letter_18 rfl (lv_at hl 1 rfl) ?_
    refine q_iald (x := 3) (i := k_5) hC hW (by omega) kd_3 (by omega) dX5_letter_19 ?_
    refine q_top (v2 := .int (nI (ro k_5))) (congrArg _ (hM.2.2.1 _ (by omega))) ?_
    refine lv_goto (tgt := 24) hx hb dX5_letter_20 (by decide) ?_
    exact q_iret2 hC hW hr hlk0 (PR_i (a' := (nI (ro k_5), ((w, K, ro), hc, hi, sv, pn, ch))) (by simp only [aLetter, rng_nI hk_5 (show K ≤ 1000 by omega)]) ⟨rfl, PA_0 hI0⟩) dX5_letter_24
  ·
    refine q_ieq (tgt := 23) hx hb dX5_letter_8 (by decide) (by first | omega | exact Nat.lt_of_le_of_lt (hw3 _) (by decide)) (fun c_8 => ?_) (fun c_8 => absurd c_8 (by decide))
    refine lv_iconst (v := -1) hx hb dX5_letter_23 (by decide) ?_
    exact q_iret2 hC hW hr hlk0 (PR_i (a' := (-1, ((w, K, ro), hc, hi, sv, pn, ch))) (by simp only [aLetter, hk_5]) ⟨rfl, PA_0 hI0⟩) dX5_letter_24

