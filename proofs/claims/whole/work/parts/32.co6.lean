set_option maxRecDepth 100000 in
set_option maxHeartbeats 4000000 in
theorem k_next (l : Launch) (G : Gx) (n : Nat) (ad : Nat → Nat) (sz : Nat) (I : Ic) (L : Lc) (R : Rc) (what : Int32) (w : Nat → Nat) (K : Nat) (ro : Nat → Nat) (hc : Nat) (hi : Nat → CM) (sv : Nat → Option CM) (pn : Nat) (ch : Nat → Nat) (hI0 : InvA n I L R ((w, K, ro), hc, hi, sv, pn, ch)) : Met l yX5_next (Cond.code yX5_next cX5_next 8 (some .long) :: GW) ({ frames := 6, cells := 0, slots := 0, locals := 216 } : Room) (qPre G n ad sz I L R [.ref (ad 0), .int (what)]) (qL2 G (qA n ad sz) (fun z u => PRl n ad I L R (aNext (w, K, ro) what, ((w, K, ro), hc, hi, sv, pn, ch)) z u)) 0 0 (qA n ad sz) := by
  refine q_met (by decide) (Nat.le_of_ble_eq_true rfl) ?_
  intro p_ e_ s m_ below meth c_ hC hr hlk0 hin hsz hW ls hl
  subst hsz
  have hC : CallFix p_ m_ c_ cX5_next 8 s ([.ref (ad 0), .int (what)] : List Value).toArray GW "CoinRows" := hC
  have hx := hC.1
  have hb := hC.2.1
  have hn : 83 ≤ n := hI0.1
  have hlk : LkOK n R := hI0.2.1
  have hM : MdI I w K ro := hI0.2.2.1
  have hSI : SI L := hI0.2.2.2.1
  have hPd : PadI I pn ch := hI0.2.2.2.2.1
  have hHi : HiA I R hc hi := hI0.2.2.2.2.2.1
  have hSv : SvA n I R sv := hI0.2.2.2.2.2.2
  have hh1 := hHi.1
  have hh6 := hHi.2.1
  have hp80 := hPd.2.1
  have hk6 : K ≤ 6 := hM.2.2.2.1
  have hw3 : ∀ i, w i ≤ 3 := hM.2.2.2.2.1.1
  have hr4 : ∀ j, ro j < 4 := hM.2.2.2.2.2
  have hT63 : Sx' w K ro K 6 < 2 ^ 63 := Nat.lt_of_le_of_lt (Sx_b hM.2.2.2.2.1 K K 6 hk6) (by decide)
  have hC31 : Cx' w K ro K 6 < 2 ^ 31 := Nat.lt_of_le_of_lt (Cx_b hM.2.2.2.2.1 K K 6 hk6) (by decide)
  have hCT : (nI (Cx' w K ro K 6)).toInt = (Cx' w K ro K 6 : Int) := nI_toInt hC31
  have hw := hM.2.2.2.2.1
  have hl : lv_has ls 8 [(0, .ref (ad 0)), (1, .int (what))] := hl
  refine lv_iload_n hx hb dX5_next_0 rfl (lv_at hl 1 rfl) ?_
  refine lv_if_lt (tgt := 9) hx hb dX5_next_1 (by decide) (fun c_1 => ?_) (fun c_1 => ?_)
  ·
    have hv_ : rng what 2 = none := rng_none.mpr (by simp only [Int32.lt_iff_toInt_lt, Int32.le_iff_toInt_le, ← Int32.toInt_inj, nT0, nT1, nT2, nT3, nT4, nT5, nT6, nT7, nT8, nT9, nT10, nT33, nT36, nT42, nT58, nT80, nT126, nT255, i_m1, i_m2, Int32.toInt_zero, Int32.toInt_one] at c_1; omega)
    refine lv_ldc2 (v := -2) hx hb hC.2.2.2.1 (hC.2.2.2.2 _ gw_409) dX5_next_9 ?_
    exact q_lret2 hC hW hr hlk0 (PR_l (a' := (-2, ((w, K, ro), hc, hi, sv, pn, ch))) (by simp only [aNext, hv_]) ⟨rfl, PA_0 hI0⟩) dX5_next_12
  ·
    refine lv_iload_n hx hb dX5_next_4 rfl (lv_at hl 1 rfl) ?_
    refine q_ic 1 hx hb dX5_next_5 (by decide) ?_
    refine lv_icmp_le (tgt := 13) hx hb dX5_next_6 (by decide) (fun c_6 => ?_) (fun c_6 => ?_)
    ·
      obtain ⟨u_, hu_, rfl⟩ := rng_ex (N := 2) (x := what) (by decide) (by simp only [Int32.lt_iff_toInt_lt, Int32.le_iff_toInt_le, ← Int32.toInt_inj, nT0, nT1, nT2, nT3, nT4, nT5, nT6, nT7, nT8, nT9, nT10, nT33, nT36, nT42, nT58, nT80, nT126, nT255, i_m1, i_m2, Int32.toInt_zero, Int32.toInt_one] at c_1 c_6; omega) (by simp only [Int32.lt_iff_toInt_lt, Int32.le_iff_toInt_le, ← Int32.toInt_inj, nT0, nT1, nT2, nT3, nT4, nT5, nT6, nT7, nT8, nT9, nT10, nT33, nT36, nT42, nT58, nT80, nT126, nT255, i_m1, i_m2, Int32.toInt_zero, Int32.toInt_one] at c_1 c_6; omega)
      refine lv_aload_n hx hb dX5_next_13 rfl (lv_at hl 0 rfl) ?_
      refine g_5_0 (x := 0) (y := 1) hC hW (by omega) kd_0 gw_130 (hlk 0 0 1 (by omega) rfl) dX5_next_14 ?_
      refine g_0_2 (x := 1) hC hW (by omega) kd_1 gw_34 dX5_next_17 ?_
      refine q_top (v2 := .int (nI (K))) (congrArg _ hM.2.1) ?_
      refine q_bp 6 hx hb dX5_next_20 (by decide) ?_
      refine q_clt (tgt := 29) hx hb dX5_next_22 (by decide) (by first | omega | exact Nat.lt_of_le_of_lt (hw3 _) (by decide)) (by first | omega | exact Nat.lt_of_le_of_lt (hw3 _) (by decide)) (fun c_22 => ?_) (fun c_22 => ?_)
      ·
        have hne : ∀ t, (fun t => neN w ro K t 4) t ≤ 36520347436056576 := fun t => by show neN w ro K t 4 ≤ _; rw [neN_eq hw]; exact Sx_b hw (K + 1) (K + 1) 6 (by omega)
        refine lv_aload_n hx hb dX5_next_29 rfl (lv_at hl 0 rfl) ?_
        refine g_5_5 (x := 0) (y := 8) hC hW (by omega) kd_0 gw_135 (hlk 0 5 8 (by omega) rfl) dX5_next_30 ?_
        refine lv_aload_n hx hb dX5_next_33 rfl (lv_at hl 0 rfl) ?_
        refine g_5_0 (x := 0) (y := 1) hC hW (by omega) kd_0 gw_130 (hlk 0 0 1 (by omega) rfl) dX5_next_34 ?_
        refine q_kV1 (q_rV (As := [.ref (ad 1)]) (rest := []) (x := 8) hC hW mw_X2_measure gw_213 (k_measure l G n ad s.heap.size I L R w K ro hn hlk hM hSI) (by omega) (ct_o2 kd_8) rfl ⟨rfl, rfl⟩ ⟨Nat.le_of_ble_eq_true rfl, Nat.le_of_ble_eq_true rfl⟩ ⟨(Nat.le_of_ble_eq_true rfl), (Nat.le_of_ble_eq_true rfl)⟩ hl.1 rfl rfl (Nat.le_of_ble_eq_true rfl) dX5_next_37) hW (fun I_37 L_37 H locs hp hW => ?_)
        obtain ⟨hMs_37, hLf_37, hIf_37⟩ := hp
        have hM_37 : MdI I_37 w K ro := MdI_fr hM hIf_37
        refine q_ic 0 hx hb dX5_next_40 (by decide) ?_
        refine lv_istore_n (lv' := [(2, .int (nI 0)), (0, .ref (ad 0)), (1, .int (nI (u_)))]) hx hb dX5_next_41 rfl hl (by decide) rfl (fun ls hl => ?_)
        refine q_lc 0 hx hb dX5_next_42 (by decide) ?_
        refine lv_lstore_n (lv' := [(3, .long (lN 0)), (2, .int (nI 0)), (0, .ref (ad 0)), (1, .int (nI (u_)))]) hx hb dX5_next_43 rfl hl (by decide) rfl (fun ls hl => ?_)
        refine q_ic 0 hx hb dX5_next_44 (by decide) ?_
        refine lv_istore (lv' := [(5, .int (nI 0)), (3, .long (lN 0)), (2, .int (nI 0)), (0, .ref (ad 0)), (1, .int (nI (u_)))]) hx hb dX5_next_45 hl (by decide) rfl (fun ls hl => ?_)
        have lp_47 : ∀ (fu_47 : Nat) (t1 : Nat), 4 - t1 < fu_47 → (t1 ≤ 4) → ∀ (H : Heap) (locs : List Loc), Wd G n ad I_37 L_37 R (qA n ad s.heap.size) s.heap H locs s → ∀ ls : Array Slot, lv_has ls 8 [(0, .ref (ad 0)), (1, .int (nI (u_))), (2, .int (nI ((mostN (fun t => neN w ro K t 4) t1).1))), (3, .long (lN ((mostN (fun t => neN w ro K t 4) t1).2))), (5, .int (nI (t1)))] → W p_ l e_ ({ frames := 6, cells := 0, slots := 0, locals := 216 } : Room) s m_ ([.ref (ad 0), .int (nI (u_))] : List Value).toArray below meth c_ H locs 0 0 (MQ below (qL2 G (qA n ad s.heap.size) (fun z u => PRl n ad I L R (aNext (w, K, ro) (nI u_), ((w, K, ro), hc, hi, sv, pn, ch)) z u)) ([.ref (ad 0), .int (nI (u_))] : List Value).toArray s 0 0 (qA n ad s.heap.size)) (F0 m_ 47 ls []) := by
          intro fu_47
          induction fu_47 with
          | zero =>
            intro t1 hm; exact absurd hm (Nat.not_lt_zero _)
          | succ fu_47 ih_47 =>
            intro t1 hm_47 ht4 H locs hW ls hl
            refine lv_iload hx hb dX5_next_47 (lv_at hl 4 rfl) ?_
            refine q_ic 4 hx hb dX5_next_49 (by decide) ?_
            refine q_cge (tgt := 87) hx hb dX5_next_50 (by decide) (by first | omega | exact Nat.lt_of_le_of_lt (hw3 _) (by decide)) (by first | omega | exact Nat.lt_of_le_of_lt (hw3 _) (by decide)) (fun c_50 => ?_) (fun c_50 => ?_)
            ·
              have e4 : t1 = 4 := by omega
              subst e4
              have hml := mostN_le (g := (fun t => neN w ro K t 4)) hne 4
              refine lv_lload_n hx hb dX5_next_87 rfl (lv_at hl 3 rfl) ?_
              refine q_lc 0 hx hb dX5_next_88 (by decide) ?_
              refine q_lcmp hx hb dX5_next_89 ?_
              refine q_lne (tgt := 97) hx hb dX5_next_90 (by decide) (Nat.lt_of_le_of_lt hml.1 (by decide)) (by decide) (fun c_90 => ?_) (fun c_90 => ?_)
              ·
                refine lv_iload_n hx hb dX5_next_97 rfl (lv_at hl 1 rfl) ?_
                refine q_ine (tgt := 106) hx hb dX5_next_98 (by decide) (by first | omega | exact Nat.lt_of_le_of_lt (hw3 _) (by decide)) (fun c_98 => ?_) (fun c_98 => ?_)
                ·
                  refine lv_lload_n hx hb dX5_next_106 rfl (lv_at hl 3 rfl) ?_
                  exact q_lret2 hC hW hr hlk0 (PR_l (a' := (lN (mostN (fun t => neN w ro K t 4) 4).2, ((w, K, ro), hc, hi, sv, pn, ch))) (by simp only [aNext, rng_nI hu_ (by decide), if_neg (show ¬ K = 6 by omega), if_neg (show ¬ (mostN (fun t => neN w ro K t 4) 4).2 = 0 from c_90), if_neg (show ¬ u_ = 0 from c_98)]) ⟨rfl, PA_q hI0 (fun a ha => hIf_37 a (by omega)) hMs_37.2.2.2 (fun a ha => hLf_37 a (by omega))⟩) dX5_next_107
                ·
                  refine lv_iload_n hx hb dX5_next_101 rfl (lv_at hl 2 rfl) ?_
                  refine q_i2l hx hb dX5_next_102 (by first | omega | exact Nat.lt_of_le_of_lt (hw3 _) (by decide)) ?_
                  refine lv_goto (tgt := 107) hx hb dX5_next_103 (by decide) ?_
                  exact q_lret2 hC hW hr hlk0 (PR_l (a' := (lN (mostN (fun t => neN w ro K t 4) 4).1, ((w, K, ro), hc, hi, sv, pn, ch))) (by simp only [aNext, rng_nI hu_ (by decide), if_neg (show ¬ K = 6 by omega), if_neg (show ¬ (mostN (fun t => neN w ro K t 4) 4).2 = 0 from c_90), if_pos (show u_ = 0 from c_98)]) ⟨rfl, PA_q hI0 (fun a ha => hIf_37 a (by omega)) hMs_37.2.2.2 (fun a ha => hLf_37 a (by omega))⟩) dX5_next_107
              ·
                refine lv_ldc2 (v := -6) hx hb hC.2.2.2.1 (hC.2.2.2.2 _ gw_448) dX5_next_93 ?_
                exact q_lret2 hC hW hr hlk0 (PR_l (a' := (-6, ((w, K, ro), hc, hi, sv, pn, ch))) (by simp only [aNext, rng_nI hu_ (by decide), if_neg (show ¬ K = 6 by omega), if_pos (show (mostN (fun t => neN w ro K t 4) 4).2 = 0 from c_90)]) ⟨rfl, PA_q hI0 (fun a ha => hIf_37 a (by omega)) hMs_37.2.2.2 (fun a ha => hLf_37 a (by omega))⟩) dX5_next_96
            ·
              refine lv_aload_n hx hb dX5_next_53 rfl (lv_at hl 0 rfl) ?_
              refine g_5_5 (x := 0) (y := 8) hC hW (by omega) kd_0 gw_135 (hlk 0 5 8 (by omega) rfl) dX5_next_54 ?_
              refine lv_aload_n hx hb dX5_next_57 rfl (lv_at hl 0 rfl) ?_
              refine g_5_0 (x := 0) (y := 1) hC hW (by omega) kd_0 gw_130 (hlk 0 0 1 (by omega) rfl) dX5_next_58 ?_
              refine lv_iload hx hb dX5_next_61 (lv_at hl 4 rfl) ?_
              refine q_kL0 (q_rV (As := [.ref (ad 1), .int (nI (t1))]) (rest := []) (x := 8) hC hW mw_X2_wholeIfNext gw_444 (k_ifNext l G n ad H.size I_37 L_37 R _ w K ro hn hlk hM_37 hMs_37 (by omega)) (by omega) (ct_o2 kd_8) rfl ⟨rfl, rfl⟩ ⟨Nat.le_of_ble_eq_true rfl, Nat.le_of_ble_eq_true rfl⟩ ⟨(Nat.le_of_ble_eq_true rfl), (Nat.le_of_ble_eq_true rfl)⟩ hl.1 rfl rfl (Nat.le_of_ble_eq_true rfl) dX5_next_63) hW (fun r_63 H locs hp hW => ?_)
              subst hp
              refine lv_lstore (lv' := [(6, .long (lN (neN w ro K t1 4))), (0, .ref (ad 0)), (1, .int (nI (u_))), (2, .int (nI ((mostN (fun t => neN w ro K t 4) t1).1))), (3, .long (lN ((mostN (fun t => neN w ro K t 4) t1).2))), (5, .int (nI (t1)))]) hx hb dX5_next_66 hl (by decide) rfl (fun ls hl => ?_)
              have hml := mostN_le (g := (fun t => neN w ro K t 4)) hne t1
              have hnt : neN w ro K t1 4 ≤ 36520347436056576 := hne t1
              refine lv_lload hx hb dX5_next_68 (lv_at hl 0 rfl) ?_
              refine lv_lload_n hx hb dX5_next_70 rfl (lv_at hl 4 rfl) ?_
              refine q_lcmp hx hb dX5_next_71 ?_
              refine q_lle (tgt := 81) hx hb dX5_next_72 (by decide) (Nat.lt_of_le_of_lt hnt (by decide)) (Nat.lt_of_le_of_lt hml.1 (by decide)) (fun c_72 => ?_) (fun c_72 => ?_)
              ·
                have hl : lv_has ls 8 [(6, .long (lN (neN w ro K t1 4))), (0, .ref (ad 0)), (1, .int (nI (u_))), (2, .int (nI ((mostN (fun t => neN w ro K t 4) (t1 + 1)).1))), (3, .long (lN ((mostN (fun t => neN w ro K t 4) (t1 + 1)).2))), (5, .int (nI (t1)))] := by rw [show (mostN (fun t => neN w ro K t 4) (t1 + 1)).1 = (mostN (fun t => neN w ro K t 4) t1).1 from congrArg Prod.fst (mostN_n (g := (fun t => neN w ro K t 4)) (Nat.not_lt.mpr c_72)), show (mostN (fun t => neN w ro K t 4) (t1 + 1)).2 = (mostN (fun t => neN w ro K t 4) t1).2 from congrArg Prod.snd (mostN_n (g := (fun t => neN w ro K t 4)) (Nat.not_lt.mpr c_72))]; exact hl
                refine q_iinc (z2 := t1 + 1) (lv' := [(5, .int (nI (t1 + 1))), (6, .long (lN (neN w ro K t1 4))), (0, .ref (ad 0)), (1, .int (nI (u_))), (2, .int (nI ((mostN (fun t => neN w ro K t 4) (t1 + 1)).1))), (3, .long (lN ((mostN (fun t => neN w ro K t 4) (t1 + 1)).2)))]) hx hb dX5_next_81 hl (k := 5) rfl (inc_up _ 1 (by decide)) (by decide) rfl (fun ls hl => ?_)
                refine lv_goto (tgt := 47) hx hb dX5_next_84 (by decide) ?_
                exact ih_47 (t1 + 1) (by omega) (by omega) _ _ hW _ (lv_sub hl [2, 3, 4, 5, 0] rfl)
              ·
                refine lv_lload hx hb dX5_next_75 (lv_at hl 0 rfl) ?_
                refine lv_lstore_n (lv' := [(3, .long (lN (neN w ro K t1 4))), (6, .long (lN (neN w ro K t1 4))), (0, .ref (ad 0)), (1, .int (nI (u_))), (2, .int (nI ((mostN (fun t => neN w ro K t 4) t1).1))), (5, .int (nI (t1)))]) hx hb dX5_next_77 rfl hl (by decide) rfl (fun ls hl => ?_)
                refine lv_iload hx hb dX5_next_78 (lv_at hl 5 rfl) ?_
                refine lv_istore_n (lv' := [(2, .int (nI (t1))), (3, .long (lN (neN w ro K t1 4))), (6, .long (lN (neN w ro K t1 4))), (0, .ref (ad 0)), (1, .int (nI (u_))), (5, .int (nI (t1)))]) hx hb dX5_next_80 rfl hl (by decide) rfl (fun ls hl => ?_)
                have hl : lv_has ls 8 [(2, .int (nI ((mostN (fun t => neN w ro K t 4) (t1 + 1)).1))), (3, .long (lN ((mostN (fun t => neN w ro K t 4) (t1 + 1)).2))), (6, .long (lN (neN w ro K t1 4))), (0, .ref (ad 0)), (1, .int (nI (u_))), (5, .int (nI (t1)))] := by rw [show (mostN (fun t => neN w ro K t 4) (t1 + 1)).1 = t1 from congrArg Prod.fst (mostN_y (g := (fun t => neN w ro K t 4)) c_72), show (mostN (fun t => neN w ro K t 4) (t1 + 1)).2 = neN w ro K t1 4 from congrArg Prod.snd (mostN_y (g := (fun t => neN w ro K t 4)) c_72)]; exact hl
                refine q_iinc (z2 := t1 + 1) (lv' := [(5, .int (nI (t1 + 1))), (2, .int (nI ((mostN (fun t => neN w ro K t 4) (t1 + 1)).1))), (3, .long (lN ((mostN (fun t => neN w ro K t 4) (t1 + 1)).2))), (6, .long (lN (neN w ro K t1 4))), (0, .ref (ad 0)), (1, .int (nI (u_)))]) hx hb dX5_next_81 hl (k := 5) rfl (inc_up _ 1 (by decide)) (by decide) rfl (fun ls hl => ?_)
                refine lv_goto (tgt := 47) hx hb dX5_next_84 (by decide) ?_
                exact ih_47 (t1 + 1) (by omega) (by omega) _ _ hW _ (lv_sub hl [4, 5, 1, 2, 0] rfl)
        exact lp_47 (4 + 1) 0 (by omega) (by omega) _ _ hW _ (lv_sub hl [3, 4, 2, 1, 0] rfl)
      ·
        refine lv_ldc2 (v := -5) hx hb hC.2.2.2.1 (hC.2.2.2.2 _ gw_410) dX5_next_25 ?_
        exact q_lret2 hC hW hr hlk0 (PR_l (a' := (-5, ((w, K, ro), hc, hi, sv, pn, ch))) (by simp only [aNext, rng_nI hu_ (by decide), if_pos (show K = 6 by omega)]) ⟨rfl, PA_0 hI0⟩) dX5_next_28
    ·
      have hv_ : rng what 2 = none := rng_none.mpr (by simp only [Int32.lt_iff_toInt_lt, Int32.le_iff_toInt_le, ← Int32.toInt_inj, nT0, nT1, nT2, nT3, nT4, nT5, nT6, nT7, nT8, nT9, nT10, nT33, nT36, nT42, nT58, nT80, nT126, nT255, i_m1, i_m2, Int32.toInt_zero, Int32.toInt_one] at c_1 c_6; omega)
      refine lv_ldc2 (v := -2) hx hb hC.2.2.2.1 (hC.2.2.2.2 _ gw_409) dX5_next_9 ?_
      exact q_lret2 hC hW hr hlk0 (PR_l (a' := (-2, ((w, K, ro), hc, hi, sv, pn, ch))) (by simp only [aNext, hv_]) ⟨rfl, PA_0 hI0⟩) dX5_next_12
set_option maxRecDepth 100000 in
set_option maxHeartbeats 4000000 in
theorem k_slip (l : Launch) (G : Gx) (n : Nat) (ad : Nat → Nat) (sz : Nat) (I : Ic) (L : Lc) (R : Rc) (what : Int32) (w : Nat → Nat) (K : Nat) (ro : Nat → Nat) (hc : Nat) (hi : Nat → CM) (sv : Nat → Option CM) (pn : Nat) (ch : Nat → Nat) (hI0 : InvA n I L R ((w, K, ro), hc, hi, sv, pn, ch)) : Met l yX5_slip (Cond.code yX5_slip cX5_slip 10 (some .long) :: GW) ({ frames := 6, cells := 0, slots := 0, locals := 216 } : Room) (qPre G n ad sz I L R [.ref (ad 0), .int (what)]) (qL2 G (qA n ad sz) (fun z u => PRl n ad I L R (aSlip (w, K, ro) what, ((w, K, ro), hc, hi, sv, pn, ch)) z u)) 0 0 (qA n ad sz) := by
  refine q_met (by decide) (Nat.le_of_ble_eq_true rfl) ?_
  intro p_ e_ s m_ below meth c_ hC hr hlk0 hin hsz hW ls hl
  subst hsz
  have hC : CallFix p_ m_ c_ cX5_slip 10 s ([.ref (ad 0), .int (what)] : List Value).toArray GW "CoinRows" := hC
  have hx := hC.1
  have hb := hC.2.1
  have hn : 83 ≤ n := hI0.1
  have hlk : LkOK n R := hI0.2.1
  have hM : MdI I w K ro := hI0.2.2.1
  have hSI : SI L := hI0.2.2.2.1
  have hPd : PadI I pn ch := hI0.2.2.2.2.1
  have hHi : HiA I R hc hi := hI0.2.2.2.2.2.1
  have hSv : SvA n I R sv := hI0.2.2.2.2.2.2
  have hh1 := hHi.1
  have hh6 := hHi.2.1
  have hp80 := hPd.2.1
  have hk6 : K ≤ 6 := hM.2.2.2.1
  have hw3 : ∀ i, w i ≤ 3 := hM.2.2.2.2.1.1
  have hr4 : ∀ j, ro j < 4 := hM.2.2.2.2.2
  have hT63 : Sx' w K ro K 6 < 2 ^ 63 := Nat.lt_of_le_of_lt (Sx_b hM.2.2.2.2.1 K K 6 hk6) (by decide)
  have hC31 : Cx' w K ro K 6 < 2 ^ 31 := Nat.lt_of_le_of_lt (Cx_b hM.2.2.2.2.1 K K 6 hk6) (by decide)
  have hCT : (nI (Cx' w K ro K 6)).toInt = (Cx' w K ro K 6 : Int) := nI_toInt hC31
  have hw := hM.2.2.2.2.1
  have hl : lv_has ls 10 [(0, .ref (ad 0)), (1, .int (what))] := hl
  refine lv_iload_n hx hb dX5_slip_0 rfl (lv_at hl 1 rfl) ?_
  refine lv_if_lt (tgt := 9) hx hb dX5_slip_1 (by decide) (fun c_1 => ?_) (fun c_1 => ?_)
  ·
    have hv_ : rng what 3 = none := rng_none.mpr (by simp only [Int32.lt_iff_toInt_lt, Int32.le_iff_toInt_le, ← Int32.toInt_inj, nT0, nT1, nT2, nT3, nT4, nT5, nT6, nT7, nT8, nT9, nT10, nT33, nT36, nT42, nT58, nT80, nT126, nT255, i_m1, i_m2, Int32.toInt_zero, Int32.toInt_one] at c_1; omega)
    refine lv_ldc2 (v := -2) hx hb hC.2.2.2.1 (hC.2.2.2.2 _ gw_409) dX5_slip_9 ?_
    exact q_lret2 hC hW hr hlk0 (PR_l (a' := (-2, ((w, K, ro), hc, hi, sv, pn, ch))) (by simp only [aSlip, hv_]) ⟨rfl, PA_0 hI0⟩) dX5_slip_12
  ·
    refine lv_iload_n hx hb dX5_slip_4 rfl (lv_at hl 1 rfl) ?_
    refine q_ic 2 hx hb dX5_slip_5 (by decide) ?_
    refine lv_icmp_le (tgt := 13) hx hb dX5_slip_6 (by decide) (fun c_6 => ?_) (fun c_6 => ?_)
    ·
      obtain ⟨u_, hu_, rfl⟩ := rng_ex (N := 3) (x := what) (by decide) (by simp only [Int32.lt_iff_toInt_lt, Int32.le_iff_toInt_le, ← Int32.toInt_inj, nT0, nT1, nT2, nT3, nT4, nT5, nT6, nT7, nT8, nT9, nT10, nT33, nT36, nT42, nT58, nT80, nT126, nT255, i_m1, i_m2, Int32.toInt_zero, Int32.toInt_one] at c_1 c_6; omega) (by simp only [Int32.lt_iff_toInt_lt, Int32.le_iff_toInt_le, ← Int32.toInt_inj, nT0, nT1, nT2, nT3, nT4, nT5, nT6, nT7, nT8, nT9, nT10, nT33, nT36, nT42, nT58, nT80, nT126, nT255, i_m1, i_m2, Int32.toInt_zero, Int32.toInt_one] at c_1 c_6; omega)
      refine lv_aload_n hx hb dX5_slip_13 rfl (lv_at hl 0 rfl) ?_
      refine g_5_5 (x := 0) (y := 8) hC hW (by omega) kd_0 gw_135 (hlk 0 5 8 (by omega) rfl) dX5_slip_14 ?_
      refine lv_aload_n hx hb dX5_slip_17 rfl (lv_at hl 0 rfl) ?_
      refine g_5_0 (x := 0) (y := 1) hC hW (by omega) kd_0 gw_130 (hlk 0 0 1 (by omega) rfl) dX5_slip_18 ?_
      refine q_kV1 (q_rV (As := [.ref (ad 1)]) (rest := []) (x := 8) hC hW mw_X2_measure gw_213 (k_measure l G n ad s.heap.size I L R w K ro hn hlk hM hSI) (by omega) (ct_o2 kd_8) rfl ⟨rfl, rfl⟩ ⟨Nat.le_of_ble_eq_true rfl, Nat.le_of_ble_eq_true rfl⟩ ⟨(Nat.le_of_ble_eq_true rfl), (Nat.le_of_ble_eq_true rfl)⟩ hl.1 rfl rfl (Nat.le_of_ble_eq_true rfl) dX5_slip_21) hW (fun I_21 L_21 H locs hp hW => ?_)
      obtain ⟨hMs_21, hLf_21, hIf_21⟩ := hp
      have hM_21 : MdI I_21 w K ro := MdI_fr hM hIf_21
      refine lv_iconst (v := -1) hx hb dX5_slip_24 (by decide) ?_
      refine lv_istore_n (lv' := [(2, .int (-1)), (0, .ref (ad 0)), (1, .int (nI (u_)))]) hx hb dX5_slip_25 rfl hl (by decide) rfl (fun ls hl => ?_)
      refine lv_iconst (v := -1) hx hb dX5_slip_26 (by decide) ?_
      refine lv_istore_n (lv' := [(3, .int (-1)), (2, .int (-1)), (0, .ref (ad 0)), (1, .int (nI (u_)))]) hx hb dX5_slip_27 rfl hl (by decide) rfl (fun ls hl => ?_)
      refine lv_aload_n hx hb dX5_slip_28 rfl (lv_at hl 2 rfl) ?_
      refine g_5_5 (x := 0) (y := 8) hC hW (by omega) kd_0 gw_135 (hlk 0 5 8 (by omega) rfl) dX5_slip_29 ?_
      refine q_kL0 (q_rV (As := []) (rest := []) (x := 8) hC hW mw_X2_whole gw_250 (k_whole l G n ad H.size I_21 L_21 R w K ro hn hlk hM_21 hMs_21) (by omega) (ct_o2 kd_8) rfl ⟨rfl, rfl⟩ ⟨Nat.le_of_ble_eq_true rfl, Nat.le_of_ble_eq_true rfl⟩ ⟨(Nat.le_of_ble_eq_true rfl), (Nat.le_of_ble_eq_true rfl)⟩ hl.1 rfl rfl (Nat.le_of_ble_eq_true rfl) dX5_slip_32) hW (fun r_32 H locs hp hW => ?_)
      subst hp
      refine lv_lstore (lv' := [(4, .long (lN (Sx' w K ro K 6))), (3, .int (-1)), (2, .int (-1)), (0, .ref (ad 0)), (1, .int (nI (u_)))]) hx hb dX5_slip_35 hl (by decide) rfl (fun ls hl => ?_)
      have hzB : (Sx' w K ro K 6) ≤ 36520347436056576 := Sx_b hw K K 6 hk6
      have hgB : ∀ p t, p < K → t < 4 → (fun p t => chN w ro K p t 4) p t ≤ 36520347436056576 := fun p t hp ht => by show chN w ro K p t 4 ≤ _; rw [chN_eq hw hp]; exact Sx_b hw K K 6 hk6
      refine q_ic 0 hx hb dX5_slip_37 (by decide) ?_
      refine lv_istore (lv' := [(6, .int (nI 0)), (4, .long (lN (Sx' w K ro K 6))), (3, .int (-1)), (2, .int (-1)), (0, .ref (ad 0)), (1, .int (nI (u_)))]) hx hb dX5_slip_38 hl (by decide) rfl (fun ls hl => ?_)
      have lp_40 : ∀ (fu_40 : Nat) (p1 : Nat), K - p1 < fu_40 → (p1 ≤ K) → ∀ (H : Heap) (locs : List Loc), Wd G n ad I_21 L_21 R (qA n ad s.heap.size) s.heap H locs s → ∀ ls : Array Slot, lv_has ls 10 [(0, .ref (ad 0)), (1, .int (nI (u_))), (2, .int (plI (slN (fun p t => chN w ro K p t 4) (Sx' w K ro K 6) (4 * p1)).1)), (3, .int (pl2 (slN (fun p t => chN w ro K p t 4) (Sx' w K ro K 6) (4 * p1)).1)), (4, .long (lN ((slN (fun p t => chN w ro K p t 4) (Sx' w K ro K 6) (4 * p1)).2))), (6, .int (nI (p1)))] → W p_ l e_ ({ frames := 6, cells := 0, slots := 0, locals := 216 } : Room) s m_ ([.ref (ad 0), .int (nI (u_))] : List Value).toArray below meth c_ H locs 0 0 (MQ below (qL2 G (qA n ad s.heap.size) (fun z u => PRl n ad I L R (aSlip (w, K, ro) (nI u_), ((w, K, ro), hc, hi, sv, pn, ch)) z u)) ([.ref (ad 0), .int (nI (u_))] : List Value).toArray s 0 0 (qA n ad s.heap.size)) (F0 m_ 40 ls []) := by
        intro fu_40
        induction fu_40 with
        | zero =>
          intro p1 hm; exact absurd hm (Nat.not_lt_zero _)
        | succ fu_40 ih_40 =>
          intro p1 hm_40 hpK H locs hW ls hl
          refine lv_iload hx hb dX5_slip_40 (lv_at hl 5 rfl) ?_
          refine lv_aload_n hx hb dX5_slip_42 rfl (lv_at hl 0 rfl) ?_
          refine g_5_0 (x := 0) (y := 1) hC hW (by omega) kd_0 gw_130 (hlk 0 0 1 (by omega) rfl) dX5_slip_43 ?_
          refine g_0_2 (x := 1) hC hW (by omega) kd_1 gw_34 dX5_slip_46 ?_
          refine q_top (v2 := .int (nI (K))) (congrArg _ hM_21.2.1) ?_
          refine q_cge (tgt := 108) hx hb dX5_slip_49 (by decide) (by first | omega | exact Nat.lt_of_le_of_lt (hw3 _) (by decide)) (by first | omega | exact Nat.lt_of_le_of_lt (hw3 _) (by decide)) (fun c_49 => ?_) (fun c_49 => ?_)
          ·
            have heK : (slN (fun p t => chN w ro K p t 4) (Sx' w K ro K 6) (4 * K)) = (slN (fun p t => chN w ro K p t 4) (Sx' w K ro K 6) (4 * p1)) := by rw [show p1 = K by omega]
            have hl : lv_has ls 10 [(0, .ref (ad 0)), (1, .int (nI (u_))), (2, .int (plI (slN (fun p t => chN w ro K p t 4) (Sx' w K ro K 6) (4 * K)).1)), (3, .int (pl2 (slN (fun p t => chN w ro K p t 4) (Sx' w K ro K 6) (4 * K)).1)), (4, .long (lN ((slN (fun p t => chN w ro K p t 4) (Sx' w K ro K 6) (4 * K)).2))), (6, .int (nI (p1)))] := by rw [heK, show pl2 (slN (fun p t => chN w ro K p t 4) (Sx' w K ro K 6) (4 * p1)).1 = pl2 (slN (fun p t => chN w ro K p t 4) (Sx' w K ro K 6) (4 * p1)).1 from rfl, show (slN (fun p t => chN w ro K p t 4) (Sx' w K ro K 6) (4 * p1)).2 = (slN (fun p t => chN w ro K p t 4) (Sx' w K ro K 6) (4 * p1)).2 from rfl]; exact hl
            have hsle := slN_le (g := (fun p t => chN w ro K p t 4)) hzB hgB (4 * K) (Nat.le_refl _)
            rcases hsl : (slN (fun p t => chN w ro K p t 4) (Sx' w K ro K 6) (4 * K)).1 with _ | q_
            ·
              rw [hsl] at hl
              have hl : lv_has ls 10 [(0, .ref (ad 0)), (1, .int (nI (u_))), (2, .int (-1)), (3, .int (-1)), (4, .long (lN ((slN (fun p t => chN w ro K p t 4) (Sx' w K ro K 6) (4 * K)).2))), (6, .int (nI (p1)))] := hl
              refine lv_iload_n hx hb dX5_slip_108 rfl (lv_at hl 2 rfl) ?_
              refine lv_if_ge (tgt := 116) hx hb dX5_slip_109 (by decide) (fun c_109 => absurd c_109 (by decide)) (fun c_109 => ?_)
              refine lv_ldc2 (v := -6) hx hb hC.2.2.2.1 (hC.2.2.2.2 _ gw_448) dX5_slip_112 ?_
              exact q_lret2 hC hW hr hlk0 (PR_l (a' := (-6, ((w, K, ro), hc, hi, sv, pn, ch))) (by simp only [aSlip, rng_nI hu_ (by decide), slM, aTot, hsl]) ⟨rfl, PA_q hI0 (fun a ha => hIf_21 a (by omega)) hMs_21.2.2.2 (fun a ha => hLf_21 a (by omega))⟩) dX5_slip_115
            ·
              rw [hsl] at hl
              have hl : lv_has ls 10 [(0, .ref (ad 0)), (1, .int (nI (u_))), (2, .int (nI (q_.1))), (3, .int (nI (q_.2))), (4, .long (lN ((slN (fun p t => chN w ro K p t 4) (Sx' w K ro K 6) (4 * K)).2))), (6, .int (nI (p1)))] := hl
              have hq := hsle.2 q_ hsl
              have hq1 := hq.1
              have hq2 := hq.2
              refine lv_iload_n hx hb dX5_slip_108 rfl (lv_at hl 2 rfl) ?_
              refine lv_if_ge (tgt := 116) hx hb dX5_slip_109 (by decide) (fun c_109 => ?_) (fun c_109 => absurd (Int32.not_lt.mp (nI_pos (by omega))) c_109)
              refine lv_iload_n hx hb dX5_slip_116 rfl (lv_at hl 1 rfl) ?_
              refine q_ine (tgt := 123) hx hb dX5_slip_117 (by decide) (by first | omega | exact Nat.lt_of_le_of_lt (hw3 _) (by decide)) (fun c_117 => ?_) (fun c_117 => ?_)
              ·
                refine lv_iload_n hx hb dX5_slip_123 rfl (lv_at hl 1 rfl) ?_
                refine q_ic 1 hx hb dX5_slip_124 (by decide) ?_
                refine q_cne (tgt := 133) hx hb dX5_slip_125 (by decide) (by first | omega | exact Nat.lt_of_le_of_lt (hw3 _) (by decide)) (by first | omega | exact Nat.lt_of_le_of_lt (hw3 _) (by decide)) (fun c_125 => ?_) (fun c_125 => ?_)
                ·
                  refine lv_lload hx hb dX5_slip_133 (lv_at hl 4 rfl) ?_
                  exact q_lret2 hC hW hr hlk0 (PR_l (a' := (lN (slN (fun p t => chN w ro K p t 4) (Sx' w K ro K 6) (4 * K)).2, ((w, K, ro), hc, hi, sv, pn, ch))) (by simp only [aSlip, rng_nI hu_ (by decide), slM, aTot, hsl, if_neg (show ¬ u_ = 0 from c_117), if_neg (show ¬ u_ = 1 from c_125)]) ⟨rfl, PA_q hI0 (fun a ha => hIf_21 a (by omega)) hMs_21.2.2.2 (fun a ha => hLf_21 a (by omega))⟩) dX5_slip_135
                ·
                  refine lv_iload_n hx hb dX5_slip_128 rfl (lv_at hl 3 rfl) ?_
                  refine q_i2l hx hb dX5_slip_129 (by first | omega | exact Nat.lt_of_le_of_lt (hw3 _) (by decide)) ?_
                  refine lv_goto (tgt := 135) hx hb dX5_slip_130 (by decide) ?_
                  exact q_lret2 hC hW hr hlk0 (PR_l (a' := (lN q_.2, ((w, K, ro), hc, hi, sv, pn, ch))) (by simp only [aSlip, rng_nI hu_ (by decide), slM, aTot, hsl, if_neg (show ¬ u_ = 0 from c_117), if_pos (show u_ = 1 from c_125)]) ⟨rfl, PA_q hI0 (fun a ha => hIf_21 a (by omega)) hMs_21.2.2.2 (fun a ha => hLf_21 a (by omega))⟩) dX5_slip_135
              ·
                refine lv_iload_n hx hb dX5_slip_120 rfl (lv_at hl 2 rfl) ?_
                refine q_i2l hx hb dX5_slip_121 (by first | omega | exact Nat.lt_of_le_of_lt (hw3 _) (by decide)) ?_
                exact q_lret2 hC hW hr hlk0 (PR_l (a' := (lN q_.1, ((w, K, ro), hc, hi, sv, pn, ch))) (by simp only [aSlip, rng_nI hu_ (by decide), slM, aTot, hsl, if_pos (show u_ = 0 from c_117)]) ⟨rfl, PA_q hI0 (fun a ha => hIf_21 a (by omega)) hMs_21.2.2.2 (fun a ha => hLf_21 a (by omega))⟩) dX5_slip_122
          ·
            refine q_ic 0 hx hb dX5_slip_52 (by decide) ?_
            refine lv_istore (lv' := [(7, .int (nI 0)), (0, .ref (ad 0)), (1, .int (nI (u_))), (2, .int (plI (slN (fun p t => chN w ro K p t 4) (Sx' w K ro K 6) (4 * p1)).1)), (3, .int (pl2 (slN (fun p t => chN w ro K p t 4) (Sx' w K ro K 6) (4 * p1)).1)), (4, .long (lN ((slN (fun p t => chN w ro K p t 4) (Sx' w K ro K 6) (4 * p1)).2))), (6, .int (nI (p1)))]) hx hb dX5_slip_53 hl (by decide) rfl (fun ls hl => ?_)
            have lp_55 : ∀ (fu_55 : Nat) (t1 : Nat), 4 - t1 < fu_55 → (t1 ≤ 4) → ∀ (H : Heap) (locs : List Loc), Wd G n ad I_21 L_21 R (qA n ad s.heap.size) s.heap H locs s → ∀ ls : Array Slot, lv_has ls 10 [(0, .ref (ad 0)), (1, .int (nI (u_))), (2, .int (plI (slN (fun p t => chN w ro K p t 4) (Sx' w K ro K 6) (4 * p1 + t1)).1)), (3, .int (pl2 (slN (fun p t => chN w ro K p t 4) (Sx' w K ro K 6) (4 * p1 + t1)).1)), (4, .long (lN ((slN (fun p t => chN w ro K p t 4) (Sx' w K ro K 6) (4 * p1 + t1)).2))), (6, .int (nI (p1))), (7, .int (nI (t1)))] → W p_ l e_ ({ frames := 6, cells := 0, slots := 0, locals := 216 } : Room) s m_ ([.ref (ad 0), .int (nI (u_))] : List Value).toArray below meth c_ H locs 0 0 (MQ below (qL2 G (qA n ad s.heap.size) (fun z u => PRl n ad I L R (aSlip (w, K, ro) (nI u_), ((w, K, ro), hc, hi, sv, pn, ch)) z u)) ([.ref (ad 0), .int (nI (u_))] : List Value).toArray s 0 0 (qA n ad s.heap.size)) (F0 m_ 55 ls []) := by
              intro fu_55
              induction fu_55 with
              | zero =>
                intro t1 hm; exact absurd hm (Nat.not_lt_zero _)
              | succ fu_55 ih_55 =>
                intro t1 hm_55 ht4 H locs hW ls hl
                refine lv_iload hx hb dX5_slip_55 (lv_at hl 6 rfl) ?_
                refine q_ic 4 hx hb dX5_slip_57 (by decide) ?_
                refine q_cge (tgt := 102) hx hb dX5_slip_58 (by decide) (by first | omega | exact Nat.lt_of_le_of_lt (hw3 _) (by decide)) (by first | omega | exact Nat.lt_of_le_of_lt (hw3 _) (by decide)) (fun c_58 => ?_) (fun c_58 => ?_)
                ·
                  have e4 : t1 = 4 := by omega
                  subst e4
                  have he4 : (slN (fun p t => chN w ro K p t 4) (Sx' w K ro K 6) (4 * (p1 + 1))) = (slN (fun p t => chN w ro K p t 4) (Sx' w K ro K 6) (4 * p1 + 4)) := by rw [show 4 * (p1 + 1) = 4 * p1 + 4 by omega]
                  have hl : lv_has ls 10 [(0, .ref (ad 0)), (1, .int (nI (u_))), (2, .int (plI (slN (fun p t => chN w ro K p t 4) (Sx' w K ro K 6) (4 * (p1 + 1))).1)), (3, .int (pl2 (slN (fun p t => chN w ro K p t 4) (Sx' w K ro K 6) (4 * (p1 + 1))).1)), (4, .long (lN ((slN (fun p t => chN w ro K p t 4) (Sx' w K ro K 6) (4 * (p1 + 1))).2))), (6, .int (nI (p1))), (7, .int (nI 4))] := by rw [he4, show pl2 (slN (fun p t => chN w ro K p t 4) (Sx' w K ro K 6) (4 * p1 + 4)).1 = pl2 (slN (fun p t => chN w ro K p t 4) (Sx' w K ro K 6) (4 * p1 + 4)).1 from rfl, show (slN (fun p t => chN w ro K p t 4) (Sx' w K ro K 6) (4 * p1 + 4)).2 = (slN (fun p t => chN w ro K p t 4) (Sx' w K ro K 6) (4 * p1 + 4)).2 from rfl]; exact hl
                  refine q_iinc (z2 := p1 + 1) (lv' := [(6, .int (nI (p1 + 1))), (0, .ref (ad 0)), (1, .int (nI (u_))), (2, .int (plI (slN (fun p t => chN w ro K p t 4) (Sx' w K ro K 6) (4 * (p1 + 1))).1)), (3, .int (pl2 (slN (fun p t => chN w ro K p t 4) (Sx' w K ro K 6) (4 * (p1 + 1))).1)), (4, .long (lN ((slN (fun p t => chN w ro K p t 4) (Sx' w K ro K 6) (4 * (p1 + 1))).2))), (7, .int (nI 4))]) hx hb dX5_slip_102 hl (k := 5) rfl (inc_up _ 1 (by decide)) (by decide) rfl (fun ls hl => ?_)
                  refine lv_goto (tgt := 40) hx hb dX5_slip_105 (by decide) ?_
                  exact ih_40 (p1 + 1) (by omega) (by omega) _ _ hW _ (lv_sub hl [1, 2, 3, 4, 5, 0] rfl)
                ·
                  refine lv_aload_n hx hb dX5_slip_61 rfl (lv_at hl 0 rfl) ?_
                  refine g_5_5 (x := 0) (y := 8) hC hW (by omega) kd_0 gw_135 (hlk 0 5 8 (by omega) rfl) dX5_slip_62 ?_
                  refine lv_aload_n hx hb dX5_slip_65 rfl (lv_at hl 0 rfl) ?_
                  refine g_5_0 (x := 0) (y := 1) hC hW (by omega) kd_0 gw_130 (hlk 0 0 1 (by omega) rfl) dX5_slip_66 ?_
                  refine lv_iload hx hb dX5_slip_69 (lv_at hl 5 rfl) ?_
                  refine lv_iload hx hb dX5_slip_71 (lv_at hl 6 rfl) ?_
                  refine q_kL0 (q_rV (As := [.ref (ad 1), .int (nI (p1)), .int (nI (t1))]) (rest := []) (x := 8) hC hW mw_X2_wholeIfChanged gw_453 (k_ifCh l G n ad H.size I_21 L_21 R _ _ w K ro hn hlk hM_21 hMs_21 (by omega) (by omega)) (by omega) (ct_o2 kd_8) rfl ⟨rfl, rfl⟩ ⟨Nat.le_of_ble_eq_true rfl, Nat.le_of_ble_eq_true rfl⟩ ⟨(Nat.le_of_ble_eq_true rfl), (Nat.le_of_ble_eq_true rfl)⟩ hl.1 rfl rfl (Nat.le_of_ble_eq_true rfl) dX5_slip_73) hW (fun r_73 H locs hp hW => ?_)
                  subst hp
                  refine lv_lstore (lv' := [(8, .long (lN (chN w ro K p1 t1 4))), (0, .ref (ad 0)), (1, .int (nI (u_))), (2, .int (plI (slN (fun p t => chN w ro K p t 4) (Sx' w K ro K 6) (4 * p1 + t1)).1)), (3, .int (pl2 (slN (fun p t => chN w ro K p t 4) (Sx' w K ro K 6) (4 * p1 + t1)).1)), (4, .long (lN ((slN (fun p t => chN w ro K p t 4) (Sx' w K ro K 6) (4 * p1 + t1)).2))), (6, .int (nI (p1))), (7, .int (nI (t1)))]) hx hb dX5_slip_76 hl (by decide) rfl (fun ls hl => ?_)
                  have hml := (slN_le (g := (fun p t => chN w ro K p t 4)) hzB hgB (4 * p1 + t1) (by omega)).1
                  have hnt : chN w ro K p1 t1 4 ≤ 36520347436056576 := hgB p1 t1 (by omega) (by omega)
                  refine lv_lload hx hb dX5_slip_78 (lv_at hl 0 rfl) ?_
                  refine lv_lload hx hb dX5_slip_80 (lv_at hl 5 rfl) ?_
                  refine q_lcmp hx hb dX5_slip_82 ?_
                  refine q_lle (tgt := 96) hx hb dX5_slip_83 (by decide) (Nat.lt_of_le_of_lt hnt (by decide)) (Nat.lt_of_le_of_lt hml (by decide)) (fun c_83 => ?_) (fun c_83 => ?_)
                  ·
                    have hse := slN_n (g := (fun p t => chN w ro K p t 4)) (by omega) (Nat.not_lt.mpr c_83)
                    have hl : lv_has ls 10 [(8, .long (lN (chN w ro K p1 t1 4))), (0, .ref (ad 0)), (1, .int (nI (u_))), (2, .int (plI (slN (fun p t => chN w ro K p t 4) (Sx' w K ro K 6) (4 * p1 + t1 + 1)).1)), (3, .int (pl2 (slN (fun p t => chN w ro K p t 4) (Sx' w K ro K 6) (4 * p1 + t1 + 1)).1)), (4, .long (lN ((slN (fun p t => chN w ro K p t 4) (Sx' w K ro K 6) (4 * p1 + t1 + 1)).2))), (6, .int (nI (p1))), (7, .int (nI (t1)))] := by rw [show plI (slN (fun p t => chN w ro K p t 4) (Sx' w K ro K 6) (4 * p1 + t1 + 1)).1 = plI (slN (fun p t => chN w ro K p t 4) (Sx' w K ro K 6) (4 * p1 + t1)).1 from congrArg (fun z => plI z.1) hse, show pl2 (slN (fun p t => chN w ro K p t 4) (Sx' w K ro K 6) (4 * p1 + t1 + 1)).1 = pl2 (slN (fun p t => chN w ro K p t 4) (Sx' w K ro K 6) (4 * p1 + t1)).1 from congrArg (fun z => pl2 z.1) hse, show (slN (fun p t => chN w ro K p t 4) (Sx' w K ro K 6) (4 * p1 + t1 + 1)).2 = (slN (fun p t => chN w ro K p t 4) (Sx' w K ro K 6) (4 * p1 + t1)).2 from congrArg Prod.snd hse]; exact hl
                    refine q_iinc (z2 := t1 + 1) (lv' := [(7, .int (nI (t1 + 1))), (8, .long (lN (chN w ro K p1 t1 4))), (0, .ref (ad 0)), (1, .int (nI (u_))), (2, .int (plI (slN (fun p t => chN w ro K p t 4) (Sx' w K ro K 6) (4 * p1 + t1 + 1)).1)), (3, .int (pl2 (slN (fun p t => chN w ro K p t 4) (Sx' w K ro K 6) (4 * p1 + t1 + 1)).1)), (4, .long (lN ((slN (fun p t => chN w ro K p t 4) (Sx' w K ro K 6) (4 * p1 + t1 + 1)).2))), (6, .int (nI (p1)))]) hx hb dX5_slip_96 hl (k := 7) rfl (inc_up _ 1 (by decide)) (by decide) rfl (fun ls hl => ?_)
                    refine lv_goto (tgt := 55) hx hb dX5_slip_99 (by decide) ?_
                    exact ih_55 (t1 + 1) (by omega) (by omega) _ _ hW _ (lv_sub hl [2, 3, 4, 5, 6, 7, 0] rfl)
                  ·
                    refine lv_lload hx hb dX5_slip_86 (lv_at hl 0 rfl) ?_
                    refine lv_lstore (lv' := [(4, .long (lN (chN w ro K p1 t1 4))), (8, .long (lN (chN w ro K p1 t1 4))), (0, .ref (ad 0)), (1, .int (nI (u_))), (2, .int (plI (slN (fun p t => chN w ro K p t 4) (Sx' w K ro K 6) (4 * p1 + t1)).1)), (3, .int (pl2 (slN (fun p t => chN w ro K p t 4) (Sx' w K ro K 6) (4 * p1 + t1)).1)), (6, .int (nI (p1))), (7, .int (nI (t1)))]) hx hb dX5_slip_88 hl (by decide) rfl (fun ls hl => ?_)
                    refine lv_iload hx hb dX5_slip_90 (lv_at hl 6 rfl) ?_
                    refine lv_istore_n (lv' := [(2, .int (nI (p1))), (4, .long (lN (chN w ro K p1 t1 4))), (8, .long (lN (chN w ro K p1 t1 4))), (0, .ref (ad 0)), (1, .int (nI (u_))), (3, .int (pl2 (slN (fun p t => chN w ro K p t 4) (Sx' w K ro K 6) (4 * p1 + t1)).1)), (6, .int (nI (p1))), (7, .int (nI (t1)))]) hx hb dX5_slip_92 rfl hl (by decide) rfl (fun ls hl => ?_)
                    refine lv_iload hx hb dX5_slip_93 (lv_at hl 7 rfl) ?_
                    refine lv_istore_n (lv' := [(3, .int (nI (t1))), (2, .int (nI (p1))), (4, .long (lN (chN w ro K p1 t1 4))), (8, .long (lN (chN w ro K p1 t1 4))), (0, .ref (ad 0)), (1, .int (nI (u_))), (6, .int (nI (p1))), (7, .int (nI (t1)))]) hx hb dX5_slip_95 rfl hl (by decide) rfl (fun ls hl => ?_)
                    have hse := slN_y (g := (fun p t => chN w ro K p t 4)) (by omega) c_83
                    have hl : lv_has ls 10 [(3, .int (pl2 (slN (fun p t => chN w ro K p t 4) (Sx' w K ro K 6) (4 * p1 + t1 + 1)).1)), (2, .int (plI (slN (fun p t => chN w ro K p t 4) (Sx' w K ro K 6) (4 * p1 + t1 + 1)).1)), (4, .long (lN ((slN (fun p t => chN w ro K p t 4) (Sx' w K ro K 6) (4 * p1 + t1 + 1)).2))), (8, .long (lN (chN w ro K p1 t1 4))), (0, .ref (ad 0)), (1, .int (nI (u_))), (6, .int (nI (p1))), (7, .int (nI (t1)))] := by rw [show plI (slN (fun p t => chN w ro K p t 4) (Sx' w K ro K 6) (4 * p1 + t1 + 1)).1 = nI p1 from congrArg (fun z => plI z.1) hse, show pl2 (slN (fun p t => chN w ro K p t 4) (Sx' w K ro K 6) (4 * p1 + t1 + 1)).1 = nI t1 from congrArg (fun z => pl2 z.1) hse, show (slN (fun p t => chN w ro K p t 4) (Sx' w K ro K 6) (4 * p1 + t1 + 1)).2 = chN w ro K p1 t1 4 from congrArg Prod.snd hse]; exact hl
                    refine q_iinc (z2 := t1 + 1) (lv' := [(7, .int (nI (t1 + 1))), (3, .int (pl2 (slN (fun p t => chN w ro K p t 4) (Sx' w K ro K 6) (4 * p1 + t1 + 1)).1)), (2, .int (plI (slN (fun p t => chN w ro K p t 4) (Sx' w K ro K 6) (4 * p1 + t1 + 1)).1)), (4, .long (lN ((slN (fun p t => chN w ro K p t 4) (Sx' w K ro K 6) (4 * p1 + t1 + 1)).2))), (8, .long (lN (chN w ro K p1 t1 4))), (0, .ref (ad 0)), (1, .int (nI (u_))), (6, .int (nI (p1)))]) hx hb dX5_slip_96 hl (k := 7) rfl (inc_up _ 1 (by decide)) (by decide) rfl (fun ls hl => ?_)
                    refine lv_goto (tgt := 55) hx hb dX5_slip_99 (by decide) ?_
                    exact ih_55 (t1 + 1) (by omega) (by omega) _ _ hW _ (lv_sub hl [5, 6, 2, 1, 3, 7, 0] rfl)
            exact lp_55 (4 + 1) 0 (by omega) (by omega) _ _ hW _ (lv_sub hl [1, 2, 3, 4, 5, 6, 0] rfl)
      exact lp_40 (K + 1) 0 (by omega) (by omega) _ _ hW _ (lv_sub hl [4, 5, 3, 2, 1, 0] rfl)
    ·
      have hv_ : rng what 3 = none := rng_none.mpr (by simp only [Int32.lt_iff_toInt_lt, Int32.le_iff_toInt_le, ← Int32.toInt_inj, nT0, nT1, nT2, nT3, nT4, nT5, nT6, nT7, nT8, nT9, nT10, nT33, nT36, nT42, nT58, nT80, nT126, nT255, i_m1, i_m2, Int32.toInt_zero, Int32.toInt_one] at c_1 c_6; omega)
      refine lv_ldc2 (v := -2) hx hb hC.2.2.2.1 (hC.2.2.2.2 _ gw_409) dX5_slip_9 ?_
      exact q_lret2 hC hW hr hlk0 (PR_l (a' := (-2, ((w, K, ro), hc, hi, sv, pn, ch))) (by simp only [aSlip, hv_]) ⟨rfl, PA_0 hI0⟩) dX5_slip_12
set_option maxRecDepth 100000 in
set_option maxHeartbeats 4000000 in
theorem k_train (l : Launch) (G : Gx) (n : Nat) (ad : Nat → Nat) (sz : Nat) (I : Ic) (L : Lc) (R : Rc)  (w : Nat → Nat) (K : Nat) (ro : Nat → Nat) (hc : Nat) (hi : Nat → CM) (sv : Nat → Option CM) (pn : Nat) (ch : Nat → Nat) (hI0 : InvA n I L R ((w, K, ro), hc, hi, sv, pn, ch)) : Met l yX5_train (Cond.code yX5_train cX5_train 1 (some .int) :: GW) ({ frames := 6, cells := 0, slots := 0, locals := 216 } : Room) (qPre G n ad sz I L R [.ref (ad 0)]) (qI2 G (qA n ad sz) (fun z u => PR n ad I L R (aTrain ((w, K, ro), hc, hi, sv, pn, ch)) z u)) 0 0 (qA n ad sz) := by
  refine q_met (by decide) (Nat.le_of_ble_eq_true rfl) ?_
  intro p_ e_ s m_ below meth c_ hC hr hlk0 hin hsz hW ls hl
  subst hsz
  have hC : CallFix p_ m_ c_ cX5_train 1 s ([.ref (ad 0)] : List Value).toArray GW "CoinRows" := hC
  have hx := hC.1
  have hb := hC.2.1
  have hn : 83 ≤ n := hI0.1
  have hlk : LkOK n R := hI0.2.1
  have hM : MdI I w K ro := hI0.2.2.1
  have hSI : SI L := hI0.2.2.2.1
  have hPd : PadI I pn ch := hI0.2.2.2.2.1
  have hHi : HiA I R hc hi := hI0.2.2.2.2.2.1
  have hSv : SvA n I R sv := hI0.2.2.2.2.2.2
  have hh1 := hHi.1
  have hh6 := hHi.2.1
  have hp80 := hPd.2.1
  have hk6 : K ≤ 6 := hM.2.2.2.1
  have hw3 : ∀ i, w i ≤ 3 := hM.2.2.2.2.1.1
  have hr4 : ∀ j, ro j < 4 := hM.2.2.2.2.2
  have hT63 : Sx' w K ro K 6 < 2 ^ 63 := Nat.lt_of_le_of_lt (Sx_b hM.2.2.2.2.1 K K 6 hk6) (by decide)
  have hC31 : Cx' w K ro K 6 < 2 ^ 31 := Nat.lt_of_le_of_lt (Cx_b hM.2.2.2.2.1 K K 6 hk6) (by decide)
  have hCT : (nI (Cx' w K ro K 6)).toInt = (Cx' w K ro K 6 : Int) := nI_toInt hC31
  have hw := hM.2.2.2.2.1
  have hl : lv_has ls 1 [(0, .ref (ad 0))] := hl
  refine lv_aload_n hx hb dX5_train_0 rfl (lv_at hl 0 rfl) ?_
  refine g_5_0 (x := 0) (y := 1) hC hW (by omega) kd_0 gw_130 (hlk 0 0 1 (by omega) rfl) dX5_train_1 ?_
  refine g_0_2 (x := 1) hC hW (by omega) kd_1 gw_34 dX5_train_4 ?_
  refine q_top (v2 := .int (nI (K))) (congrArg _ hM.2.1) ?_
  refine q_ine (tgt := 13) hx hb dX5_train_7 (by decide) (by first | omega | exact Nat.lt_of_le_of_lt (hw3 _) (by decide)) (fun c_7 => ?_) (fun c_7 => ?_)
  ·
    refine lv_aload_n hx hb dX5_train_13 rfl (lv_at hl 0 rfl) ?_
    refine g_5_5 (x := 0) (y := 8) hC hW (by omega) kd_0 gw_135 (hlk 0 5 8 (by omega) rfl) dX5_train_14 ?_
    refine lv_aload_n hx hb dX5_train_17 rfl (lv_at hl 0 rfl) ?_
    refine g_5_0 (x := 0) (y := 1) hC hW (by omega) kd_0 gw_130 (hlk 0 0 1 (by omega) rfl) dX5_train_18 ?_
    refine q_kV1 (q_rV (As := [.ref (ad 1)]) (rest := []) (x := 8) hC hW mw_X2_measure gw_213 (k_measure l G n ad s.heap.size I L R w K ro hn hlk hM hSI) (by omega) (ct_o2 kd_8) rfl ⟨rfl, rfl⟩ ⟨Nat.le_of_ble_eq_true rfl, Nat.le_of_ble_eq_true rfl⟩ ⟨(Nat.le_of_ble_eq_true rfl), (Nat.le_of_ble_eq_true rfl)⟩ hl.1 rfl rfl (Nat.le_of_ble_eq_true rfl) dX5_train_21) hW (fun I_21 L_21 H locs hp hW => ?_)
    obtain ⟨hMs_21, hLf_21, hIf_21⟩ := hp
    have hM_21 : MdI I_21 w K ro := MdI_fr hM hIf_21
    refine lv_aload_n hx hb dX5_train_24 rfl (lv_at hl 0 rfl) ?_
    refine g_5_5 (x := 0) (y := 8) hC hW (by omega) kd_0 gw_135 (hlk 0 5 8 (by omega) rfl) dX5_train_25 ?_
    refine q_kL0 (q_rV (As := []) (rest := []) (x := 8) hC hW mw_X2_whole gw_250 (k_whole l G n ad H.size I_21 L_21 R w K ro hn hlk hM_21 hMs_21) (by omega) (ct_o2 kd_8) rfl ⟨rfl, rfl⟩ ⟨Nat.le_of_ble_eq_true rfl, Nat.le_of_ble_eq_true rfl⟩ ⟨(Nat.le_of_ble_eq_true rfl), (Nat.le_of_ble_eq_true rfl)⟩ hl.1 rfl rfl (Nat.le_of_ble_eq_true rfl) dX5_train_28) hW (fun r_28 H locs hp hW => ?_)
    subst hp
    refine q_lc 0 hx hb dX5_train_31 (by decide) ?_
    refine q_lcmp hx hb dX5_train_32 ?_
    refine q_lne (tgt := 39) hx hb dX5_train_33 (by decide) hT63 (by decide) (fun c_33 => ?_) (fun c_33 => ?_)
    ·
      have hI21 : InvA n I_21 L_21 R ((w, K, ro), hc, hi, sv, pn, ch) := (PA_q (ad := ad) hI0 (fun a ha => hIf_21 a (by omega)) hMs_21.2.2.2 (fun a ha => hLf_21 a (by omega))).1
      refine lv_aload_n hx hb dX5_train_39 rfl (lv_at hl 0 rfl) ?_
      refine q_kV2 (q_rV (As := []) (rest := []) (x := 0) hC hW mw_X5_remember gw_174 (k_remember l G n ad H.size I_21 L_21 R w K ro hc hi sv hn hlk hM_21 hI21.2.2.2.2.2.1 hI21.2.2.2.2.2.2) (by omega) (ct_o5 kd_0) rfl ⟨rfl, rfl⟩ ⟨Nat.le_of_ble_eq_true rfl, Nat.le_of_ble_eq_true rfl⟩ ⟨(Nat.le_of_ble_eq_true rfl), (Nat.le_of_ble_eq_true rfl)⟩ hl.1 rfl rfl (Nat.le_of_ble_eq_true rfl) dX5_train_40) hW (fun n_40 ad_40 I_40 L_40 R_40 H locs hp hW => ?_)
      have hp : RemP n ad I_21 L_21 hc hi sv R (w, K, ro) n_40 ad_40 I_40 L_40 R_40 := hp
      obtain ⟨rfl, rfl, rfl, hlk_40, hHi_40, hSv_40, hf_40, hRf_40⟩ := hp
      have hM_40 : MdI I_40 w K ro := MdA_fr (m := (w, K, ro)) (x := 1) hM_21 (hf_40 1 (by decide) (by decide)) (hf_40 2 (by decide) (by decide)) (hf_40 3 (by decide) (by decide))
      have hMs_40 : Meas w ro K I_40 L_21 := Meas_f2 hMs_21 hk6 (fun a h1 h2 => hf_40 a (by omega) (by omega))
      refine lv_aload_n hx hb dX5_train_43 rfl (lv_at hl 0 rfl) ?_
      refine g_5_7 (x := 0) (y := 51) hC hW (by omega) kd_0 gw_137 (hlk_40 0 7 51 (by omega) rfl) dX5_train_44 ?_
      refine lv_aload_n hx hb dX5_train_47 rfl (lv_at hl 0 rfl) ?_
      refine g_5_0 (x := 0) (y := 1) hC hW (by omega) kd_0 gw_130 (hlk_40 0 0 1 (by omega) rfl) dX5_train_48 ?_
      refine lv_aload_n hx hb dX5_train_51 rfl (lv_at hl 0 rfl) ?_
      refine g_5_5 (x := 0) (y := 8) hC hW (by omega) kd_0 gw_135 (hlk_40 0 5 8 (by omega) rfl) dX5_train_52 ?_
      refine q_kI1 (q_rV (As := [.ref (ad 1), .ref (ad 8)]) (rest := []) (x := 51) hC hW mw_X3_improve gw_254 (k_improve l G n ad H.size I_40 L_21 R_40 w K ro hn hlk_40 hM_40 hMs_40 (exN_BB hw hk6)) (by omega) (ct_o3 kd_51) rfl ⟨rfl, rfl⟩ ⟨Nat.le_of_ble_eq_true rfl, Nat.le_of_ble_eq_true rfl⟩ ⟨(Nat.le_of_ble_eq_true rfl), (Nat.le_of_ble_eq_true rfl)⟩ hl.1 rfl rfl (Nat.le_of_ble_eq_true rfl) dX5_train_55) hW (fun r_55 I_55 L_55 H locs hp hW => ?_)
      obtain ⟨rfl, rfl, hLi⟩ := hp
      exact q_iret2 hC hW hr hlk0 (PR_i (a' := (nI (cntF w (tnew (exN w ro K) w) 0 58), ((mixA w (tnew (exN w ro K) w) 0 58, K, ro), hcN hc, hiN hc hi (w, K, ro), sv, pn, ch))) (by simp only [aTrain, if_neg (show ¬ (K = 0 ∨ aTot (w, K, ro) = 0) from fun h => h.elim c_7 c_33), remS]) ⟨rfl, PA_tr (InvA_rem (m := (mixA w (tnew (exN w ro K) w) 0 58, K, ro)) (I := I_21) (L := L_21) hI21 hlk_40 hHi_40 hSv_40 hf_40 (MdI_wI hM_40 (train_ok hw K)) (fun a ha => wI_ne (by omega)) (SI_lo hMs_21.2.2.2 (fun a ha => hLi a (by omega))) (PadI_lo hPd ((wI_ne (by decide)).trans ((hf_40 6 (by decide) (by decide)).trans (hIf_21 6 (by decide)))) ((wI_ne (by decide)).trans ((hf_40 7 (by decide) (by decide)).trans (hIf_21 7 (by decide))))) (fun a ha => hLi a (by omega))) (fun a h1 h2 => ⟨hIf_21 a (by omega), hLf_21 a (by omega)⟩)⟩) dX5_train_58
    ·
      refine lv_bipush (v := -5) hx hb dX5_train_36 (by decide) ?_
      exact q_iret2 hC hW hr hlk0 (PR_i (a' := (-5, ((w, K, ro), hc, hi, sv, pn, ch))) (by simp only [aTrain, if_pos (show K = 0 ∨ aTot (w, K, ro) = 0 from Or.inr c_33)]) ⟨rfl, PA_q hI0 (fun a ha => hIf_21 a (by omega)) hMs_21.2.2.2 (fun a ha => hLf_21 a (by omega))⟩) dX5_train_38
  ·
    refine lv_bipush (v := -5) hx hb dX5_train_10 (by decide) ?_
    exact q_iret2 hC hW hr hlk0 (PR_i (a' := (-5, ((w, K, ro), hc, hi, sv, pn, ch))) (by simp only [aTrain, if_pos (show K = 0 ∨ aTot (w, K, ro) = 0 from Or.inl c_7)]) ⟨rfl, PA_0 hI0⟩) dX5_train_12
