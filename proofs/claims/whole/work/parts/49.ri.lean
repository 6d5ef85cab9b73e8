theorem NwI_ap {g g' : Nat → Int32} {w : Nat → Nat} {K t : Nat} {ro : Nat → Nat} (h : NwI g w K ro) (hk : K < 6) (ht : t < 4) (hg : ∀ q, g' q = if q = 58 then nI (K + 1) else if q = 60 + K then nI t else g q) : NwI g' w (K + 1) (upN ro K t) := by
  refine ⟨fun i hi => ?_, ?_, fun j hj => ?_, by omega, h.2.2.2.2.1, fun j => ?_⟩
  · rw [hg, if_neg (by omega), if_neg (by omega)]; exact h.1 i hi
  · rw [hg, if_pos rfl]
  · rw [hg, if_neg (by omega)]
    unfold upN
    by_cases e : j = K
    · rw [if_pos (by omega), if_pos e]
    · rw [if_neg (by omega), if_neg e]; exact h.2.2.1 j (by omega)
  · unfold upN; split
    · exact ht
    · exact h.2.2.2.2.2 j
theorem NwI_cut {g g' : Nat → Int32} {w : Nat → Nat} {K : Nat} {ro : Nat → Nat} (h : NwI g w K ro) (hg : ∀ q, g' q = if q = 58 then nI (K - 1) else g q) : NwI g' w (K - 1) ro :=
  ⟨fun i hi => by rw [hg, if_neg (by omega)]; exact h.1 i hi, by rw [hg, if_pos rfl], fun j hj => by rw [hg, if_neg (by omega)]; exact h.2.2.1 j (by omega), by have := h.2.2.2.1; omega, h.2.2.2.2⟩
theorem u2q {f : Ic} {a i : Nat} {x : Int32} (q : Nat) : up2 f a i x a q = if q = i then x else f a q := by
  rw [up2_at]
  by_cases e : q = i
  · rw [if_pos ⟨rfl, e⟩, if_pos e]
  · rw [if_neg (fun y => e y.2), if_neg e]

set_option maxRecDepth 100000 in
set_option maxHeartbeats 4000000 in
theorem k_radd (l : Launch) (G : Gx) (n : Nat) (ad : Nat → Nat) (sz : Nat) (I : Ic) (L : Lc) (R : Rc) (letter : Int32) (w : Nat → Nat) (K : Nat) (ro : Nat → Nat) (hc : Nat) (hi : Nat → CM) (sv : Nat → Option CM) (pn : Nat) (ch : Nat → Nat) (hI0 : InvB n I R ((w, K, ro), hc, hi, sv, pn, ch)) : Met l yX6_add (Cond.code yX6_add cX6_add 2 (some .int) :: GW) ({ frames := 6, cells := 0, slots := 0, locals := 216 } : Room) (qPre G n ad sz I L R [.ref (ad 71), .int (letter)]) (qI1 G (qA n ad sz) n ad R (fun z I1 L1 => RR n I L R (aAdd ((w, K, ro), hc, hi, sv, pn, ch) letter) z I1 L1)) 0 0 (qA n ad sz) := by
  refine q_met (by decide) (Nat.le_of_ble_eq_true rfl) ?_
  intro p_ e_ s m_ below meth c_ hC hr hlk0 hin hsz hW ls hl
  subst hsz
  have hC : CallFix p_ m_ c_ cX6_add 2 s ([.ref (ad 71), .int (letter)] : List Value).toArray GW "CoinRowsModel" := hC
  have hx := hC.1
  have hb := hC.2.1
  have hn : 83 ≤ n := hI0.1
  have hlk : LkOK n R := hI0.2.1
  have hN : NwI (I 72) w K ro := hI0.2.2.1
  have hH : HwB I hc hi := hI0.2.2.2.1
  have hSw : SwB I sv := hI0.2.2.2.2.1
  have hPd : PdB I pn ch := hI0.2.2.2.2.2
  have hh1 := hH.1
  have hh6 := hH.2.1
  have hp80 := hPd.2.1
  have hk6 : K ≤ 6 := hN.2.2.2.1
  have hw : Wok w := hN.2.2.2.2.1
  have hw3 : ∀ i, w i ≤ 3 := hw.1
  have hr4 : ∀ j, ro j < 4 := hN.2.2.2.2.2
  have hl : lv_has ls 2 [(0, .ref (ad 71)), (1, .int (letter))] := hl
  refine lv_iload_n hx hb dX6_add_0 rfl (lv_at hl 1 rfl) ?_
  refine q_ic 0 hx hb dX6_add_1 (by decide) ?_
  refine q_ic 3 hx hb dX6_add_2 (by decide) ?_
  refine q_kI0 (q_rS (As := [.int (letter), .int (nI 0), .int (nI 3)]) (rest := []) hC hW mw_X6_in gw_537 (k_in l G n ad s.heap.size I L R _ _ _) ⟨rfl, rfl⟩ ⟨Nat.le_of_ble_eq_true rfl, Nat.le_of_ble_eq_true rfl⟩ ⟨(Nat.le_of_ble_eq_true rfl), (Nat.le_of_ble_eq_true rfl)⟩ hl.1 rfl rfl (Nat.le_of_ble_eq_true rfl) dX6_add_3) hW (fun r_3 H locs hp hW => ?_)
  rw [show (nI 0).toInt = 0 by decide, (show (nI 3).toInt = 3 by decide)] at hp
  rcases hp with ⟨rfl, hx_3, hy_3⟩ | ⟨rfl, hx_3⟩
  ·
    obtain ⟨k_3, hk_3, rfl⟩ := rng_ex2 (N := 4) (x := letter) (by omega) (by omega) (by omega)
    refine q_ine (tgt := 12) hx hb dX6_add_6 (by decide) (by first | omega | exact Nat.lt_of_le_of_lt (hw3 _) (by decide)) (fun c_6 => ?_) (fun c_6 => absurd c_6 (by decide))
    refine lv_aload_n hx hb dX6_add_12 rfl (lv_at hl 0 rfl) ?_
    refine g_6_0 (x := 71) (y := 72) hC hW (by omega) kd_71 gw_483 (hlk 71 0 72 (by omega) rfl) dX6_add_13 ?_
    refine q_bp 58 hx hb dX6_add_16 (by decide) ?_
    refine q_iald (x := 72) (i := 58) hC hW (by omega) kd_72 (by omega) dX6_add_18 ?_
    refine q_top (v2 := .int (nI (K))) (congrArg _ hN.2.1) ?_
    refine q_bp 6 hx hb dX6_add_19 (by decide) ?_
    refine q_cne (tgt := 27) hx hb dX6_add_21 (by decide) (by first | omega | exact Nat.lt_of_le_of_lt (hw3 _) (by decide)) (by first | omega | exact Nat.lt_of_le_of_lt (hw3 _) (by decide)) (fun c_21 => ?_) (fun c_21 => ?_)
    ·
      refine lv_aload_n hx hb dX6_add_27 rfl (lv_at hl 0 rfl) ?_
      refine q_kV1 (q_rV (As := []) (rest := []) (x := 71) hC hW mw_X6_record gw_546 (k_record l G n ad H.size I L R w K ro hc hi hn hlk hN hH) (by omega) (ct_o6 kd_71) rfl ⟨rfl, rfl⟩ ⟨Nat.le_of_ble_eq_true rfl, Nat.le_of_ble_eq_true rfl⟩ ⟨(Nat.le_of_ble_eq_true rfl), (Nat.le_of_ble_eq_true rfl)⟩ hl.1 rfl rfl (Nat.le_of_ble_eq_true rfl) dX6_add_28) hW (fun I_28 L_28 H locs hp hW => ?_)
      obtain ⟨hHr_28, hf_28, hj_28, rfl⟩ := hp
      have hN_28 : NwI (I_28 72) w K ro := by rw [hf_28 72 (by decide) (by decide)]; exact hN
      refine lv_aload_n hx hb dX6_add_31 rfl (lv_at hl 0 rfl) ?_
      refine g_6_0 (x := 71) (y := 72) hC hW (by omega) kd_71 gw_483 (hlk 71 0 72 (by omega) rfl) dX6_add_32 ?_
      refine q_bp 60 hx hb dX6_add_35 (by decide) ?_
      refine lv_aload_n hx hb dX6_add_37 rfl (lv_at hl 0 rfl) ?_
      refine g_6_0 (x := 71) (y := 72) hC hW (by omega) kd_71 gw_483 (hlk 71 0 72 (by omega) rfl) dX6_add_38 ?_
      refine q_bp 58 hx hb dX6_add_41 (by decide) ?_
      refine q_iald (x := 72) (i := 58) hC hW (by omega) kd_72 (by omega) dX6_add_43 ?_
      refine q_top (v2 := .int (nI (K))) (congrArg _ hN_28.2.1) ?_
      refine q_iadd hx hb dX6_add_44 ?_
      refine lv_iload_n hx hb dX6_add_45 rfl (lv_at hl 1 rfl) ?_
      refine q_iast (x := 72) (i := 60 + K) (v := nI k_3) hC hW (by omega) kd_72 (by omega) dX6_add_46 (fun H locs hW => ?_)
      refine lv_aload_n hx hb dX6_add_47 rfl (lv_at hl 0 rfl) ?_
      refine g_6_0 (x := 71) (y := 72) hC hW (by omega) kd_71 gw_483 (hlk 71 0 72 (by omega) rfl) dX6_add_48 ?_
      refine q_bp 58 hx hb dX6_add_51 (by decide) ?_
      refine lv_dup2_11 hx hb dX6_add_53 rfl rfl ?_
      refine q_iald (x := 72) (i := 58) hC hW (by omega) kd_72 (by omega) dX6_add_54 ?_
      refine q_top (v2 := .int (nI (K))) (congrArg _ (by rw [up2_at, if_neg (by omega)]; exact hN_28.2.1)) ?_
      refine q_ic 1 hx hb dX6_add_55 (by decide) ?_
      refine q_iadd hx hb dX6_add_56 ?_
      refine q_iast (x := 72) (i := 58) (v := nI (K + 1)) hC hW (by omega) kd_72 (by omega) dX6_add_57 (fun H locs hW => ?_)
      refine lv_aload_n hx hb dX6_add_58 rfl (lv_at hl 0 rfl) ?_
      refine g_6_0 (x := 71) (y := 72) hC hW (by omega) kd_71 gw_483 (hlk 71 0 72 (by omega) rfl) dX6_add_59 ?_
      refine q_bp 58 hx hb dX6_add_62 (by decide) ?_
      refine q_iald (x := 72) (i := 58) hC hW (by omega) kd_72 (by omega) dX6_add_64 ?_
      refine q_top (v2 := .int (nI (K + 1))) (congrArg _ (by rw [up2_at, if_pos ⟨rfl, rfl⟩])) ?_
      exact q_iret1 hC hW hr hlk0 (RR_i (a' := (nI (K + 1), ((w, K + 1, upN ro K k_3), hcN hc, hiN hc hi (w, K, ro), sv, pn, ch))) (by simp only [aAdd, rng_nI hk_3 (by decide), if_neg (show ¬ K = 6 by omega), remS]) ⟨rfl, PB_rec (m := (w, K + 1, upN ro K k_3)) hI0 hHr_28 hf_28 (by rw [up2_nr (by decide)] <;> (try rw [up2_nr (by decide)])) (by simp (disch := omega) only [up2_ne]) (by simp (disch := omega) only [up2_ne]) (by simp (disch := omega) only [up2_ne]) (NwI_ap hN_28 (by omega) hk_3 (fun q => by rw [u2q, u2q])) (PdB_fr hPd (by simp (disch := omega) only [up2_nr]; exact hj_28 6 (by decide)) (by simp (disch := omega) only [up2_ne]; exact hf_28 76 (by decide) (by decide))) (fun a ha => by simp (disch := omega) only [up2_ne]) (fun _ _ => rfl)⟩) dX6_add_65
    ·
      refine lv_bipush (v := -4) hx hb dX6_add_24 (by decide) ?_
      exact q_iret1 hC hW hr hlk0 (RR_i (a' := (-4, ((w, K, ro), hc, hi, sv, pn, ch))) (by simp only [aAdd, rng_nI hk_3 (by decide), if_pos (show K = 6 by omega)]) ⟨rfl, PB_0 hI0⟩) dX6_add_26
  ·
    have hk_3 : rng letter 4 = none := rng_none.mpr (by omega)
    refine q_ine (tgt := 12) hx hb dX6_add_6 (by decide) (by first | omega | exact Nat.lt_of_le_of_lt (hw3 _) (by decide)) (fun c_6 => absurd c_6 (by decide)) (fun c_6 => ?_)
    refine lv_bipush (v := -2) hx hb dX6_add_9 (by decide) ?_
    exact q_iret1 hC hW hr hlk0 (RR_i (a' := (-2, ((w, K, ro), hc, hi, sv, pn, ch))) (by simp only [aAdd, hk_3]) ⟨rfl, PB_0 hI0⟩) dX6_add_11
set_option maxRecDepth 100000 in
set_option maxHeartbeats 4000000 in
theorem k_rcut (l : Launch) (G : Gx) (n : Nat) (ad : Nat → Nat) (sz : Nat) (I : Ic) (L : Lc) (R : Rc)  (w : Nat → Nat) (K : Nat) (ro : Nat → Nat) (hc : Nat) (hi : Nat → CM) (sv : Nat → Option CM) (pn : Nat) (ch : Nat → Nat) (hI0 : InvB n I R ((w, K, ro), hc, hi, sv, pn, ch)) : Met l yX6_cut (Cond.code yX6_cut cX6_cut 1 (some .int) :: GW) ({ frames := 6, cells := 0, slots := 0, locals := 216 } : Room) (qPre G n ad sz I L R [.ref (ad 71)]) (qI1 G (qA n ad sz) n ad R (fun z I1 L1 => RR n I L R (aCut ((w, K, ro), hc, hi, sv, pn, ch)) z I1 L1)) 0 0 (qA n ad sz) := by
  refine q_met (by decide) (Nat.le_of_ble_eq_true rfl) ?_
  intro p_ e_ s m_ below meth c_ hC hr hlk0 hin hsz hW ls hl
  subst hsz
  have hC : CallFix p_ m_ c_ cX6_cut 1 s ([.ref (ad 71)] : List Value).toArray GW "CoinRowsModel" := hC
  have hx := hC.1
  have hb := hC.2.1
  have hn : 83 ≤ n := hI0.1
  have hlk : LkOK n R := hI0.2.1
  have hN : NwI (I 72) w K ro := hI0.2.2.1
  have hH : HwB I hc hi := hI0.2.2.2.1
  have hSw : SwB I sv := hI0.2.2.2.2.1
  have hPd : PdB I pn ch := hI0.2.2.2.2.2
  have hh1 := hH.1
  have hh6 := hH.2.1
  have hp80 := hPd.2.1
  have hk6 : K ≤ 6 := hN.2.2.2.1
  have hw : Wok w := hN.2.2.2.2.1
  have hw3 : ∀ i, w i ≤ 3 := hw.1
  have hr4 : ∀ j, ro j < 4 := hN.2.2.2.2.2
  have hl : lv_has ls 1 [(0, .ref (ad 71))] := hl
  refine lv_aload_n hx hb dX6_cut_0 rfl (lv_at hl 0 rfl) ?_
  refine g_6_0 (x := 71) (y := 72) hC hW (by omega) kd_71 gw_483 (hlk 71 0 72 (by omega) rfl) dX6_cut_1 ?_
  refine q_bp 58 hx hb dX6_cut_4 (by decide) ?_
  refine q_iald (x := 72) (i := 58) hC hW (by omega) kd_72 (by omega) dX6_cut_6 ?_
  refine q_top (v2 := .int (nI (K))) (congrArg _ hN.2.1) ?_
  refine q_ine (tgt := 13) hx hb dX6_cut_7 (by decide) (by first | omega | exact Nat.lt_of_le_of_lt (hw3 _) (by decide)) (fun c_7 => ?_) (fun c_7 => ?_)
  ·
    refine lv_aload_n hx hb dX6_cut_13 rfl (lv_at hl 0 rfl) ?_
    refine q_kV1 (q_rV (As := []) (rest := []) (x := 71) hC hW mw_X6_record gw_546 (k_record l G n ad s.heap.size I L R w K ro hc hi hn hlk hN hH) (by omega) (ct_o6 kd_71) rfl ⟨rfl, rfl⟩ ⟨Nat.le_of_ble_eq_true rfl, Nat.le_of_ble_eq_true rfl⟩ ⟨(Nat.le_of_ble_eq_true rfl), (Nat.le_of_ble_eq_true rfl)⟩ hl.1 rfl rfl (Nat.le_of_ble_eq_true rfl) dX6_cut_14) hW (fun I_14 L_14 H locs hp hW => ?_)
    obtain ⟨hHr_14, hf_14, hj_14, rfl⟩ := hp
    have hN_14 : NwI (I_14 72) w K ro := by rw [hf_14 72 (by decide) (by decide)]; exact hN
    refine lv_aload_n hx hb dX6_cut_17 rfl (lv_at hl 0 rfl) ?_
    refine g_6_0 (x := 71) (y := 72) hC hW (by omega) kd_71 gw_483 (hlk 71 0 72 (by omega) rfl) dX6_cut_18 ?_
    refine q_bp 58 hx hb dX6_cut_21 (by decide) ?_
    refine lv_dup2_11 hx hb dX6_cut_23 rfl rfl ?_
    refine q_iald (x := 72) (i := 58) hC hW (by omega) kd_72 (by omega) dX6_cut_24 ?_
    refine q_top (v2 := .int (nI (K))) (congrArg _ hN_14.2.1) ?_
    refine q_ic 1 hx hb dX6_cut_25 (by decide) ?_
    refine q_isub hx hb dX6_cut_26 (by omega) ?_
    refine q_iast (x := 72) (i := 58) (v := nI (K - 1)) hC hW (by omega) kd_72 (by omega) dX6_cut_27 (fun H locs hW => ?_)
    refine lv_aload_n hx hb dX6_cut_28 rfl (lv_at hl 0 rfl) ?_
    refine g_6_0 (x := 71) (y := 72) hC hW (by omega) kd_71 gw_483 (hlk 71 0 72 (by omega) rfl) dX6_cut_29 ?_
    refine q_bp 60 hx hb dX6_cut_32 (by decide) ?_
    refine lv_aload_n hx hb dX6_cut_34 rfl (lv_at hl 0 rfl) ?_
    refine g_6_0 (x := 71) (y := 72) hC hW (by omega) kd_71 gw_483 (hlk 71 0 72 (by omega) rfl) dX6_cut_35 ?_
    refine q_bp 58 hx hb dX6_cut_38 (by decide) ?_
    refine q_iald (x := 72) (i := 58) hC hW (by omega) kd_72 (by omega) dX6_cut_40 ?_
    refine q_top (v2 := .int (nI (K - 1))) (congrArg _ (by rw [up2_at, if_pos ⟨rfl, rfl⟩])) ?_
    refine q_iadd hx hb dX6_cut_41 ?_
    refine q_iald (x := 72) (i := 60 + (K - 1)) hC hW (by omega) kd_72 (by omega) dX6_cut_42 ?_
    refine q_top (v2 := .int (nI (ro (K - 1)))) (congrArg _ (by rw [up2_at, if_neg (by omega)]; exact hN_14.2.2.1 _ (by omega))) ?_
    exact q_iret1 hC hW hr hlk0 (RR_i (a' := (nI (ro (K - 1)), ((w, K - 1, ro), hcN hc, hiN hc hi (w, K, ro), sv, pn, ch))) (by simp only [aCut, if_neg (show ¬ K = 0 by omega), remS]) ⟨rfl, PB_rec (m := (w, K - 1, ro)) hI0 hHr_14 hf_14 (by rw [up2_nr (by decide)] <;> (try rw [up2_nr (by decide)])) (by simp (disch := omega) only [up2_ne]) (by simp (disch := omega) only [up2_ne]) (by simp (disch := omega) only [up2_ne]) (NwI_cut hN_14 (fun q => by rw [u2q])) (PdB_fr hPd (by simp (disch := omega) only [up2_nr]; exact hj_14 6 (by decide)) (by simp (disch := omega) only [up2_ne]; exact hf_14 76 (by decide) (by decide))) (fun a ha => by simp (disch := omega) only [up2_ne]) (fun _ _ => rfl)⟩) dX6_cut_43
  ·
    refine lv_bipush (v := -5) hx hb dX6_cut_10 (by decide) ?_
    exact q_iret1 hC hW hr hlk0 (RR_i (a' := (-5, ((w, K, ro), hc, hi, sv, pn, ch))) (by simp only [aCut, if_pos (show K = 0 by omega)]) ⟨rfl, PB_0 hI0⟩) dX6_cut_12
theorem up2_nr2 {f : Ic} {a i j : Nat} {x : Int32} (h : j ≠ i) : up2 f a i x a j = f a j := by rw [up2_at, if_neg (fun q => h q.2)]
set_option maxRecDepth 100000 in
set_option maxHeartbeats 4000000 in
theorem k_rwipe (l : Launch) (G : Gx) (n : Nat) (ad : Nat → Nat) (sz : Nat) (I : Ic) (L : Lc) (R : Rc)  (w : Nat → Nat) (K : Nat) (ro : Nat → Nat) (hc : Nat) (hi : Nat → CM) (sv : Nat → Option CM) (pn : Nat) (ch : Nat → Nat) (hI0 : InvB n I R ((w, K, ro), hc, hi, sv, pn, ch)) : Met l yX6_wipe (Cond.code yX6_wipe cX6_wipe 2 (some .int) :: GW) ({ frames := 6, cells := 0, slots := 0, locals := 216 } : Room) (qPre G n ad sz I L R [.ref (ad 71)]) (qI1 G (qA n ad sz) n ad R (fun z I1 L1 => RR n I L R (aWipe ((w, K, ro), hc, hi, sv, pn, ch)) z I1 L1)) 0 0 (qA n ad sz) := by
  refine q_met (by decide) (Nat.le_of_ble_eq_true rfl) ?_
  intro p_ e_ s m_ below meth c_ hC hr hlk0 hin hsz hW ls hl
  subst hsz
  have hC : CallFix p_ m_ c_ cX6_wipe 2 s ([.ref (ad 71)] : List Value).toArray GW "CoinRowsModel" := hC
  have hx := hC.1
  have hb := hC.2.1
  have hn : 83 ≤ n := hI0.1
  have hlk : LkOK n R := hI0.2.1
  have hN : NwI (I 72) w K ro := hI0.2.2.1
  have hH : HwB I hc hi := hI0.2.2.2.1
  have hSw : SwB I sv := hI0.2.2.2.2.1
  have hPd : PdB I pn ch := hI0.2.2.2.2.2
  have hh1 := hH.1
  have hh6 := hH.2.1
  have hp80 := hPd.2.1
  have hk6 : K ≤ 6 := hN.2.2.2.1
  have hw : Wok w := hN.2.2.2.2.1
  have hw3 : ∀ i, w i ≤ 3 := hw.1
  have hr4 : ∀ j, ro j < 4 := hN.2.2.2.2.2
  have hl : lv_has ls 2 [(0, .ref (ad 71))] := hl
  refine lv_aload_n hx hb dX6_wipe_0 rfl (lv_at hl 0 rfl) ?_
  refine g_6_6 (x := 71) hC hW (by omega) kd_71 gw_489 dX6_wipe_1 ?_
  refine q_top (v2 := .int (nI (pn))) (congrArg _ hPd.1) ?_
  refine lv_istore_n (lv' := [(1, .int (nI (pn))), (0, .ref (ad 71))]) hx hb dX6_wipe_4 rfl hl (by decide) rfl (fun ls hl => ?_)
  refine lv_aload_n hx hb dX6_wipe_5 rfl (lv_at hl 1 rfl) ?_
  refine q_ic 0 hx hb dX6_wipe_6 (by decide) ?_
  refine p_6_6 (x := 71) (v := nI 0) hC hW (by omega) kd_71 gw_489 dX6_wipe_7 (fun H locs hW => ?_)
  refine lv_iload_n hx hb dX6_wipe_10 rfl (lv_at hl 0 rfl) ?_
  exact q_iret1 hC hW hr hlk0 (RR_i (a' := (nI pn, ((w, K, ro), hc, hi, sv, 0, ch))) (by simp only [aWipe]) ⟨rfl, ⟨⟨hn, hlk, by rw [up2_ne (by decide)]; exact hN, HwB_fr hH (up2_nr2 (by decide)) (up2_ne (by decide)), SwB_fr hSw (up2_ne (by decide)) (up2_ne (by decide)), (show PdB _ 0 ch from ⟨by rw [up2_at, if_pos ⟨rfl, rfl⟩], by decide, fun j hj => absurd hj (Nat.not_lt_zero j), hPd.2.2.2⟩)⟩, fun a ha => ⟨up2_ne (by omega), rfl⟩⟩⟩) dX6_wipe_11
