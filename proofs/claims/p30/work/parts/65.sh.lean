theorem cmv (r : Option Ordering) : Op.cmpValue r .g = FP.cmpInt 1 r := by cases r with
  | none => rfl
  | some o => cases o <;> rfl
set_option maxRecDepth 100000 in
set_option maxHeartbeats 4000000 in
theorem k_bitsOf (l : Launch) (G : Gx) (n : Nat) (ad : Nat → Nat) (sz : Nat) (I : Ic) (L : Lc) (R : Rc) (e t : Nat) (he1 : 1 ≤ e) (he : e ≤ 127) (ht : t < 8388608) : Met l yX5_bitsOf (Cond.code yX5_bitsOf cX5_bitsOf 4 (some .int) :: GW) ({ frames := 0, cells := 0, slots := 0, locals := 0 } : Room) (qPre G n ad sz I L R [.float (fb e t)]) (qI0 G (qA n ad sz) (n, ad, I, L, R) (fun z => z = (fb e t).toInt32)) 0 0 (qA n ad sz) := by
  refine q_met (by decide) (Nat.le_of_ble_eq_true rfl) ?_
  intro p_ e_ s m_ below meth c_ hC hr hlk0 hin hsz hW ls hl
  subst hsz
  have hC : CallFix p_ m_ c_ cX5_bitsOf 4 s ([.float (fb e t)] : List Value).toArray GW "CoinRows" := hC
  have hx := hC.1
  have hb := hC.2.1
  have hl : lv_has ls 4 [(0, .float (fb e t))] := hl
  refine q_bp 127 hx hb dX5_bitsOf_0 (by decide) ?_
  refine lv_istore_n (lv' := [(1, .int (nI 127)), (0, .float (fb e t))]) hx hb dX5_bitsOf_2 rfl hl (by decide) rfl (fun ls hl => ?_)
  refine lv_fload_n hx hb dX5_bitsOf_3 rfl (lv_at hl 1 rfl) ?_
  refine lv_fstore_n (lv' := [(2, .float (fb e t)), (1, .int (nI 127)), (0, .float (fb e t))]) hx hb dX5_bitsOf_4 rfl hl (by decide) rfl (fun ls hl => ?_)
  have lp_5 : ∀ (fu_5 : Nat) (i : Nat) (x1 : Nat), 127 - i < fu_5 → (x1 + i = 127) → (e + i ≤ 127) → ∀ (H : Heap) (locs : List Loc), Wd G n ad I L R (qA n ad s.heap.size) s.heap H locs s → ∀ ls : Array Slot, lv_has ls 4 [(0, .float (fb e t)), (1, .int (nI (x1))), (2, .float (fb (e + i) t))] → W p_ l e_ ({ frames := 0, cells := 0, slots := 0, locals := 0 } : Room) s m_ ([.float (fb e t)] : List Value).toArray below meth c_ H locs 0 0 (MQ below (qI0 G (qA n ad s.heap.size) (n, ad, I, L, R) (fun z => z = (fb e t).toInt32)) ([.float (fb e t)] : List Value).toArray s 0 0 (qA n ad s.heap.size)) (F0 m_ 5 ls []) := by
    intro fu_5
    induction fu_5 with
    | zero =>
      intro i x1 hm; exact absurd hm (Nat.not_lt_zero _)
    | succ fu_5 ih_5 =>
      intro i x1 hm_5 hxi hei H locs hW ls hl
      refine lv_fload_n hx hb dX5_bitsOf_5 rfl (lv_at hl 2 rfl) ?_
      refine lv_fconst1 hx hb dX5_bitsOf_6 ?_
      refine lv_fcmp hx hb dX5_bitsOf_7 ?_
      rcases Nat.lt_or_ge (e + i) 127 with hlt | hge
      ·
        refine q_top (v2 := .int (-1)) (congrArg Value.int (show Op.cmpValue (FP.fcmp (fb (e + i) t) (FP.fconst1)) .g = -1 from (cmv _).trans (fb_lt (by omega) hlt ht))) ?_
        refine lv_if_ge (tgt := 26) hx hb dX5_bitsOf_8 (by decide) (fun c_8 => absurd c_8 (by decide)) (fun c_8 => ?_)
        refine lv_iload_n hx hb dX5_bitsOf_11 rfl (lv_at hl 1 rfl) ?_
        refine q_ic 1 hx hb dX5_bitsOf_12 (by decide) ?_
        refine q_cle (tgt := 26) hx hb dX5_bitsOf_13 (by decide) (by first | omega | exact Nat.lt_of_le_of_lt (hw3 _) (by decide)) (by first | omega | exact Nat.lt_of_le_of_lt (hw3 _) (by decide)) (fun c_13 => absurd c_13 (by omega)) (fun c_13 => ?_)
        refine lv_fload_n hx hb dX5_bitsOf_16 rfl (lv_at hl 2 rfl) ?_
        refine lv_fconst2 hx hb dX5_bitsOf_17 ?_
        refine lv_fmul hx hb dX5_bitsOf_18 (by rw [fb_2 (by omega) (by omega) ht]; exact n32 (fb_nn (by omega) (by omega) ht)) ?_
        refine q_top (v2 := .float (fb (e + i + 1) t)) (congrArg Value.float (fb_2 (by omega) (by omega) ht)) ?_
        refine lv_fstore_n (lv' := [(2, .float (fb (e + i + 1) t)), (0, .float (fb e t)), (1, .int (nI (x1)))]) hx hb dX5_bitsOf_19 rfl hl (by decide) rfl (fun ls hl => ?_)
        refine q_iinc (z2 := x1 - 1) (lv' := [(1, .int (nI (x1 - 1))), (2, .float (fb (e + i + 1) t)), (0, .float (fb e t))]) hx hb dX5_bitsOf_20 hl (k := 2) rfl (inc_dn (by omega)) (by decide) rfl (fun ls hl => ?_)
        refine lv_goto (tgt := 5) hx hb dX5_bitsOf_23 (by decide) ?_
        exact ih_5 (i + 1) (x1 - 1) (by omega) (by omega) (by omega) _ _ hW _ (lv_sub hl [2, 0, 1] rfl)
      ·
        have e7 : e + i = 127 := by omega
        rw [e7] at hl ⊢
        rcases fb_ge ht with hg | hg
        ·
          refine q_top (v2 := .int (nI 0)) (congrArg Value.int (show Op.cmpValue (FP.fcmp (fb 127 t) (FP.fconst1)) .g = nI 0 from (cmv _).trans hg)) ?_
          refine lv_if_ge (tgt := 26) hx hb dX5_bitsOf_8 (by decide) (fun c_8 => ?_) (fun c_8 => absurd c_8 (by decide))
          refine lv_fload_n hx hb dX5_bitsOf_26 rfl (lv_at hl 2 rfl) ?_
          refine lv_fconst1 hx hb dX5_bitsOf_27 ?_
          refine lv_fsub hx hb dX5_bitsOf_28 (n32 (fb_s1 ht)) ?_
          refine lv_ldcf (v := (1258291200 : UInt32)) hx hb hC.2.2.2.1 (hC.2.2.2.2 _ gw_365) dX5_bitsOf_29 ?_
          refine lv_fmul hx hb dX5_bitsOf_31 (n32 (fb_s2 ht)) ?_
          refine lv_f2i hx hb dX5_bitsOf_32 ?_
          refine q_top (v2 := .int (nI (t))) (congrArg Value.int (fb_tail ht)) ?_
          refine lv_istore_n (lv' := [(3, .int (nI (t))), (0, .float (fb e t)), (1, .int (nI (x1))), (2, .float (fb 127 t))]) hx hb dX5_bitsOf_33 rfl hl (by decide) rfl (fun ls hl => ?_)
          refine lv_iload_n hx hb dX5_bitsOf_34 rfl (lv_at hl 2 rfl) ?_
          refine q_bp 23 hx hb dX5_bitsOf_35 (by decide) ?_
          refine lv_ishl hx hb dX5_bitsOf_37 ?_
          refine lv_iload_n hx hb dX5_bitsOf_38 rfl (lv_at hl 0 rfl) ?_
          refine lv_ior hx hb dX5_bitsOf_39 ?_
          exact q_iret0 hC hW hr hlk0 (by rw [show x1 = e by omega]; exact fb_or he ht) dX5_bitsOf_40
        ·
          refine q_top (v2 := .int (nI 1)) (congrArg Value.int (show Op.cmpValue (FP.fcmp (fb 127 t) (FP.fconst1)) .g = nI 1 from (cmv _).trans hg)) ?_
          refine lv_if_ge (tgt := 26) hx hb dX5_bitsOf_8 (by decide) (fun c_8 => ?_) (fun c_8 => absurd c_8 (by decide))
          refine lv_fload_n hx hb dX5_bitsOf_26 rfl (lv_at hl 2 rfl) ?_
          refine lv_fconst1 hx hb dX5_bitsOf_27 ?_
          refine lv_fsub hx hb dX5_bitsOf_28 (n32 (fb_s1 ht)) ?_
          refine lv_ldcf (v := (1258291200 : UInt32)) hx hb hC.2.2.2.1 (hC.2.2.2.2 _ gw_365) dX5_bitsOf_29 ?_
          refine lv_fmul hx hb dX5_bitsOf_31 (n32 (fb_s2 ht)) ?_
          refine lv_f2i hx hb dX5_bitsOf_32 ?_
          refine q_top (v2 := .int (nI (t))) (congrArg Value.int (fb_tail ht)) ?_
          refine lv_istore_n (lv' := [(3, .int (nI (t))), (0, .float (fb e t)), (1, .int (nI (x1))), (2, .float (fb 127 t))]) hx hb dX5_bitsOf_33 rfl hl (by decide) rfl (fun ls hl => ?_)
          refine lv_iload_n hx hb dX5_bitsOf_34 rfl (lv_at hl 2 rfl) ?_
          refine q_bp 23 hx hb dX5_bitsOf_35 (by decide) ?_
          refine lv_ishl hx hb dX5_bitsOf_37 ?_
          refine lv_iload_n hx hb dX5_bitsOf_38 rfl (lv_at hl 0 rfl) ?_
          refine lv_ior hx hb dX5_bitsOf_39 ?_
          exact q_iret0 hC hW hr hlk0 (by rw [show x1 = e by omega]; exact fb_or he ht) dX5_bitsOf_40
  exact lp_5 (127 + 1) 0 127 (by omega) rfl he _ _ hW _ (lv_sub hl [2, 1, 0] rfl)
set_option maxRecDepth 100000 in
set_option maxHeartbeats 4000000 in
theorem k_shareBits (l : Launch) (G : Gx) (n : Nat) (ad : Nat → Nat) (sz : Nat) (I : Ic) (L : Lc) (R : Rc)  (w : Nat → Nat) (K : Nat) (ro : Nat → Nat) (hc : Nat) (hi : Nat → CM) (sv : Nat → Option CM) (pn : Nat) (ch : Nat → Nat) (hI0 : InvA n I L R ((w, K, ro), hc, hi, sv, pn, ch)) : Met l yX5_shareBits (Cond.code yX5_shareBits cX5_shareBits 3 (some .int) :: GW) ({ frames := 6, cells := 0, slots := 0, locals := 216 } : Room) (qPre G n ad sz I L R [.ref (ad 0)]) (qI2 G (qA n ad sz) (fun z u => PR n ad I L R (aShare (w, K, ro), ((w, K, ro), hc, hi, sv, pn, ch)) z u)) 0 0 (qA n ad sz) := by
  refine q_met (by decide) (Nat.le_of_ble_eq_true rfl) ?_
  intro p_ e_ s m_ below meth c_ hC hr hlk0 hin hsz hW ls hl
  subst hsz
  have hC : CallFix p_ m_ c_ cX5_shareBits 3 s ([.ref (ad 0)] : List Value).toArray GW "CoinRows" := hC
  have hx := hC.1
  have hb := hC.2.1
  have hn : 71 ≤ n := hI0.1
  have hlk : LkOK n R := hI0.2.1
  have hM : MdI I w K ro := hI0.2.2.1
  have hSI : SI L := hI0.2.2.2.1
  have hPd : PadI I pn ch := hI0.2.2.2.2.1
  have hHi : HiA I R hc hi := hI0.2.2.2.2.2.1
  have hSv : SvA n I R sv := hI0.2.2.2.2.2.2
  have hh1 := hHi.1
  have hh6 := hHi.2.1
  have hp80 := hPd.2.1
  have hk6 : K ≤ 6 := hM.2.2.2.1
  have hw3 : ∀ i, w i ≤ 3 := hM.2.2.2.2.1.1
  have hr4 : ∀ j, ro j < 4 := hM.2.2.2.2.2
  have hT63 : Sx' w K ro K 6 < 2 ^ 63 := Nat.lt_of_le_of_lt (Sx_b hM.2.2.2.2.1 K K 6 hk6) (by decide)
  have hC31 : Cx' w K ro K 6 < 2 ^ 31 := Nat.lt_of_le_of_lt (Cx_b hM.2.2.2.2.1 K K 6 hk6) (by decide)
  have hCT : (nI (Cx' w K ro K 6)).toInt = (Cx' w K ro K 6 : Int) := nI_toInt hC31
  have hw := hM.2.2.2.2.1
  have hl : lv_has ls 3 [(0, .ref (ad 0))] := hl
  refine lv_aload_n hx hb dX5_shareBits_0 rfl (lv_at hl 0 rfl) ?_
  refine g_5_5 (x := 0) (y := 8) hC hW (by omega) kd_0 gw_129 (hlk 0 5 8 (by omega) rfl) dX5_shareBits_1 ?_
  refine lv_aload_n hx hb dX5_shareBits_4 rfl (lv_at hl 0 rfl) ?_
  refine g_5_0 (x := 0) (y := 1) hC hW (by omega) kd_0 gw_124 (hlk 0 0 1 (by omega) rfl) dX5_shareBits_5 ?_
  refine q_kV1 (q_rV (As := [.ref (ad 1)]) (rest := []) (x := 8) hC hW mw_X2_measure gw_202 (k_measure l G n ad s.heap.size I L R w K ro hn hlk hM hSI) (by omega) (ct_o2 kd_8) rfl ⟨rfl, rfl⟩ ⟨Nat.le_of_ble_eq_true rfl, Nat.le_of_ble_eq_true rfl⟩ ⟨(Nat.le_of_ble_eq_true rfl), (Nat.le_of_ble_eq_true rfl)⟩ hl.1 rfl rfl (Nat.le_of_ble_eq_true rfl) dX5_shareBits_8) hW (fun I_8 L_8 H locs hp hW => ?_)
  obtain ⟨hMs_8, hLf_8, hIf_8⟩ := hp
  have hM_8 : MdI I_8 w K ro := MdI_fr hM hIf_8
  refine lv_aload_n hx hb dX5_shareBits_11 rfl (lv_at hl 0 rfl) ?_
  refine g_5_5 (x := 0) (y := 8) hC hW (by omega) kd_0 gw_129 (hlk 0 5 8 (by omega) rfl) dX5_shareBits_12 ?_
  refine q_kL0 (q_rV (As := []) (rest := []) (x := 8) hC hW mw_X2_whole gw_247 (k_whole l G n ad H.size I_8 L_8 R w K ro hn hlk hM_8 hMs_8) (by omega) (ct_o2 kd_8) rfl ⟨rfl, rfl⟩ ⟨Nat.le_of_ble_eq_true rfl, Nat.le_of_ble_eq_true rfl⟩ ⟨(Nat.le_of_ble_eq_true rfl), (Nat.le_of_ble_eq_true rfl)⟩ hl.1 rfl rfl (Nat.le_of_ble_eq_true rfl) dX5_shareBits_15) hW (fun r_15 H locs hp hW => ?_)
  subst hp
  refine q_lc 0 hx hb dX5_shareBits_18 (by decide) ?_
  refine q_lcmp hx hb dX5_shareBits_19 ?_
  refine q_lne (tgt := 26) hx hb dX5_shareBits_20 (by decide) hT63 (by decide) (fun c_20 => ?_) (fun c_20 => ?_)
  ·
    have hS0 : 0 < Sx' w K ro K 6 := Nat.pos_of_ne_zero c_20
    have hC0 : 0 < Cx' w K ro K 6 := (SC_pos w K ro K 6).mp hS0
    have hM0 : 0 < Mx' w K ro K 6 := (MC_pos w K ro K 6).mpr hC0
    have hMS : Mx' w K ro K 6 ≤ Sx' w K ro K 6 := AxM_le K ro K 6
    have hSb : Sx' w K ro K 6 < 2 ^ 56 := Nat.lt_of_le_of_lt (Sx_b hw K K 6 hk6) (by decide)
    have hmi := lN_ti (a := Mx' w K ro K 6) (by omega)
    have hsi := lN_ti (a := Sx' w K ro K 6) (by omega)
    obtain ⟨e_, t_, he1_, he2_, ht_, hu_⟩ := u_ex hmi hsi hM0 hMS hSb
    refine lv_aload_n hx hb dX5_shareBits_26 rfl (lv_at hl 0 rfl) ?_
    refine g_5_5 (x := 0) (y := 8) hC hW (by omega) kd_0 gw_129 (hlk 0 5 8 (by omega) rfl) dX5_shareBits_27 ?_
    refine q_kL0 (q_rV (As := []) (rest := []) (x := 8) hC hW mw_X2_greatest gw_358 (k_greatest l G n ad H.size I_8 L_8 R w K ro hn hlk hM_8 hMs_8) (by omega) (ct_o2 kd_8) rfl ⟨rfl, rfl⟩ ⟨Nat.le_of_ble_eq_true rfl, Nat.le_of_ble_eq_true rfl⟩ ⟨(Nat.le_of_ble_eq_true rfl), (Nat.le_of_ble_eq_true rfl)⟩ hl.1 rfl rfl (Nat.le_of_ble_eq_true rfl) dX5_shareBits_30) hW (fun r_30 H locs hp hW => ?_)
    subst hp
    refine lv_l2d hx hb dX5_shareBits_33 ?_
    refine lv_aload_n hx hb dX5_shareBits_34 rfl (lv_at hl 0 rfl) ?_
    refine g_5_5 (x := 0) (y := 8) hC hW (by omega) kd_0 gw_129 (hlk 0 5 8 (by omega) rfl) dX5_shareBits_35 ?_
    refine q_kL0 (q_rV (As := []) (rest := [.double (FP.l2d (lN (Mx' w K ro K 6)))]) (x := 8) hC hW mw_X2_whole gw_247 (k_whole l G n ad H.size I_8 L_8 R w K ro hn hlk hM_8 hMs_8) (by omega) (ct_o2 kd_8) rfl ⟨rfl, rfl⟩ ⟨Nat.le_of_ble_eq_true rfl, Nat.le_of_ble_eq_true rfl⟩ ⟨(Nat.le_of_ble_eq_true rfl), (Nat.le_of_ble_eq_true rfl)⟩ hl.1 rfl rfl (Nat.le_of_ble_eq_true rfl) dX5_shareBits_38) hW (fun r_38 H locs hp hW => ?_)
    subst hp
    refine lv_l2d hx hb dX5_shareBits_41 ?_
    refine lv_ddiv hx hb dX5_shareBits_42 (q_nn hmi hsi hM0 hMS hSb) ?_
    refine lv_dstore_n (lv' := [(1, .double (FP.ddiv (FP.l2d (lN (Mx' w K ro K 6))) (FP.l2d (lN (Sx' w K ro K 6))))), (0, .ref (ad 0))]) hx hb dX5_shareBits_43 rfl hl (by decide) rfl (fun ls hl => ?_)
    refine lv_dload_n hx hb dX5_shareBits_44 rfl (lv_at hl 0 rfl) ?_
    refine lv_d2f hx hb dX5_shareBits_45 (by rw [hu_]; exact n32 (fb_nn he1_ (by omega) ht_)) ?_
    refine q_top (v2 := .float (fb e_ t_)) (congrArg Value.float hu_) ?_
    refine q_kI0 (q_rS (As := [.float (fb e_ t_)]) (rest := []) hC hW mw_X5_bitsOf gw_362 (k_bitsOf l G n ad H.size I_8 L_8 R _ _ he1_ he2_ ht_) ⟨rfl, rfl⟩ ⟨Nat.le_of_ble_eq_true rfl, Nat.le_of_ble_eq_true rfl⟩ ⟨(Nat.le_of_ble_eq_true rfl), (Nat.le_of_ble_eq_true rfl)⟩ hl.1 rfl rfl (Nat.le_of_ble_eq_true rfl) dX5_shareBits_46) hW (fun r_46 H locs hp hW => ?_)
    subst hp
    refine q_top (v2 := .int (shI (Mx' w K ro K 6) (Sx' w K ro K 6))) (congrArg Value.int (show (fb e_ t_).toInt32 = shI (Mx' w K ro K 6) (Sx' w K ro K 6) from by unfold shI; rw [hu_])) ?_
    exact q_iret2 hC hW hr hlk0 (PR_i (a' := (shI (Mx' w K ro K 6) (aTot (w, K, ro)), ((w, K, ro), hc, hi, sv, pn, ch))) (by simp only [aShare, if_neg (show ¬ aTot (w, K, ro) = 0 from c_20)]) ⟨rfl, PA_q hI0 (fun a ha => hIf_8 a (by omega)) hMs_8.2.2.2 (fun a ha => hLf_8 a (by omega))⟩) dX5_shareBits_49
  ·
    refine lv_bipush (v := -5) hx hb dX5_shareBits_23 (by decide) ?_
    exact q_iret2 hC hW hr hlk0 (PR_i (a' := (-5, ((w, K, ro), hc, hi, sv, pn, ch))) (by simp only [aShare, if_pos (show aTot (w, K, ro) = 0 from c_20)]) ⟨rfl, PA_q hI0 (fun a ha => hIf_8 a (by omega)) hMs_8.2.2.2 (fun a ha => hLf_8 a (by omega))⟩) dX5_shareBits_25
