def MdI (I : Ic) (w : Nat → Nat) (k : Nat) (r : Nat → Nat) : Prop := (∀ i, i < 58 → I 2 i = nI (w i)) ∧ I 1 2 = nI k ∧ (∀ j, j < k → I 3 j = nI (r j)) ∧ k ≤ 6 ∧ Wok w ∧ ∀ j, r j < 4
def cntW (w : Nat → Nat) : Nat → Nat
  | 0 => 0
  | i + 1 => if w i = 0 then cntW w i else cntW w i + 1
theorem cntW_le (w : Nat → Nat) : ∀ i, cntW w i ≤ i
  | 0 => Nat.le_refl 0
  | i + 1 => by
    have := cntW_le w i
    unfold cntW
    split <;> omega
theorem rngv_nI {k N : Nat} (h : k < N) (hN : N ≤ 1000) : rng (nI k) N = some k := rng_nI h hN
set_option maxRecDepth 100000 in
set_option maxHeartbeats 4000000 in
theorem k_stepWeight (l : Launch) (G : Gx) (n : Nat) (ad : Nat → Nat) (sz : Nat) (I : Ic) (L : Lc) (R : Rc) (f t : Nat) (w : Nat → Nat) (K : Nat) (ro : Nat → Nat) (hn : 71 ≤ n) (hlk : LkOK n R) (hM : MdI I w K ro) (hft : f * 6 + t < 58) : Met l yX0_stepWeight (Cond.code yX0_stepWeight cX0_stepWeight 3 (some .int) :: GW) ({ frames := 0, cells := 0, slots := 0, locals := 0 } : Room) (qPre G n ad sz I L R [.ref (ad 1), .int (nI (f)), .int (nI (t))]) (qI0 G (qA n ad sz) (n, ad, I, L, R) (fun z => z = nI (w (f * 6 + t)))) 0 0 (qA n ad sz) := by
  refine q_met (by decide) (Nat.le_of_ble_eq_true rfl) ?_
  intro p_ e_ s m_ below meth c_ hC hr hlk0 hin hsz hW ls hl
  subst hsz
  have hC : CallFix p_ m_ c_ cX0_stepWeight 3 s ([.ref (ad 1), .int (nI (f)), .int (nI (t))] : List Value).toArray GW "CoinRows$Model" := hC
  have hx := hC.1
  have hb := hC.2.1
  have hk6 : K ≤ 6 := hM.2.2.2.1
  have hw3 : ∀ i, w i ≤ 3 := hM.2.2.2.2.1.1
  have hr4 : ∀ j, ro j < 4 := hM.2.2.2.2.2
  have hl : lv_has ls 3 [(0, .ref (ad 1)), (1, .int (nI (f))), (2, .int (nI (t)))] := hl
  refine lv_aload_n hx hb dX0_stepWeight_0 rfl (lv_at hl 0 rfl) ?_
  refine g_0_0 (x := 1) (y := 2) hC hW (by omega) kd_1 gw_23 (hlk 1 0 2 (by omega) rfl) dX0_stepWeight_1 ?_
  refine lv_iload_n hx hb dX0_stepWeight_4 rfl (lv_at hl 1 rfl) ?_
  refine q_bp 6 hx hb dX0_stepWeight_5 (by decide) ?_
  refine q_imul hx hb dX0_stepWeight_7 ?_
  refine lv_iload_n hx hb dX0_stepWeight_8 rfl (lv_at hl 2 rfl) ?_
  refine q_iadd hx hb dX0_stepWeight_9 ?_
  refine q_iald (x := 2) (i := (f * 6) + t) hC hW (by omega) kd_2 (by omega) dX0_stepWeight_10 ?_
  refine q_top (v2 := .int (nI (w ((f * 6) + t)))) (congrArg _ (hM.1 _ (by omega))) ?_
  exact q_iret0 hC hW hr hlk0 rfl dX0_stepWeight_11
set_option maxRecDepth 100000 in
set_option maxHeartbeats 4000000 in
theorem k_letterWeight (l : Launch) (G : Gx) (n : Nat) (ad : Nat → Nat) (sz : Nat) (I : Ic) (L : Lc) (R : Rc) (f t : Nat) (w : Nat → Nat) (K : Nat) (ro : Nat → Nat) (hn : 71 ≤ n) (hlk : LkOK n R) (hM : MdI I w K ro) (hc : f < 4) (hs : t < 4) : Met l yX0_letterWeight (Cond.code yX0_letterWeight cX0_letterWeight 3 (some .int) :: GW) ({ frames := 0, cells := 0, slots := 0, locals := 0 } : Room) (qPre G n ad sz I L R [.ref (ad 1), .int (nI (f)), .int (nI (t))]) (qI0 G (qA n ad sz) (n, ad, I, L, R) (fun z => z = nI (w (42 + f * 4 + t)))) 0 0 (qA n ad sz) := by
  refine q_met (by decide) (Nat.le_of_ble_eq_true rfl) ?_
  intro p_ e_ s m_ below meth c_ hC hr hlk0 hin hsz hW ls hl
  subst hsz
  have hC : CallFix p_ m_ c_ cX0_letterWeight 3 s ([.ref (ad 1), .int (nI (f)), .int (nI (t))] : List Value).toArray GW "CoinRows$Model" := hC
  have hx := hC.1
  have hb := hC.2.1
  have hk6 : K ≤ 6 := hM.2.2.2.1
  have hw3 : ∀ i, w i ≤ 3 := hM.2.2.2.2.1.1
  have hr4 : ∀ j, ro j < 4 := hM.2.2.2.2.2
  have hl : lv_has ls 3 [(0, .ref (ad 1)), (1, .int (nI (f))), (2, .int (nI (t)))] := hl
  refine lv_aload_n hx hb dX0_letterWeight_0 rfl (lv_at hl 0 rfl) ?_
  refine g_0_0 (x := 1) (y := 2) hC hW (by omega) kd_1 gw_23 (hlk 1 0 2 (by omega) rfl) dX0_letterWeight_1 ?_
  refine q_bp 42 hx hb dX0_letterWeight_4 (by decide) ?_
  refine lv_iload_n hx hb dX0_letterWeight_6 rfl (lv_at hl 1 rfl) ?_
  refine q_ic 4 hx hb dX0_letterWeight_7 (by decide) ?_
  refine q_imul hx hb dX0_letterWeight_8 ?_
  refine q_iadd hx hb dX0_letterWeight_9 ?_
  refine lv_iload_n hx hb dX0_letterWeight_10 rfl (lv_at hl 2 rfl) ?_
  refine q_iadd hx hb dX0_letterWeight_11 ?_
  refine q_iald (x := 2) (i := (42 + (f * 4)) + t) hC hW (by omega) kd_2 (by omega) dX0_letterWeight_12 ?_
  refine q_top (v2 := .int (nI (w ((42 + (f * 4)) + t)))) (congrArg _ (hM.1 _ (by omega))) ?_
  exact q_iret0 hC hW hr hlk0 rfl dX0_letterWeight_13
set_option maxRecDepth 100000 in
set_option maxHeartbeats 4000000 in
theorem k_moveWeight (l : Launch) (G : Gx) (n : Nat) (ad : Nat → Nat) (sz : Nat) (I : Ic) (L : Lc) (R : Rc) (f t d : Nat) (w : Nat → Nat) (K : Nat) (ro : Nat → Nat) (hn : 71 ≤ n) (hlk : LkOK n R) (hM : MdI I w K ro) (hf : f ≤ 6) (ht : t < 6) (hd : d < 1000) : Met l yX0_moveWeight (Cond.code yX0_moveWeight cX0_moveWeight 4 (some .int) :: GW) ({ frames := 1, cells := 0, slots := 0, locals := 36 } : Room) (qPre G n ad sz I L R [.ref (ad 1), .int (nI (f)), .int (nI (t)), .int (nI (d))]) (qI0 G (qA n ad sz) (n, ad, I, L, R) (fun z => z = nI (mv w K ro f t d))) 0 0 (qA n ad sz) := by
  refine q_met (by decide) (Nat.le_of_ble_eq_true rfl) ?_
  intro p_ e_ s m_ below meth c_ hC hr hlk0 hin hsz hW ls hl
  subst hsz
  have hC : CallFix p_ m_ c_ cX0_moveWeight 4 s ([.ref (ad 1), .int (nI (f)), .int (nI (t)), .int (nI (d))] : List Value).toArray GW "CoinRows$Model" := hC
  have hx := hC.1
  have hb := hC.2.1
  have hk6 : K ≤ 6 := hM.2.2.2.1
  have hw3 : ∀ i, w i ≤ 3 := hM.2.2.2.2.1.1
  have hr4 : ∀ j, ro j < 4 := hM.2.2.2.2.2
  have hl : lv_has ls 4 [(0, .ref (ad 1)), (1, .int (nI (f))), (2, .int (nI (t))), (3, .int (nI (d)))] := hl
  refine lv_iload_n hx hb dX0_moveWeight_0 rfl (lv_at hl 2 rfl) ?_
  refine q_ic 4 hx hb dX0_moveWeight_1 (by decide) ?_
  refine q_clt (tgt := 12) hx hb dX0_moveWeight_2 (by decide) (by first | omega | exact Nat.lt_of_le_of_lt (hw3 _) (by decide)) (by first | omega | exact Nat.lt_of_le_of_lt (hw3 _) (by decide)) (fun c_2 => ?_) (fun c_2 => ?_)
  ·
    refine lv_iload_n hx hb dX0_moveWeight_12 rfl (lv_at hl 3 rfl) ?_
    refine lv_aload_n hx hb dX0_moveWeight_13 rfl (lv_at hl 0 rfl) ?_
    refine g_0_2 (x := 1) hC hW (by omega) kd_1 gw_29 dX0_moveWeight_14 ?_
    refine q_top (v2 := .int (nI (K))) (congrArg _ hM.2.1) ?_
    refine q_cge (tgt := 41) hx hb dX0_moveWeight_17 (by decide) (by first | omega | exact Nat.lt_of_le_of_lt (hw3 _) (by decide)) (by first | omega | exact Nat.lt_of_le_of_lt (hw3 _) (by decide)) (fun c_17 => ?_) (fun c_17 => ?_)
    ·
      refine q_ic 0 hx hb dX0_moveWeight_41 (by decide) ?_
      exact q_iret0 hC hW hr hlk0 (by unfold mv; rw [if_neg (by omega), if_neg (by omega)]) dX0_moveWeight_42
    ·
      refine lv_aload_n hx hb dX0_moveWeight_20 rfl (lv_at hl 0 rfl) ?_
      refine lv_iload_n hx hb dX0_moveWeight_21 rfl (lv_at hl 1 rfl) ?_
      refine lv_iload_n hx hb dX0_moveWeight_22 rfl (lv_at hl 2 rfl) ?_
      refine q_kI0 (q_rV (As := [.int (nI (f)), .int (nI (t))]) (rest := []) (x := 1) hC hW mw_X0_stepWeight gw_234 (k_stepWeight l G n ad s.heap.size I L R _ _ w K ro hn hlk hM (by omega)) (by omega) (ct_o0 kd_1) rfl ⟨rfl, rfl⟩ ⟨Nat.le_of_ble_eq_true rfl, Nat.le_of_ble_eq_true rfl⟩ ⟨(Nat.le_of_ble_eq_true rfl), (Nat.le_of_ble_eq_true rfl)⟩ hl.1 rfl rfl (Nat.le_of_ble_eq_true rfl) dX0_moveWeight_23) hW (fun r_23 H locs hp hW => ?_)
      subst hp
      refine lv_aload_n hx hb dX0_moveWeight_26 rfl (lv_at hl 0 rfl) ?_
      refine lv_iload_n hx hb dX0_moveWeight_27 rfl (lv_at hl 2 rfl) ?_
      refine lv_aload_n hx hb dX0_moveWeight_28 rfl (lv_at hl 0 rfl) ?_
      refine g_0_1 (x := 1) (y := 3) hC hW (by omega) kd_1 gw_26 (hlk 1 1 3 (by omega) rfl) dX0_moveWeight_29 ?_
      refine lv_iload_n hx hb dX0_moveWeight_32 rfl (lv_at hl 3 rfl) ?_
      refine q_iald (x := 3) (i := d) hC hW (by omega) kd_3 (by omega) dX0_moveWeight_33 ?_
      refine q_top (v2 := .int (nI (ro d))) (congrArg _ (hM.2.2.1 _ (by omega))) ?_
      refine q_kI0 (q_rV (As := [.int (nI (t)), .int (nI (ro d))]) (rest := [.int (nI (w (f * 6 + t)))]) (x := 1) hC hW mw_X0_letterWeight gw_235 (k_letterWeight l G n ad H.size I L R _ _ w K ro hn hlk hM (by omega) (by first | omega | exact hr4 _)) (by omega) (ct_o0 kd_1) rfl ⟨rfl, rfl⟩ ⟨Nat.le_of_ble_eq_true rfl, Nat.le_of_ble_eq_true rfl⟩ ⟨(Nat.le_of_ble_eq_true rfl), (Nat.le_of_ble_eq_true rfl)⟩ hl.1 rfl rfl (Nat.le_of_ble_eq_true rfl) dX0_moveWeight_34) hW (fun r_34 H locs hp hW => ?_)
      subst hp
      refine q_imul hx hb dX0_moveWeight_37 ?_
      refine lv_goto (tgt := 42) hx hb dX0_moveWeight_38 (by decide) ?_
      exact q_iret0 hC hW hr hlk0 (by unfold mv; rw [if_neg (by omega), if_pos (by omega)]) dX0_moveWeight_42
  ·
    refine lv_aload_n hx hb dX0_moveWeight_5 rfl (lv_at hl 0 rfl) ?_
    refine lv_iload_n hx hb dX0_moveWeight_6 rfl (lv_at hl 1 rfl) ?_
    refine lv_iload_n hx hb dX0_moveWeight_7 rfl (lv_at hl 2 rfl) ?_
    refine q_kI0 (q_rV (As := [.int (nI (f)), .int (nI (t))]) (rest := []) (x := 1) hC hW mw_X0_stepWeight gw_234 (k_stepWeight l G n ad s.heap.size I L R _ _ w K ro hn hlk hM (by omega)) (by omega) (ct_o0 kd_1) rfl ⟨rfl, rfl⟩ ⟨Nat.le_of_ble_eq_true rfl, Nat.le_of_ble_eq_true rfl⟩ ⟨(Nat.le_of_ble_eq_true rfl), (Nat.le_of_ble_eq_true rfl)⟩ hl.1 rfl rfl (Nat.le_of_ble_eq_true rfl) dX0_moveWeight_8) hW (fun r_8 H locs hp hW => ?_)
    subst hp
    exact q_iret0 hC hW hr hlk0 (by unfold mv; rw [if_pos (by omega)]) dX0_moveWeight_11
set_option maxRecDepth 100000 in
set_option maxHeartbeats 4000000 in
theorem k_hasPlace (l : Launch) (G : Gx) (n : Nat) (ad : Nat → Nat) (sz : Nat) (I : Ic) (L : Lc) (R : Rc) (x : Int32) (w : Nat → Nat) (K : Nat) (ro : Nat → Nat) (hn : 71 ≤ n) (hlk : LkOK n R) (hM : MdI I w K ro) : Met l yX0_hasPlace (Cond.code yX0_hasPlace cX0_hasPlace 2 (some .boolean) :: GW) ({ frames := 0, cells := 0, slots := 0, locals := 0 } : Room) (qPre G n ad sz I L R [.ref (ad 1), .int (x)]) (qI0 G (qA n ad sz) (n, ad, I, L, R) (fun z => (∃ j, j < K ∧ x = nI j ∧ z = nI 1) ∨ (rng x K = none ∧ z = nI 0))) 0 0 (qA n ad sz) := by
  refine q_met (by decide) (Nat.le_of_ble_eq_true rfl) ?_
  intro p_ e_ s m_ below meth c_ hC hr hlk0 hin hsz hW ls hl
  subst hsz
  have hC : CallFix p_ m_ c_ cX0_hasPlace 2 s ([.ref (ad 1), .int (x)] : List Value).toArray GW "CoinRows$Model" := hC
  have hx := hC.1
  have hb := hC.2.1
  have hk6 : K ≤ 6 := hM.2.2.2.1
  have hw3 : ∀ i, w i ≤ 3 := hM.2.2.2.2.1.1
  have hr4 : ∀ j, ro j < 4 := hM.2.2.2.2.2
  have hkT : (nI K).toInt = (K : Int) := nI_toInt (by omega)
  have hl : lv_has ls 2 [(0, .ref (ad 1)), (1, .int (x))] := hl
  refine lv_iload_n hx hb dX0_hasPlace_0 rfl (lv_at hl 1 rfl) ?_
  refine lv_if_lt (tgt := 16) hx hb dX0_hasPlace_1 (by decide) (fun c_1 => ?_) (fun c_1 => ?_)
  ·
    refine q_ic 0 hx hb dX0_hasPlace_16 (by decide) ?_
    have hfin : rng x K = none := rng_none.mpr (by simp only [hkT, Int32.lt_iff_toInt_lt, Int32.le_iff_toInt_le, ← Int32.toInt_inj, nT0, nT1, nT2, nT3, nT4, nT5, nT6, nT7, nT8, nT9, nT10, nT33, nT36, nT42, nT58, nT80, nT126, nT255, i_m1, i_m2, Int32.toInt_zero, Int32.toInt_one] at c_1; omega)
    exact q_zret0 hC hW hr hlk0 rfl (Or.inr ⟨hfin, rfl⟩) dX0_hasPlace_17
  ·
    refine lv_iload_n hx hb dX0_hasPlace_4 rfl (lv_at hl 1 rfl) ?_
    refine lv_aload_n hx hb dX0_hasPlace_5 rfl (lv_at hl 0 rfl) ?_
    refine g_0_2 (x := 1) hC hW (by omega) kd_1 gw_29 dX0_hasPlace_6 ?_
    refine q_top (v2 := .int (nI (K))) (congrArg _ hM.2.1) ?_
    refine lv_icmp_ge (tgt := 16) hx hb dX0_hasPlace_9 (by decide) (fun c_9 => ?_) (fun c_9 => ?_)
    ·
      refine q_ic 0 hx hb dX0_hasPlace_16 (by decide) ?_
      have hfin : rng x K = none := rng_none.mpr (by simp only [hkT, Int32.lt_iff_toInt_lt, Int32.le_iff_toInt_le, ← Int32.toInt_inj, nT0, nT1, nT2, nT3, nT4, nT5, nT6, nT7, nT8, nT9, nT10, nT33, nT36, nT42, nT58, nT80, nT126, nT255, i_m1, i_m2, Int32.toInt_zero, Int32.toInt_one] at c_1 c_9; omega)
      exact q_zret0 hC hW hr hlk0 rfl (Or.inr ⟨hfin, rfl⟩) dX0_hasPlace_17
    ·
      refine q_ic 1 hx hb dX0_hasPlace_12 (by decide) ?_
      refine lv_goto (tgt := 17) hx hb dX0_hasPlace_13 (by decide) ?_
      obtain ⟨kf, hf1, hf2⟩ := rng_ex (N := K) (x := x) (by omega) (by simp only [hkT, Int32.lt_iff_toInt_lt, Int32.le_iff_toInt_le, ← Int32.toInt_inj, nT0, nT1, nT2, nT3, nT4, nT5, nT6, nT7, nT8, nT9, nT10, nT33, nT36, nT42, nT58, nT80, nT126, nT255, i_m1, i_m2, Int32.toInt_zero, Int32.toInt_one] at c_1 c_9; omega) (by simp only [hkT, Int32.lt_iff_toInt_lt, Int32.le_iff_toInt_le, ← Int32.toInt_inj, nT0, nT1, nT2, nT3, nT4, nT5, nT6, nT7, nT8, nT9, nT10, nT33, nT36, nT42, nT58, nT80, nT126, nT255, i_m1, i_m2, Int32.toInt_zero, Int32.toInt_one] at c_1 c_9; omega)
      exact q_zret0 hC hW hr hlk0 rfl (Or.inl ⟨kf, hf1, hf2, rfl⟩) dX0_hasPlace_17
set_option maxRecDepth 100000 in
set_option maxHeartbeats 4000000 in
theorem k_append (l : Launch) (G : Gx) (n : Nat) (ad : Nat → Nat) (sz : Nat) (I : Ic) (L : Lc) (R : Rc) (t : Nat) (w : Nat → Nat) (K : Nat) (ro : Nat → Nat) (hn : 71 ≤ n) (hlk : LkOK n R) (hM : MdI I w K ro) (hk : K < 6) : Met l yX0_append (Cond.code yX0_append cX0_append 2 none :: GW) ({ frames := 0, cells := 0, slots := 0, locals := 0 } : Room) (qPre G n ad sz I L R [.ref (ad 1), .int (nI (t))]) (qV1 G (qA n ad sz) n ad R (fun I1 L1 => I1 = up2 (up2 I 3 K (nI t)) 1 2 (nI (K + 1)) ∧ L = L1)) 0 0 (qA n ad sz) := by
  refine q_met (by decide) (Nat.le_of_ble_eq_true rfl) ?_
  intro p_ e_ s m_ below meth c_ hC hr hlk0 hin hsz hW ls hl
  subst hsz
  have hC : CallFix p_ m_ c_ cX0_append 2 s ([.ref (ad 1), .int (nI (t))] : List Value).toArray GW "CoinRows$Model" := hC
  have hx := hC.1
  have hb := hC.2.1
  have hk6 : K ≤ 6 := hM.2.2.2.1
  have hw3 : ∀ i, w i ≤ 3 := hM.2.2.2.2.1.1
  have hr4 : ∀ j, ro j < 4 := hM.2.2.2.2.2
  have hl : lv_has ls 2 [(0, .ref (ad 1)), (1, .int (nI (t)))] := hl
  refine lv_aload_n hx hb dX0_append_0 rfl (lv_at hl 0 rfl) ?_
  refine g_0_2 (x := 1) hC hW (by omega) kd_1 gw_29 dX0_append_1 ?_
  refine q_top (v2 := .int (nI (K))) (congrArg _ hM.2.1) ?_
  refine q_bp 6 hx hb dX0_append_4 (by decide) ?_
  refine q_cge (tgt := 29) hx hb dX0_append_6 (by decide) (by first | omega | exact Nat.lt_of_le_of_lt (hw3 _) (by decide)) (by first | omega | exact Nat.lt_of_le_of_lt (hw3 _) (by decide)) (fun c_6 => absurd c_6 (by omega)) (fun c_6 => ?_)
  refine lv_aload_n hx hb dX0_append_9 rfl (lv_at hl 0 rfl) ?_
  refine g_0_1 (x := 1) (y := 3) hC hW (by omega) kd_1 gw_26 (hlk 1 1 3 (by omega) rfl) dX0_append_10 ?_
  refine lv_aload_n hx hb dX0_append_13 rfl (lv_at hl 0 rfl) ?_
  refine g_0_2 (x := 1) hC hW (by omega) kd_1 gw_29 dX0_append_14 ?_
  refine q_top (v2 := .int (nI (K))) (congrArg _ hM.2.1) ?_
  refine lv_iload_n hx hb dX0_append_17 rfl (lv_at hl 1 rfl) ?_
  refine q_iast (x := 3) (i := K) (v := nI t) hC hW (by omega) kd_3 (by omega) dX0_append_18 (fun H locs hW => ?_)
  refine lv_aload_n hx hb dX0_append_19 rfl (lv_at hl 0 rfl) ?_
  refine lv_dup hx hb dX0_append_20 rfl ?_
  refine g_0_2 (x := 1) hC hW (by omega) kd_1 gw_29 dX0_append_21 ?_
  refine q_top (v2 := .int (nI (K))) (congrArg _ (by rw [up2_at, if_neg (by omega)]; exact hM.2.1)) ?_
  refine q_ic 1 hx hb dX0_append_24 (by decide) ?_
  refine q_iadd hx hb dX0_append_25 ?_
  refine p_0_2 (x := 1) (v := nI (K + 1)) hC hW (by omega) kd_1 gw_29 dX0_append_26 (fun H locs hW => ?_)
  exact q_vret1 hC hW hr hlk0 ⟨rfl, rfl⟩ dX0_append_29
def cpr (I : Ic) (x y len : Nat) : Ic := fun b => if b = x then (fun j => if j < len then I y j else I x j) else I b
theorem cpr_at {I : Ic} {x y len b j : Nat} : cpr I x y len b j = if b = x ∧ j < len then I y j else I b j := by
  unfold cpr
  by_cases h : b = x
  · subst h; by_cases h2 : j < len <;> simp [h2]
  · simp [h]
def cpM (I : Ic) (x y : Nat) : Ic := (let M := cpr (cpr I (x + 1) (y + 1) 58) (x + 2) (y + 2) 6; up2 M x 2 (M y 2))
section QCP
variable {p : Program} {l : Launch} {e : Env} {Rm : Room} {s : State} {m : MethodId} {args : Array Value} {below : List Frame} {meth : Method} {c : Code} {H : Heap} {locs : List Loc} {cells slots : Nat} {Q : State → Prop} {cc : ByteArray} {pc : Nat} {ls : Array Slot} {rest : List Value} {A : Nat → Prop} {H0 : Heap} {nL : Nat} {own : String} {G : Gx} {n : Nat} {ad : Nat → Nat} {I : Ic} {L : Lc} {R : Rc}
theorem q_copy {x y len index : Nat} (hC : CallFix p m c cc nL s args GW own) (hW : Wd G n ad I L R A H0 H locs s) (hls : ls.size = nL) (hx : x < n) (hy : y < n) (hkx : kd x = (0, len)) (hky : kd y = (0, len)) (hl : Cond.methodLink own index arraycopyName ∈ GW) (hframes : 1 ≤ Rm.frames) (hlocals : (rest.map fun v => v.category).sum + (nativeFrameWords "java/lang/System" "arraycopy" 5 + 11) ≤ Rm.locals) (hdg : decode cc pc = .ok (.invokestatic index, 3))
    (kk : ∀ (H1 : Heap) (locs1 : List Loc), Wd G n ad (cpr I x y len) L R A H0 H1 locs1 s → W p l e Rm s m args below meth c H1 locs1 cells slots Q (F0 m (pc + 3) ls rest)) : W p l e Rm s m args below meth c H locs cells slots Q (F0 m pc ls (.int (nI len) :: .int (nI 0) :: .ref (ad x) :: .int (nI 0) :: .ref (ad y) :: rest)) := by
  have h1 : len < 1000 := kd_len hkx
  have c0 : (nI 0).toNatClampNeg = 0 := nI_clamp (by decide)
  have cl : (nI len).toNatClampNeg = len := nI_clamp (by omega)
  refine va_copyi hC.1 hC.2.1 (by rw [hC.2.2.1, hls]) hC.2.2.2.1 (hC.2.2.2.2 _ hl) (hC.2.2.2.2 _ gw_387) (hC.2.2.2.2 _ gw_386) (hC.2.2.2.2 _ gw_7) hW.2.1 hW.1 hW.2.2.1 hW.2.2.2.1 y x 0 0 (ty := .int) (by rw [wl_at hy, ct_arr hky]; rfl) (by rw [wl_at hx, ct_arr hkx]; rfl) rfl rfl rfl (nI_pos (by decide)) (nI_pos (by decide)) (nI_pos (by omega)) (by rw [c0, cl]; omega) (by rw [c0, cl]; omega) (fun _ _ => rfl) hframes hlocals hdg (fun H1 locs1 hP hD hS => kk H1 locs1 ?_)
  rw [c0, cl] at hP hD
  rw [wl_set (I' := cpr I x y len) (L' := L) (R' := R) (fun k h => by unfold ct; rw [show cpr I x y len k = I k from if_neg h]) (by
    rw [ct_arr hkx]
    have e9 : cpr I x y len x = va_cpy (I y) (I x) 0 0 len := by
      funext j
      rw [cpr_at]
      unfold va_cpy
      by_cases h : j < len
      · simp [h]
      · simp [h]
    rw [e9]; rfl)] at hP hD
  exact ⟨hP, hW.2.1, hD, hS, hW.2.2.2.2⟩
end QCP
set_option maxRecDepth 100000 in
set_option maxHeartbeats 4000000 in
theorem k_copyFrom (l : Launch) (G : Gx) (n : Nat) (ad : Nat → Nat) (sz : Nat) (I : Ic) (L : Lc) (R : Rc) (x y : Nat) (hlk : LkOK n R) (hxn : x + 2 < n) (hyn : y + 2 < n) (hmx : mdl x) (hmy : mdl y) : Met l yX0_copyFrom (Cond.code yX0_copyFrom cX0_copyFrom 2 none :: GW) ({ frames := 1, cells := 0, slots := 0, locals := 36 } : Room) (qPre G n ad sz I L R [.ref (ad (x)), .ref (ad (y))]) (qV1 G (qA n ad sz) n ad R (fun I1 L1 => I1 = cpM I x y ∧ L = L1)) 0 0 (qA n ad sz) := by
  refine q_met (by decide) (Nat.le_of_ble_eq_true rfl) ?_
  intro p_ e_ s m_ below meth c_ hC hr hlk0 hin hsz hW ls hl
  subst hsz
  have hC : CallFix p_ m_ c_ cX0_copyFrom 2 s ([.ref (ad (x)), .ref (ad (y))] : List Value).toArray GW "CoinRows$Model" := hC
  have hx := hC.1
  have hb := hC.2.1
  have hl : lv_has ls 2 [(0, .ref (ad (x))), (1, .ref (ad (y)))] := hl
  refine lv_aload_n hx hb dX0_copyFrom_0 rfl (lv_at hl 1 rfl) ?_
  refine g_0_0 (x := y) (y := (y + 1)) hC hW (by omega) hmy.1 gw_23 (lk_m hlk (by omega) hmy (by decide)) dX0_copyFrom_1 ?_
  refine q_ic 0 hx hb dX0_copyFrom_4 (by decide) ?_
  refine lv_aload_n hx hb dX0_copyFrom_5 rfl (lv_at hl 0 rfl) ?_
  refine g_0_0 (x := x) (y := (x + 1)) hC hW (by omega) hmx.1 gw_23 (lk_m hlk (by omega) hmx (by decide)) dX0_copyFrom_6 ?_
  refine q_ic 0 hx hb dX0_copyFrom_9 (by decide) ?_
  refine q_bp 58 hx hb dX0_copyFrom_10 (by decide) ?_
  refine q_copy (x := x + 1) (y := y + 1) (len := 58) hC hW hl.1 (by omega) (by omega) hmx.2.1 hmy.2.1 gw_385 (Nat.le_of_ble_eq_true rfl) (Nat.le_of_ble_eq_true rfl) dX0_copyFrom_12 (fun H locs hW => ?_)
  refine lv_aload_n hx hb dX0_copyFrom_15 rfl (lv_at hl 1 rfl) ?_
  refine g_0_1 (x := y) (y := (y + 2)) hC hW (by omega) hmy.1 gw_26 (lk_m hlk (by omega) hmy (by decide)) dX0_copyFrom_16 ?_
  refine q_ic 0 hx hb dX0_copyFrom_19 (by decide) ?_
  refine lv_aload_n hx hb dX0_copyFrom_20 rfl (lv_at hl 0 rfl) ?_
  refine g_0_1 (x := x) (y := (x + 2)) hC hW (by omega) hmx.1 gw_26 (lk_m hlk (by omega) hmx (by decide)) dX0_copyFrom_21 ?_
  refine q_ic 0 hx hb dX0_copyFrom_24 (by decide) ?_
  refine q_bp 6 hx hb dX0_copyFrom_25 (by decide) ?_
  refine q_copy (x := x + 2) (y := y + 2) (len := 6) hC hW hl.1 (by omega) (by omega) hmx.2.2 hmy.2.2 gw_385 (Nat.le_of_ble_eq_true rfl) (Nat.le_of_ble_eq_true rfl) dX0_copyFrom_27 (fun H locs hW => ?_)
  refine lv_aload_n hx hb dX0_copyFrom_30 rfl (lv_at hl 0 rfl) ?_
  refine lv_aload_n hx hb dX0_copyFrom_31 rfl (lv_at hl 1 rfl) ?_
  refine g_0_2 (x := y) hC hW (by omega) hmy.1 gw_29 dX0_copyFrom_32 ?_
  refine p_0_2 (x := x) (v := (cpr (cpr I (x + 1) (y + 1) 58) (x + 2) (y + 2) 6) y 2) hC hW (by omega) hmx.1 gw_29 dX0_copyFrom_35 (fun H locs hW => ?_)
  exact q_vret1 hC hW hr hlk0 ⟨rfl, rfl⟩ dX0_copyFrom_38
set_option maxRecDepth 100000 in
set_option maxHeartbeats 4000000 in
theorem k_countWeights (l : Launch) (G : Gx) (n : Nat) (ad : Nat → Nat) (sz : Nat) (I : Ic) (L : Lc) (R : Rc) (w : Nat → Nat) (K : Nat) (ro : Nat → Nat) (hn : 71 ≤ n) (hlk : LkOK n R) (hM : MdI I w K ro) : Met l yX0_countWeights (Cond.code yX0_countWeights cX0_countWeights 3 (some .int) :: GW) ({ frames := 0, cells := 0, slots := 0, locals := 0 } : Room) (qPre G n ad sz I L R [.ref (ad 1)]) (qI0 G (qA n ad sz) (n, ad, I, L, R) (fun z => z = nI (cntW w 58))) 0 0 (qA n ad sz) := by
  refine q_met (by decide) (Nat.le_of_ble_eq_true rfl) ?_
  intro p_ e_ s m_ below meth c_ hC hr hlk0 hin hsz hW ls hl
  subst hsz
  have hC : CallFix p_ m_ c_ cX0_countWeights 3 s ([.ref (ad 1)] : List Value).toArray GW "CoinRows$Model" := hC
  have hx := hC.1
  have hb := hC.2.1
  have hk6 : K ≤ 6 := hM.2.2.2.1
  have hw3 : ∀ i, w i ≤ 3 := hM.2.2.2.2.1.1
  have hr4 : ∀ j, ro j < 4 := hM.2.2.2.2.2
  have hl : lv_has ls 3 [(0, .ref (ad 1))] := hl
  refine q_ic 0 hx hb dX0_countWeights_0 (by decide) ?_
  refine lv_istore_n (lv' := [(1, .int (nI 0)), (0, .ref (ad 1))]) hx hb dX0_countWeights_1 rfl hl (by decide) rfl (fun ls hl => ?_)
  refine q_ic 0 hx hb dX0_countWeights_2 (by decide) ?_
  refine lv_istore_n (lv' := [(2, .int (nI 0)), (1, .int (nI 0)), (0, .ref (ad 1))]) hx hb dX0_countWeights_3 rfl hl (by decide) rfl (fun ls hl => ?_)
  have lp_4 : ∀ (fu_4 : Nat) (c1 : Nat) (i : Nat), 58 - i < fu_4 → (i ≤ 58) → (c1 = cntW w i) → ∀ (H : Heap) (locs : List Loc), Wd G n ad I L R (qA n ad s.heap.size) s.heap H locs s → ∀ ls : Array Slot, lv_has ls 3 [(0, .ref (ad 1)), (1, .int (nI (c1))), (2, .int (nI (i)))] → W p_ l e_ ({ frames := 0, cells := 0, slots := 0, locals := 0 } : Room) s m_ ([.ref (ad 1)] : List Value).toArray below meth c_ H locs 0 0 (MQ below (qI0 G (qA n ad s.heap.size) (n, ad, I, L, R) (fun z => z = nI (cntW w 58))) ([.ref (ad 1)] : List Value).toArray s 0 0 (qA n ad s.heap.size)) (F0 m_ 4 ls []) := by
    intro fu_4
    induction fu_4 with
    | zero =>
      intro c1 i hm; exact absurd hm (Nat.not_lt_zero _)
    | succ fu_4 ih_4 =>
      intro c1 i hm_4 hi hc H locs hW ls hl
      have hwi := hw3 i
      have hcl : c1 ≤ 58 := by rw [hc]; exact Nat.le_trans (cntW_le w i) hi
      refine lv_iload_n hx hb dX0_countWeights_4 rfl (lv_at hl 2 rfl) ?_
      refine q_bp 58 hx hb dX0_countWeights_5 (by decide) ?_
      refine q_cge (tgt := 28) hx hb dX0_countWeights_7 (by decide) (by first | omega | exact Nat.lt_of_le_of_lt (hw3 _) (by decide)) (by first | omega | exact Nat.lt_of_le_of_lt (hw3 _) (by decide)) (fun c_7 => ?_) (fun c_7 => ?_)
      ·
        refine lv_iload_n hx hb dX0_countWeights_28 rfl (lv_at hl 1 rfl) ?_
        exact q_iret0 hC hW hr hlk0 (by rw [hc, show i = 58 by omega]) dX0_countWeights_29
      ·
        refine lv_aload_n hx hb dX0_countWeights_10 rfl (lv_at hl 0 rfl) ?_
        refine g_0_0 (x := 1) (y := 2) hC hW (by omega) kd_1 gw_23 (hlk 1 0 2 (by omega) rfl) dX0_countWeights_11 ?_
        refine lv_iload_n hx hb dX0_countWeights_14 rfl (lv_at hl 2 rfl) ?_
        refine q_iald (x := 2) (i := i) hC hW (by omega) kd_2 (by omega) dX0_countWeights_15 ?_
        refine q_top (v2 := .int (nI (w (i)))) (congrArg _ (hM.1 _ (by omega))) ?_
        refine q_ieq (tgt := 22) hx hb dX0_countWeights_16 (by decide) (by first | omega | exact Nat.lt_of_le_of_lt (hw3 _) (by decide)) (fun c_16 => ?_) (fun c_16 => ?_)
        ·
          have hz_18 : w i = 0 := c_16
          refine q_iinc (z2 := i + 1) (lv' := [(2, .int (nI (i + 1))), (0, .ref (ad 1)), (1, .int (nI (c1)))]) hx hb dX0_countWeights_22 hl (k := 2) rfl (inc_up _ 1 (by decide)) (by decide) rfl (fun ls hl => ?_)
          refine lv_goto (tgt := 4) hx hb dX0_countWeights_25 (by decide) ?_
          exact ih_4 c1 (i + 1) (by omega) (by omega) (by simp [cntW, hz_18, hc]) _ _ hW _ (lv_sub hl [1, 2, 0] rfl)
        ·
          have hz_18 : w i ≠ 0 := c_16
          refine q_iinc (z2 := c1 + 1) (lv' := [(1, .int (nI (c1 + 1))), (0, .ref (ad 1)), (2, .int (nI (i)))]) hx hb dX0_countWeights_19 hl (k := 1) rfl (inc_up _ 1 (by decide)) (by decide) rfl (fun ls hl => ?_)
          refine q_iinc (z2 := i + 1) (lv' := [(2, .int (nI (i + 1))), (1, .int (nI (c1 + 1))), (0, .ref (ad 1))]) hx hb dX0_countWeights_22 hl (k := 2) rfl (inc_up _ 1 (by decide)) (by decide) rfl (fun ls hl => ?_)
          refine lv_goto (tgt := 4) hx hb dX0_countWeights_25 (by decide) ?_
          exact ih_4 (c1 + 1) (i + 1) (by omega) (by omega) (by simp [cntW, hz_18, hc]) _ _ hW _ (lv_sub hl [2, 1, 0] rfl)
  exact lp_4 (58 + 1) 0 0 (by omega) (by omega) rfl _ _ hW _ (lv_sub hl [2, 1, 0] rfl)
