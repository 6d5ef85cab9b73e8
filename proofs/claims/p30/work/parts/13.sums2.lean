def Meas (w r : Nat → Nat) (K : Nat) (I : Ic) (L : Lc) : Prop := (∀ d f, d ≤ K → f ≤ 6 → L (10 + d) f = lN (bF w (uB w r d) f)) ∧ (∀ d f, d ≤ K → f < 4 → L (18 + d) f = lN (rchu w (uB w r d) f)) ∧ (∀ d f, d ≤ K → f ≤ 6 → Row w r K I L d f) ∧ SI L
def thr (w r : Nat → Nat) (K p f : Nat) : Nat := uB w r (p + 1) f * Sx' w K r (K - (p + 1)) f
theorem bF_lo {w u : Nat → Nat} {f : Nat} (h : f < 4) : bF w u f = u f := by unfold bF; rw [if_neg (by omega), if_neg (by omega)]
def stN (w r : Nat → Nat) (K f t : Nat) : Nat → Nat
  | 0 => 0
  | d + 1 => stN w r K f t d + bF w (uB w r d) f * mv w K r f t d * Sx' w K r (K - nx t d) t
theorem stN_s (w r : Nat → Nat) (K f t d : Nat) : stN w r K f t (d + 1) = stN w r K f t d + bF w (uB w r d) f * mv w K r f t d * Sx' w K r (K - nx t d) t := rfl
def leN (w r : Nat → Nat) (K f t : Nat) : Nat → Nat
  | 0 => 0
  | p + 1 => if r p = t then leN w r K f t p + thr w r K p f else leN w r K f t p
theorem leN_y {w r : Nat → Nat} {K f t p : Nat} (h : r p = t) : leN w r K f t (p + 1) = leN w r K f t p + thr w r K p f := if_pos h
theorem leN_n {w r : Nat → Nat} {K f t p : Nat} (h : ¬ r p = t) : leN w r K f t (p + 1) = leN w r K f t p := if_neg h
def neN (w r : Nat → Nat) (K t : Nat) : Nat → Nat
  | 0 => 0
  | f + 1 => neN w r K t f + rchu w (uB w r K) f * w (42 + f * 4 + t)
def chN (w r : Nat → Nat) (K p t : Nat) : Nat → Nat
  | 0 => 0
  | f + 1 => chN w r K p t f + rchu w (uB w r p) f * w (42 + f * 4 + t) * Sx' w K r (K - (p + 1)) f
theorem Meas_of {w r : Nat → Nat} {K : Nat} {I0 I : Ic} {L0 L1 L : Lc} (h1 : BO w r K L0 (K + 1) L1) (hK : K ≤ 6) (h2 : RO w r K I0 I L1 L 0) : Meas w r K I L ∧ (∀ a, a < 10 ∨ 40 < a → L a = L0 a) ∧ ∀ a, a < 42 ∨ 48 < a → I a = I0 a := by
  refine ⟨⟨fun d f hd hf => ?_, fun d f hd hf => ?_, fun d f hd hf => h2.1 d f (by omega) hd hf, fun f hf => ?_, ?_, fun d hd hd6 => ?_⟩, fun a ha => ?_, h2.2.2⟩
  · rw [h2.2.1 _ (by omega)]; exact h1.1 d f (by omega) hf
  · rw [h2.2.1 _ (by omega)]; exact h1.2.1 d f (by omega) hf
  · rw [h2.2.1 _ (by omega)]; exact h1.2.2.2.1.1 f hf
  · rw [h2.2.1 _ (by omega)]; exact h1.2.2.2.1.2.1
  · rw [h2.2.1 _ (by omega)]; exact h1.2.2.2.1.2.2 d hd hd6
  · rw [h2.2.1 a (by omega)]; exact h1.2.2.2.2 a (by omega)
set_option maxRecDepth 100000 in
set_option maxHeartbeats 4000000 in
theorem k_whole (l : Launch) (G : Gx) (n : Nat) (ad : Nat → Nat) (sz : Nat) (I : Ic) (L : Lc) (R : Rc) (w : Nat → Nat) (K : Nat) (ro : Nat → Nat) (hn : 71 ≤ n) (hlk : LkOK n R) (hM : MdI I w K ro) (hMs : Meas w ro K I L) : Met l yX2_whole (Cond.code yX2_whole cX2_whole 1 (some .long) :: GW) ({ frames := 0, cells := 0, slots := 0, locals := 0 } : Room) (qPre G n ad sz I L R [.ref (ad 8)]) (qL0 G (qA n ad sz) (n, ad, I, L, R) (fun z => z = lN (Sx' w K ro K 6))) 0 0 (qA n ad sz) := by
  refine q_met (by decide) (Nat.le_of_ble_eq_true rfl) ?_
  intro p_ e_ s m_ below meth c_ hC hr hlk0 hin hsz hW ls hl
  subst hsz
  have hC : CallFix p_ m_ c_ cX2_whole 1 s ([.ref (ad 8)] : List Value).toArray GW "CoinRows$Sums" := hC
  have hx := hC.1
  have hb := hC.2.1
  have hk6 : K ≤ 6 := hM.2.2.2.1
  have hw3 : ∀ i, w i ≤ 3 := hM.2.2.2.2.1.1
  have hr4 : ∀ j, ro j < 4 := hM.2.2.2.2.2
  have hl : lv_has ls 1 [(0, .ref (ad 8))] := hl
  refine lv_aload_n hx hb dX2_whole_0 rfl (lv_at hl 0 rfl) ?_
  refine g_2_2 (x := 8) (y := 25) hC hW (by omega) kd_8 gw_76 (hlk 8 2 25 (by omega) rfl) dX2_whole_1 ?_
  refine q_ic 0 hx hb dX2_whole_4 (by decide) ?_
  refine q_aald5 (x := 25) (i := 0) (y := 26) hC hW (by omega) kd_25 (by omega) (lk_row25 hlk (by omega) (by omega)) dX2_whole_5 ?_
  refine q_bp 6 hx hb dX2_whole_6 (by decide) ?_
  refine q_lald (x := 26) (i := 6) hC hW (by omega) kd_26 (by omega) dX2_whole_8 ?_
  refine q_top (v2 := .long (lN (Sx' w K ro K 6))) (congrArg _ (hMs.2.2.1 0 6 (by omega) (by omega)).1) ?_
  exact q_lret0 hC hW hr hlk0 rfl dX2_whole_9
set_option maxRecDepth 100000 in
set_option maxHeartbeats 4000000 in
theorem k_number (l : Launch) (G : Gx) (n : Nat) (ad : Nat → Nat) (sz : Nat) (I : Ic) (L : Lc) (R : Rc) (w : Nat → Nat) (K : Nat) (ro : Nat → Nat) (hn : 71 ≤ n) (hlk : LkOK n R) (hM : MdI I w K ro) (hMs : Meas w ro K I L) : Met l yX2_number (Cond.code yX2_number cX2_number 1 (some .int) :: GW) ({ frames := 0, cells := 0, slots := 0, locals := 0 } : Room) (qPre G n ad sz I L R [.ref (ad 8)]) (qI0 G (qA n ad sz) (n, ad, I, L, R) (fun z => z = nI (Cx' w K ro K 6))) 0 0 (qA n ad sz) := by
  refine q_met (by decide) (Nat.le_of_ble_eq_true rfl) ?_
  intro p_ e_ s m_ below meth c_ hC hr hlk0 hin hsz hW ls hl
  subst hsz
  have hC : CallFix p_ m_ c_ cX2_number 1 s ([.ref (ad 8)] : List Value).toArray GW "CoinRows$Sums" := hC
  have hx := hC.1
  have hb := hC.2.1
  have hk6 : K ≤ 6 := hM.2.2.2.1
  have hw3 : ∀ i, w i ≤ 3 := hM.2.2.2.2.1.1
  have hr4 : ∀ j, ro j < 4 := hM.2.2.2.2.2
  have hl : lv_has ls 1 [(0, .ref (ad 8))] := hl
  refine lv_aload_n hx hb dX2_number_0 rfl (lv_at hl 0 rfl) ?_
  refine g_2_4 (x := 8) (y := 41) hC hW (by omega) kd_8 gw_80 (hlk 8 4 41 (by omega) rfl) dX2_number_1 ?_
  refine q_ic 0 hx hb dX2_number_4 (by decide) ?_
  refine q_aald6 (x := 41) (i := 0) (y := 42) hC hW (by omega) kd_41 (by omega) (lk_row41 hlk (by omega) (by omega)) dX2_number_5 ?_
  refine q_bp 6 hx hb dX2_number_6 (by decide) ?_
  refine q_iald (x := 42) (i := 6) hC hW (by omega) kd_42 (by omega) dX2_number_8 ?_
  refine q_top (v2 := .int (nI (Cx' w K ro K 6))) (congrArg _ (hMs.2.2.1 0 6 (by omega) (by omega)).2.2) ?_
  exact q_iret0 hC hW hr hlk0 rfl dX2_number_9
set_option maxRecDepth 100000 in
set_option maxHeartbeats 4000000 in
theorem k_greatest (l : Launch) (G : Gx) (n : Nat) (ad : Nat → Nat) (sz : Nat) (I : Ic) (L : Lc) (R : Rc) (w : Nat → Nat) (K : Nat) (ro : Nat → Nat) (hn : 71 ≤ n) (hlk : LkOK n R) (hM : MdI I w K ro) (hMs : Meas w ro K I L) : Met l yX2_greatest (Cond.code yX2_greatest cX2_greatest 1 (some .long) :: GW) ({ frames := 0, cells := 0, slots := 0, locals := 0 } : Room) (qPre G n ad sz I L R [.ref (ad 8)]) (qL0 G (qA n ad sz) (n, ad, I, L, R) (fun z => z = lN (Mx' w K ro K 6))) 0 0 (qA n ad sz) := by
  refine q_met (by decide) (Nat.le_of_ble_eq_true rfl) ?_
  intro p_ e_ s m_ below meth c_ hC hr hlk0 hin hsz hW ls hl
  subst hsz
  have hC : CallFix p_ m_ c_ cX2_greatest 1 s ([.ref (ad 8)] : List Value).toArray GW "CoinRows$Sums" := hC
  have hx := hC.1
  have hb := hC.2.1
  have hk6 : K ≤ 6 := hM.2.2.2.1
  have hw3 : ∀ i, w i ≤ 3 := hM.2.2.2.2.1.1
  have hr4 : ∀ j, ro j < 4 := hM.2.2.2.2.2
  have hl : lv_has ls 1 [(0, .ref (ad 8))] := hl
  refine lv_aload_n hx hb dX2_greatest_0 rfl (lv_at hl 0 rfl) ?_
  refine g_2_3 (x := 8) (y := 33) hC hW (by omega) kd_8 gw_78 (hlk 8 3 33 (by omega) rfl) dX2_greatest_1 ?_
  refine q_ic 0 hx hb dX2_greatest_4 (by decide) ?_
  refine q_aald5 (x := 33) (i := 0) (y := 34) hC hW (by omega) kd_33 (by omega) (lk_row33 hlk (by omega) (by omega)) dX2_greatest_5 ?_
  refine q_bp 6 hx hb dX2_greatest_6 (by decide) ?_
  refine q_lald (x := 34) (i := 6) hC hW (by omega) kd_34 (by omega) dX2_greatest_8 ?_
  refine q_top (v2 := .long (lN (Mx' w K ro K 6))) (congrArg _ (hMs.2.2.1 0 6 (by omega) (by omega)).2.1) ?_
  exact q_lret0 hC hW hr hlk0 rfl dX2_greatest_9
set_option maxRecDepth 100000 in
set_option maxHeartbeats 4000000 in
theorem k_through (l : Launch) (G : Gx) (n : Nat) (ad : Nat → Nat) (sz : Nat) (I : Ic) (L : Lc) (R : Rc) (q f : Nat) (w : Nat → Nat) (K : Nat) (ro : Nat → Nat) (hn : 71 ≤ n) (hlk : LkOK n R) (hM : MdI I w K ro) (hMs : Meas w ro K I L) (hp : q < K) (hf : f < 4) : Met l yX2_through (Cond.code yX2_through cX2_through 3 (some .long) :: GW) ({ frames := 0, cells := 0, slots := 0, locals := 0 } : Room) (qPre G n ad sz I L R [.ref (ad 8), .int (nI (q)), .int (nI (f))]) (qL0 G (qA n ad sz) (n, ad, I, L, R) (fun z => z = lN (thr w ro K q f))) 0 0 (qA n ad sz) := by
  refine q_met (by decide) (Nat.le_of_ble_eq_true rfl) ?_
  intro p_ e_ s m_ below meth c_ hC hr hlk0 hin hsz hW ls hl
  subst hsz
  have hC : CallFix p_ m_ c_ cX2_through 3 s ([.ref (ad 8), .int (nI (q)), .int (nI (f))] : List Value).toArray GW "CoinRows$Sums" := hC
  have hx := hC.1
  have hb := hC.2.1
  have hk6 : K ≤ 6 := hM.2.2.2.1
  have hw3 : ∀ i, w i ≤ 3 := hM.2.2.2.2.1.1
  have hr4 : ∀ j, ro j < 4 := hM.2.2.2.2.2
  have hl : lv_has ls 3 [(0, .ref (ad 8)), (1, .int (nI (q))), (2, .int (nI (f)))] := hl
  refine lv_aload_n hx hb dX2_through_0 rfl (lv_at hl 0 rfl) ?_
  refine g_2_0 (x := 8) (y := 9) hC hW (by omega) kd_8 gw_73 (hlk 8 0 9 (by omega) rfl) dX2_through_1 ?_
  refine lv_iload_n hx hb dX2_through_4 rfl (lv_at hl 1 rfl) ?_
  refine q_ic 1 hx hb dX2_through_5 (by decide) ?_
  refine q_iadd hx hb dX2_through_6 ?_
  refine q_aald5 (x := 9) (i := q + 1) (y := 10 + (q + 1)) hC hW (by omega) kd_9 (by omega) (lk_row9 hlk (by omega) (by omega)) dX2_through_7 ?_
  refine lv_iload_n hx hb dX2_through_8 rfl (lv_at hl 2 rfl) ?_
  refine q_lald (x := (10 + (q + 1))) (i := f) hC hW (by omega) (kd_r10 (by omega)) (by omega) dX2_through_9 ?_
  refine q_top (v2 := .long (lN (uB w ro (q + 1) f))) (congrArg _ ((hMs.1 (q + 1) f (by omega) (by omega)).trans (congrArg _ (bF_lo (by omega))))) ?_
  refine lv_aload_n hx hb dX2_through_10 rfl (lv_at hl 0 rfl) ?_
  refine g_2_2 (x := 8) (y := 25) hC hW (by omega) kd_8 gw_76 (hlk 8 2 25 (by omega) rfl) dX2_through_11 ?_
  refine lv_iload_n hx hb dX2_through_14 rfl (lv_at hl 1 rfl) ?_
  refine q_ic 1 hx hb dX2_through_15 (by decide) ?_
  refine q_iadd hx hb dX2_through_16 ?_
  refine q_aald5 (x := 25) (i := q + 1) (y := 26 + (q + 1)) hC hW (by omega) kd_25 (by omega) (lk_row25 hlk (by omega) (by omega)) dX2_through_17 ?_
  refine lv_iload_n hx hb dX2_through_18 rfl (lv_at hl 2 rfl) ?_
  refine q_lald (x := (26 + (q + 1))) (i := f) hC hW (by omega) (kd_r26 (by omega)) (by omega) dX2_through_19 ?_
  refine q_top (v2 := .long (lN (Sx' w K ro (K - (q + 1)) f))) (congrArg _ (hMs.2.2.1 (q + 1) f (by omega) (by omega)).1) ?_
  refine q_lmul hx hb dX2_through_20 ?_
  exact q_lret0 hC hW hr hlk0 rfl dX2_through_21
set_option maxRecDepth 100000 in
set_option maxHeartbeats 4000000 in
theorem k_ofStep (l : Launch) (G : Gx) (n : Nat) (ad : Nat → Nat) (sz : Nat) (I : Ic) (L : Lc) (R : Rc) (f t : Nat) (w : Nat → Nat) (K : Nat) (ro : Nat → Nat) (hn : 71 ≤ n) (hlk : LkOK n R) (hM : MdI I w K ro) (hMs : Meas w ro K I L) (hf : f ≤ 6) (ht : t < 6) : Met l yX2_ofStep (Cond.code yX2_ofStep cX2_ofStep 8 (some .long) :: GW) ({ frames := 2, cells := 0, slots := 0, locals := 72 } : Room) (qPre G n ad sz I L R [.ref (ad 8), .ref (ad 1), .int (nI (f)), .int (nI (t))]) (qL0 G (qA n ad sz) (n, ad, I, L, R) (fun z => z = lN (stN w ro K f t K))) 0 0 (qA n ad sz) := by
  refine q_met (by decide) (Nat.le_of_ble_eq_true rfl) ?_
  intro p_ e_ s m_ below meth c_ hC hr hlk0 hin hsz hW ls hl
  subst hsz
  have hC : CallFix p_ m_ c_ cX2_ofStep 8 s ([.ref (ad 8), .ref (ad 1), .int (nI (f)), .int (nI (t))] : List Value).toArray GW "CoinRows$Sums" := hC
  have hx := hC.1
  have hb := hC.2.1
  have hk6 : K ≤ 6 := hM.2.2.2.1
  have hw3 : ∀ i, w i ≤ 3 := hM.2.2.2.2.1.1
  have hr4 : ∀ j, ro j < 4 := hM.2.2.2.2.2
  have hl : lv_has ls 8 [(0, .ref (ad 8)), (1, .ref (ad 1)), (2, .int (nI (f))), (3, .int (nI (t)))] := hl
  refine q_lc 0 hx hb dX2_ofStep_0 (by decide) ?_
  refine lv_lstore (lv' := [(4, .long (lN 0)), (0, .ref (ad 8)), (1, .ref (ad 1)), (2, .int (nI (f))), (3, .int (nI (t)))]) hx hb dX2_ofStep_1 hl (by decide) rfl (fun ls hl => ?_)
  refine q_ic 0 hx hb dX2_ofStep_3 (by decide) ?_
  refine lv_istore (lv' := [(6, .int (nI 0)), (4, .long (lN 0)), (0, .ref (ad 8)), (1, .ref (ad 1)), (2, .int (nI (f))), (3, .int (nI (t)))]) hx hb dX2_ofStep_4 hl (by decide) rfl (fun ls hl => ?_)
  have lp_6 : ∀ (fu_6 : Nat) (i : Nat), K - i < fu_6 → (i ≤ K) → ∀ (H : Heap) (locs : List Loc), Wd G n ad I L R (qA n ad s.heap.size) s.heap H locs s → ∀ ls : Array Slot, lv_has ls 8 [(0, .ref (ad 8)), (1, .ref (ad 1)), (2, .int (nI (f))), (3, .int (nI (t))), (4, .long (lN (stN w ro K f t i))), (6, .int (nI (i)))] → W p_ l e_ ({ frames := 2, cells := 0, slots := 0, locals := 72 } : Room) s m_ ([.ref (ad 8), .ref (ad 1), .int (nI (f)), .int (nI (t))] : List Value).toArray below meth c_ H locs 0 0 (MQ below (qL0 G (qA n ad s.heap.size) (n, ad, I, L, R) (fun z => z = lN (stN w ro K f t K))) ([.ref (ad 8), .ref (ad 1), .int (nI (f)), .int (nI (t))] : List Value).toArray s 0 0 (qA n ad s.heap.size)) (F0 m_ 6 ls []) := by
    intro fu_6
    induction fu_6 with
    | zero =>
      intro i hm; exact absurd hm (Nat.not_lt_zero _)
    | succ fu_6 ih_6 =>
      intro i hm_6 hi H locs hW ls hl
      have hmv := mv_le hM.2.2.2.2.1 K ro f t i
      refine lv_iload hx hb dX2_ofStep_6 (lv_at hl 5 rfl) ?_
      refine lv_aload_n hx hb dX2_ofStep_8 rfl (lv_at hl 1 rfl) ?_
      refine g_0_2 (x := 1) hC hW (by omega) kd_1 gw_32 dX2_ofStep_9 ?_
      refine q_top (v2 := .int (nI (K))) (congrArg _ hM.2.1) ?_
      refine q_cge (tgt := 71) hx hb dX2_ofStep_12 (by decide) (by first | omega | exact Nat.lt_of_le_of_lt (hw3 _) (by decide)) (by first | omega | exact Nat.lt_of_le_of_lt (hw3 _) (by decide)) (fun c_12 => ?_) (fun c_12 => ?_)
      ·
        refine lv_lload hx hb dX2_ofStep_71 (lv_at hl 4 rfl) ?_
        exact q_lret0 hC hW hr hlk0 (by rw [show i = K by omega]) dX2_ofStep_73
      ·
        refine lv_iload_n hx hb dX2_ofStep_15 rfl (lv_at hl 3 rfl) ?_
        refine q_ic 4 hx hb dX2_ofStep_16 (by decide) ?_
        refine q_cge (tgt := 27) hx hb dX2_ofStep_17 (by decide) (by first | omega | exact Nat.lt_of_le_of_lt (hw3 _) (by decide)) (by first | omega | exact Nat.lt_of_le_of_lt (hw3 _) (by decide)) (fun c_17 => ?_) (fun c_17 => ?_)
        ·
          refine lv_iload hx hb dX2_ofStep_27 (lv_at hl 5 rfl) ?_
          refine lv_istore (lv' := [(7, .int (nI (i))), (0, .ref (ad 8)), (1, .ref (ad 1)), (2, .int (nI (f))), (3, .int (nI (t))), (4, .long (lN (stN w ro K f t i))), (6, .int (nI (i)))]) hx hb dX2_ofStep_29 hl (by decide) rfl (fun ls hl => ?_)
          refine lv_lload hx hb dX2_ofStep_31 (lv_at hl 5 rfl) ?_
          refine lv_aload_n hx hb dX2_ofStep_33 rfl (lv_at hl 1 rfl) ?_
          refine g_2_0 (x := 8) (y := 9) hC hW (by omega) kd_8 gw_73 (hlk 8 0 9 (by omega) rfl) dX2_ofStep_34 ?_
          refine lv_iload hx hb dX2_ofStep_37 (lv_at hl 6 rfl) ?_
          refine q_aald5 (x := 9) (i := i) (y := 10 + i) hC hW (by omega) kd_9 (by omega) (lk_row9 hlk (by omega) (by omega)) dX2_ofStep_39 ?_
          refine lv_iload_n hx hb dX2_ofStep_40 rfl (lv_at hl 3 rfl) ?_
          refine q_lald (x := (10 + i)) (i := f) hC hW (by omega) (kd_r10 (by omega)) (by omega) dX2_ofStep_41 ?_
          refine q_top (v2 := .long (lN (bF w (uB w ro i) f))) (congrArg _ (hMs.1 i f (by omega) (by omega))) ?_
          refine lv_aload_n hx hb dX2_ofStep_42 rfl (lv_at hl 2 rfl) ?_
          refine lv_iload_n hx hb dX2_ofStep_43 rfl (lv_at hl 3 rfl) ?_
          refine lv_iload_n hx hb dX2_ofStep_44 rfl (lv_at hl 4 rfl) ?_
          refine lv_iload hx hb dX2_ofStep_45 (lv_at hl 6 rfl) ?_
          refine q_kI0 (q_rV (As := [.int (nI (f)), .int (nI (t)), .int (nI (i))]) (rest := [.long (lN (bF w (uB w ro i) f)), .long (lN (stN w ro K f t i))]) (x := 1) hC hW mw_X0_moveWeight gw_230 (k_moveWeight l G n ad H.size I L R _ _ _ w K ro hn hlk hM (by omega) (by omega) (by omega)) (by omega) (ct_o0 kd_1) rfl ⟨rfl, rfl⟩ ⟨Nat.le_of_ble_eq_true rfl, Nat.le_of_ble_eq_true rfl⟩ ⟨(Nat.le_of_ble_eq_true rfl), (Nat.le_of_ble_eq_true rfl)⟩ hl.1 rfl rfl (Nat.le_of_ble_eq_true rfl) dX2_ofStep_47) hW (fun r_47 H locs hp hW => ?_)
          subst hp
          refine q_i2l hx hb dX2_ofStep_50 (by first | omega | exact Nat.lt_of_le_of_lt (hw3 _) (by decide)) ?_
          refine q_lmul hx hb dX2_ofStep_51 ?_
          refine lv_aload_n hx hb dX2_ofStep_52 rfl (lv_at hl 1 rfl) ?_
          refine g_2_2 (x := 8) (y := 25) hC hW (by omega) kd_8 gw_76 (hlk 8 2 25 (by omega) rfl) dX2_ofStep_53 ?_
          refine lv_iload hx hb dX2_ofStep_56 (lv_at hl 0 rfl) ?_
          refine q_aald5 (x := 25) (i := i) (y := 26 + i) hC hW (by omega) kd_25 (by omega) (lk_row25 hlk (by omega) (by omega)) dX2_ofStep_58 ?_
          refine lv_iload_n hx hb dX2_ofStep_59 rfl (lv_at hl 4 rfl) ?_
          refine q_lald (x := (26 + i)) (i := t) hC hW (by omega) (kd_r26 (by omega)) (by omega) dX2_ofStep_60 ?_
          refine q_top (v2 := .long (lN (Sx' w K ro (K - i) t))) (congrArg _ (hMs.2.2.1 i t (by omega) (by omega)).1) ?_
          refine q_lmul hx hb dX2_ofStep_61 ?_
          refine q_ladd hx hb dX2_ofStep_62 ?_
          refine q_top (v2 := .long (lN (stN w ro K f t (i + 1)))) (congrArg _ (congrArg lN (by rw [stN_s]; unfold nx; rw [if_neg (show ¬ t < 4 by omega)]))) ?_
          refine lv_lstore (lv' := [(4, .long (lN (stN w ro K f t (i + 1)))), (7, .int (nI (i))), (0, .ref (ad 8)), (1, .ref (ad 1)), (2, .int (nI (f))), (3, .int (nI (t))), (6, .int (nI (i)))]) hx hb dX2_ofStep_63 hl (by decide) rfl (fun ls hl => ?_)
          refine q_iinc (z2 := i + 1) (lv' := [(6, .int (nI (i + 1))), (4, .long (lN (stN w ro K f t (i + 1)))), (7, .int (nI (i))), (0, .ref (ad 8)), (1, .ref (ad 1)), (2, .int (nI (f))), (3, .int (nI (t)))]) hx hb dX2_ofStep_65 hl (k := 6) rfl (inc_up _ 1 (by decide)) (by decide) rfl (fun ls hl => ?_)
          refine lv_goto (tgt := 6) hx hb dX2_ofStep_68 (by decide) ?_
          exact ih_6 (i + 1) (by omega) (by omega) _ _ hW _ (lv_sub hl [3, 4, 5, 6, 1, 0] rfl)
        ·
          refine lv_iload hx hb dX2_ofStep_20 (lv_at hl 5 rfl) ?_
          refine q_ic 1 hx hb dX2_ofStep_22 (by decide) ?_
          refine q_iadd hx hb dX2_ofStep_23 ?_
          refine lv_goto (tgt := 29) hx hb dX2_ofStep_24 (by decide) ?_
          refine lv_istore (lv' := [(7, .int (nI (i + 1))), (0, .ref (ad 8)), (1, .ref (ad 1)), (2, .int (nI (f))), (3, .int (nI (t))), (4, .long (lN (stN w ro K f t i))), (6, .int (nI (i)))]) hx hb dX2_ofStep_29 hl (by decide) rfl (fun ls hl => ?_)
          refine lv_lload hx hb dX2_ofStep_31 (lv_at hl 5 rfl) ?_
          refine lv_aload_n hx hb dX2_ofStep_33 rfl (lv_at hl 1 rfl) ?_
          refine g_2_0 (x := 8) (y := 9) hC hW (by omega) kd_8 gw_73 (hlk 8 0 9 (by omega) rfl) dX2_ofStep_34 ?_
          refine lv_iload hx hb dX2_ofStep_37 (lv_at hl 6 rfl) ?_
          refine q_aald5 (x := 9) (i := i) (y := 10 + i) hC hW (by omega) kd_9 (by omega) (lk_row9 hlk (by omega) (by omega)) dX2_ofStep_39 ?_
          refine lv_iload_n hx hb dX2_ofStep_40 rfl (lv_at hl 3 rfl) ?_
          refine q_lald (x := (10 + i)) (i := f) hC hW (by omega) (kd_r10 (by omega)) (by omega) dX2_ofStep_41 ?_
          refine q_top (v2 := .long (lN (bF w (uB w ro i) f))) (congrArg _ (hMs.1 i f (by omega) (by omega))) ?_
          refine lv_aload_n hx hb dX2_ofStep_42 rfl (lv_at hl 2 rfl) ?_
          refine lv_iload_n hx hb dX2_ofStep_43 rfl (lv_at hl 3 rfl) ?_
          refine lv_iload_n hx hb dX2_ofStep_44 rfl (lv_at hl 4 rfl) ?_
          refine lv_iload hx hb dX2_ofStep_45 (lv_at hl 6 rfl) ?_
          refine q_kI0 (q_rV (As := [.int (nI (f)), .int (nI (t)), .int (nI (i))]) (rest := [.long (lN (bF w (uB w ro i) f)), .long (lN (stN w ro K f t i))]) (x := 1) hC hW mw_X0_moveWeight gw_230 (k_moveWeight l G n ad H.size I L R _ _ _ w K ro hn hlk hM (by omega) (by omega) (by omega)) (by omega) (ct_o0 kd_1) rfl ⟨rfl, rfl⟩ ⟨Nat.le_of_ble_eq_true rfl, Nat.le_of_ble_eq_true rfl⟩ ⟨(Nat.le_of_ble_eq_true rfl), (Nat.le_of_ble_eq_true rfl)⟩ hl.1 rfl rfl (Nat.le_of_ble_eq_true rfl) dX2_ofStep_47) hW (fun r_47 H locs hp hW => ?_)
          subst hp
          refine q_i2l hx hb dX2_ofStep_50 (by first | omega | exact Nat.lt_of_le_of_lt (hw3 _) (by decide)) ?_
          refine q_lmul hx hb dX2_ofStep_51 ?_
          refine lv_aload_n hx hb dX2_ofStep_52 rfl (lv_at hl 1 rfl) ?_
          refine g_2_2 (x := 8) (y := 25) hC hW (by omega) kd_8 gw_76 (hlk 8 2 25 (by omega) rfl) dX2_ofStep_53 ?_
          refine lv_iload hx hb dX2_ofStep_56 (lv_at hl 0 rfl) ?_
          refine q_aald5 (x := 25) (i := i + 1) (y := 26 + (i + 1)) hC hW (by omega) kd_25 (by omega) (lk_row25 hlk (by omega) (by omega)) dX2_ofStep_58 ?_
          refine lv_iload_n hx hb dX2_ofStep_59 rfl (lv_at hl 4 rfl) ?_
          refine q_lald (x := (26 + (i + 1))) (i := t) hC hW (by omega) (kd_r26 (by omega)) (by omega) dX2_ofStep_60 ?_
          refine q_top (v2 := .long (lN (Sx' w K ro (K - (i + 1)) t))) (congrArg _ (hMs.2.2.1 (i + 1) t (by omega) (by omega)).1) ?_
          refine q_lmul hx hb dX2_ofStep_61 ?_
          refine q_ladd hx hb dX2_ofStep_62 ?_
          refine q_top (v2 := .long (lN (stN w ro K f t (i + 1)))) (congrArg _ (congrArg lN (by rw [stN_s]; unfold nx; rw [if_pos (show t < 4 by omega)]))) ?_
          refine lv_lstore (lv' := [(4, .long (lN (stN w ro K f t (i + 1)))), (7, .int (nI (i + 1))), (0, .ref (ad 8)), (1, .ref (ad 1)), (2, .int (nI (f))), (3, .int (nI (t))), (6, .int (nI (i)))]) hx hb dX2_ofStep_63 hl (by decide) rfl (fun ls hl => ?_)
          refine q_iinc (z2 := i + 1) (lv' := [(6, .int (nI (i + 1))), (4, .long (lN (stN w ro K f t (i + 1)))), (7, .int (nI (i + 1))), (0, .ref (ad 8)), (1, .ref (ad 1)), (2, .int (nI (f))), (3, .int (nI (t)))]) hx hb dX2_ofStep_65 hl (k := 6) rfl (inc_up _ 1 (by decide)) (by decide) rfl (fun ls hl => ?_)
          refine lv_goto (tgt := 6) hx hb dX2_ofStep_68 (by decide) ?_
          exact ih_6 (i + 1) (by omega) (by omega) _ _ hW _ (lv_sub hl [3, 4, 5, 6, 1, 0] rfl)
  exact lp_6 (K + 1) 0 (by omega) (by omega) _ _ hW _ (lv_sub hl [2, 3, 4, 5, 1, 0] rfl)
set_option maxRecDepth 100000 in
set_option maxHeartbeats 4000000 in
theorem k_ofLetter (l : Launch) (G : Gx) (n : Nat) (ad : Nat → Nat) (sz : Nat) (I : Ic) (L : Lc) (R : Rc) (f t : Nat) (w : Nat → Nat) (K : Nat) (ro : Nat → Nat) (hn : 71 ≤ n) (hlk : LkOK n R) (hM : MdI I w K ro) (hMs : Meas w ro K I L) (hf : f < 4) (ht : t < 4) : Met l yX2_ofLetter (Cond.code yX2_ofLetter cX2_ofLetter 7 (some .long) :: GW) ({ frames := 1, cells := 0, slots := 0, locals := 36 } : Room) (qPre G n ad sz I L R [.ref (ad 8), .ref (ad 1), .int (nI (f)), .int (nI (t))]) (qL0 G (qA n ad sz) (n, ad, I, L, R) (fun z => z = lN (leN w ro K f t K))) 0 0 (qA n ad sz) := by
  refine q_met (by decide) (Nat.le_of_ble_eq_true rfl) ?_
  intro p_ e_ s m_ below meth c_ hC hr hlk0 hin hsz hW ls hl
  subst hsz
  have hC : CallFix p_ m_ c_ cX2_ofLetter 7 s ([.ref (ad 8), .ref (ad 1), .int (nI (f)), .int (nI (t))] : List Value).toArray GW "CoinRows$Sums" := hC
  have hx := hC.1
  have hb := hC.2.1
  have hk6 : K ≤ 6 := hM.2.2.2.1
  have hw3 : ∀ i, w i ≤ 3 := hM.2.2.2.2.1.1
  have hr4 : ∀ j, ro j < 4 := hM.2.2.2.2.2
  have hl : lv_has ls 7 [(0, .ref (ad 8)), (1, .ref (ad 1)), (2, .int (nI (f))), (3, .int (nI (t)))] := hl
  refine q_lc 0 hx hb dX2_ofLetter_0 (by decide) ?_
  refine lv_lstore (lv' := [(4, .long (lN 0)), (0, .ref (ad 8)), (1, .ref (ad 1)), (2, .int (nI (f))), (3, .int (nI (t)))]) hx hb dX2_ofLetter_1 hl (by decide) rfl (fun ls hl => ?_)
  refine q_ic 0 hx hb dX2_ofLetter_3 (by decide) ?_
  refine lv_istore (lv' := [(6, .int (nI 0)), (4, .long (lN 0)), (0, .ref (ad 8)), (1, .ref (ad 1)), (2, .int (nI (f))), (3, .int (nI (t)))]) hx hb dX2_ofLetter_4 hl (by decide) rfl (fun ls hl => ?_)
  have lp_6 : ∀ (fu_6 : Nat) (i : Nat), K - i < fu_6 → (i ≤ K) → ∀ (H : Heap) (locs : List Loc), Wd G n ad I L R (qA n ad s.heap.size) s.heap H locs s → ∀ ls : Array Slot, lv_has ls 7 [(0, .ref (ad 8)), (1, .ref (ad 1)), (2, .int (nI (f))), (3, .int (nI (t))), (4, .long (lN (leN w ro K f t i))), (6, .int (nI (i)))] → W p_ l e_ ({ frames := 1, cells := 0, slots := 0, locals := 36 } : Room) s m_ ([.ref (ad 8), .ref (ad 1), .int (nI (f)), .int (nI (t))] : List Value).toArray below meth c_ H locs 0 0 (MQ below (qL0 G (qA n ad s.heap.size) (n, ad, I, L, R) (fun z => z = lN (leN w ro K f t K))) ([.ref (ad 8), .ref (ad 1), .int (nI (f)), .int (nI (t))] : List Value).toArray s 0 0 (qA n ad s.heap.size)) (F0 m_ 6 ls []) := by
    intro fu_6
    induction fu_6 with
    | zero =>
      intro i hm; exact absurd hm (Nat.not_lt_zero _)
    | succ fu_6 ih_6 =>
      intro i hm_6 hi H locs hW ls hl
      have hri := hr4 i
      refine lv_iload hx hb dX2_ofLetter_6 (lv_at hl 5 rfl) ?_
      refine lv_aload_n hx hb dX2_ofLetter_8 rfl (lv_at hl 1 rfl) ?_
      refine g_0_2 (x := 1) hC hW (by omega) kd_1 gw_32 dX2_ofLetter_9 ?_
      refine q_top (v2 := .int (nI (K))) (congrArg _ hM.2.1) ?_
      refine q_cge (tgt := 44) hx hb dX2_ofLetter_12 (by decide) (by first | omega | exact Nat.lt_of_le_of_lt (hw3 _) (by decide)) (by first | omega | exact Nat.lt_of_le_of_lt (hw3 _) (by decide)) (fun c_12 => ?_) (fun c_12 => ?_)
      ·
        refine lv_lload hx hb dX2_ofLetter_44 (lv_at hl 4 rfl) ?_
        exact q_lret0 hC hW hr hlk0 (by rw [show i = K by omega]) dX2_ofLetter_46
      ·
        refine lv_aload_n hx hb dX2_ofLetter_15 rfl (lv_at hl 1 rfl) ?_
        refine g_0_1 (x := 1) (y := 3) hC hW (by omega) kd_1 gw_28 (hlk 1 1 3 (by omega) rfl) dX2_ofLetter_16 ?_
        refine lv_iload hx hb dX2_ofLetter_19 (lv_at hl 5 rfl) ?_
        refine q_iald (x := 3) (i := i) hC hW (by omega) kd_3 (by omega) dX2_ofLetter_21 ?_
        refine q_top (v2 := .int (nI (ro i))) (congrArg _ (hM.2.2.1 _ (by omega))) ?_
        refine lv_iload_n hx hb dX2_ofLetter_22 rfl (lv_at hl 3 rfl) ?_
        refine q_cne (tgt := 38) hx hb dX2_ofLetter_23 (by decide) (by first | omega | exact Nat.lt_of_le_of_lt (hw3 _) (by decide)) (by first | omega | exact Nat.lt_of_le_of_lt (hw3 _) (by decide)) (fun c_23 => ?_) (fun c_23 => ?_)
        ·
          have hz : ¬ ro i = t := c_23
          have hl : lv_has ls 7 [(0, .ref (ad 8)), (1, .ref (ad 1)), (2, .int (nI (f))), (3, .int (nI (t))), (4, .long (lN (leN w ro K f t (i + 1)))), (6, .int (nI (i)))] := by rw [leN_n hz]; exact hl
          refine q_iinc (z2 := i + 1) (lv' := [(6, .int (nI (i + 1))), (0, .ref (ad 8)), (1, .ref (ad 1)), (2, .int (nI (f))), (3, .int (nI (t))), (4, .long (lN (leN w ro K f t (i + 1))))]) hx hb dX2_ofLetter_38 hl (k := 5) rfl (inc_up _ 1 (by decide)) (by decide) rfl (fun ls hl => ?_)
          refine lv_goto (tgt := 6) hx hb dX2_ofLetter_41 (by decide) ?_
          exact ih_6 (i + 1) (by omega) (by omega) _ _ hW _ (lv_sub hl [1, 2, 3, 4, 5, 0] rfl)
        ·
          refine lv_lload hx hb dX2_ofLetter_26 (lv_at hl 4 rfl) ?_
          refine lv_aload_n hx hb dX2_ofLetter_28 rfl (lv_at hl 0 rfl) ?_
          refine lv_iload hx hb dX2_ofLetter_29 (lv_at hl 5 rfl) ?_
          refine lv_iload_n hx hb dX2_ofLetter_31 rfl (lv_at hl 2 rfl) ?_
          refine q_kL0 (q_rV (As := [.int (nI (i)), .int (nI (f))]) (rest := [.long (lN (leN w ro K f t i))]) (x := 8) hC hW mw_X2_through gw_304 (k_through l G n ad H.size I L R _ _ w K ro hn hlk hM hMs (by omega) (by omega)) (by omega) (ct_o2 kd_8) rfl ⟨rfl, rfl⟩ ⟨Nat.le_of_ble_eq_true rfl, Nat.le_of_ble_eq_true rfl⟩ ⟨(Nat.le_of_ble_eq_true rfl), (Nat.le_of_ble_eq_true rfl)⟩ hl.1 rfl rfl (Nat.le_of_ble_eq_true rfl) dX2_ofLetter_32) hW (fun r_32 H locs hp hW => ?_)
          subst hp
          refine q_ladd hx hb dX2_ofLetter_35 ?_
          refine q_top (v2 := .long (lN (leN w ro K f t (i + 1)))) (congrArg _ (congrArg lN (leN_y (by omega)).symm)) ?_
          refine lv_lstore (lv' := [(4, .long (lN (leN w ro K f t (i + 1)))), (0, .ref (ad 8)), (1, .ref (ad 1)), (2, .int (nI (f))), (3, .int (nI (t))), (6, .int (nI (i)))]) hx hb dX2_ofLetter_36 hl (by decide) rfl (fun ls hl => ?_)
          refine q_iinc (z2 := i + 1) (lv' := [(6, .int (nI (i + 1))), (4, .long (lN (leN w ro K f t (i + 1)))), (0, .ref (ad 8)), (1, .ref (ad 1)), (2, .int (nI (f))), (3, .int (nI (t)))]) hx hb dX2_ofLetter_38 hl (k := 5) rfl (inc_up _ 1 (by decide)) (by decide) rfl (fun ls hl => ?_)
          refine lv_goto (tgt := 6) hx hb dX2_ofLetter_41 (by decide) ?_
          exact ih_6 (i + 1) (by omega) (by omega) _ _ hW _ (lv_sub hl [2, 3, 4, 5, 1, 0] rfl)
  exact lp_6 (K + 1) 0 (by omega) (by omega) _ _ hW _ (lv_sub hl [2, 3, 4, 5, 1, 0] rfl)


set_option maxRecDepth 100000 in
set_option maxHeartbeats 4000000 in
theorem k_measure (l : Launch) (G : Gx) (n : Nat) (ad : Nat → Nat) (sz : Nat) (I : Ic) (L : Lc) (R : Rc) (w : Nat → Nat) (K : Nat) (ro : Nat → Nat) (hn : 71 ≤ n) (hlk : LkOK n R) (hM : MdI I w K ro) (hSI : SI L) : Met l yX2_measure (Cond.code yX2_measure cX2_measure 2 none :: GW) ({ frames := 4, cells := 0, slots := 0, locals := 144 } : Room) (qPre G n ad sz I L R [.ref (ad 8), .ref (ad 1)]) (qV1 G (qA n ad sz) n ad R (fun I1 L1 => Meas w ro K I1 L1 ∧ (∀ a, a < 10 ∨ 40 < a → L1 a = L a) ∧ ∀ a, a < 42 ∨ 48 < a → I1 a = I a)) 0 0 (qA n ad sz) := by
  refine q_met (by decide) (Nat.le_of_ble_eq_true rfl) ?_
  intro p_ e_ s m_ below meth c_ hC hr hlk0 hin hsz hW ls hl
  subst hsz
  have hC : CallFix p_ m_ c_ cX2_measure 2 s ([.ref (ad 8), .ref (ad 1)] : List Value).toArray GW "CoinRows$Sums" := hC
  have hx := hC.1
  have hb := hC.2.1
  have hk6 : K ≤ 6 := hM.2.2.2.1
  have hw3 : ∀ i, w i ≤ 3 := hM.2.2.2.2.1.1
  have hr4 : ∀ j, ro j < 4 := hM.2.2.2.2.2
  have hl : lv_has ls 2 [(0, .ref (ad 8)), (1, .ref (ad 1))] := hl
  refine lv_aload_n hx hb dX2_measure_0 rfl (lv_at hl 0 rfl) ?_
  refine lv_aload_n hx hb dX2_measure_1 rfl (lv_at hl 1 rfl) ?_
  refine q_kV1 (q_rV (As := [.ref (ad 1)]) (rest := []) (x := 8) hC hW mw_X2_sumBeginnings gw_206 (k_sumBeg l G n ad s.heap.size I L R w K ro hn hlk hM hSI) (by omega) (ct_o2 kd_8) rfl ⟨rfl, rfl⟩ ⟨Nat.le_of_ble_eq_true rfl, Nat.le_of_ble_eq_true rfl⟩ ⟨(Nat.le_of_ble_eq_true rfl), (Nat.le_of_ble_eq_true rfl)⟩ hl.1 rfl rfl (Nat.le_of_ble_eq_true rfl) dX2_measure_2) hW (fun I_2 L_2 H locs hp hW => ?_)
  obtain ⟨rfl, hB_2⟩ := hp
  refine lv_aload_n hx hb dX2_measure_5 rfl (lv_at hl 0 rfl) ?_
  refine lv_aload_n hx hb dX2_measure_6 rfl (lv_at hl 1 rfl) ?_
  refine q_kV1 (q_rV (As := [.ref (ad 1)]) (rest := []) (x := 8) hC hW mw_X2_sumRests gw_222 (k_sumRests l G n ad H.size I L_2 R w K ro hn hlk hM) (by omega) (ct_o2 kd_8) rfl ⟨rfl, rfl⟩ ⟨Nat.le_of_ble_eq_true rfl, Nat.le_of_ble_eq_true rfl⟩ ⟨(Nat.le_of_ble_eq_true rfl), (Nat.le_of_ble_eq_true rfl)⟩ hl.1 rfl rfl (Nat.le_of_ble_eq_true rfl) dX2_measure_7) hW (fun I_7 L_7 H locs hp hW => ?_)
  exact q_vret1 hC hW hr hlk0 (Meas_of hB_2 hk6 hp) dX2_measure_10
