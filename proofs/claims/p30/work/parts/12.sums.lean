theorem MdI_fr {I I1 : Ic} {w : Nat → Nat} {K : Nat} {ro : Nat → Nat} (h : MdI I w K ro) (hf : ∀ a, a < 42 ∨ 48 < a → I1 a = I a) : MdI I1 w K ro :=
  ⟨fun i hi => by rw [hf 2 (by omega)]; exact h.1 i hi, by rw [hf 1 (by omega)]; exact h.2.1, fun j hj => by rw [hf 3 (by omega)]; exact h.2.2.1 j hj, h.2.2.2⟩
section QMX
variable {p : Program} {l : Launch} {e : Env} {Rm : Room} {s : State} {m : MethodId} {args : Array Value} {below : List Frame} {meth : Method} {c : Code} {H : Heap} {locs : List Loc} {cells slots : Nat} {Q : State → Prop} {cc : ByteArray} {pc : Nat} {ls : Array Slot} {rest : List Value} {nL : Nat} {own : String}
theorem q_max {x y : Int64} {index : Nat} (hC : CallFix p m c cc nL s args GW own) (hls : ls.size = nL) (hl : Cond.methodLink own index Lib.MathLoose.max_long.x ∈ GW) (hframes : 1 ≤ Rm.frames) (hlocals : (rest.map fun v => v.category).sum + 15 ≤ Rm.locals) (hc : cells ≤ Rm.cells) (hs : slots ≤ Rm.slots) (hdg : decode cc pc = .ok (.invokestatic index, 3))
    (kk : W p l e Rm s m args below meth c H locs cells slots Q (F0 m (pc + 3) ls (.long (if y < x then x else y) :: rest))) : W p l e Rm s m args below meth c H locs cells slots Q (F0 m pc ls (.long y :: .long x :: rest)) :=
  va_mmax_long hC.1 hC.2.1 (by rw [hC.2.2.1, hls]) hC.2.2.2.1 (hC.2.2.2.2 _ hl) (hC.2.2.2.2 _ gw_237) (hC.2.2.2.2 _ gw_8) (hC.2.2.2.2 _ gw_238) hframes hlocals hc hs hdg kk
end QMX
set_option maxRecDepth 100000 in
set_option maxHeartbeats 4000000 in
theorem k_arrive (l : Launch) (G : Gx) (n : Nat) (ad : Nat → Nat) (sz : Nat) (I : Ic) (L : Lc) (R : Rc) (d t : Nat) (w : Nat → Nat) (K : Nat) (ro : Nat → Nat) (hn : 71 ≤ n) (hlk : LkOK n R) (hM : MdI I w K ro) (hd : d ≤ 6) (ht : t ≤ 5) : Met l yX2_arrive (Cond.code yX2_arrive cX2_arrive 7 (some .long) :: GW) ({ frames := 1, cells := 0, slots := 0, locals := 36 } : Room) (qPre G n ad sz I L R [.ref (ad 8), .ref (ad 1), .int (nI (d)), .int (nI (t))]) (qL0 G (qA n ad sz) (n, ad, I, L, R) (fun z => z = arrL (L (10 + d)) w t 7)) 0 0 (qA n ad sz) := by
  refine q_met (by decide) (Nat.le_of_ble_eq_true rfl) ?_
  intro p_ e_ s m_ below meth c_ hC hr hlk0 hin hsz hW ls hl
  subst hsz
  have hC : CallFix p_ m_ c_ cX2_arrive 7 s ([.ref (ad 8), .ref (ad 1), .int (nI (d)), .int (nI (t))] : List Value).toArray GW "CoinRows$Sums" := hC
  have hx := hC.1
  have hb := hC.2.1
  have hk6 : K ≤ 6 := hM.2.2.2.1
  have hw3 : ∀ i, w i ≤ 3 := hM.2.2.2.2.1.1
  have hr4 : ∀ j, ro j < 4 := hM.2.2.2.2.2
  have hl : lv_has ls 7 [(0, .ref (ad 8)), (1, .ref (ad 1)), (2, .int (nI (d))), (3, .int (nI (t)))] := hl
  refine q_lc 0 hx hb dX2_arrive_0 (by decide) ?_
  refine lv_lstore (lv' := [(4, .long (lN 0)), (0, .ref (ad 8)), (1, .ref (ad 1)), (2, .int (nI (d))), (3, .int (nI (t)))]) hx hb dX2_arrive_1 hl (by decide) rfl (fun ls hl => ?_)
  refine q_ic 0 hx hb dX2_arrive_3 (by decide) ?_
  refine lv_istore (lv' := [(6, .int (nI 0)), (4, .long (lN 0)), (0, .ref (ad 8)), (1, .ref (ad 1)), (2, .int (nI (d))), (3, .int (nI (t)))]) hx hb dX2_arrive_4 hl (by decide) rfl (fun ls hl => ?_)
  have lp_6 : ∀ (fu_6 : Nat) (i : Nat), 7 - i < fu_6 → (i ≤ 7) → ∀ (H : Heap) (locs : List Loc), Wd G n ad I L R (qA n ad s.heap.size) s.heap H locs s → ∀ ls : Array Slot, lv_has ls 7 [(0, .ref (ad 8)), (1, .ref (ad 1)), (2, .int (nI (d))), (3, .int (nI (t))), (4, .long (arrL (L (10 + d)) w t i)), (6, .int (nI (i)))] → W p_ l e_ ({ frames := 1, cells := 0, slots := 0, locals := 36 } : Room) s m_ ([.ref (ad 8), .ref (ad 1), .int (nI (d)), .int (nI (t))] : List Value).toArray below meth c_ H locs 0 0 (MQ below (qL0 G (qA n ad s.heap.size) (n, ad, I, L, R) (fun z => z = arrL (L (10 + d)) w t 7)) ([.ref (ad 8), .ref (ad 1), .int (nI (d)), .int (nI (t))] : List Value).toArray s 0 0 (qA n ad s.heap.size)) (F0 m_ 6 ls []) := by
    intro fu_6
    induction fu_6 with
    | zero =>
      intro i hm; exact absurd hm (Nat.not_lt_zero _)
    | succ fu_6 ih_6 =>
      intro i hm_6 hi H locs hW ls hl
      have hwi := hw3 (i * 6 + t)
      refine lv_iload hx hb dX2_arrive_6 (lv_at hl 5 rfl) ?_
      refine q_bp 6 hx hb dX2_arrive_8 (by decide) ?_
      refine q_cgt (tgt := 42) hx hb dX2_arrive_10 (by decide) (by first | omega | exact Nat.lt_of_le_of_lt (hw3 _) (by decide)) (by first | omega | exact Nat.lt_of_le_of_lt (hw3 _) (by decide)) (fun c_10 => ?_) (fun c_10 => ?_)
      ·
        refine lv_lload hx hb dX2_arrive_42 (lv_at hl 4 rfl) ?_
        exact q_lret0 hC hW hr hlk0 (by rw [show i = 7 by omega]) dX2_arrive_44
      ·
        refine lv_lload hx hb dX2_arrive_13 (lv_at hl 4 rfl) ?_
        refine lv_aload_n hx hb dX2_arrive_15 rfl (lv_at hl 0 rfl) ?_
        refine g_2_0 (x := 8) (y := 9) hC hW (by omega) kd_8 gw_73 (hlk 8 0 9 (by omega) rfl) dX2_arrive_16 ?_
        refine lv_iload_n hx hb dX2_arrive_19 rfl (lv_at hl 2 rfl) ?_
        refine q_aald5 (x := 9) (i := d) (y := 10 + d) hC hW (by omega) kd_9 (by omega) (lk_row9 hlk (by omega) (by omega)) dX2_arrive_20 ?_
        refine lv_iload hx hb dX2_arrive_21 (lv_at hl 5 rfl) ?_
        refine q_lald (x := (10 + d)) (i := i) hC hW (by omega) (kd_r10 (by omega)) (by omega) dX2_arrive_23 ?_
        refine lv_aload_n hx hb dX2_arrive_24 rfl (lv_at hl 1 rfl) ?_
        refine lv_iload hx hb dX2_arrive_25 (lv_at hl 5 rfl) ?_
        refine lv_iload_n hx hb dX2_arrive_27 rfl (lv_at hl 3 rfl) ?_
        refine q_kI0 (q_rV (As := [.int (nI (i)), .int (nI (t))]) (rest := [.long (L (10 + d) i), .long (arrL (L (10 + d)) w t i)]) (x := 1) hC hW mw_X0_stepWeight gw_214 (k_stepWeight l G n ad H.size I L R _ _ w K ro hn hlk hM (by omega)) (by omega) (ct_o0 kd_1) rfl ⟨rfl, rfl⟩ ⟨Nat.le_of_ble_eq_true rfl, Nat.le_of_ble_eq_true rfl⟩ ⟨(Nat.le_of_ble_eq_true rfl), (Nat.le_of_ble_eq_true rfl)⟩ hl.1 rfl rfl (Nat.le_of_ble_eq_true rfl) dX2_arrive_28) hW (fun r_28 H locs hp hW => ?_)
        subst hp
        refine q_i2l hx hb dX2_arrive_31 (by first | omega | exact Nat.lt_of_le_of_lt (hw3 _) (by decide)) ?_
        refine lv_lmul hx hb dX2_arrive_32 ?_
        refine lv_ladd hx hb dX2_arrive_33 ?_
        refine lv_lstore (lv' := [(4, .long ((arrL (L (10 + d)) w t i) + ((L (10 + d) i) * (lN (w (i * 6 + t)))))), (0, .ref (ad 8)), (1, .ref (ad 1)), (2, .int (nI (d))), (3, .int (nI (t))), (6, .int (nI (i)))]) hx hb dX2_arrive_34 hl (by decide) rfl (fun ls hl => ?_)
        refine q_iinc (z2 := i + 1) (lv' := [(6, .int (nI (i + 1))), (4, .long ((arrL (L (10 + d)) w t i) + ((L (10 + d) i) * (lN (w (i * 6 + t)))))), (0, .ref (ad 8)), (1, .ref (ad 1)), (2, .int (nI (d))), (3, .int (nI (t)))]) hx hb dX2_arrive_36 hl (k := 5) rfl (inc_up _ 1 (by decide)) (by decide) rfl (fun ls hl => ?_)
        refine lv_goto (tgt := 6) hx hb dX2_arrive_39 (by decide) ?_
        exact ih_6 (i + 1) (by omega) (by omega) _ _ hW _ (lv_sub hl [2, 3, 4, 5, 1, 0] rfl)
  exact lp_6 (7 + 1) 0 (by omega) (by omega) _ _ hW _ (lv_sub hl [2, 3, 4, 5, 1, 0] rfl)
set_option maxRecDepth 100000 in
set_option maxHeartbeats 4000000 in
theorem k_sumBeg (l : Launch) (G : Gx) (n : Nat) (ad : Nat → Nat) (sz : Nat) (I : Ic) (L : Lc) (R : Rc) (w : Nat → Nat) (K : Nat) (ro : Nat → Nat) (hn : 71 ≤ n) (hlk : LkOK n R) (hM : MdI I w K ro) (hSI : SI L) : Met l yX2_sumBeginnings (Cond.code yX2_sumBeginnings cX2_sumBeginnings 4 none :: GW) ({ frames := 2, cells := 0, slots := 0, locals := 72 } : Room) (qPre G n ad sz I L R [.ref (ad 8), .ref (ad 1)]) (qV1 G (qA n ad sz) n ad R (fun I1 L1 => I = I1 ∧ BO w ro K L (K + 1) L1)) 0 0 (qA n ad sz) := by
  refine q_met (by decide) (Nat.le_of_ble_eq_true rfl) ?_
  intro p_ e_ s m_ below meth c_ hC hr hlk0 hin hsz hW ls hl
  subst hsz
  have hC : CallFix p_ m_ c_ cX2_sumBeginnings 4 s ([.ref (ad 8), .ref (ad 1)] : List Value).toArray GW "CoinRows$Sums" := hC
  have hx := hC.1
  have hb := hC.2.1
  have hk6 : K ≤ 6 := hM.2.2.2.1
  have hw3 : ∀ i, w i ≤ 3 := hM.2.2.2.2.1.1
  have hr4 : ∀ j, ro j < 4 := hM.2.2.2.2.2
  have hl : lv_has ls 4 [(0, .ref (ad 8)), (1, .ref (ad 1))] := hl
  refine q_ic 0 hx hb dX2_sumBeginnings_0 (by decide) ?_
  refine lv_istore_n (lv' := [(2, .int (nI 0)), (0, .ref (ad 8)), (1, .ref (ad 1))]) hx hb dX2_sumBeginnings_1 rfl hl (by decide) rfl (fun ls hl => ?_)
  have lp_2 : ∀ (fu_2 : Nat) (d : Nat) (L1 : Lc), 7 - d < fu_2 → (d ≤ K + 1) → (BO w ro K L d L1) → ∀ (H : Heap) (locs : List Loc), Wd G n ad I L1 R (qA n ad s.heap.size) s.heap H locs s → ∀ ls : Array Slot, lv_has ls 4 [(0, .ref (ad 8)), (1, .ref (ad 1)), (2, .int (nI (d)))] → W p_ l e_ ({ frames := 2, cells := 0, slots := 0, locals := 72 } : Room) s m_ ([.ref (ad 8), .ref (ad 1)] : List Value).toArray below meth c_ H locs 0 0 (MQ below (qV1 G (qA n ad s.heap.size) n ad R (fun I1 L1 => I = I1 ∧ BO w ro K L (K + 1) L1)) ([.ref (ad 8), .ref (ad 1)] : List Value).toArray s 0 0 (qA n ad s.heap.size)) (F0 m_ 2 ls []) := by
    intro fu_2
    induction fu_2 with
    | zero =>
      intro d L1 hm; exact absurd hm (Nat.not_lt_zero _)
    | succ fu_2 ih_2 =>
      intro d L1 hm_2 hd hB H locs hW ls hl
      refine lv_iload_n hx hb dX2_sumBeginnings_2 rfl (lv_at hl 2 rfl) ?_
      refine lv_aload_n hx hb dX2_sumBeginnings_3 rfl (lv_at hl 1 rfl) ?_
      refine g_0_2 (x := 1) hC hW (by omega) kd_1 gw_32 dX2_sumBeginnings_4 ?_
      refine q_top (v2 := .int (nI (K))) (congrArg _ hM.2.1) ?_
      refine q_cgt (tgt := 112) hx hb dX2_sumBeginnings_7 (by decide) (by first | omega | exact Nat.lt_of_le_of_lt (hw3 _) (by decide)) (by first | omega | exact Nat.lt_of_le_of_lt (hw3 _) (by decide)) (fun c_7 => ?_) (fun c_7 => ?_)
      ·
        exact q_vret1 hC hW hr hlk0 ⟨rfl, (by rw [show K + 1 = d by omega]; exact hB)⟩ dX2_sumBeginnings_112
      ·
        refine q_ic 4 hx hb dX2_sumBeginnings_10 (by decide) ?_
        refine lv_istore_n (lv' := [(3, .int (nI 4)), (0, .ref (ad 8)), (1, .ref (ad 1)), (2, .int (nI (d)))]) hx hb dX2_sumBeginnings_11 rfl hl (by decide) rfl (fun ls hl => ?_)
        refine lv_iload_n hx hb dX2_sumBeginnings_12 rfl (lv_at hl 0 rfl) ?_
        refine q_bp 6 hx hb dX2_sumBeginnings_13 (by decide) ?_
        refine q_cge (tgt := 39) hx hb dX2_sumBeginnings_15 (by decide) (by first | omega | exact Nat.lt_of_le_of_lt (hw3 _) (by decide)) (by first | omega | exact Nat.lt_of_le_of_lt (hw3 _) (by decide)) (fun c_15 => absurd c_15 (by decide)) (fun c_15 => ?_)
        refine lv_aload_n hx hb dX2_sumBeginnings_18 rfl (lv_at hl 1 rfl) ?_
        refine g_2_0 (x := 8) (y := 9) hC hW (by omega) kd_8 gw_73 (hlk 8 0 9 (by omega) rfl) dX2_sumBeginnings_19 ?_
        refine lv_iload_n hx hb dX2_sumBeginnings_22 rfl (lv_at hl 3 rfl) ?_
        refine q_aald5 (x := 9) (i := d) (y := 10 + d) hC hW (by omega) kd_9 (by omega) (lk_row9 hlk (by omega) (by omega)) dX2_sumBeginnings_23 ?_
        refine lv_iload_n hx hb dX2_sumBeginnings_24 rfl (lv_at hl 0 rfl) ?_
        refine lv_aload_n hx hb dX2_sumBeginnings_25 rfl (lv_at hl 1 rfl) ?_
        refine lv_aload_n hx hb dX2_sumBeginnings_26 rfl (lv_at hl 2 rfl) ?_
        refine lv_iload_n hx hb dX2_sumBeginnings_27 rfl (lv_at hl 3 rfl) ?_
        refine lv_iload_n hx hb dX2_sumBeginnings_28 rfl (lv_at hl 0 rfl) ?_
        refine q_kL0 (q_rV (As := [.ref (ad 1), .int (nI (d)), .int (nI 4)]) (rest := [.int (nI 4), .ref (ad (10 + d))]) (x := 8) hC hW mw_X2_arrive gw_210 (k_arrive l G n ad H.size I L1 R _ _ w K ro hn hlk hM (by omega) (by omega)) (by omega) (ct_o2 kd_8) rfl ⟨rfl, rfl⟩ ⟨Nat.le_of_ble_eq_true rfl, Nat.le_of_ble_eq_true rfl⟩ ⟨(Nat.le_of_ble_eq_true rfl), (Nat.le_of_ble_eq_true rfl)⟩ hl.1 rfl rfl (Nat.le_of_ble_eq_true rfl) dX2_sumBeginnings_29) hW (fun r_29 H locs hp hW => ?_)
        subst hp
        refine q_top (v2 := .long (lN (b4 w (uB w ro d)))) (congrArg _ (BO_4 hM.2.2.2.2.1 (by omega) hk6 hB)) ?_
        refine q_last (x := (10 + d)) (i := 4) (v := lN (b4 w (uB w ro d))) hC hW (by omega) (kd_r10 (by omega)) (by omega) dX2_sumBeginnings_32 (fun H locs hW => ?_)
        refine q_iinc (z2 := 5) (lv' := [(3, .int (nI 5)), (0, .ref (ad 8)), (1, .ref (ad 1)), (2, .int (nI (d)))]) hx hb dX2_sumBeginnings_33 hl (k := 0) rfl (inc_up _ 1 (by decide)) (by decide) rfl (fun ls hl => ?_)
        refine lv_goto (tgt := 12) hx hb dX2_sumBeginnings_36 (by decide) ?_
        refine lv_iload_n hx hb dX2_sumBeginnings_12 rfl (lv_at hl 0 rfl) ?_
        refine q_bp 6 hx hb dX2_sumBeginnings_13 (by decide) ?_
        refine q_cge (tgt := 39) hx hb dX2_sumBeginnings_15 (by decide) (by first | omega | exact Nat.lt_of_le_of_lt (hw3 _) (by decide)) (by first | omega | exact Nat.lt_of_le_of_lt (hw3 _) (by decide)) (fun c_15 => absurd c_15 (by decide)) (fun c_15 => ?_)
        refine lv_aload_n hx hb dX2_sumBeginnings_18 rfl (lv_at hl 1 rfl) ?_
        refine g_2_0 (x := 8) (y := 9) hC hW (by omega) kd_8 gw_73 (hlk 8 0 9 (by omega) rfl) dX2_sumBeginnings_19 ?_
        refine lv_iload_n hx hb dX2_sumBeginnings_22 rfl (lv_at hl 3 rfl) ?_
        refine q_aald5 (x := 9) (i := d) (y := 10 + d) hC hW (by omega) kd_9 (by omega) (lk_row9 hlk (by omega) (by omega)) dX2_sumBeginnings_23 ?_
        refine lv_iload_n hx hb dX2_sumBeginnings_24 rfl (lv_at hl 0 rfl) ?_
        refine lv_aload_n hx hb dX2_sumBeginnings_25 rfl (lv_at hl 1 rfl) ?_
        refine lv_aload_n hx hb dX2_sumBeginnings_26 rfl (lv_at hl 2 rfl) ?_
        refine lv_iload_n hx hb dX2_sumBeginnings_27 rfl (lv_at hl 3 rfl) ?_
        refine lv_iload_n hx hb dX2_sumBeginnings_28 rfl (lv_at hl 0 rfl) ?_
        refine q_kL0 (q_rV (As := [.ref (ad 1), .int (nI (d)), .int (nI 5)]) (rest := [.int (nI 5), .ref (ad (10 + d))]) (x := 8) hC hW mw_X2_arrive gw_210 (k_arrive l G n ad H.size I (up2 L1 (10 + d) 4 (lN (b4 w (uB w ro d)))) R _ _ w K ro hn hlk hM (by omega) (by omega)) (by omega) (ct_o2 kd_8) rfl ⟨rfl, rfl⟩ ⟨Nat.le_of_ble_eq_true rfl, Nat.le_of_ble_eq_true rfl⟩ ⟨(Nat.le_of_ble_eq_true rfl), (Nat.le_of_ble_eq_true rfl)⟩ hl.1 rfl rfl (Nat.le_of_ble_eq_true rfl) dX2_sumBeginnings_29) hW (fun r_29 H locs hp hW => ?_)
        subst hp
        refine q_top (v2 := .long (lN (b5 w (uB w ro d)))) (congrArg _ (BO_5 hM.2.2.2.2.1 (by omega) hk6 hB)) ?_
        refine q_last (x := (10 + d)) (i := 5) (v := lN (b5 w (uB w ro d))) hC hW (by omega) (kd_r10 (by omega)) (by omega) dX2_sumBeginnings_32 (fun H locs hW => ?_)
        refine q_iinc (z2 := 6) (lv' := [(3, .int (nI 6)), (0, .ref (ad 8)), (1, .ref (ad 1)), (2, .int (nI (d)))]) hx hb dX2_sumBeginnings_33 hl (k := 0) rfl (inc_up _ 1 (by decide)) (by decide) rfl (fun ls hl => ?_)
        refine lv_goto (tgt := 12) hx hb dX2_sumBeginnings_36 (by decide) ?_
        refine lv_iload_n hx hb dX2_sumBeginnings_12 rfl (lv_at hl 0 rfl) ?_
        refine q_bp 6 hx hb dX2_sumBeginnings_13 (by decide) ?_
        refine q_cge (tgt := 39) hx hb dX2_sumBeginnings_15 (by decide) (by first | omega | exact Nat.lt_of_le_of_lt (hw3 _) (by decide)) (by first | omega | exact Nat.lt_of_le_of_lt (hw3 _) (by decide)) (fun c_15 => ?_) (fun c_15 => absurd c_15 (by decide))
        refine q_ic 0 hx hb dX2_sumBeginnings_39 (by decide) ?_
        refine lv_istore_n (lv' := [(3, .int (nI 0)), (0, .ref (ad 8)), (1, .ref (ad 1)), (2, .int (nI (d)))]) hx hb dX2_sumBeginnings_40 rfl hl (by decide) rfl (fun ls hl => ?_)
        have lp_41 : ∀ (fu_41 : Nat) (t : Nat) (L2 : Lc), 4 - t < fu_41 → (t ≤ 4) → (BN w ro K L d t L2) → ∀ (H : Heap) (locs : List Loc), Wd G n ad I L2 R (qA n ad s.heap.size) s.heap H locs s → ∀ ls : Array Slot, lv_has ls 4 [(0, .ref (ad 8)), (1, .ref (ad 1)), (2, .int (nI (d))), (3, .int (nI (t)))] → W p_ l e_ ({ frames := 2, cells := 0, slots := 0, locals := 72 } : Room) s m_ ([.ref (ad 8), .ref (ad 1)] : List Value).toArray below meth c_ H locs 0 0 (MQ below (qV1 G (qA n ad s.heap.size) n ad R (fun I1 L1 => I = I1 ∧ BO w ro K L (K + 1) L1)) ([.ref (ad 8), .ref (ad 1)] : List Value).toArray s 0 0 (qA n ad s.heap.size)) (F0 m_ 41 ls []) := by
          intro fu_41
          induction fu_41 with
          | zero =>
            intro t L2 hm; exact absurd hm (Nat.not_lt_zero _)
          | succ fu_41 ih_41 =>
            intro t L2 hm_41 ht hN H locs hW ls hl
            refine lv_iload_n hx hb dX2_sumBeginnings_41 rfl (lv_at hl 3 rfl) ?_
            refine q_ic 4 hx hb dX2_sumBeginnings_42 (by decide) ?_
            refine q_cge (tgt := 106) hx hb dX2_sumBeginnings_43 (by decide) (by first | omega | exact Nat.lt_of_le_of_lt (hw3 _) (by decide)) (by first | omega | exact Nat.lt_of_le_of_lt (hw3 _) (by decide)) (fun c_43 => ?_) (fun c_43 => ?_)
            ·
              refine q_iinc (z2 := d + 1) (lv' := [(2, .int (nI (d + 1))), (0, .ref (ad 8)), (1, .ref (ad 1)), (3, .int (nI (t)))]) hx hb dX2_sumBeginnings_106 hl (k := 2) rfl (inc_up _ 1 (by decide)) (by decide) rfl (fun ls hl => ?_)
              refine lv_goto (tgt := 2) hx hb dX2_sumBeginnings_109 (by decide) ?_
              exact ih_2 (d + 1) L2 (by omega) (by omega) (BN_e (by rw [show (4 : Nat) = t by omega]; exact hN)) _ _ hW _ (lv_sub hl [1, 2, 0] rfl)
            ·
              refine lv_aload_n hx hb dX2_sumBeginnings_46 rfl (lv_at hl 0 rfl) ?_
              refine g_2_1 (x := 8) (y := 17) hC hW (by omega) kd_8 gw_75 (hlk 8 1 17 (by omega) rfl) dX2_sumBeginnings_47 ?_
              refine lv_iload_n hx hb dX2_sumBeginnings_50 rfl (lv_at hl 2 rfl) ?_
              refine q_aald5 (x := 17) (i := d) (y := 18 + d) hC hW (by omega) kd_17 (by omega) (lk_row17 hlk (by omega) (by omega)) dX2_sumBeginnings_51 ?_
              refine lv_iload_n hx hb dX2_sumBeginnings_52 rfl (lv_at hl 3 rfl) ?_
              refine lv_aload_n hx hb dX2_sumBeginnings_53 rfl (lv_at hl 0 rfl) ?_
              refine lv_aload_n hx hb dX2_sumBeginnings_54 rfl (lv_at hl 1 rfl) ?_
              refine lv_iload_n hx hb dX2_sumBeginnings_55 rfl (lv_at hl 2 rfl) ?_
              refine lv_iload_n hx hb dX2_sumBeginnings_56 rfl (lv_at hl 3 rfl) ?_
              refine q_kL0 (q_rV (As := [.ref (ad 1), .int (nI (d)), .int (nI (t))]) (rest := [.int (nI (t)), .ref (ad (18 + d))]) (x := 8) hC hW mw_X2_arrive gw_210 (k_arrive l G n ad H.size I L2 R _ _ w K ro hn hlk hM (by omega) (by omega)) (by omega) (ct_o2 kd_8) rfl ⟨rfl, rfl⟩ ⟨Nat.le_of_ble_eq_true rfl, Nat.le_of_ble_eq_true rfl⟩ ⟨(Nat.le_of_ble_eq_true rfl), (Nat.le_of_ble_eq_true rfl)⟩ hl.1 rfl rfl (Nat.le_of_ble_eq_true rfl) dX2_sumBeginnings_57) hW (fun r_57 H locs hp hW => ?_)
              subst hp
              refine q_top (v2 := .long (lN (rchu w (uB w ro d) t))) (congrArg _ (BN_arr hN)) ?_
              refine q_last (x := (18 + d)) (i := t) (v := lN (rchu w (uB w ro d) t)) hC hW (by omega) (kd_r18 (by omega)) (by omega) dX2_sumBeginnings_60 (fun H locs hW => ?_)
              refine lv_iload_n hx hb dX2_sumBeginnings_61 rfl (lv_at hl 2 rfl) ?_
              refine lv_aload_n hx hb dX2_sumBeginnings_62 rfl (lv_at hl 1 rfl) ?_
              refine g_0_2 (x := 1) hC hW (by omega) kd_1 gw_32 dX2_sumBeginnings_63 ?_
              refine q_top (v2 := .int (nI (K))) (congrArg _ hM.2.1) ?_
              refine q_cge (tgt := 100) hx hb dX2_sumBeginnings_66 (by decide) (by first | omega | exact Nat.lt_of_le_of_lt (hw3 _) (by decide)) (by first | omega | exact Nat.lt_of_le_of_lt (hw3 _) (by decide)) (fun c_66 => ?_) (fun c_66 => ?_)
              ·
                refine q_iinc (z2 := t + 1) (lv' := [(3, .int (nI (t + 1))), (0, .ref (ad 8)), (1, .ref (ad 1)), (2, .int (nI (d)))]) hx hb dX2_sumBeginnings_100 hl (k := 3) rfl (inc_up _ 1 (by decide)) (by decide) rfl (fun ls hl => ?_)
                refine lv_goto (tgt := 41) hx hb dX2_sumBeginnings_103 (by decide) ?_
                exact ih_41 (t + 1) (up2 L2 (18 + d) t (lN (rchu w (uB w ro d) t))) (by omega) (by omega) (by first | exact BN_s hk6 (by omega) (by omega) hN | exact BN_t hk6 (by omega) (by omega) hN) _ _ hW _ (lv_sub hl [1, 2, 3, 0] rfl)
              ·
                refine lv_aload_n hx hb dX2_sumBeginnings_69 rfl (lv_at hl 0 rfl) ?_
                refine g_2_0 (x := 8) (y := 9) hC hW (by omega) kd_8 gw_73 (hlk 8 0 9 (by omega) rfl) dX2_sumBeginnings_70 ?_
                refine lv_iload_n hx hb dX2_sumBeginnings_73 rfl (lv_at hl 2 rfl) ?_
                refine q_ic 1 hx hb dX2_sumBeginnings_74 (by decide) ?_
                refine q_iadd hx hb dX2_sumBeginnings_75 ?_
                refine q_aald5 (x := 9) (i := d + 1) (y := 10 + (d + 1)) hC hW (by omega) kd_9 (by omega) (lk_row9 hlk (by omega) (by omega)) dX2_sumBeginnings_76 ?_
                refine lv_iload_n hx hb dX2_sumBeginnings_77 rfl (lv_at hl 3 rfl) ?_
                refine lv_aload_n hx hb dX2_sumBeginnings_78 rfl (lv_at hl 0 rfl) ?_
                refine g_2_1 (x := 8) (y := 17) hC hW (by omega) kd_8 gw_75 (hlk 8 1 17 (by omega) rfl) dX2_sumBeginnings_79 ?_
                refine lv_iload_n hx hb dX2_sumBeginnings_82 rfl (lv_at hl 2 rfl) ?_
                refine q_aald5 (x := 17) (i := d) (y := 18 + d) hC hW (by omega) kd_17 (by omega) (lk_row17 hlk (by omega) (by omega)) dX2_sumBeginnings_83 ?_
                refine lv_iload_n hx hb dX2_sumBeginnings_84 rfl (lv_at hl 3 rfl) ?_
                refine q_lald (x := (18 + d)) (i := t) hC hW (by omega) (kd_r18 (by omega)) (by omega) dX2_sumBeginnings_85 ?_
                refine q_top (v2 := .long (lN (rchu w (uB w ro d) t))) (congrArg _ (by rw [up2_at, if_pos ⟨rfl, rfl⟩])) ?_
                refine lv_aload_n hx hb dX2_sumBeginnings_86 rfl (lv_at hl 1 rfl) ?_
                refine lv_iload_n hx hb dX2_sumBeginnings_87 rfl (lv_at hl 3 rfl) ?_
                refine lv_aload_n hx hb dX2_sumBeginnings_88 rfl (lv_at hl 1 rfl) ?_
                refine g_0_1 (x := 1) (y := 3) hC hW (by omega) kd_1 gw_28 (hlk 1 1 3 (by omega) rfl) dX2_sumBeginnings_89 ?_
                refine lv_iload_n hx hb dX2_sumBeginnings_92 rfl (lv_at hl 2 rfl) ?_
                refine q_iald (x := 3) (i := d) hC hW (by omega) kd_3 (by omega) dX2_sumBeginnings_93 ?_
                refine q_top (v2 := .int (nI (ro d))) (congrArg _ (hM.2.2.1 _ (by omega))) ?_
                refine q_kI0 (q_rV (As := [.int (nI (t)), .int (nI (ro d))]) (rest := [.long (lN (rchu w (uB w ro d) t)), .int (nI (t)), .ref (ad (10 + (d + 1)))]) (x := 1) hC hW mw_X0_letterWeight gw_218 (k_letterWeight l G n ad H.size I (up2 L2 (18 + d) t (lN (rchu w (uB w ro d) t))) R _ _ w K ro hn hlk hM (by omega) (by first | omega | exact hr4 _)) (by omega) (ct_o0 kd_1) rfl ⟨rfl, rfl⟩ ⟨Nat.le_of_ble_eq_true rfl, Nat.le_of_ble_eq_true rfl⟩ ⟨(Nat.le_of_ble_eq_true rfl), (Nat.le_of_ble_eq_true rfl)⟩ hl.1 rfl rfl (Nat.le_of_ble_eq_true rfl) dX2_sumBeginnings_94) hW (fun r_94 H locs hp hW => ?_)
                subst hp
                refine q_i2l hx hb dX2_sumBeginnings_97 (by first | omega | exact Nat.lt_of_le_of_lt (hw3 _) (by decide)) ?_
                refine q_lmul hx hb dX2_sumBeginnings_98 ?_
                refine q_last (x := (10 + (d + 1))) (i := t) (v := lN ((rchu w (uB w ro d) t) * (w (42 + t * 4 + (ro d))))) hC hW (by omega) (kd_r10 (by omega)) (by omega) dX2_sumBeginnings_99 (fun H locs hW => ?_)
                refine q_iinc (z2 := t + 1) (lv' := [(3, .int (nI (t + 1))), (0, .ref (ad 8)), (1, .ref (ad 1)), (2, .int (nI (d)))]) hx hb dX2_sumBeginnings_100 hl (k := 3) rfl (inc_up _ 1 (by decide)) (by decide) rfl (fun ls hl => ?_)
                refine lv_goto (tgt := 41) hx hb dX2_sumBeginnings_103 (by decide) ?_
                exact ih_41 (t + 1) (up2 (up2 L2 (18 + d) t (lN (rchu w (uB w ro d) t))) (10 + (d + 1)) t (lN ((rchu w (uB w ro d) t) * (w (42 + t * 4 + (ro d)))))) (by omega) (by omega) (by first | exact BN_s hk6 (by omega) (by omega) hN | exact BN_t hk6 (by omega) (by omega) hN) _ _ hW _ (lv_sub hl [1, 2, 3, 0] rfl)
        exact lp_41 (4 + 1) 0 (up2 (up2 L1 (10 + d) 4 (lN (b4 w (uB w ro d)))) (10 + d) 5 (lN (b5 w (uB w ro d)))) (by omega) (by omega) (BN_0 (by omega) hk6 hB) _ _ hW _ (lv_sub hl [1, 2, 3, 0] rfl)
  exact lp_2 (7 + 1) 0 L (by omega) (by omega) (⟨fun _ _ h => absurd h (by omega), fun _ _ h => absurd h (by omega), fun _ => SI_u0 hSI w ro, hSI, fun _ _ => rfl⟩) _ _ hW _ (lv_sub hl [1, 2, 0] rfl)
set_option maxRecDepth 100000 in
set_option maxHeartbeats 4000000 in
theorem k_rests (l : Launch) (G : Gx) (n : Nat) (ad : Nat → Nat) (sz : Nat) (I : Ic) (L : Lc) (R : Rc) (d f : Nat) (w : Nat → Nat) (K : Nat) (ro : Nat → Nat) (hn : 71 ≤ n) (hlk : LkOK n R) (hM : MdI I w K ro) (hd : d < K) (hf : f ≤ 6) (hR : Rnd w ro K I L d f) : Met l yX2_sumRestsBehind (Cond.code yX2_sumRestsBehind cX2_sumRestsBehind 12 none :: GW) ({ frames := 2, cells := 0, slots := 0, locals := 72 } : Room) (qPre G n ad sz I L R [.ref (ad 8), .ref (ad 1), .int (nI (d)), .int (nI (f))]) (qV1 G (qA n ad sz) n ad R (fun I1 L1 => L1 = up2 (up2 L (26 + d) f (lN (Sx' w K ro (K - d) f))) (34 + d) f (lN (Mx' w K ro (K - d) f)) ∧ I1 = up2 I (42 + d) f (nI (Cx' w K ro (K - d) f)))) 0 0 (qA n ad sz) := by
  refine q_met (by decide) (Nat.le_of_ble_eq_true rfl) ?_
  intro p_ e_ s m_ below meth c_ hC hr hlk0 hin hsz hW ls hl
  subst hsz
  have hC : CallFix p_ m_ c_ cX2_sumRestsBehind 12 s ([.ref (ad 8), .ref (ad 1), .int (nI (d)), .int (nI (f))] : List Value).toArray GW "CoinRows$Sums" := hC
  have hx := hC.1
  have hb := hC.2.1
  have hk6 : K ≤ 6 := hM.2.2.2.1
  have hw3 : ∀ i, w i ≤ 3 := hM.2.2.2.2.1.1
  have hr4 : ∀ j, ro j < 4 := hM.2.2.2.2.2
  have hl : lv_has ls 12 [(0, .ref (ad 8)), (1, .ref (ad 1)), (2, .int (nI (d))), (3, .int (nI (f)))] := hl
  refine q_lc 0 hx hb dX2_sumRestsBehind_0 (by decide) ?_
  refine lv_lstore (lv' := [(4, .long (lN 0)), (0, .ref (ad 8)), (1, .ref (ad 1)), (2, .int (nI (d))), (3, .int (nI (f)))]) hx hb dX2_sumRestsBehind_1 hl (by decide) rfl (fun ls hl => ?_)
  refine q_lc 0 hx hb dX2_sumRestsBehind_3 (by decide) ?_
  refine lv_lstore (lv' := [(6, .long (lN 0)), (4, .long (lN 0)), (0, .ref (ad 8)), (1, .ref (ad 1)), (2, .int (nI (d))), (3, .int (nI (f)))]) hx hb dX2_sumRestsBehind_4 hl (by decide) rfl (fun ls hl => ?_)
  refine q_ic 0 hx hb dX2_sumRestsBehind_6 (by decide) ?_
  refine lv_istore (lv' := [(8, .int (nI 0)), (6, .long (lN 0)), (4, .long (lN 0)), (0, .ref (ad 8)), (1, .ref (ad 1)), (2, .int (nI (d))), (3, .int (nI (f)))]) hx hb dX2_sumRestsBehind_7 hl (by decide) rfl (fun ls hl => ?_)
  refine q_ic 0 hx hb dX2_sumRestsBehind_9 (by decide) ?_
  refine lv_istore (lv' := [(9, .int (nI 0)), (8, .int (nI 0)), (6, .long (lN 0)), (4, .long (lN 0)), (0, .ref (ad 8)), (1, .ref (ad 1)), (2, .int (nI (d))), (3, .int (nI (f)))]) hx hb dX2_sumRestsBehind_10 hl (by decide) rfl (fun ls hl => ?_)
  have lp_12 : ∀ (fu_12 : Nat) (i : Nat), 6 - i < fu_12 → (i ≤ 6) → ∀ (H : Heap) (locs : List Loc), Wd G n ad I L R (qA n ad s.heap.size) s.heap H locs s → ∀ ls : Array Slot, lv_has ls 12 [(0, .ref (ad 8)), (1, .ref (ad 1)), (2, .int (nI (d))), (3, .int (nI (f))), (4, .long (lN (fS w ro K d f i))), (6, .long (lN (fM w ro K d f i))), (8, .int (nI (fC w ro K d f i))), (9, .int (nI (i)))] → W p_ l e_ ({ frames := 2, cells := 0, slots := 0, locals := 72 } : Room) s m_ ([.ref (ad 8), .ref (ad 1), .int (nI (d)), .int (nI (f))] : List Value).toArray below meth c_ H locs 0 0 (MQ below (qV1 G (qA n ad s.heap.size) n ad R (fun I1 L1 => L1 = up2 (up2 L (26 + d) f (lN (Sx' w K ro (K - d) f))) (34 + d) f (lN (Mx' w K ro (K - d) f)) ∧ I1 = up2 I (42 + d) f (nI (Cx' w K ro (K - d) f)))) ([.ref (ad 8), .ref (ad 1), .int (nI (d)), .int (nI (f))] : List Value).toArray s 0 0 (qA n ad s.heap.size)) (F0 m_ 12 ls []) := by
    intro fu_12
    induction fu_12 with
    | zero =>
      intro i hm; exact absurd hm (Nat.not_lt_zero _)
    | succ fu_12 ih_12 =>
      intro i hm_12 hi H locs hW ls hl
      have hmv := mv_le hM.2.2.2.2.1 K ro f i d
      refine lv_iload hx hb dX2_sumRestsBehind_12 (lv_at hl 7 rfl) ?_
      refine q_bp 6 hx hb dX2_sumRestsBehind_14 (by decide) ?_
      refine q_cge (tgt := 110) hx hb dX2_sumRestsBehind_16 (by decide) (by first | omega | exact Nat.lt_of_le_of_lt (hw3 _) (by decide)) (by first | omega | exact Nat.lt_of_le_of_lt (hw3 _) (by decide)) (fun c_16 => ?_) (fun c_16 => ?_)
      ·
        refine lv_aload_n hx hb dX2_sumRestsBehind_110 rfl (lv_at hl 0 rfl) ?_
        refine g_2_2 (x := 8) (y := 25) hC hW (by omega) kd_8 gw_76 (hlk 8 2 25 (by omega) rfl) dX2_sumRestsBehind_111 ?_
        refine lv_iload_n hx hb dX2_sumRestsBehind_114 rfl (lv_at hl 2 rfl) ?_
        refine q_aald5 (x := 25) (i := d) (y := 26 + d) hC hW (by omega) kd_25 (by omega) (lk_row25 hlk (by omega) (by omega)) dX2_sumRestsBehind_115 ?_
        refine lv_iload_n hx hb dX2_sumRestsBehind_116 rfl (lv_at hl 3 rfl) ?_
        refine lv_lload hx hb dX2_sumRestsBehind_117 (lv_at hl 4 rfl) ?_
        refine q_last (x := (26 + d)) (i := f) (v := lN (fS w ro K d f i)) hC hW (by omega) (kd_r26 (by omega)) (by omega) dX2_sumRestsBehind_119 (fun H locs hW => ?_)
        refine lv_aload_n hx hb dX2_sumRestsBehind_120 rfl (lv_at hl 0 rfl) ?_
        refine g_2_3 (x := 8) (y := 33) hC hW (by omega) kd_8 gw_78 (hlk 8 3 33 (by omega) rfl) dX2_sumRestsBehind_121 ?_
        refine lv_iload_n hx hb dX2_sumRestsBehind_124 rfl (lv_at hl 2 rfl) ?_
        refine q_aald5 (x := 33) (i := d) (y := 34 + d) hC hW (by omega) kd_33 (by omega) (lk_row33 hlk (by omega) (by omega)) dX2_sumRestsBehind_125 ?_
        refine lv_iload_n hx hb dX2_sumRestsBehind_126 rfl (lv_at hl 3 rfl) ?_
        refine lv_lload hx hb dX2_sumRestsBehind_127 (lv_at hl 5 rfl) ?_
        refine q_last (x := (34 + d)) (i := f) (v := lN (fM w ro K d f i)) hC hW (by omega) (kd_r34 (by omega)) (by omega) dX2_sumRestsBehind_129 (fun H locs hW => ?_)
        refine lv_aload_n hx hb dX2_sumRestsBehind_130 rfl (lv_at hl 0 rfl) ?_
        refine g_2_4 (x := 8) (y := 41) hC hW (by omega) kd_8 gw_80 (hlk 8 4 41 (by omega) rfl) dX2_sumRestsBehind_131 ?_
        refine lv_iload_n hx hb dX2_sumRestsBehind_134 rfl (lv_at hl 2 rfl) ?_
        refine q_aald6 (x := 41) (i := d) (y := 42 + d) hC hW (by omega) kd_41 (by omega) (lk_row41 hlk (by omega) (by omega)) dX2_sumRestsBehind_135 ?_
        refine lv_iload_n hx hb dX2_sumRestsBehind_136 rfl (lv_at hl 3 rfl) ?_
        refine lv_iload hx hb dX2_sumRestsBehind_137 (lv_at hl 6 rfl) ?_
        refine q_iast (x := (42 + d)) (i := f) (v := nI (fC w ro K d f i)) hC hW (by omega) (kd_r42 (by omega)) (by omega) dX2_sumRestsBehind_139 (fun H locs hW => ?_)
        exact q_vret1 hC hW hr hlk0 ⟨by rw [Sx_f hM.2.2.2.2.1 K d f hd, Mx_f hM.2.2.2.2.1 K d f hd, show (6 : Nat) = i by omega], by rw [Cx_f hM.2.2.2.2.1 K d f hd, show (6 : Nat) = i by omega]⟩ dX2_sumRestsBehind_140
      ·
        refine lv_aload_n hx hb dX2_sumRestsBehind_19 rfl (lv_at hl 1 rfl) ?_
        refine lv_iload_n hx hb dX2_sumRestsBehind_20 rfl (lv_at hl 3 rfl) ?_
        refine lv_iload hx hb dX2_sumRestsBehind_21 (lv_at hl 7 rfl) ?_
        refine lv_iload_n hx hb dX2_sumRestsBehind_23 rfl (lv_at hl 2 rfl) ?_
        refine q_kI0 (q_rV (As := [.int (nI (f)), .int (nI (i)), .int (nI (d))]) (rest := []) (x := 1) hC hW mw_X0_moveWeight gw_230 (k_moveWeight l G n ad H.size I L R _ _ _ w K ro hn hlk hM (by omega) (by omega) (by omega)) (by omega) (ct_o0 kd_1) rfl ⟨rfl, rfl⟩ ⟨Nat.le_of_ble_eq_true rfl, Nat.le_of_ble_eq_true rfl⟩ ⟨(Nat.le_of_ble_eq_true rfl), (Nat.le_of_ble_eq_true rfl)⟩ hl.1 rfl rfl (Nat.le_of_ble_eq_true rfl) dX2_sumRestsBehind_24) hW (fun r_24 H locs hp hW => ?_)
        subst hp
        refine lv_istore (lv' := [(10, .int (nI (mv w K ro f i d))), (0, .ref (ad 8)), (1, .ref (ad 1)), (2, .int (nI (d))), (3, .int (nI (f))), (4, .long (lN (fS w ro K d f i))), (6, .long (lN (fM w ro K d f i))), (8, .int (nI (fC w ro K d f i))), (9, .int (nI (i)))]) hx hb dX2_sumRestsBehind_27 hl (by decide) rfl (fun ls hl => ?_)
        refine lv_iload hx hb dX2_sumRestsBehind_29 (lv_at hl 0 rfl) ?_
        refine q_ile (tgt := 104) hx hb dX2_sumRestsBehind_31 (by decide) (by first | omega | exact Nat.lt_of_le_of_lt (hw3 _) (by decide)) (fun c_31 => ?_) (fun c_31 => ?_)
        ·
          have hz : mv w K ro f i d = 0 := c_31
          have hl : lv_has ls 12 [(10, .int (nI (mv w K ro f i d))), (0, .ref (ad 8)), (1, .ref (ad 1)), (2, .int (nI (d))), (3, .int (nI (f))), (4, .long (lN (fS w ro K d f (i + 1)))), (6, .long (lN (fM w ro K d f (i + 1)))), (8, .int (nI (fC w ro K d f (i + 1)))), (9, .int (nI (i)))] := by rw [fS_n hz, fM_n hz, fC_n hz]; exact hl
          refine q_iinc (z2 := i + 1) (lv' := [(9, .int (nI (i + 1))), (10, .int (nI (mv w K ro f i d))), (0, .ref (ad 8)), (1, .ref (ad 1)), (2, .int (nI (d))), (3, .int (nI (f))), (4, .long (lN (fS w ro K d f (i + 1)))), (6, .long (lN (fM w ro K d f (i + 1)))), (8, .int (nI (fC w ro K d f (i + 1))))]) hx hb dX2_sumRestsBehind_104 hl (k := 8) rfl (inc_up _ 1 (by decide)) (by decide) rfl (fun ls hl => ?_)
          refine lv_goto (tgt := 12) hx hb dX2_sumRestsBehind_107 (by decide) ?_
          exact ih_12 (i + 1) (by omega) (by omega) _ _ hW _ (lv_sub hl [2, 3, 4, 5, 6, 7, 8, 0] rfl)
        ·
          refine lv_iload hx hb dX2_sumRestsBehind_34 (lv_at hl 8 rfl) ?_
          refine q_ic 4 hx hb dX2_sumRestsBehind_36 (by decide) ?_
          refine q_cge (tgt := 46) hx hb dX2_sumRestsBehind_37 (by decide) (by first | omega | exact Nat.lt_of_le_of_lt (hw3 _) (by decide)) (by first | omega | exact Nat.lt_of_le_of_lt (hw3 _) (by decide)) (fun c_37 => ?_) (fun c_37 => ?_)
          ·
            refine lv_iload_n hx hb dX2_sumRestsBehind_46 rfl (lv_at hl 3 rfl) ?_
            refine lv_istore (lv' := [(11, .int (nI (d))), (10, .int (nI (mv w K ro f i d))), (0, .ref (ad 8)), (1, .ref (ad 1)), (2, .int (nI (d))), (3, .int (nI (f))), (4, .long (lN (fS w ro K d f i))), (6, .long (lN (fM w ro K d f i))), (8, .int (nI (fC w ro K d f i))), (9, .int (nI (i)))]) hx hb dX2_sumRestsBehind_47 hl (by decide) rfl (fun ls hl => ?_)
            refine lv_lload hx hb dX2_sumRestsBehind_49 (lv_at hl 6 rfl) ?_
            refine lv_iload hx hb dX2_sumRestsBehind_51 (lv_at hl 1 rfl) ?_
            refine q_i2l hx hb dX2_sumRestsBehind_53 (by first | omega | exact Nat.lt_of_le_of_lt (hw3 _) (by decide)) ?_
            refine lv_aload_n hx hb dX2_sumRestsBehind_54 rfl (lv_at hl 2 rfl) ?_
            refine g_2_2 (x := 8) (y := 25) hC hW (by omega) kd_8 gw_76 (hlk 8 2 25 (by omega) rfl) dX2_sumRestsBehind_55 ?_
            refine lv_iload hx hb dX2_sumRestsBehind_58 (lv_at hl 0 rfl) ?_
            refine q_aald5 (x := 25) (i := d) (y := 26 + d) hC hW (by omega) kd_25 (by omega) (lk_row25 hlk (by omega) (by omega)) dX2_sumRestsBehind_60 ?_
            refine lv_iload hx hb dX2_sumRestsBehind_61 (lv_at hl 9 rfl) ?_
            refine q_lald (x := (26 + d)) (i := i) hC hW (by omega) (kd_r26 (by omega)) (by omega) dX2_sumRestsBehind_63 ?_
            refine q_top (v2 := .long (lN (Sx' w K ro (K - nx i d) i))) (congrArg _ (by have h9 := (hR i (by omega) (by omega)).1; unfold nx at h9 ⊢; rw [if_neg (show ¬ i < 4 by omega)] at h9 ⊢; exact h9)) ?_
            refine q_lmul hx hb dX2_sumRestsBehind_64 ?_
            refine q_ladd hx hb dX2_sumRestsBehind_65 ?_
            refine q_top (v2 := .long (lN (fS w ro K d f (i + 1)))) (by rw [fS_p (by omega)]) ?_
            refine lv_lstore (lv' := [(4, .long (lN (fS w ro K d f (i + 1)))), (11, .int (nI (d))), (10, .int (nI (mv w K ro f i d))), (0, .ref (ad 8)), (1, .ref (ad 1)), (2, .int (nI (d))), (3, .int (nI (f))), (6, .long (lN (fM w ro K d f i))), (8, .int (nI (fC w ro K d f i))), (9, .int (nI (i)))]) hx hb dX2_sumRestsBehind_66 hl (by decide) rfl (fun ls hl => ?_)
            refine lv_lload hx hb dX2_sumRestsBehind_68 (lv_at hl 7 rfl) ?_
            refine lv_iload hx hb dX2_sumRestsBehind_70 (lv_at hl 2 rfl) ?_
            refine q_i2l hx hb dX2_sumRestsBehind_72 (by first | omega | exact Nat.lt_of_le_of_lt (hw3 _) (by decide)) ?_
            refine lv_aload_n hx hb dX2_sumRestsBehind_73 rfl (lv_at hl 3 rfl) ?_
            refine g_2_3 (x := 8) (y := 33) hC hW (by omega) kd_8 gw_78 (hlk 8 3 33 (by omega) rfl) dX2_sumRestsBehind_74 ?_
            refine lv_iload hx hb dX2_sumRestsBehind_77 (lv_at hl 1 rfl) ?_
            refine q_aald5 (x := 33) (i := d) (y := 34 + d) hC hW (by omega) kd_33 (by omega) (lk_row33 hlk (by omega) (by omega)) dX2_sumRestsBehind_79 ?_
            refine lv_iload hx hb dX2_sumRestsBehind_80 (lv_at hl 9 rfl) ?_
            refine q_lald (x := (34 + d)) (i := i) hC hW (by omega) (kd_r34 (by omega)) (by omega) dX2_sumRestsBehind_82 ?_
            refine q_top (v2 := .long (lN (Mx' w K ro (K - nx i d) i))) (congrArg _ (by have h9 := (hR i (by omega) (by omega)).2.1; unfold nx at h9 ⊢; rw [if_neg (show ¬ i < 4 by omega)] at h9 ⊢; exact h9)) ?_
            refine q_lmul hx hb dX2_sumRestsBehind_83 ?_
            refine q_max hC hl.1 gw_236 (Nat.le_of_ble_eq_true rfl) (Nat.le_of_ble_eq_true rfl) (Nat.le_refl _) (Nat.le_refl _) dX2_sumRestsBehind_84 ?_
            refine q_top (v2 := .long (lN (fM w ro K d f (i + 1)))) (by rw [lN_max (fM_lt hM.2.2.2.2.1 K d f i hk6) (mM_lt hM.2.2.2.2.1 K d f i hk6), ← fM_p (by omega)]) ?_
            refine lv_lstore (lv' := [(6, .long (lN (fM w ro K d f (i + 1)))), (4, .long (lN (fS w ro K d f (i + 1)))), (11, .int (nI (d))), (10, .int (nI (mv w K ro f i d))), (0, .ref (ad 8)), (1, .ref (ad 1)), (2, .int (nI (d))), (3, .int (nI (f))), (8, .int (nI (fC w ro K d f i))), (9, .int (nI (i)))]) hx hb dX2_sumRestsBehind_87 hl (by decide) rfl (fun ls hl => ?_)
            refine lv_iload hx hb dX2_sumRestsBehind_89 (lv_at hl 8 rfl) ?_
            refine lv_aload_n hx hb dX2_sumRestsBehind_91 rfl (lv_at hl 4 rfl) ?_
            refine g_2_4 (x := 8) (y := 41) hC hW (by omega) kd_8 gw_80 (hlk 8 4 41 (by omega) rfl) dX2_sumRestsBehind_92 ?_
            refine lv_iload hx hb dX2_sumRestsBehind_95 (lv_at hl 2 rfl) ?_
            refine q_aald6 (x := 41) (i := d) (y := 42 + d) hC hW (by omega) kd_41 (by omega) (lk_row41 hlk (by omega) (by omega)) dX2_sumRestsBehind_97 ?_
            refine lv_iload hx hb dX2_sumRestsBehind_98 (lv_at hl 9 rfl) ?_
            refine q_iald (x := (42 + d)) (i := i) hC hW (by omega) (kd_r42 (by omega)) (by omega) dX2_sumRestsBehind_100 ?_
            refine q_top (v2 := .int (nI (Cx' w K ro (K - nx i d) i))) (congrArg _ (by have h9 := (hR i (by omega) (by omega)).2.2; unfold nx at h9 ⊢; rw [if_neg (show ¬ i < 4 by omega)] at h9 ⊢; exact h9)) ?_
            refine q_iadd hx hb dX2_sumRestsBehind_101 ?_
            refine q_top (v2 := .int (nI (fC w ro K d f (i + 1)))) (by rw [fC_p (by omega)]) ?_
            refine lv_istore (lv' := [(8, .int (nI (fC w ro K d f (i + 1)))), (6, .long (lN (fM w ro K d f (i + 1)))), (4, .long (lN (fS w ro K d f (i + 1)))), (11, .int (nI (d))), (10, .int (nI (mv w K ro f i d))), (0, .ref (ad 8)), (1, .ref (ad 1)), (2, .int (nI (d))), (3, .int (nI (f))), (9, .int (nI (i)))]) hx hb dX2_sumRestsBehind_102 hl (by decide) rfl (fun ls hl => ?_)
            refine q_iinc (z2 := i + 1) (lv' := [(9, .int (nI (i + 1))), (8, .int (nI (fC w ro K d f (i + 1)))), (6, .long (lN (fM w ro K d f (i + 1)))), (4, .long (lN (fS w ro K d f (i + 1)))), (11, .int (nI (d))), (10, .int (nI (mv w K ro f i d))), (0, .ref (ad 8)), (1, .ref (ad 1)), (2, .int (nI (d))), (3, .int (nI (f)))]) hx hb dX2_sumRestsBehind_104 hl (k := 9) rfl (inc_up _ 1 (by decide)) (by decide) rfl (fun ls hl => ?_)
            refine lv_goto (tgt := 12) hx hb dX2_sumRestsBehind_107 (by decide) ?_
            exact ih_12 (i + 1) (by omega) (by omega) _ _ hW _ (lv_sub hl [6, 7, 8, 9, 3, 2, 1, 0] rfl)
          ·
            refine lv_iload_n hx hb dX2_sumRestsBehind_40 rfl (lv_at hl 3 rfl) ?_
            refine q_ic 1 hx hb dX2_sumRestsBehind_41 (by decide) ?_
            refine q_iadd hx hb dX2_sumRestsBehind_42 ?_
            refine lv_goto (tgt := 47) hx hb dX2_sumRestsBehind_43 (by decide) ?_
            refine lv_istore (lv' := [(11, .int (nI (d + 1))), (10, .int (nI (mv w K ro f i d))), (0, .ref (ad 8)), (1, .ref (ad 1)), (2, .int (nI (d))), (3, .int (nI (f))), (4, .long (lN (fS w ro K d f i))), (6, .long (lN (fM w ro K d f i))), (8, .int (nI (fC w ro K d f i))), (9, .int (nI (i)))]) hx hb dX2_sumRestsBehind_47 hl (by decide) rfl (fun ls hl => ?_)
            refine lv_lload hx hb dX2_sumRestsBehind_49 (lv_at hl 6 rfl) ?_
            refine lv_iload hx hb dX2_sumRestsBehind_51 (lv_at hl 1 rfl) ?_
            refine q_i2l hx hb dX2_sumRestsBehind_53 (by first | omega | exact Nat.lt_of_le_of_lt (hw3 _) (by decide)) ?_
            refine lv_aload_n hx hb dX2_sumRestsBehind_54 rfl (lv_at hl 2 rfl) ?_
            refine g_2_2 (x := 8) (y := 25) hC hW (by omega) kd_8 gw_76 (hlk 8 2 25 (by omega) rfl) dX2_sumRestsBehind_55 ?_
            refine lv_iload hx hb dX2_sumRestsBehind_58 (lv_at hl 0 rfl) ?_
            refine q_aald5 (x := 25) (i := d + 1) (y := 26 + (d + 1)) hC hW (by omega) kd_25 (by omega) (lk_row25 hlk (by omega) (by omega)) dX2_sumRestsBehind_60 ?_
            refine lv_iload hx hb dX2_sumRestsBehind_61 (lv_at hl 9 rfl) ?_
            refine q_lald (x := (26 + (d + 1))) (i := i) hC hW (by omega) (kd_r26 (by omega)) (by omega) dX2_sumRestsBehind_63 ?_
            refine q_top (v2 := .long (lN (Sx' w K ro (K - nx i d) i))) (congrArg _ (by have h9 := (hR i (by omega) (by omega)).1; unfold nx at h9 ⊢; rw [if_pos (show i < 4 by omega)] at h9 ⊢; exact h9)) ?_
            refine q_lmul hx hb dX2_sumRestsBehind_64 ?_
            refine q_ladd hx hb dX2_sumRestsBehind_65 ?_
            refine q_top (v2 := .long (lN (fS w ro K d f (i + 1)))) (by rw [fS_p (by omega)]) ?_
            refine lv_lstore (lv' := [(4, .long (lN (fS w ro K d f (i + 1)))), (11, .int (nI (d + 1))), (10, .int (nI (mv w K ro f i d))), (0, .ref (ad 8)), (1, .ref (ad 1)), (2, .int (nI (d))), (3, .int (nI (f))), (6, .long (lN (fM w ro K d f i))), (8, .int (nI (fC w ro K d f i))), (9, .int (nI (i)))]) hx hb dX2_sumRestsBehind_66 hl (by decide) rfl (fun ls hl => ?_)
            refine lv_lload hx hb dX2_sumRestsBehind_68 (lv_at hl 7 rfl) ?_
            refine lv_iload hx hb dX2_sumRestsBehind_70 (lv_at hl 2 rfl) ?_
            refine q_i2l hx hb dX2_sumRestsBehind_72 (by first | omega | exact Nat.lt_of_le_of_lt (hw3 _) (by decide)) ?_
            refine lv_aload_n hx hb dX2_sumRestsBehind_73 rfl (lv_at hl 3 rfl) ?_
            refine g_2_3 (x := 8) (y := 33) hC hW (by omega) kd_8 gw_78 (hlk 8 3 33 (by omega) rfl) dX2_sumRestsBehind_74 ?_
            refine lv_iload hx hb dX2_sumRestsBehind_77 (lv_at hl 1 rfl) ?_
            refine q_aald5 (x := 33) (i := d + 1) (y := 34 + (d + 1)) hC hW (by omega) kd_33 (by omega) (lk_row33 hlk (by omega) (by omega)) dX2_sumRestsBehind_79 ?_
            refine lv_iload hx hb dX2_sumRestsBehind_80 (lv_at hl 9 rfl) ?_
            refine q_lald (x := (34 + (d + 1))) (i := i) hC hW (by omega) (kd_r34 (by omega)) (by omega) dX2_sumRestsBehind_82 ?_
            refine q_top (v2 := .long (lN (Mx' w K ro (K - nx i d) i))) (congrArg _ (by have h9 := (hR i (by omega) (by omega)).2.1; unfold nx at h9 ⊢; rw [if_pos (show i < 4 by omega)] at h9 ⊢; exact h9)) ?_
            refine q_lmul hx hb dX2_sumRestsBehind_83 ?_
            refine q_max hC hl.1 gw_236 (Nat.le_of_ble_eq_true rfl) (Nat.le_of_ble_eq_true rfl) (Nat.le_refl _) (Nat.le_refl _) dX2_sumRestsBehind_84 ?_
            refine q_top (v2 := .long (lN (fM w ro K d f (i + 1)))) (by rw [lN_max (fM_lt hM.2.2.2.2.1 K d f i hk6) (mM_lt hM.2.2.2.2.1 K d f i hk6), ← fM_p (by omega)]) ?_
            refine lv_lstore (lv' := [(6, .long (lN (fM w ro K d f (i + 1)))), (4, .long (lN (fS w ro K d f (i + 1)))), (11, .int (nI (d + 1))), (10, .int (nI (mv w K ro f i d))), (0, .ref (ad 8)), (1, .ref (ad 1)), (2, .int (nI (d))), (3, .int (nI (f))), (8, .int (nI (fC w ro K d f i))), (9, .int (nI (i)))]) hx hb dX2_sumRestsBehind_87 hl (by decide) rfl (fun ls hl => ?_)
            refine lv_iload hx hb dX2_sumRestsBehind_89 (lv_at hl 8 rfl) ?_
            refine lv_aload_n hx hb dX2_sumRestsBehind_91 rfl (lv_at hl 4 rfl) ?_
            refine g_2_4 (x := 8) (y := 41) hC hW (by omega) kd_8 gw_80 (hlk 8 4 41 (by omega) rfl) dX2_sumRestsBehind_92 ?_
            refine lv_iload hx hb dX2_sumRestsBehind_95 (lv_at hl 2 rfl) ?_
            refine q_aald6 (x := 41) (i := d + 1) (y := 42 + (d + 1)) hC hW (by omega) kd_41 (by omega) (lk_row41 hlk (by omega) (by omega)) dX2_sumRestsBehind_97 ?_
            refine lv_iload hx hb dX2_sumRestsBehind_98 (lv_at hl 9 rfl) ?_
            refine q_iald (x := (42 + (d + 1))) (i := i) hC hW (by omega) (kd_r42 (by omega)) (by omega) dX2_sumRestsBehind_100 ?_
            refine q_top (v2 := .int (nI (Cx' w K ro (K - nx i d) i))) (congrArg _ (by have h9 := (hR i (by omega) (by omega)).2.2; unfold nx at h9 ⊢; rw [if_pos (show i < 4 by omega)] at h9 ⊢; exact h9)) ?_
            refine q_iadd hx hb dX2_sumRestsBehind_101 ?_
            refine q_top (v2 := .int (nI (fC w ro K d f (i + 1)))) (by rw [fC_p (by omega)]) ?_
            refine lv_istore (lv' := [(8, .int (nI (fC w ro K d f (i + 1)))), (6, .long (lN (fM w ro K d f (i + 1)))), (4, .long (lN (fS w ro K d f (i + 1)))), (11, .int (nI (d + 1))), (10, .int (nI (mv w K ro f i d))), (0, .ref (ad 8)), (1, .ref (ad 1)), (2, .int (nI (d))), (3, .int (nI (f))), (9, .int (nI (i)))]) hx hb dX2_sumRestsBehind_102 hl (by decide) rfl (fun ls hl => ?_)
            refine q_iinc (z2 := i + 1) (lv' := [(9, .int (nI (i + 1))), (8, .int (nI (fC w ro K d f (i + 1)))), (6, .long (lN (fM w ro K d f (i + 1)))), (4, .long (lN (fS w ro K d f (i + 1)))), (11, .int (nI (d + 1))), (10, .int (nI (mv w K ro f i d))), (0, .ref (ad 8)), (1, .ref (ad 1)), (2, .int (nI (d))), (3, .int (nI (f)))]) hx hb dX2_sumRestsBehind_104 hl (k := 9) rfl (inc_up _ 1 (by decide)) (by decide) rfl (fun ls hl => ?_)
            refine lv_goto (tgt := 12) hx hb dX2_sumRestsBehind_107 (by decide) ?_
            exact ih_12 (i + 1) (by omega) (by omega) _ _ hW _ (lv_sub hl [6, 7, 8, 9, 3, 2, 1, 0] rfl)
  exact lp_12 (6 + 1) 0 (by omega) (by omega) _ _ hW _ (lv_sub hl [4, 5, 6, 7, 3, 2, 1, 0] rfl)
theorem inc_m1 (x : Int32) : x + Int32.ofInt (-1) = x - nI 1 := by rw [Int32.sub_eq_add_neg]; rfl
set_option maxRecDepth 100000 in
set_option maxHeartbeats 4000000 in
theorem k_sumRests (l : Launch) (G : Gx) (n : Nat) (ad : Nat → Nat) (sz : Nat) (I : Ic) (L : Lc) (R : Rc) (w : Nat → Nat) (K : Nat) (ro : Nat → Nat) (hn : 71 ≤ n) (hlk : LkOK n R) (hM : MdI I w K ro) : Met l yX2_sumRests (Cond.code yX2_sumRests cX2_sumRests 4 none :: GW) ({ frames := 3, cells := 0, slots := 0, locals := 108 } : Room) (qPre G n ad sz I L R [.ref (ad 8), .ref (ad 1)]) (qV1 G (qA n ad sz) n ad R (fun I1 L1 => RO w ro K I I1 L L1 0)) 0 0 (qA n ad sz) := by
  refine q_met (by decide) (Nat.le_of_ble_eq_true rfl) ?_
  intro p_ e_ s m_ below meth c_ hC hr hlk0 hin hsz hW ls hl
  subst hsz
  have hC : CallFix p_ m_ c_ cX2_sumRests 4 s ([.ref (ad 8), .ref (ad 1)] : List Value).toArray GW "CoinRows$Sums" := hC
  have hx := hC.1
  have hb := hC.2.1
  have hk6 : K ≤ 6 := hM.2.2.2.1
  have hw3 : ∀ i, w i ≤ 3 := hM.2.2.2.2.1.1
  have hr4 : ∀ j, ro j < 4 := hM.2.2.2.2.2
  have hl : lv_has ls 4 [(0, .ref (ad 8)), (1, .ref (ad 1))] := hl
  refine q_ic 0 hx hb dX2_sumRests_0 (by decide) ?_
  refine lv_istore_n (lv' := [(2, .int (nI 0)), (0, .ref (ad 8)), (1, .ref (ad 1))]) hx hb dX2_sumRests_1 rfl hl (by decide) rfl (fun ls hl => ?_)
  have lp_2 : ∀ (fu_2 : Nat) (t : Nat) (I1 : Ic) (L1 : Lc), 7 - t < fu_2 → (t ≤ 7) → (RB w ro K I I1 L L1 t) → ∀ (H : Heap) (locs : List Loc), Wd G n ad I1 L1 R (qA n ad s.heap.size) s.heap H locs s → ∀ ls : Array Slot, lv_has ls 4 [(0, .ref (ad 8)), (1, .ref (ad 1)), (2, .int (nI (t)))] → W p_ l e_ ({ frames := 3, cells := 0, slots := 0, locals := 108 } : Room) s m_ ([.ref (ad 8), .ref (ad 1)] : List Value).toArray below meth c_ H locs 0 0 (MQ below (qV1 G (qA n ad s.heap.size) n ad R (fun I1 L1 => RO w ro K I I1 L L1 0)) ([.ref (ad 8), .ref (ad 1)] : List Value).toArray s 0 0 (qA n ad s.heap.size)) (F0 m_ 2 ls []) := by
    intro fu_2
    induction fu_2 with
    | zero =>
      intro t I1 L1 hm; exact absurd hm (Nat.not_lt_zero _)
    | succ fu_2 ih_2 =>
      intro t I1 L1 hm_2 ht hB H locs hW ls hl
      have hM1 : MdI I1 w K ro := MdI_fr hM hB.2.2
      refine lv_iload_n hx hb dX2_sumRests_2 rfl (lv_at hl 2 rfl) ?_
      refine q_bp 6 hx hb dX2_sumRests_3 (by decide) ?_
      refine q_cgt (tgt := 98) hx hb dX2_sumRests_5 (by decide) (by first | omega | exact Nat.lt_of_le_of_lt (hw3 _) (by decide)) (by first | omega | exact Nat.lt_of_le_of_lt (hw3 _) (by decide)) (fun c_5 => ?_) (fun c_5 => ?_)
      ·
        refine lv_aload_n hx hb dX2_sumRests_98 rfl (lv_at hl 1 rfl) ?_
        refine g_0_2 (x := 1) hC hW (by omega) kd_1 gw_32 dX2_sumRests_99 ?_
        refine q_top (v2 := .int (nI (K))) (congrArg _ hM1.2.1) ?_
        refine q_ic 1 hx hb dX2_sumRests_102 (by decide) ?_
        refine lv_isub hx hb dX2_sumRests_103 ?_
        refine lv_istore_n (lv' := [(2, .int (nI K - nI 1)), (0, .ref (ad 8)), (1, .ref (ad 1))]) hx hb dX2_sumRests_104 rfl hl (by decide) rfl (fun ls hl => ?_)
        have lp_105 : ∀ (fu_105 : Nat) (d : Nat) (I1 : Ic) (L1 : Lc), d < fu_105 → (d ≤ K) → (RO w ro K I I1 L L1 d) → ∀ (H : Heap) (locs : List Loc), Wd G n ad I1 L1 R (qA n ad s.heap.size) s.heap H locs s → ∀ ls : Array Slot, lv_has ls 4 [(0, .ref (ad 8)), (1, .ref (ad 1)), (2, .int (nI d - nI 1))] → W p_ l e_ ({ frames := 3, cells := 0, slots := 0, locals := 108 } : Room) s m_ ([.ref (ad 8), .ref (ad 1)] : List Value).toArray below meth c_ H locs 0 0 (MQ below (qV1 G (qA n ad s.heap.size) n ad R (fun I1 L1 => RO w ro K I I1 L L1 0)) ([.ref (ad 8), .ref (ad 1)] : List Value).toArray s 0 0 (qA n ad s.heap.size)) (F0 m_ 105 ls []) := by
          intro fu_105
          induction fu_105 with
          | zero =>
            intro d I1 L1 hm; exact absurd hm (Nat.not_lt_zero _)
          | succ fu_105 ih_105 =>
            intro d I1 L1 hm_105 hd hO H locs hW ls hl
            have hM1 : MdI I1 w K ro := MdI_fr hM hO.2.2
            rcases Nat.eq_zero_or_pos d with hd0 | hd0
            ·
              subst hd0
              have hl : lv_has ls 4 [(0, .ref (ad 8)), (1, .ref (ad 1)), (2, .int (nI 0 - nI 1))] := hl
              have hl : lv_has ls 4 [(0, .ref (ad 8)), (1, .ref (ad 1)), (2, .int (-1))] := by rw [show (-1 : Int32) = nI 0 - nI 1 by decide]; exact hl
              refine lv_iload_n hx hb dX2_sumRests_105 rfl (lv_at hl 2 rfl) ?_
              refine lv_if_lt (tgt := 142) hx hb dX2_sumRests_106 (by decide) (fun c_106 => ?_) (fun c_106 => absurd c_106 (by decide))
              exact q_vret1 hC hW hr hlk0 hO dX2_sumRests_142
            ·
              obtain ⟨q, rfl⟩ : ∃ q, d = q + 1 := ⟨d - 1, by omega⟩
              have hl : lv_has ls 4 [(0, .ref (ad 8)), (1, .ref (ad 1)), (2, .int (nI (q + 1) - nI 1))] := hl
              have hl : lv_has ls 4 [(0, .ref (ad 8)), (1, .ref (ad 1)), (2, .int (nI (q)))] := by rw [show nI q = nI (q + 1) - nI 1 by rw [pk_sub (by omega)]; rfl]; exact hl
              refine lv_iload_n hx hb dX2_sumRests_105 rfl (lv_at hl 2 rfl) ?_
              refine lv_if_lt (tgt := 142) hx hb dX2_sumRests_106 (by decide) (fun c_106 => absurd c_106 (nI_pos (by omega))) (fun c_106 => ?_)
              refine q_ic 5 hx hb dX2_sumRests_109 (by decide) ?_
              refine lv_istore_n (lv' := [(3, .int (nI 5)), (0, .ref (ad 8)), (1, .ref (ad 1)), (2, .int (nI (q)))]) hx hb dX2_sumRests_110 rfl hl (by decide) rfl (fun ls hl => ?_)
              have lp_111 : ∀ (fu_111 : Nat) (t : Nat) (I2 : Ic) (L2 : Lc), t < fu_111 → (t ≤ 6) → (RN w ro K I I2 L L2 q t) → ∀ (H : Heap) (locs : List Loc), Wd G n ad I2 L2 R (qA n ad s.heap.size) s.heap H locs s → ∀ ls : Array Slot, lv_has ls 4 [(0, .ref (ad 8)), (1, .ref (ad 1)), (2, .int (nI (q))), (3, .int (nI t - nI 1))] → W p_ l e_ ({ frames := 3, cells := 0, slots := 0, locals := 108 } : Room) s m_ ([.ref (ad 8), .ref (ad 1)] : List Value).toArray below meth c_ H locs 0 0 (MQ below (qV1 G (qA n ad s.heap.size) n ad R (fun I1 L1 => RO w ro K I I1 L L1 0)) ([.ref (ad 8), .ref (ad 1)] : List Value).toArray s 0 0 (qA n ad s.heap.size)) (F0 m_ 111 ls []) := by
                intro fu_111
                induction fu_111 with
                | zero =>
                  intro t I2 L2 hm; exact absurd hm (Nat.not_lt_zero _)
                | succ fu_111 ih_111 =>
                  intro t I2 L2 hm_111 ht hN H locs hW ls hl
                  have hM2 : MdI I2 w K ro := MdI_fr hM hN.2.2.2
                  rcases Nat.eq_zero_or_pos t with ht0 | ht0
                  ·
                    subst ht0
                    have hl : lv_has ls 4 [(0, .ref (ad 8)), (1, .ref (ad 1)), (2, .int (nI (q))), (3, .int (nI 0 - nI 1))] := hl
                    have hl : lv_has ls 4 [(0, .ref (ad 8)), (1, .ref (ad 1)), (2, .int (nI (q))), (3, .int (-1))] := by rw [show (-1 : Int32) = nI 0 - nI 1 by decide]; exact hl
                    refine lv_iload_n hx hb dX2_sumRests_111 rfl (lv_at hl 3 rfl) ?_
                    refine lv_if_lt (tgt := 128) hx hb dX2_sumRests_112 (by decide) (fun c_112 => ?_) (fun c_112 => absurd c_112 (by decide))
                    refine lv_aload_n hx hb dX2_sumRests_128 rfl (lv_at hl 0 rfl) ?_
                    refine lv_aload_n hx hb dX2_sumRests_129 rfl (lv_at hl 1 rfl) ?_
                    refine lv_iload_n hx hb dX2_sumRests_130 rfl (lv_at hl 2 rfl) ?_
                    refine q_bp 6 hx hb dX2_sumRests_131 (by decide) ?_
                    refine q_kV1 (q_rV (As := [.ref (ad 1), .int (nI (q)), .int (nI 6)]) (rest := []) (x := 8) hC hW mw_X2_sumRestsBehind gw_226 (k_rests l G n ad H.size I2 L2 R _ _ w K ro hn hlk hM2 (by omega) (by omega) (RN_n6 (by omega) hN)) (by omega) (ct_o2 kd_8) rfl ⟨rfl, rfl⟩ ⟨Nat.le_of_ble_eq_true rfl, Nat.le_of_ble_eq_true rfl⟩ ⟨(Nat.le_of_ble_eq_true rfl), (Nat.le_of_ble_eq_true rfl)⟩ hl.1 rfl rfl (Nat.le_of_ble_eq_true rfl) dX2_sumRests_133) hW (fun I_133 L_133 H locs hp hW => ?_)
                    obtain ⟨rfl, rfl⟩ := hp
                    refine lv_iinc (v := nI q - nI 1) (lv' := [(2, .int (nI q - nI 1)), (0, .ref (ad 8)), (1, .ref (ad 1)), (3, .int (-1))]) hx hb dX2_sumRests_136 hl (k := 2) rfl (inc_m1 _) (by decide) rfl (fun ls hl => ?_)
                    refine lv_goto (tgt := 105) hx hb dX2_sumRests_139 (by decide) ?_
                    exact ih_105 q (up2 I2 (42 + q) 6 (nI (Cx' w K ro (K - q) 6))) (up2 (up2 L2 (26 + q) 6 (lN (Sx' w K ro (K - q) 6))) (34 + q) 6 (lN (Mx' w K ro (K - q) 6))) (by omega) (by omega) (RN_e hk6 (by omega) hN) _ _ hW _ (lv_sub hl [1, 2, 0] rfl)
                  ·
                    obtain ⟨v, rfl⟩ : ∃ v, t = v + 1 := ⟨t - 1, by omega⟩
                    have hl : lv_has ls 4 [(0, .ref (ad 8)), (1, .ref (ad 1)), (2, .int (nI (q))), (3, .int (nI (v + 1) - nI 1))] := hl
                    have hl : lv_has ls 4 [(0, .ref (ad 8)), (1, .ref (ad 1)), (2, .int (nI (q))), (3, .int (nI (v)))] := by rw [show nI v = nI (v + 1) - nI 1 by rw [pk_sub (by omega)]; rfl]; exact hl
                    refine lv_iload_n hx hb dX2_sumRests_111 rfl (lv_at hl 3 rfl) ?_
                    refine lv_if_lt (tgt := 128) hx hb dX2_sumRests_112 (by decide) (fun c_112 => absurd c_112 (nI_pos (by omega))) (fun c_112 => ?_)
                    refine lv_aload_n hx hb dX2_sumRests_115 rfl (lv_at hl 0 rfl) ?_
                    refine lv_aload_n hx hb dX2_sumRests_116 rfl (lv_at hl 1 rfl) ?_
                    refine lv_iload_n hx hb dX2_sumRests_117 rfl (lv_at hl 2 rfl) ?_
                    refine lv_iload_n hx hb dX2_sumRests_118 rfl (lv_at hl 3 rfl) ?_
                    refine q_kV1 (q_rV (As := [.ref (ad 1), .int (nI (q)), .int (nI (v))]) (rest := []) (x := 8) hC hW mw_X2_sumRestsBehind gw_226 (k_rests l G n ad H.size I2 L2 R _ _ w K ro hn hlk hM2 (by omega) (by omega) (RN_n hM.2.2.2.2.1 (by omega) (by omega) hN)) (by omega) (ct_o2 kd_8) rfl ⟨rfl, rfl⟩ ⟨Nat.le_of_ble_eq_true rfl, Nat.le_of_ble_eq_true rfl⟩ ⟨(Nat.le_of_ble_eq_true rfl), (Nat.le_of_ble_eq_true rfl)⟩ hl.1 rfl rfl (Nat.le_of_ble_eq_true rfl) dX2_sumRests_119) hW (fun I_119 L_119 H locs hp hW => ?_)
                    obtain ⟨rfl, rfl⟩ := hp
                    refine lv_iinc (v := nI v - nI 1) (lv' := [(3, .int (nI v - nI 1)), (0, .ref (ad 8)), (1, .ref (ad 1)), (2, .int (nI (q)))]) hx hb dX2_sumRests_122 hl (k := 3) rfl (inc_m1 _) (by decide) rfl (fun ls hl => ?_)
                    refine lv_goto (tgt := 111) hx hb dX2_sumRests_125 (by decide) ?_
                    exact ih_111 v (up2 I2 (42 + q) v (nI (Cx' w K ro (K - q) v))) (up2 (up2 L2 (26 + q) v (lN (Sx' w K ro (K - q) v))) (34 + q) v (lN (Mx' w K ro (K - q) v))) (by omega) (by omega) (RN_s hk6 (by omega) hN) _ _ hW _ (lv_sub hl [1, 2, 3, 0] rfl)
              exact lp_111 (6 + 1) 6 I1 L1 (by omega) (by omega) (RN_0 hO) _ _ hW _ (lv_sub hl [1, 2, 3, 0] rfl)
        exact lp_105 (K + 1) K I1 L1 (by omega) (by omega) (RB_e (by rw [show 7 = t by omega]; exact hB)) _ _ hW _ (lv_sub hl [1, 2, 0] rfl)
      ·
        refine lv_iload_n hx hb dX2_sumRests_8 rfl (lv_at hl 2 rfl) ?_
        refine q_ic 4 hx hb dX2_sumRests_9 (by decide) ?_
        refine q_clt (tgt := 26) hx hb dX2_sumRests_10 (by decide) (by first | omega | exact Nat.lt_of_le_of_lt (hw3 _) (by decide)) (by first | omega | exact Nat.lt_of_le_of_lt (hw3 _) (by decide)) (fun c_10 => ?_) (fun c_10 => ?_)
        ·
          refine q_ic 1 hx hb dX2_sumRests_26 (by decide) ?_
          refine lv_goto (tgt := 31) hx hb dX2_sumRests_27 (by decide) ?_
          refine lv_istore_n (lv' := [(3, .int (nI 1)), (0, .ref (ad 8)), (1, .ref (ad 1)), (2, .int (nI (t)))]) hx hb dX2_sumRests_31 rfl hl (by decide) rfl (fun ls hl => ?_)
          refine lv_aload_n hx hb dX2_sumRests_32 rfl (lv_at hl 1 rfl) ?_
          refine g_2_2 (x := 8) (y := 25) hC hW (by omega) kd_8 gw_76 (hlk 8 2 25 (by omega) rfl) dX2_sumRests_33 ?_
          refine lv_aload_n hx hb dX2_sumRests_36 rfl (lv_at hl 2 rfl) ?_
          refine g_0_2 (x := 1) hC hW (by omega) kd_1 gw_32 dX2_sumRests_37 ?_
          refine q_top (v2 := .int (nI (K))) (congrArg _ hM1.2.1) ?_
          refine q_aald5 (x := 25) (i := K) (y := 26 + K) hC hW (by omega) kd_25 (by omega) (lk_row25 hlk (by omega) (by omega)) dX2_sumRests_40 ?_
          refine lv_iload_n hx hb dX2_sumRests_41 rfl (lv_at hl 3 rfl) ?_
          refine lv_iload_n hx hb dX2_sumRests_42 rfl (lv_at hl 0 rfl) ?_
          refine q_ieq (tgt := 50) hx hb dX2_sumRests_43 (by decide) (by first | omega | exact Nat.lt_of_le_of_lt (hw3 _) (by decide)) (fun c_43 => absurd c_43 (by decide)) (fun c_43 => ?_)
          refine q_lc 1 hx hb dX2_sumRests_46 (by decide) ?_
          refine lv_goto (tgt := 51) hx hb dX2_sumRests_47 (by decide) ?_
          refine q_last (x := (26 + K)) (i := t) (v := lN 1) hC hW (by omega) (kd_r26 (by omega)) (by omega) dX2_sumRests_51 (fun H locs hW => ?_)
          refine lv_aload_n hx hb dX2_sumRests_52 rfl (lv_at hl 1 rfl) ?_
          refine g_2_3 (x := 8) (y := 33) hC hW (by omega) kd_8 gw_78 (hlk 8 3 33 (by omega) rfl) dX2_sumRests_53 ?_
          refine lv_aload_n hx hb dX2_sumRests_56 rfl (lv_at hl 2 rfl) ?_
          refine g_0_2 (x := 1) hC hW (by omega) kd_1 gw_32 dX2_sumRests_57 ?_
          refine q_top (v2 := .int (nI (K))) (congrArg _ hM1.2.1) ?_
          refine q_aald5 (x := 33) (i := K) (y := 34 + K) hC hW (by omega) kd_33 (by omega) (lk_row33 hlk (by omega) (by omega)) dX2_sumRests_60 ?_
          refine lv_iload_n hx hb dX2_sumRests_61 rfl (lv_at hl 3 rfl) ?_
          refine lv_iload_n hx hb dX2_sumRests_62 rfl (lv_at hl 0 rfl) ?_
          refine q_ieq (tgt := 70) hx hb dX2_sumRests_63 (by decide) (by first | omega | exact Nat.lt_of_le_of_lt (hw3 _) (by decide)) (fun c_63 => absurd c_63 (by decide)) (fun c_63 => ?_)
          refine q_lc 1 hx hb dX2_sumRests_66 (by decide) ?_
          refine lv_goto (tgt := 71) hx hb dX2_sumRests_67 (by decide) ?_
          refine q_last (x := (34 + K)) (i := t) (v := lN 1) hC hW (by omega) (kd_r34 (by omega)) (by omega) dX2_sumRests_71 (fun H locs hW => ?_)
          refine lv_aload_n hx hb dX2_sumRests_72 rfl (lv_at hl 1 rfl) ?_
          refine g_2_4 (x := 8) (y := 41) hC hW (by omega) kd_8 gw_80 (hlk 8 4 41 (by omega) rfl) dX2_sumRests_73 ?_
          refine lv_aload_n hx hb dX2_sumRests_76 rfl (lv_at hl 2 rfl) ?_
          refine g_0_2 (x := 1) hC hW (by omega) kd_1 gw_32 dX2_sumRests_77 ?_
          refine q_top (v2 := .int (nI (K))) (congrArg _ hM1.2.1) ?_
          refine q_aald6 (x := 41) (i := K) (y := 42 + K) hC hW (by omega) kd_41 (by omega) (lk_row41 hlk (by omega) (by omega)) dX2_sumRests_80 ?_
          refine lv_iload_n hx hb dX2_sumRests_81 rfl (lv_at hl 3 rfl) ?_
          refine lv_iload_n hx hb dX2_sumRests_82 rfl (lv_at hl 0 rfl) ?_
          refine q_ieq (tgt := 90) hx hb dX2_sumRests_83 (by decide) (by first | omega | exact Nat.lt_of_le_of_lt (hw3 _) (by decide)) (fun c_83 => absurd c_83 (by decide)) (fun c_83 => ?_)
          refine q_ic 1 hx hb dX2_sumRests_86 (by decide) ?_
          refine lv_goto (tgt := 91) hx hb dX2_sumRests_87 (by decide) ?_
          refine q_iast (x := (42 + K)) (i := t) (v := nI 1) hC hW (by omega) (kd_r42 (by omega)) (by omega) dX2_sumRests_91 (fun H locs hW => ?_)
          refine q_iinc (z2 := t + 1) (lv' := [(2, .int (nI (t + 1))), (3, .int (nI 1)), (0, .ref (ad 8)), (1, .ref (ad 1))]) hx hb dX2_sumRests_92 hl (k := 3) rfl (inc_up _ 1 (by decide)) (by decide) rfl (fun ls hl => ?_)
          refine lv_goto (tgt := 2) hx hb dX2_sumRests_95 (by decide) ?_
          exact ih_2 (t + 1) (up2 I1 (42 + K) t (nI 1)) (up2 (up2 L1 (26 + K) t (lN 1)) (34 + K) t (lN 1)) (by omega) (by omega) (RB_s hk6 hB (by first | rw [if_pos (by omega)] | rw [if_neg (by omega)])) _ _ hW _ (lv_sub hl [2, 3, 0] rfl)
        ·
          refine lv_iload_n hx hb dX2_sumRests_13 rfl (lv_at hl 2 rfl) ?_
          refine q_bp 6 hx hb dX2_sumRests_14 (by decide) ?_
          refine q_cne (tgt := 30) hx hb dX2_sumRests_16 (by decide) (by first | omega | exact Nat.lt_of_le_of_lt (hw3 _) (by decide)) (by first | omega | exact Nat.lt_of_le_of_lt (hw3 _) (by decide)) (fun c_16 => ?_) (fun c_16 => ?_)
          ·
            refine q_ic 0 hx hb dX2_sumRests_30 (by decide) ?_
            refine lv_istore_n (lv' := [(3, .int (nI 0)), (0, .ref (ad 8)), (1, .ref (ad 1)), (2, .int (nI (t)))]) hx hb dX2_sumRests_31 rfl hl (by decide) rfl (fun ls hl => ?_)
            refine lv_aload_n hx hb dX2_sumRests_32 rfl (lv_at hl 1 rfl) ?_
            refine g_2_2 (x := 8) (y := 25) hC hW (by omega) kd_8 gw_76 (hlk 8 2 25 (by omega) rfl) dX2_sumRests_33 ?_
            refine lv_aload_n hx hb dX2_sumRests_36 rfl (lv_at hl 2 rfl) ?_
            refine g_0_2 (x := 1) hC hW (by omega) kd_1 gw_32 dX2_sumRests_37 ?_
            refine q_top (v2 := .int (nI (K))) (congrArg _ hM1.2.1) ?_
            refine q_aald5 (x := 25) (i := K) (y := 26 + K) hC hW (by omega) kd_25 (by omega) (lk_row25 hlk (by omega) (by omega)) dX2_sumRests_40 ?_
            refine lv_iload_n hx hb dX2_sumRests_41 rfl (lv_at hl 3 rfl) ?_
            refine lv_iload_n hx hb dX2_sumRests_42 rfl (lv_at hl 0 rfl) ?_
            refine q_ieq (tgt := 50) hx hb dX2_sumRests_43 (by decide) (by first | omega | exact Nat.lt_of_le_of_lt (hw3 _) (by decide)) (fun c_43 => ?_) (fun c_43 => absurd c_43 (by decide))
            refine q_lc 0 hx hb dX2_sumRests_50 (by decide) ?_
            refine q_last (x := (26 + K)) (i := t) (v := lN 0) hC hW (by omega) (kd_r26 (by omega)) (by omega) dX2_sumRests_51 (fun H locs hW => ?_)
            refine lv_aload_n hx hb dX2_sumRests_52 rfl (lv_at hl 1 rfl) ?_
            refine g_2_3 (x := 8) (y := 33) hC hW (by omega) kd_8 gw_78 (hlk 8 3 33 (by omega) rfl) dX2_sumRests_53 ?_
            refine lv_aload_n hx hb dX2_sumRests_56 rfl (lv_at hl 2 rfl) ?_
            refine g_0_2 (x := 1) hC hW (by omega) kd_1 gw_32 dX2_sumRests_57 ?_
            refine q_top (v2 := .int (nI (K))) (congrArg _ hM1.2.1) ?_
            refine q_aald5 (x := 33) (i := K) (y := 34 + K) hC hW (by omega) kd_33 (by omega) (lk_row33 hlk (by omega) (by omega)) dX2_sumRests_60 ?_
            refine lv_iload_n hx hb dX2_sumRests_61 rfl (lv_at hl 3 rfl) ?_
            refine lv_iload_n hx hb dX2_sumRests_62 rfl (lv_at hl 0 rfl) ?_
            refine q_ieq (tgt := 70) hx hb dX2_sumRests_63 (by decide) (by first | omega | exact Nat.lt_of_le_of_lt (hw3 _) (by decide)) (fun c_63 => ?_) (fun c_63 => absurd c_63 (by decide))
            refine q_lc 0 hx hb dX2_sumRests_70 (by decide) ?_
            refine q_last (x := (34 + K)) (i := t) (v := lN 0) hC hW (by omega) (kd_r34 (by omega)) (by omega) dX2_sumRests_71 (fun H locs hW => ?_)
            refine lv_aload_n hx hb dX2_sumRests_72 rfl (lv_at hl 1 rfl) ?_
            refine g_2_4 (x := 8) (y := 41) hC hW (by omega) kd_8 gw_80 (hlk 8 4 41 (by omega) rfl) dX2_sumRests_73 ?_
            refine lv_aload_n hx hb dX2_sumRests_76 rfl (lv_at hl 2 rfl) ?_
            refine g_0_2 (x := 1) hC hW (by omega) kd_1 gw_32 dX2_sumRests_77 ?_
            refine q_top (v2 := .int (nI (K))) (congrArg _ hM1.2.1) ?_
            refine q_aald6 (x := 41) (i := K) (y := 42 + K) hC hW (by omega) kd_41 (by omega) (lk_row41 hlk (by omega) (by omega)) dX2_sumRests_80 ?_
            refine lv_iload_n hx hb dX2_sumRests_81 rfl (lv_at hl 3 rfl) ?_
            refine lv_iload_n hx hb dX2_sumRests_82 rfl (lv_at hl 0 rfl) ?_
            refine q_ieq (tgt := 90) hx hb dX2_sumRests_83 (by decide) (by first | omega | exact Nat.lt_of_le_of_lt (hw3 _) (by decide)) (fun c_83 => ?_) (fun c_83 => absurd c_83 (by decide))
            refine q_ic 0 hx hb dX2_sumRests_90 (by decide) ?_
            refine q_iast (x := (42 + K)) (i := t) (v := nI 0) hC hW (by omega) (kd_r42 (by omega)) (by omega) dX2_sumRests_91 (fun H locs hW => ?_)
            refine q_iinc (z2 := t + 1) (lv' := [(2, .int (nI (t + 1))), (3, .int (nI 0)), (0, .ref (ad 8)), (1, .ref (ad 1))]) hx hb dX2_sumRests_92 hl (k := 3) rfl (inc_up _ 1 (by decide)) (by decide) rfl (fun ls hl => ?_)
            refine lv_goto (tgt := 2) hx hb dX2_sumRests_95 (by decide) ?_
            exact ih_2 (t + 1) (up2 I1 (42 + K) t (nI 0)) (up2 (up2 L1 (26 + K) t (lN 0)) (34 + K) t (lN 0)) (by omega) (by omega) (RB_s hk6 hB (by first | rw [if_pos (by omega)] | rw [if_neg (by omega)])) _ _ hW _ (lv_sub hl [2, 3, 0] rfl)
          ·
            refine lv_aload_n hx hb dX2_sumRests_19 rfl (lv_at hl 1 rfl) ?_
            refine g_0_2 (x := 1) hC hW (by omega) kd_1 gw_32 dX2_sumRests_20 ?_
            refine q_top (v2 := .int (nI (K))) (congrArg _ hM1.2.1) ?_
            refine q_ine (tgt := 30) hx hb dX2_sumRests_23 (by decide) (by first | omega | exact Nat.lt_of_le_of_lt (hw3 _) (by decide)) (fun c_23 => ?_) (fun c_23 => ?_)
            ·
              refine q_ic 0 hx hb dX2_sumRests_30 (by decide) ?_
              refine lv_istore_n (lv' := [(3, .int (nI 0)), (0, .ref (ad 8)), (1, .ref (ad 1)), (2, .int (nI (t)))]) hx hb dX2_sumRests_31 rfl hl (by decide) rfl (fun ls hl => ?_)
              refine lv_aload_n hx hb dX2_sumRests_32 rfl (lv_at hl 1 rfl) ?_
              refine g_2_2 (x := 8) (y := 25) hC hW (by omega) kd_8 gw_76 (hlk 8 2 25 (by omega) rfl) dX2_sumRests_33 ?_
              refine lv_aload_n hx hb dX2_sumRests_36 rfl (lv_at hl 2 rfl) ?_
              refine g_0_2 (x := 1) hC hW (by omega) kd_1 gw_32 dX2_sumRests_37 ?_
              refine q_top (v2 := .int (nI (K))) (congrArg _ hM1.2.1) ?_
              refine q_aald5 (x := 25) (i := K) (y := 26 + K) hC hW (by omega) kd_25 (by omega) (lk_row25 hlk (by omega) (by omega)) dX2_sumRests_40 ?_
              refine lv_iload_n hx hb dX2_sumRests_41 rfl (lv_at hl 3 rfl) ?_
              refine lv_iload_n hx hb dX2_sumRests_42 rfl (lv_at hl 0 rfl) ?_
              refine q_ieq (tgt := 50) hx hb dX2_sumRests_43 (by decide) (by first | omega | exact Nat.lt_of_le_of_lt (hw3 _) (by decide)) (fun c_43 => ?_) (fun c_43 => absurd c_43 (by decide))
              refine q_lc 0 hx hb dX2_sumRests_50 (by decide) ?_
              refine q_last (x := (26 + K)) (i := t) (v := lN 0) hC hW (by omega) (kd_r26 (by omega)) (by omega) dX2_sumRests_51 (fun H locs hW => ?_)
              refine lv_aload_n hx hb dX2_sumRests_52 rfl (lv_at hl 1 rfl) ?_
              refine g_2_3 (x := 8) (y := 33) hC hW (by omega) kd_8 gw_78 (hlk 8 3 33 (by omega) rfl) dX2_sumRests_53 ?_
              refine lv_aload_n hx hb dX2_sumRests_56 rfl (lv_at hl 2 rfl) ?_
              refine g_0_2 (x := 1) hC hW (by omega) kd_1 gw_32 dX2_sumRests_57 ?_
              refine q_top (v2 := .int (nI (K))) (congrArg _ hM1.2.1) ?_
              refine q_aald5 (x := 33) (i := K) (y := 34 + K) hC hW (by omega) kd_33 (by omega) (lk_row33 hlk (by omega) (by omega)) dX2_sumRests_60 ?_
              refine lv_iload_n hx hb dX2_sumRests_61 rfl (lv_at hl 3 rfl) ?_
              refine lv_iload_n hx hb dX2_sumRests_62 rfl (lv_at hl 0 rfl) ?_
              refine q_ieq (tgt := 70) hx hb dX2_sumRests_63 (by decide) (by first | omega | exact Nat.lt_of_le_of_lt (hw3 _) (by decide)) (fun c_63 => ?_) (fun c_63 => absurd c_63 (by decide))
              refine q_lc 0 hx hb dX2_sumRests_70 (by decide) ?_
              refine q_last (x := (34 + K)) (i := t) (v := lN 0) hC hW (by omega) (kd_r34 (by omega)) (by omega) dX2_sumRests_71 (fun H locs hW => ?_)
              refine lv_aload_n hx hb dX2_sumRests_72 rfl (lv_at hl 1 rfl) ?_
              refine g_2_4 (x := 8) (y := 41) hC hW (by omega) kd_8 gw_80 (hlk 8 4 41 (by omega) rfl) dX2_sumRests_73 ?_
              refine lv_aload_n hx hb dX2_sumRests_76 rfl (lv_at hl 2 rfl) ?_
              refine g_0_2 (x := 1) hC hW (by omega) kd_1 gw_32 dX2_sumRests_77 ?_
              refine q_top (v2 := .int (nI (K))) (congrArg _ hM1.2.1) ?_
              refine q_aald6 (x := 41) (i := K) (y := 42 + K) hC hW (by omega) kd_41 (by omega) (lk_row41 hlk (by omega) (by omega)) dX2_sumRests_80 ?_
              refine lv_iload_n hx hb dX2_sumRests_81 rfl (lv_at hl 3 rfl) ?_
              refine lv_iload_n hx hb dX2_sumRests_82 rfl (lv_at hl 0 rfl) ?_
              refine q_ieq (tgt := 90) hx hb dX2_sumRests_83 (by decide) (by first | omega | exact Nat.lt_of_le_of_lt (hw3 _) (by decide)) (fun c_83 => ?_) (fun c_83 => absurd c_83 (by decide))
              refine q_ic 0 hx hb dX2_sumRests_90 (by decide) ?_
              refine q_iast (x := (42 + K)) (i := t) (v := nI 0) hC hW (by omega) (kd_r42 (by omega)) (by omega) dX2_sumRests_91 (fun H locs hW => ?_)
              refine q_iinc (z2 := t + 1) (lv' := [(2, .int (nI (t + 1))), (3, .int (nI 0)), (0, .ref (ad 8)), (1, .ref (ad 1))]) hx hb dX2_sumRests_92 hl (k := 3) rfl (inc_up _ 1 (by decide)) (by decide) rfl (fun ls hl => ?_)
              refine lv_goto (tgt := 2) hx hb dX2_sumRests_95 (by decide) ?_
              exact ih_2 (t + 1) (up2 I1 (42 + K) t (nI 0)) (up2 (up2 L1 (26 + K) t (lN 0)) (34 + K) t (lN 0)) (by omega) (by omega) (RB_s hk6 hB (by first | rw [if_pos (by omega)] | rw [if_neg (by omega)])) _ _ hW _ (lv_sub hl [2, 3, 0] rfl)
            ·
              refine q_ic 1 hx hb dX2_sumRests_26 (by decide) ?_
              refine lv_goto (tgt := 31) hx hb dX2_sumRests_27 (by decide) ?_
              refine lv_istore_n (lv' := [(3, .int (nI 1)), (0, .ref (ad 8)), (1, .ref (ad 1)), (2, .int (nI (t)))]) hx hb dX2_sumRests_31 rfl hl (by decide) rfl (fun ls hl => ?_)
              refine lv_aload_n hx hb dX2_sumRests_32 rfl (lv_at hl 1 rfl) ?_
              refine g_2_2 (x := 8) (y := 25) hC hW (by omega) kd_8 gw_76 (hlk 8 2 25 (by omega) rfl) dX2_sumRests_33 ?_
              refine lv_aload_n hx hb dX2_sumRests_36 rfl (lv_at hl 2 rfl) ?_
              refine g_0_2 (x := 1) hC hW (by omega) kd_1 gw_32 dX2_sumRests_37 ?_
              refine q_top (v2 := .int (nI (K))) (congrArg _ hM1.2.1) ?_
              refine q_aald5 (x := 25) (i := K) (y := 26 + K) hC hW (by omega) kd_25 (by omega) (lk_row25 hlk (by omega) (by omega)) dX2_sumRests_40 ?_
              refine lv_iload_n hx hb dX2_sumRests_41 rfl (lv_at hl 3 rfl) ?_
              refine lv_iload_n hx hb dX2_sumRests_42 rfl (lv_at hl 0 rfl) ?_
              refine q_ieq (tgt := 50) hx hb dX2_sumRests_43 (by decide) (by first | omega | exact Nat.lt_of_le_of_lt (hw3 _) (by decide)) (fun c_43 => absurd c_43 (by decide)) (fun c_43 => ?_)
              refine q_lc 1 hx hb dX2_sumRests_46 (by decide) ?_
              refine lv_goto (tgt := 51) hx hb dX2_sumRests_47 (by decide) ?_
              refine q_last (x := (26 + K)) (i := t) (v := lN 1) hC hW (by omega) (kd_r26 (by omega)) (by omega) dX2_sumRests_51 (fun H locs hW => ?_)
              refine lv_aload_n hx hb dX2_sumRests_52 rfl (lv_at hl 1 rfl) ?_
              refine g_2_3 (x := 8) (y := 33) hC hW (by omega) kd_8 gw_78 (hlk 8 3 33 (by omega) rfl) dX2_sumRests_53 ?_
              refine lv_aload_n hx hb dX2_sumRests_56 rfl (lv_at hl 2 rfl) ?_
              refine g_0_2 (x := 1) hC hW (by omega) kd_1 gw_32 dX2_sumRests_57 ?_
              refine q_top (v2 := .int (nI (K))) (congrArg _ hM1.2.1) ?_
              refine q_aald5 (x := 33) (i := K) (y := 34 + K) hC hW (by omega) kd_33 (by omega) (lk_row33 hlk (by omega) (by omega)) dX2_sumRests_60 ?_
              refine lv_iload_n hx hb dX2_sumRests_61 rfl (lv_at hl 3 rfl) ?_
              refine lv_iload_n hx hb dX2_sumRests_62 rfl (lv_at hl 0 rfl) ?_
              refine q_ieq (tgt := 70) hx hb dX2_sumRests_63 (by decide) (by first | omega | exact Nat.lt_of_le_of_lt (hw3 _) (by decide)) (fun c_63 => absurd c_63 (by decide)) (fun c_63 => ?_)
              refine q_lc 1 hx hb dX2_sumRests_66 (by decide) ?_
              refine lv_goto (tgt := 71) hx hb dX2_sumRests_67 (by decide) ?_
              refine q_last (x := (34 + K)) (i := t) (v := lN 1) hC hW (by omega) (kd_r34 (by omega)) (by omega) dX2_sumRests_71 (fun H locs hW => ?_)
              refine lv_aload_n hx hb dX2_sumRests_72 rfl (lv_at hl 1 rfl) ?_
              refine g_2_4 (x := 8) (y := 41) hC hW (by omega) kd_8 gw_80 (hlk 8 4 41 (by omega) rfl) dX2_sumRests_73 ?_
              refine lv_aload_n hx hb dX2_sumRests_76 rfl (lv_at hl 2 rfl) ?_
              refine g_0_2 (x := 1) hC hW (by omega) kd_1 gw_32 dX2_sumRests_77 ?_
              refine q_top (v2 := .int (nI (K))) (congrArg _ hM1.2.1) ?_
              refine q_aald6 (x := 41) (i := K) (y := 42 + K) hC hW (by omega) kd_41 (by omega) (lk_row41 hlk (by omega) (by omega)) dX2_sumRests_80 ?_
              refine lv_iload_n hx hb dX2_sumRests_81 rfl (lv_at hl 3 rfl) ?_
              refine lv_iload_n hx hb dX2_sumRests_82 rfl (lv_at hl 0 rfl) ?_
              refine q_ieq (tgt := 90) hx hb dX2_sumRests_83 (by decide) (by first | omega | exact Nat.lt_of_le_of_lt (hw3 _) (by decide)) (fun c_83 => absurd c_83 (by decide)) (fun c_83 => ?_)
              refine q_ic 1 hx hb dX2_sumRests_86 (by decide) ?_
              refine lv_goto (tgt := 91) hx hb dX2_sumRests_87 (by decide) ?_
              refine q_iast (x := (42 + K)) (i := t) (v := nI 1) hC hW (by omega) (kd_r42 (by omega)) (by omega) dX2_sumRests_91 (fun H locs hW => ?_)
              refine q_iinc (z2 := t + 1) (lv' := [(2, .int (nI (t + 1))), (3, .int (nI 1)), (0, .ref (ad 8)), (1, .ref (ad 1))]) hx hb dX2_sumRests_92 hl (k := 3) rfl (inc_up _ 1 (by decide)) (by decide) rfl (fun ls hl => ?_)
              refine lv_goto (tgt := 2) hx hb dX2_sumRests_95 (by decide) ?_
              exact ih_2 (t + 1) (up2 I1 (42 + K) t (nI 1)) (up2 (up2 L1 (26 + K) t (lN 1)) (34 + K) t (lN 1)) (by omega) (by omega) (RB_s hk6 hB (by first | rw [if_pos (by omega)] | rw [if_neg (by omega)])) _ _ hW _ (lv_sub hl [2, 3, 0] rfl)
  exact lp_2 (7 + 1) 0 I L (by omega) (by omega) (RB_0 w ro K I L) _ _ hW _ (lv_sub hl [1, 2, 0] rfl)
