set_option maxRecDepth 100000 in
set_option maxHeartbeats 4000000 in
theorem k_rthrough (l : Launch) (G : Gx) (n : Nat) (ad : Nat → Nat) (sz : Nat) (I : Ic) (L : Lc) (R : Rc) (q f : Nat) (hf : f < 4) (w : Nat → Nat) (K : Nat) (ro : Nat → Nat) (hn : 83 ≤ n) (hlk : LkOK n R) (hN : NwI (I 72) w K ro) (hBh : BhI w ro K I L 0) (hAh : AhI w ro K L) (hq : q < K) : Met l yX6_through (Cond.code yX6_through cX6_through 3 (some .long) :: GW) ({ frames := 0, cells := 0, slots := 0, locals := 0 } : Room) (qPre G n ad sz I L R [.ref (ad 71), .int (nI (q)), .int (nI (f))]) (qL0 G (qA n ad sz) (n, ad, I, L, R) (fun z => z = lN (thr w ro K q f))) 0 0 (qA n ad sz) := by
  refine q_met (by decide) (Nat.le_of_ble_eq_true rfl) ?_
  intro p_ e_ s m_ below meth c_ hC hr hlk0 hin hsz hW ls hl
  subst hsz
  have hC : CallFix p_ m_ c_ cX6_through 3 s ([.ref (ad 71), .int (nI (q)), .int (nI (f))] : List Value).toArray GW "CoinRowsModel" := hC
  have hx := hC.1
  have hb := hC.2.1
  have hk6 : K ≤ 6 := hN.2.2.2.1
  have hw : Wok w := hN.2.2.2.2.1
  have hw3 : ∀ i, w i ≤ 3 := hw.1
  have hr4 : ∀ j, ro j < 4 := hN.2.2.2.2.2
  have hl : lv_has ls 3 [(0, .ref (ad 71)), (1, .int (nI (q))), (2, .int (nI (f)))] := hl
  refine lv_aload_n hx hb dX6_through_0 rfl (lv_at hl 0 rfl) ?_
  refine g_6_7 (x := 71) (y := 77) hC hW (by omega) kd_71 gw_490 (hlk 71 7 77 (by omega) rfl) dX6_through_1 ?_
  refine q_bp 7 hx hb dX6_through_4 (by decide) ?_
  refine lv_iload_n hx hb dX6_through_6 rfl (lv_at hl 2 rfl) ?_
  refine q_imul hx hb dX6_through_7 ?_
  refine lv_iload_n hx hb dX6_through_8 rfl (lv_at hl 1 rfl) ?_
  refine q_iadd hx hb dX6_through_9 ?_
  refine q_ic 1 hx hb dX6_through_10 (by decide) ?_
  refine q_iadd hx hb dX6_through_11 ?_
  refine q_lald (x := 77) (i := ((7 * f) + q) + 1) hC hW (by omega) kd_77 (by omega) dX6_through_12 ?_
  refine q_top (v2 := .long (lN (uB w ro (q + 1) f))) (congrArg _ ((hAh f (q + 1) (by omega) (by omega)).trans (congrArg lN (bF_lo (by omega))))) ?_
  refine lv_aload_n hx hb dX6_through_13 rfl (lv_at hl 0 rfl) ?_
  refine g_6_8 (x := 71) (y := 78) hC hW (by omega) kd_71 gw_491 (hlk 71 8 78 (by omega) rfl) dX6_through_14 ?_
  refine q_bp 7 hx hb dX6_through_17 (by decide) ?_
  refine lv_iload_n hx hb dX6_through_19 rfl (lv_at hl 2 rfl) ?_
  refine q_imul hx hb dX6_through_20 ?_
  refine lv_iload_n hx hb dX6_through_21 rfl (lv_at hl 1 rfl) ?_
  refine q_iadd hx hb dX6_through_22 ?_
  refine q_ic 1 hx hb dX6_through_23 (by decide) ?_
  refine q_iadd hx hb dX6_through_24 ?_
  refine q_lald (x := 78) (i := ((7 * f) + q) + 1) hC hW (by omega) kd_78 (by omega) dX6_through_25 ?_
  refine q_top (v2 := .long (lN (Sx' w K ro (K - (q + 1)) f))) (congrArg _ (hBh (q + 1) f (by omega) (by omega) (by omega)).1) ?_
  refine q_lmul hx hb dX6_through_26 ?_
  exact q_lret0 hC hW hr hlk0 rfl dX6_through_27
set_option maxRecDepth 100000 in
set_option maxHeartbeats 4000000 in
theorem k_divisor (l : Launch) (G : Gx) (n : Nat) (ad : Nat → Nat) (sz : Nat) (I : Ic) (L : Lc) (R : Rc) (a b : Nat) (ha : a < 2 ^ 63) (hb63 : b < 2 ^ 63) : Met l yX6_divisor (Cond.code yX6_divisor cX6_divisor 10 (some .long) :: GW) ({ frames := 0, cells := 0, slots := 0, locals := 0 } : Room) (qPre G n ad sz I L R [.long (lN (a)), .long (lN (b))]) (qL0 G (qA n ad sz) (n, ad, I, L, R) (fun z => z = lN (Nat.gcd a b))) 0 0 (qA n ad sz) := by
  refine q_met (by decide) (Nat.le_of_ble_eq_true rfl) ?_
  intro p_ e_ s m_ below meth c_ hC hr hlk0 hin hsz hW ls hl
  subst hsz
  have hC : CallFix p_ m_ c_ cX6_divisor 10 s ([.long (lN (a)), .long (lN (b))] : List Value).toArray GW "CoinRowsModel" := hC
  have hx := hC.1
  have hb := hC.2.1
  have hl : lv_has ls 10 [(0, .long (lN (a))), (2, .long (lN (b)))] := hl
  refine lv_lload_n hx hb dX6_divisor_0 rfl (lv_at hl 0 rfl) ?_
  refine lv_lstore (lv' := [(4, .long (lN (a))), (0, .long (lN (a))), (2, .long (lN (b)))]) hx hb dX6_divisor_1 hl (by decide) rfl (fun ls hl => ?_)
  refine lv_lload_n hx hb dX6_divisor_3 rfl (lv_at hl 2 rfl) ?_
  refine lv_lstore (lv' := [(6, .long (lN (b))), (4, .long (lN (a))), (0, .long (lN (a))), (2, .long (lN (b)))]) hx hb dX6_divisor_4 hl (by decide) rfl (fun ls hl => ?_)
  have lp_6 : ∀ (fu_6 : Nat) (g1 : Nat) (s1 : Nat), s1 < fu_6 → (Nat.gcd g1 s1 = Nat.gcd a b) → (g1 < 2 ^ 63) → (s1 < 2 ^ 63) → ∀ (H : Heap) (locs : List Loc), Wd G n ad I L R (qA n ad s.heap.size) s.heap H locs s → ∀ ls : Array Slot, lv_has ls 10 [(4, .long (lN (g1))), (6, .long (lN (s1)))] → W p_ l e_ ({ frames := 0, cells := 0, slots := 0, locals := 0 } : Room) s m_ ([.long (lN (a)), .long (lN (b))] : List Value).toArray below meth c_ H locs 0 0 (MQ below (qL0 G (qA n ad s.heap.size) (n, ad, I, L, R) (fun z => z = lN (Nat.gcd a b))) ([.long (lN (a)), .long (lN (b))] : List Value).toArray s 0 0 (qA n ad s.heap.size)) (F0 m_ 6 ls []) := by
    intro fu_6
    induction fu_6 with
    | zero =>
      intro g1 s1 hm; exact absurd hm (Nat.not_lt_zero _)
    | succ fu_6 ih_6 =>
      intro g1 s1 hm_6 hgc hg63 hs63 H locs hW ls hl
      refine lv_lload hx hb dX6_divisor_6 (lv_at hl 1 rfl) ?_
      refine q_lc 0 hx hb dX6_divisor_8 (by decide) ?_
      refine q_lcmp hx hb dX6_divisor_9 ?_
      refine q_leq (tgt := 31) hx hb dX6_divisor_10 (by decide) hs63 (by decide) (fun c_10 => ?_) (fun c_10 => ?_)
      ·
        refine lv_lload hx hb dX6_divisor_31 (lv_at hl 0 rfl) ?_
        exact q_lret0 hC hW hr hlk0 (by rw [← hgc, show s1 = 0 from c_10, Nat.gcd_zero_right]) dX6_divisor_33
      ·
        refine lv_lload hx hb dX6_divisor_13 (lv_at hl 0 rfl) ?_
        refine lv_lload hx hb dX6_divisor_15 (lv_at hl 1 rfl) ?_
        have hs0 : s1 ≠ 0 := c_10
        refine lv_lrem hx hb dX6_divisor_17 (fun q => hs0 ((pk_lEQ hs63 (by decide)).mp (show lN s1 = lN 0 from q))) ?_
        refine q_top (v2 := .long (lN (g1 % s1))) (congrArg Value.long (pk_lRem hg63 (by omega) hs63)) ?_
        refine lv_lstore (lv' := [(8, .long (lN (g1 % s1))), (4, .long (lN (g1))), (6, .long (lN (s1)))]) hx hb dX6_divisor_18 hl (by decide) rfl (fun ls hl => ?_)
        refine lv_lload hx hb dX6_divisor_20 (lv_at hl 2 rfl) ?_
        refine lv_lstore (lv' := [(4, .long (lN (s1))), (8, .long (lN (g1 % s1))), (6, .long (lN (s1)))]) hx hb dX6_divisor_22 hl (by decide) rfl (fun ls hl => ?_)
        refine lv_lload hx hb dX6_divisor_24 (lv_at hl 1 rfl) ?_
        refine lv_lstore (lv' := [(6, .long (lN (g1 % s1))), (4, .long (lN (s1))), (8, .long (lN (g1 % s1)))]) hx hb dX6_divisor_26 hl (by decide) rfl (fun ls hl => ?_)
        refine lv_goto (tgt := 6) hx hb dX6_divisor_28 (by decide) ?_
        exact ih_6 s1 (g1 % s1) (by have h9 := Nat.mod_lt g1 (show 0 < s1 by omega); omega) ((gcd_s g1 s1).trans hgc) hs63 (Nat.lt_of_le_of_lt (Nat.mod_le _ _) hg63) _ _ hW _ (lv_sub hl [1, 0] rfl)
  exact lp_6 (b + 1) a b (by omega) rfl ha hb63 _ _ hW _ (lv_sub hl [1, 0] rfl)
set_option maxRecDepth 100000 in
set_option maxHeartbeats 4000000 in
theorem k_rlowest (l : Launch) (G : Gx) (n : Nat) (ad : Nat → Nat) (sz : Nat) (I : Ic) (L : Lc) (R : Rc) (u1 l1 b1 : Nat) (hu63 : u1 < 2 ^ 63) (hl63 : l1 < 2 ^ 63) (hl0 : 0 < l1) (hb2 : b1 < 2) : Met l yX6_lowest (Cond.code yX6_lowest cX6_lowest 7 (some .long) :: GW) ({ frames := 1, cells := 0, slots := 0, locals := 36 } : Room) (qPre G n ad sz I L R [.long (lN (u1)), .long (lN (l1)), .int (nI (b1))]) (qL0 G (qA n ad sz) (n, ad, I, L, R) (fun z => z = lowT u1 l1 b1)) 0 0 (qA n ad sz) := by
  refine q_met (by decide) (Nat.le_of_ble_eq_true rfl) ?_
  intro p_ e_ s m_ below meth c_ hC hr hlk0 hin hsz hW ls hl
  subst hsz
  have hC : CallFix p_ m_ c_ cX6_lowest 7 s ([.long (lN (u1)), .long (lN (l1)), .int (nI (b1))] : List Value).toArray GW "CoinRowsModel" := hC
  have hx := hC.1
  have hb := hC.2.1
  have hg0 : 0 < Nat.gcd u1 l1 := Nat.gcd_pos_of_pos_right _ hl0
  have hg63 : Nat.gcd u1 l1 < 2 ^ 63 := Nat.lt_of_le_of_lt (Nat.gcd_le_right _ hl0) hl63
  have hgN : Nat.gcd u1 l1 ≠ 0 := by omega
  have hl : lv_has ls 7 [(0, .long (lN (u1))), (2, .long (lN (l1))), (4, .int (nI (b1)))] := hl
  refine lv_lload_n hx hb dX6_lowest_0 rfl (lv_at hl 0 rfl) ?_
  refine lv_lload_n hx hb dX6_lowest_1 rfl (lv_at hl 1 rfl) ?_
  refine q_kL0 (q_rS (As := [.long (lN (u1)), .long (lN (l1))]) (rest := []) hC hW mw_X6_divisor gw_667 (k_divisor l G n ad s.heap.size I L R _ _ hu63 hl63) ⟨rfl, rfl⟩ ⟨Nat.le_of_ble_eq_true rfl, Nat.le_of_ble_eq_true rfl⟩ ⟨(Nat.le_of_ble_eq_true rfl), (Nat.le_of_ble_eq_true rfl)⟩ hl.1 rfl rfl (Nat.le_of_ble_eq_true rfl) dX6_lowest_2) hW (fun r_2 H locs hp hW => ?_)
  subst hp
  refine lv_lstore (lv' := [(5, .long (lN (Nat.gcd u1 l1))), (0, .long (lN (u1))), (2, .long (lN (l1))), (4, .int (nI (b1)))]) hx hb dX6_lowest_5 hl (by decide) rfl (fun ls hl => ?_)
  refine lv_iload hx hb dX6_lowest_7 (lv_at hl 3 rfl) ?_
  refine q_ine (tgt := 16) hx hb dX6_lowest_9 (by decide) (by first | omega | exact Nat.lt_of_le_of_lt (hw3 _) (by decide)) (fun c_9 => ?_) (fun c_9 => ?_)
  ·
    refine lv_lload_n hx hb dX6_lowest_16 rfl (lv_at hl 2 rfl) ?_
    refine lv_lload hx hb dX6_lowest_17 (lv_at hl 0 rfl) ?_
    refine lv_ldiv hx hb dX6_lowest_19 (fun q => hgN ((pk_lEQ hg63 (by decide)).mp (show lN (Nat.gcd u1 l1) = lN 0 from q))) ?_
    refine q_top (v2 := .long (lN (l1 / Nat.gcd u1 l1))) (congrArg Value.long (pk_lDiv hl63 hg0 hg63)) ?_
    exact q_lret0 hC hW hr hlk0 (by unfold lowT; rw [if_neg (show ¬ b1 = 0 by omega)]) dX6_lowest_20
  ·
    refine lv_lload_n hx hb dX6_lowest_12 rfl (lv_at hl 1 rfl) ?_
    refine lv_goto (tgt := 17) hx hb dX6_lowest_13 (by decide) ?_
    refine lv_lload hx hb dX6_lowest_17 (lv_at hl 0 rfl) ?_
    refine lv_ldiv hx hb dX6_lowest_19 (fun q => hgN ((pk_lEQ hg63 (by decide)).mp (show lN (Nat.gcd u1 l1) = lN 0 from q))) ?_
    refine q_top (v2 := .long (lN (u1 / Nat.gcd u1 l1))) (congrArg Value.long (pk_lDiv hu63 hg0 hg63)) ?_
    exact q_lret0 hC hW hr hlk0 (by unfold lowT; rw [if_pos (show b1 = 0 by omega)]) dX6_lowest_20
