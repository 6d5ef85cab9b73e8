set_option maxRecDepth 100000 in
set_option maxHeartbeats 4000000 in
theorem k_rthrough (l : Launch) (G : Gx) (n : Nat) (ad : Nat → Nat) (sz : Nat) (I : Ic) (L : Lc) (R : Rc) (q f : Nat) (hf : f < 4) (w : Nat → Nat) (K : Nat) (ro : Nat → Nat) (hn : 83 ≤ n) (hlk : LkOK n R) (hN : NwI (I 72) w K ro) (hBh : BhI w ro K I L 0) (hAh : AhI w ro K L) (hq : q < K) : Met l yX6_through (Cond.code yX6_through cX6_through 3 (some .long) :: GW) ({ frames := 0, cells := 0, slots := 0, locals := 0 } : Room) (qPre G n ad sz I L R [.ref (ad 71), .int (nI (q)), .int (nI (f))]) (qL0 G (qA n ad sz) (n, ad, I, L, R) (fun z => z = lN (thr w ro K q f))) 0 0 (qA n ad sz) := by
  refine q_met (by decide) (Nat.le_of_ble_eq_true rfl) ?_
  intro p_ e_ s m_ below meth c_ hC hr hlk0 hin hsz hW ls hl
  subst hsz
  have hC : CallFix p_ m_ c_ cX6_through 3 s ([.ref (ad 71), .int (nI (q)), .int (nI (f))] : List Value).toArray GW "CoinRowsModel" := hC
  have hx := hC.1
  have hb := hC.2.1
  have hk6 : K ≤ 6 := hN.2.2.2.1
  have hw : Wok w := hN.2.2.2.2.1
  have hw3 : ∀ i, w i ≤ 3 := hw.1
  have hr4 : ∀ j, ro j < 4 := hN.2.2.2.2.2
  have hl : lv_has ls 3 [(0, .ref (ad 71)), (1, .int (nI (q))), (2, .int (nI (f)))] := hl
  refine lv_aload_n hx hb dX6_through_0 rfl (lv_at hl 0 rfl) ?_
  refine g_6_7 (x := 71) (y := 77) hC hW (by omega) kd_71 gw_490 (hlk 71 7 77 (by omega) rfl) dX6_through_1 ?_
  refine q_bp 7 hx hb dX6_through_4 (by decide) ?_
  refine lv_iload_n hx hb dX6_through_6 rfl (lv_at hl 2 rfl) ?_
  refine q_imul hx hb dX6_through_7 ?_
  refine lv_iload_n hx hb dX6_through_8 rfl (lv_at hl 1 rfl) ?_
  refine q_iadd hx hb dX6_through_9 ?_
  refine q_ic 1 hx hb dX6_through_10 (by decide) ?_
  refine q_iadd hx hb dX6_through_11 ?_
  refine q_lald (x := 77) (i := ((7 * f) + q) + 1) hC hW (by omega) kd_77 (by omega) dX6_through_12 ?_
  refine q_top (v2 := .long (lN (uB w ro (q + 1) f))) (congrArg _ ((hAh f (q + 1) (by omega) (by omega)).trans (congrArg lN (bF_lo (by omega))))) ?_
  refine lv_aload_n hx hb dX6_through_13 rfl (lv_at hl 0 rfl) ?_
  refine g_6_8 (x := 71) (y := 78) hC hW (by omega) kd_71 gw_491 (hlk 71 8 78 (by omega) rfl) dX6_through_14 ?_
  refine q_bp 7 hx hb dX6_through_17 (by decide) ?_
  refine lv_iload_n hx hb dX6_through_19 rfl (lv_at hl 2 rfl) ?_
  refine q_imul hx hb dX6_through_20 ?_
  refine lv_iload_n hx hb dX6_through_21 rfl (lv_at hl 1 rfl) ?_
  refine q_iadd hx hb dX6_through_22 ?_
  refine q_ic 1 hx hb dX6_through_23 (by decide) ?_
  refine q_iadd hx hb dX6_through_24 ?_
  refine q_lald (x := 78) (i := ((7 * f) + q) + 1) hC hW (by omega) kd_78 (by omega) dX6_through_25 ?_
  refine q_top (v2 := .long (lN (Sx' w K ro (K - (q + 1)) f))) (congrArg _ (hBh (q + 1) f (by omega) (by omega) (by omega)).1) ?_
  refine q_lmul hx hb dX6_through_26 ?_
  exact q_lret0 hC hW hr hlk0 rfl dX6_through_27
set_option maxRecDepth 100000 in
set_option maxHeartbeats 4000000 in
theorem k_divisor (l : Launch) (G : Gx) (n : Nat) (ad : Nat → Nat) (sz : Nat) (I : Ic) (L : Lc) (R : Rc) (a b : Nat) (ha : a < 2 ^ 63) (hb63 : b < 2 ^ 63) : Met l yX6_divisor (Cond.code yX6_divisor cX6_divisor 10 (some .long) :: GW) ({ frames := 0, cells := 0, slots := 0, locals := 0 } : Room) (qPre G n ad sz I L R [.long (lN (a)), .long (lN (b))]) (qL0 G (qA n ad sz) (n, ad, I, L, R) (fun z => z = lN (Nat.gcd a b))) 0 0 (qA n ad sz) := by
  refine q_met (by decide) (Nat.le_of_ble_eq_true rfl) ?_
  intro p_ e_ s m_ below meth c_ hC hr hlk0 hin hsz hW ls hl
  subst hsz
  have hC : CallFix p_ m_ c_ cX6_divisor 10 s ([.long (lN (a)), .long (lN (b))] : List Value).toArray GW "CoinRowsModel" := hC
  have hx := hC.1
  have hb := hC.2.1
  have hl : lv_has ls 10 [(0, .long (lN (a))), (2, .long (lN (b)))] := hl
  refine lv_lload_n hx hb dX6_divisor_0 rfl (lv_at hl 0 rfl) ?_
  refine lv_lstore (lv' := [(4, .long (lN (a))), (0, .long (lN (a))), (2, .long (lN (b)))]) hx hb dX6_divisor_1 hl (by decide) rfl (fun ls hl => ?_)
  refine lv_lload_n hx hb dX6_divisor_3 rfl (lv_at hl 2 rfl) ?_
  refine lv_lstore (lv' := [(6, .long (lN (b))), (4, .long (lN (a))), (0, .long (lN (a))), (2, .long (lN (b)))]) hx hb dX6_divisor_4 hl (by decide) rfl (fun ls hl => ?_)
  have lp_6 : ∀ (fu_6 : Nat) (g1 : Nat) (s1 : Nat), s1 < fu_6 → (Nat.gcd g1 s1 = Nat.gcd a b) → (g1 < 2 ^ 63) → (s1 < 2 ^ 63) → ∀ (H : Heap) (locs : List Loc), Wd G n ad I L R (qA n ad s.heap.size) s.heap H locs s → ∀ ls : Array Slot, lv_has ls 10 [(4, .long (lN (g1))), (6, .long (lN (s1)))] → W p_ l e_ ({ frames := 0, cells := 0, slots := 0, locals := 0 } : Room) s m_ ([.long (lN (a)), .long (lN (b))] : List Value).toArray below meth c_ H locs 0 0 (MQ below (qL0 G (qA n ad s.heap.size) (n, ad, I, L, R) (fun z => z = lN (Nat.gcd a b))) ([.long (lN (a)), .long (lN (b))] : List Value).toArray s 0 0 (qA n ad s.heap.size)) (F0 m_ 6 ls []) := by
    intro fu_6
    induction fu_6 with
    | zero =>
      intro g1 s1 hm; exact absurd hm (Nat.not_lt_zero _)
    | succ fu_6 ih_6 =>
      intro g1 s1 hm_6 hgc hg63 hs63 H locs hW ls hl
      refine lv_lload hx hb dX6_divisor_6 (lv_at hl 1 rfl) ?_
      refine q_lc 0 hx hb dX6_divisor_8 (by decide) ?_
      refine q_lcmp hx hb dX6_divisor_9 ?_
      refine q_leq (tgt := 31) hx hb dX6_divisor_10 (by decide) hs63 (by decide) (fun c_10 => ?_) (fun c_10 => ?_)
      ·
        refine lv_lload hx hb dX6_divisor_31 (lv_at hl 0 rfl) ?_
        exact q_lret0 hC hW hr hlk0 (by rw [← hgc, show s1 = 0 from c_10, Nat.gcd_zero_right]) dX6_divisor_33
      ·
        refine lv_lload hx hb dX6_divisor_13 (lv_at hl 0 rfl) ?_
        refine lv_lload hx hb dX6_divisor_15 (lv_at hl 1 rfl) ?_
        have hs0 : s1 ≠ 0 := c_10
        refine lv_lrem hx hb dX6_divisor_17 (fun q => hs0 ((pk_lEQ hs63 (by decide)).mp (show lN s1 = lN 0 from q))) ?_
        refine q_top (v2 := .long (lN (g1 % s1))) (congrArg Value.long (pk_lRem hg63 (by omega) hs63)) ?_
        refine lv_lstore (lv' := [(8, .long (lN (g1 % s1))), (4, .long (lN (g1))), (6, .long (lN (s1)))]) hx hb dX6_divisor_18 hl (by decide) rfl (fun ls hl => ?_)
        refine lv_lload hx hb dX6_divisor_20 (lv_at hl 2 rfl) ?_
        refine lv_lstore (lv' := [(4, .long (lN (s1))), (8, .long (lN (g1 % s1))), (6, .long (lN (s1)))]) hx hb dX6_divisor_22 hl (by decide) rfl (fun ls hl => ?_)
        refine lv_lload hx hb dX6_divisor_24 (lv_at hl 1 rfl) ?_
        refine lv_lstore (lv' := [(6, .long (lN (g1 % s1))), (4, .long (lN (s1))), (8, .long (lN (g1 % s1)))]) hx hb dX6_divisor_26 hl (by decide) rfl (fun ls hl => ?_)
        refine lv_goto (tgt := 6) hx hb dX6_divisor_28 (by decide) ?_
        exact ih_6 s1 (g1 % s1) (by have h9 := Nat.mod_lt g1 (show 0 < s1 by omega); omega) ((gcd_s g1 s1).trans hgc) hs63 (Nat.lt_of_le_of_lt (Nat.mod_le _ _) hg63) _ _ hW _ (lv_sub hl [1, 0] rfl)
  exact lp_6 (b + 1) a b (by omega) rfl ha hb63 _ _ hW _ (lv_sub hl [1, 0] rfl)
set_option maxRecDepth 100000 in
set_option maxHeartbeats 4000000 in
theorem k_rlowest (l : Launch) (G : Gx) (n : Nat) (ad : Nat → Nat) (sz : Nat) (I : Ic) (L : Lc) (R : Rc) (u1 l1 b1 : Nat) (hu63 : u1 < 2 ^ 63) (hl63 : l1 < 2 ^ 63) (hl0 : 0 < l1) (hb2 : b1 < 2) : Met l yX6_lowest (Cond.code yX6_lowest cX6_lowest 7 (some .long) :: GW) ({ frames := 1, cells := 0, slots := 0, locals := 36 } : Room) (qPre G n ad sz I L R [.long (lN (u1)), .long (lN (l1)), .int (nI (b1))]) (qL0 G (qA n ad sz) (n, ad, I, L, R) (fun z => z = lowT u1 l1 b1)) 0 0 (qA n ad sz) := by
  refine q_met (by decide) (Nat.le_of_ble_eq_true rfl) ?_
  intro p_ e_ s m_ below meth c_ hC hr hlk0 hin hsz hW ls hl
  subst hsz
  have hC : CallFix p_ m_ c_ cX6_lowest 7 s ([.long (lN (u1)), .long (lN (l1)), .int (nI (b1))] : List Value).toArray GW "CoinRowsModel" := hC
  have hx := hC.1
  have hb := hC.2.1
  have hg0 : 0 < Nat.gcd u1 l1 := Nat.gcd_pos_of_pos_right _ hl0
  have hg63 : Nat.gcd u1 l1 < 2 ^ 63 := Nat.lt_of_le_of_lt (Nat.gcd_le_right _ hl0) hl63
  have hgN : Nat.gcd u1 l1 ≠ 0 := by omega
  have hl : lv_has ls 7 [(0, .long (lN (u1))), (2, .long (lN (l1))), (4, .int (nI (b1)))] := hl
  refine lv_lload_n hx hb dX6_lowest_0 rfl (lv_at hl 0 rfl) ?_
  refine lv_lload_n hx hb dX6_lowest_1 rfl (lv_at hl 1 rfl) ?_
  refine q_kL0 (q_rS (As := [.long (lN (u1)), .long (lN (l1))]) (rest := []) hC hW mw_X6_divisor gw_667 (k_divisor l G n ad s.heap.size I L R _ _ hu63 hl63) ⟨rfl, rfl⟩ ⟨Nat.le_of_ble_eq_true rfl, Nat.le_of_ble_eq_true rfl⟩ ⟨(Nat.le_of_ble_eq_true rfl), (Nat.le_of_ble_eq_true rfl)⟩ hl.1 rfl rfl (Nat.le_of_ble_eq_true rfl) dX6_lowest_2) hW (fun r_2 H locs hp hW => ?_)
  subst hp
  refine lv_lstore (lv' := [(5, .long (lN (Nat.gcd u1 l1))), (0, .long (lN (u1))), (2, .long (lN (l1))), (4, .int (nI (b1)))]) hx hb dX6_lowest_5 hl (by decide) rfl (fun ls hl => ?_)
  refine lv_iload hx hb dX6_lowest_7 (lv_at hl 3 rfl) ?_
  refine q_ine (tgt := 16) hx hb dX6_lowest_9 (by decide) (by first | omega | exact Nat.lt_of_le_of_lt (hw3 _) (by decide)) (fun c_9 => ?_) (fun c_9 => ?_)
  ·
    refine lv_lload_n hx hb dX6_lowest_16 rfl (lv_at hl 2 rfl) ?_
    refine lv_lload hx hb dX6_lowest_17 (lv_at hl 0 rfl) ?_
    refine lv_ldiv hx hb dX6_lowest_19 (fun q => hgN ((pk_lEQ hg63 (by decide)).mp (show lN (Nat.gcd u1 l1) = lN 0 from q))) ?_
    refine q_top (v2 := .long (lN (l1 / Nat.gcd u1 l1))) (congrArg Value.long (pk_lDiv hl63 hg0 hg63)) ?_
    exact q_lret0 hC hW hr hlk0 (by unfold lowT; rw [if_neg (show ¬ b1 = 0 by omega)]) dX6_lowest_20
  ·
    refine lv_lload_n hx hb dX6_lowest_12 rfl (lv_at hl 1 rfl) ?_
    refine lv_goto (tgt := 17) hx hb dX6_lowest_13 (by decide) ?_
    refine lv_lload hx hb dX6_lowest_17 (lv_at hl 0 rfl) ?_
    refine lv_ldiv hx hb dX6_lowest_19 (fun q => hgN ((pk_lEQ hg63 (by decide)).mp (show lN (Nat.gcd u1 l1) = lN 0 from q))) ?_
    refine q_top (v2 := .long (lN (u1 / Nat.gcd u1 l1))) (congrArg Value.long (pk_lDiv hu63 hg0 hg63)) ?_
    exact q_lret0 hC hW hr hlk0 (by unfold lowT; rw [if_pos (show b1 = 0 by omega)]) dX6_lowest_20
theorem nx_K2 {w r : Nat → Nat} {K f t d : Nat} (h : 0 < mv w K r f t d) (hd : d ≤ K) : nx t d ≤ K := by
  by_cases h4 : t < 4
  · have hdK : d < K := Classical.byContradiction fun y => by rw [mv_0 h4 y] at h; omega
    have e : nx t d = d + 1 := if_pos h4
    omega
  · have e : nx t d = d := if_neg h4
    omega
theorem stN_6 (w r : Nat → Nat) (K t : Nat) : ∀ d, stN w r K 6 t (d + 1) = mv w K r 6 t 0 * Sx' w K r (K - nx t 0) t
  | 0 => by
    rw [stN_s]
    have e : bF w (uB w r 0) 6 = 1 := rfl
    rw [e]
    show 0 + _ = _
    rw [Nat.one_mul, Nat.zero_add]
  | d + 1 => by
    rw [stN_s, stN_6 w r K t d]
    have e : bF w (uB w r (d + 1)) 6 = 0 := rfl
    rw [e, Nat.zero_mul, Nat.zero_mul, Nat.add_zero]
theorem num_s {w r : Nat → Nat} {K f t d x : Nat} (hd : d ≤ K) (ht : t < 6) (h : (mv w K r f t d = 0 ∧ x = 0) ∨ (¬ (f < 4 ∧ d = K) ∧ 0 < mv w K r f t d ∧ x = bF w (uB w r d) f * mv w K r f t d * Sx' w K r (K - nx t d) t) ∨ (f < 4 ∧ d = K ∧ x = 0)) : stN w r K f t (min d K) + x = stN w r K f t (min (d + 1) K) := by
  by_cases e : d < K
  · rw [Nat.min_eq_left (by omega), Nat.min_eq_left (by omega), stN_s]
    rcases h with ⟨h1, rfl⟩ | ⟨-, -, rfl⟩ | ⟨-, h2, -⟩
    · rw [h1]; simp
    · rfl
    · omega
  · have ed : d = K := by omega
    subst ed
    rw [Nat.min_self, Nat.min_eq_right (by omega)]
    rcases h with ⟨-, rfl⟩ | ⟨-, hp, rfl⟩ | ⟨-, -, rfl⟩
    · rfl
    · have h4 : ¬ t < 4 := fun q => by rw [mv_0 q (by omega)] at hp; omega
      have en : nx t d = d := if_neg h4
      have e0 : Sx' w d r (d - nx t d) t = 0 := by
        rw [en]
        exact (Ax0 opS 0 1 w d r t).trans (if_neg (by omega))
      rw [e0]; simp
    · rfl

set_option maxRecDepth 100000 in
set_option maxHeartbeats 4000000 in
theorem k_num0 (l : Launch) (G : Gx) (n : Nat) (ad : Nat → Nat) (sz : Nat) (I : Ic) (L : Lc) (R : Rc) (t : Nat) (ht : t < 6) (w : Nat → Nat) (K : Nat) (ro : Nat → Nat) (hn : 83 ≤ n) (hlk : LkOK n R) (hN : NwI (I 72) w K ro) (hBh : BhI w ro K I L 0) (hAh : AhI w ro K L) (hK0 : 0 < K) : Met l yX6_numberOf (Cond.code yX6_numberOf cX6_numberOf 9 (some .long) :: GW) ({ frames := 2, cells := 0, slots := 0, locals := 72 } : Room) (qPre G n ad sz I L R [.ref (ad 71), .int (nI 0), .int (nI (t)), .int (nI 0)]) (qL0 G (qA n ad sz) (n, ad, I, L, R) (fun z => z = lN (stN w ro K 6 t K))) 0 0 (qA n ad sz) := by
  refine q_met (by decide) (Nat.le_of_ble_eq_true rfl) ?_
  intro p_ e_ s m_ below meth c_ hC hr hlk0 hin hsz hW ls hl
  subst hsz
  have hC : CallFix p_ m_ c_ cX6_numberOf 9 s ([.ref (ad 71), .int (nI 0), .int (nI (t)), .int (nI 0)] : List Value).toArray GW "CoinRowsModel" := hC
  have hx := hC.1
  have hb := hC.2.1
  have hk6 : K ≤ 6 := hN.2.2.2.1
  have hw : Wok w := hN.2.2.2.2.1
  have hw3 : ∀ i, w i ≤ 3 := hw.1
  have hr4 : ∀ j, ro j < 4 := hN.2.2.2.2.2
  have hl : lv_has ls 9 [(0, .ref (ad 71)), (1, .int (nI 0)), (2, .int (nI (t))), (3, .int (nI 0))] := hl
  refine q_lc 0 hx hb dX6_numberOf_0 (by decide) ?_
  refine lv_lstore (lv' := [(4, .long (lN 0)), (0, .ref (ad 71)), (1, .int (nI 0)), (2, .int (nI (t))), (3, .int (nI 0))]) hx hb dX6_numberOf_1 hl (by decide) rfl (fun ls hl => ?_)
  refine lv_iload_n hx hb dX6_numberOf_3 rfl (lv_at hl 2 rfl) ?_
  refine q_ine (tgt := 50) hx hb dX6_numberOf_4 (by decide) (by first | omega | exact Nat.lt_of_le_of_lt (hw3 _) (by decide)) (fun c_4 => absurd c_4 (by decide)) (fun c_4 => ?_)
  refine lv_aload_n hx hb dX6_numberOf_7 rfl (lv_at hl 1 rfl) ?_
  refine lv_aload_n hx hb dX6_numberOf_8 rfl (lv_at hl 1 rfl) ?_
  refine g_6_0 (x := 71) (y := 72) hC hW (by omega) kd_71 gw_483 (hlk 71 0 72 (by omega) rfl) dX6_numberOf_9 ?_
  refine lv_iload_n hx hb dX6_numberOf_12 rfl (lv_at hl 3 rfl) ?_
  refine q_iald (x := 72) (i := t) hC hW (by omega) kd_72 (by omega) dX6_numberOf_13 ?_
  refine q_top (v2 := .int (nI (w (6 * 6 + t)))) (congrArg _ ((hN.1 _ (by omega)).trans (congrArg nI (rwt_b w (by omega))))) ?_
  refine lv_iload_n hx hb dX6_numberOf_14 rfl (lv_at hl 3 rfl) ?_
  refine q_ic 0 hx hb dX6_numberOf_15 (by decide) ?_
  refine q_kI0 (q_rV (As := [.int (nI (w (6 * 6 + t))), .int (nI (t)), .int (nI 0)]) (rest := []) (x := 71) hC hW mw_X6_going gw_590 (k_going l G n ad s.heap.size I L R _ _ _ (hw3 _) (by omega) (by omega) w K ro hn hlk hN) (by omega) (ct_o6 kd_71) rfl ⟨rfl, rfl⟩ ⟨Nat.le_of_ble_eq_true rfl, Nat.le_of_ble_eq_true rfl⟩ ⟨(Nat.le_of_ble_eq_true rfl), (Nat.le_of_ble_eq_true rfl)⟩ hl.1 rfl rfl (Nat.le_of_ble_eq_true rfl) dX6_numberOf_16) hW (fun r_16 H locs hp hW => ?_)
  subst hp
  refine q_top (v2 := .int (nI (mv w K ro 6 t 0))) rfl ?_
  have hm9 := mv_le hw K ro 6 t 0
  refine lv_istore (lv' := [(6, .int (nI (mv w K ro 6 t 0))), (4, .long (lN 0)), (0, .ref (ad 71)), (1, .int (nI 0)), (2, .int (nI (t))), (3, .int (nI 0))]) hx hb dX6_numberOf_19 hl (by decide) rfl (fun ls hl => ?_)
  refine lv_iload hx hb dX6_numberOf_21 (lv_at hl 0 rfl) ?_
  refine q_ile (tgt := 48) hx hb dX6_numberOf_23 (by decide) (by first | omega | exact Nat.lt_of_le_of_lt (hw3 _) (by decide)) (fun c_23 => ?_) (fun c_23 => ?_)
  ·
    refine q_lc 0 hx hb dX6_numberOf_48 (by decide) ?_
    obtain ⟨k9, hk9⟩ : ∃ k9, K = k9 + 1 := ⟨K - 1, by omega⟩
    have e9 : stN w ro K 6 t K = mv w K ro 6 t 0 * Sx' w K ro (K - nx t 0) t := by have h8 := stN_6 w ro K t k9; rw [← hk9] at h8; exact h8
    exact q_lret0 hC hW hr hlk0 (by rw [e9, show mv w K ro 6 t 0 = 0 by omega, Nat.zero_mul]) dX6_numberOf_49
  ·
    have hnx : nx t 0 ≤ K := nx_K hK0
    refine lv_iload hx hb dX6_numberOf_26 (lv_at hl 0 rfl) ?_
    refine q_i2l hx hb dX6_numberOf_28 (by first | omega | exact Nat.lt_of_le_of_lt (hw3 _) (by decide)) ?_
    refine lv_aload_n hx hb dX6_numberOf_29 rfl (lv_at hl 2 rfl) ?_
    refine g_6_8 (x := 71) (y := 78) hC hW (by omega) kd_71 gw_491 (hlk 71 8 78 (by omega) rfl) dX6_numberOf_30 ?_
    refine q_bp 7 hx hb dX6_numberOf_33 (by decide) ?_
    refine lv_iload_n hx hb dX6_numberOf_35 rfl (lv_at hl 4 rfl) ?_
    refine q_imul hx hb dX6_numberOf_36 ?_
    refine lv_iload_n hx hb dX6_numberOf_37 rfl (lv_at hl 4 rfl) ?_
    refine q_ic 0 hx hb dX6_numberOf_38 (by decide) ?_
    refine q_kI0 (q_rS (As := [.int (nI (t)), .int (nI 0)]) (rest := [.int (nI (7 * t)), .ref (ad 78), .long (lN (mv w K ro 6 t 0))]) hC hW mw_X6_toldThen gw_598 (k_toldThen l G n ad H.size I L R _ _ (by omega) (by omega)) ⟨rfl, rfl⟩ ⟨Nat.le_of_ble_eq_true rfl, Nat.le_of_ble_eq_true rfl⟩ ⟨(Nat.le_of_ble_eq_true rfl), (Nat.le_of_ble_eq_true rfl)⟩ hl.1 rfl rfl (Nat.le_of_ble_eq_true rfl) dX6_numberOf_39) hW (fun r_39 H locs hp hW => ?_)
    subst hp
    refine q_iadd hx hb dX6_numberOf_42 ?_
    refine q_lald (x := 78) (i := (7 * t) + (nx t 0)) hC hW (by omega) kd_78 (by omega) dX6_numberOf_43 ?_
    refine q_top (v2 := .long (lN (Sx' w K ro (K - nx t 0) t))) (congrArg _ (hBh (nx t 0) t (by omega) hnx (by omega)).1) ?_
    refine q_lmul hx hb dX6_numberOf_44 ?_
    refine lv_goto (tgt := 49) hx hb dX6_numberOf_45 (by decide) ?_
    obtain ⟨k9, hk9⟩ : ∃ k9, K = k9 + 1 := ⟨K - 1, by omega⟩
    have e9 : stN w ro K 6 t K = mv w K ro 6 t 0 * Sx' w K ro (K - nx t 0) t := by have h8 := stN_6 w ro K t k9; rw [← hk9] at h8; exact h8
    exact q_lret0 hC hW hr hlk0 (by rw [e9]) dX6_numberOf_49
set_option maxRecDepth 100000 in
set_option maxHeartbeats 4000000 in
theorem k_num1 (l : Launch) (G : Gx) (n : Nat) (ad : Nat → Nat) (sz : Nat) (I : Ic) (L : Lc) (R : Rc) (f t : Nat) (hf : f < 6) (ht : t < 6) (w : Nat → Nat) (K : Nat) (ro : Nat → Nat) (hn : 83 ≤ n) (hlk : LkOK n R) (hN : NwI (I 72) w K ro) (hBh : BhI w ro K I L 0) (hAh : AhI w ro K L) (hK0 : 0 < K) : Met l yX6_numberOf (Cond.code yX6_numberOf cX6_numberOf 9 (some .long) :: GW) ({ frames := 2, cells := 0, slots := 0, locals := 72 } : Room) (qPre G n ad sz I L R [.ref (ad 71), .int (nI 1), .int (nI (f)), .int (nI (t))]) (qL0 G (qA n ad sz) (n, ad, I, L, R) (fun z => z = lN (stN w ro K f t K))) 0 0 (qA n ad sz) := by
  refine q_met (by decide) (Nat.le_of_ble_eq_true rfl) ?_
  intro p_ e_ s m_ below meth c_ hC hr hlk0 hin hsz hW ls hl
  subst hsz
  have hC : CallFix p_ m_ c_ cX6_numberOf 9 s ([.ref (ad 71), .int (nI 1), .int (nI (f)), .int (nI (t))] : List Value).toArray GW "CoinRowsModel" := hC
  have hx := hC.1
  have hb := hC.2.1
  have hk6 : K ≤ 6 := hN.2.2.2.1
  have hw : Wok w := hN.2.2.2.2.1
  have hw3 : ∀ i, w i ≤ 3 := hw.1
  have hr4 : ∀ j, ro j < 4 := hN.2.2.2.2.2
  have hl : lv_has ls 9 [(0, .ref (ad 71)), (1, .int (nI 1)), (2, .int (nI (f))), (3, .int (nI (t)))] := hl
  refine q_lc 0 hx hb dX6_numberOf_0 (by decide) ?_
  refine lv_lstore (lv' := [(4, .long (lN 0)), (0, .ref (ad 71)), (1, .int (nI 1)), (2, .int (nI (f))), (3, .int (nI (t)))]) hx hb dX6_numberOf_1 hl (by decide) rfl (fun ls hl => ?_)
  refine lv_iload_n hx hb dX6_numberOf_3 rfl (lv_at hl 2 rfl) ?_
  refine q_ine (tgt := 50) hx hb dX6_numberOf_4 (by decide) (by first | omega | exact Nat.lt_of_le_of_lt (hw3 _) (by decide)) (fun c_4 => ?_) (fun c_4 => absurd c_4 (by decide))
  refine lv_iload_n hx hb dX6_numberOf_50 rfl (lv_at hl 2 rfl) ?_
  refine q_ic 2 hx hb dX6_numberOf_51 (by decide) ?_
  refine q_cne (tgt := 109) hx hb dX6_numberOf_52 (by decide) (by first | omega | exact Nat.lt_of_le_of_lt (hw3 _) (by decide)) (by first | omega | exact Nat.lt_of_le_of_lt (hw3 _) (by decide)) (fun c_52 => ?_) (fun c_52 => absurd c_52 (by decide))
  refine q_ic 0 hx hb dX6_numberOf_109 (by decide) ?_
  refine lv_istore (lv' := [(6, .int (nI 0)), (4, .long (lN 0)), (0, .ref (ad 71)), (1, .int (nI 1)), (2, .int (nI (f))), (3, .int (nI (t)))]) hx hb dX6_numberOf_110 hl (by decide) rfl (fun ls hl => ?_)
  have lp_112 : ∀ (fu_112 : Nat) (d1 : Nat), K + 1 - d1 < fu_112 → (d1 ≤ K + 1) → ∀ (H : Heap) (locs : List Loc), Wd G n ad I L R (qA n ad s.heap.size) s.heap H locs s → ∀ ls : Array Slot, lv_has ls 9 [(0, .ref (ad 71)), (1, .int (nI 1)), (2, .int (nI (f))), (3, .int (nI (t))), (4, .long (lN (stN w ro K f t (min d1 K)))), (6, .int (nI (d1)))] → W p_ l e_ ({ frames := 2, cells := 0, slots := 0, locals := 72 } : Room) s m_ ([.ref (ad 71), .int (nI 1), .int (nI (f)), .int (nI (t))] : List Value).toArray below meth c_ H locs 0 0 (MQ below (qL0 G (qA n ad s.heap.size) (n, ad, I, L, R) (fun z => z = lN (stN w ro K f t K))) ([.ref (ad 71), .int (nI 1), .int (nI (f)), .int (nI (t))] : List Value).toArray s 0 0 (qA n ad s.heap.size)) (F0 m_ 112 ls []) := by
    intro fu_112
    induction fu_112 with
    | zero =>
      intro d1 hm; exact absurd hm (Nat.not_lt_zero _)
    | succ fu_112 ih_112 =>
      intro d1 hm_112 hdK H locs hW ls hl
      refine lv_iload hx hb dX6_numberOf_112 (lv_at hl 5 rfl) ?_
      refine lv_aload_n hx hb dX6_numberOf_114 rfl (lv_at hl 0 rfl) ?_
      refine g_6_0 (x := 71) (y := 72) hC hW (by omega) kd_71 gw_483 (hlk 71 0 72 (by omega) rfl) dX6_numberOf_115 ?_
      refine q_bp 58 hx hb dX6_numberOf_118 (by decide) ?_
      refine q_iald (x := 72) (i := 58) hC hW (by omega) kd_72 (by omega) dX6_numberOf_120 ?_
      refine q_top (v2 := .int (nI (K))) (congrArg _ hN.2.1) ?_
      refine q_cgt (tgt := 221) hx hb dX6_numberOf_121 (by decide) (by first | omega | exact Nat.lt_of_le_of_lt (hw3 _) (by decide)) (by first | omega | exact Nat.lt_of_le_of_lt (hw3 _) (by decide)) (fun c_121 => ?_) (fun c_121 => ?_)
      ·
        refine lv_lload hx hb dX6_numberOf_221 (lv_at hl 4 rfl) ?_
        exact q_lret0 hC hW hr hlk0 (by rw [show min d1 K = K by omega]) dX6_numberOf_223
      ·
        refine lv_aload_n hx hb dX6_numberOf_124 rfl (lv_at hl 0 rfl) ?_
        refine lv_aload_n hx hb dX6_numberOf_125 rfl (lv_at hl 0 rfl) ?_
        refine lv_iload_n hx hb dX6_numberOf_126 rfl (lv_at hl 2 rfl) ?_
        refine lv_iload_n hx hb dX6_numberOf_127 rfl (lv_at hl 3 rfl) ?_
        refine q_kI0 (q_rV (As := [.int (nI (f)), .int (nI (t))]) (rest := [.ref (ad 71)]) (x := 71) hC hW mw_X6_step gw_586 (k_step l G n ad H.size I L R _ _ (by omega) (by omega) w K ro hn hlk hN) (by omega) (ct_o6 kd_71) rfl ⟨rfl, rfl⟩ ⟨Nat.le_of_ble_eq_true rfl, Nat.le_of_ble_eq_true rfl⟩ ⟨(Nat.le_of_ble_eq_true rfl), (Nat.le_of_ble_eq_true rfl)⟩ hl.1 rfl rfl (Nat.le_of_ble_eq_true rfl) dX6_numberOf_128) hW (fun r_128 H locs hp hW => ?_)
        subst hp
        refine lv_iload_n hx hb dX6_numberOf_131 rfl (lv_at hl 3 rfl) ?_
        refine lv_iload hx hb dX6_numberOf_132 (lv_at hl 5 rfl) ?_
        refine q_kI0 (q_rV (As := [.int (nI (w (f * 6 + t))), .int (nI (t)), .int (nI (d1))]) (rest := []) (x := 71) hC hW mw_X6_going gw_590 (k_going l G n ad H.size I L R _ _ _ (hw3 _) (by omega) (by omega) w K ro hn hlk hN) (by omega) (ct_o6 kd_71) rfl ⟨rfl, rfl⟩ ⟨Nat.le_of_ble_eq_true rfl, Nat.le_of_ble_eq_true rfl⟩ ⟨(Nat.le_of_ble_eq_true rfl), (Nat.le_of_ble_eq_true rfl)⟩ hl.1 rfl rfl (Nat.le_of_ble_eq_true rfl) dX6_numberOf_134) hW (fun r_134 H locs hp hW => ?_)
        subst hp
        refine q_top (v2 := .int (nI (mv w K ro f t d1))) rfl ?_
        have hm9 := mv_le hw K ro f t d1
        refine lv_istore (lv' := [(7, .int (nI (mv w K ro f t d1))), (0, .ref (ad 71)), (1, .int (nI 1)), (2, .int (nI (f))), (3, .int (nI (t))), (4, .long (lN (stN w ro K f t (min d1 K)))), (6, .int (nI (d1)))]) hx hb dX6_numberOf_137 hl (by decide) rfl (fun ls hl => ?_)
        refine lv_iload_n hx hb dX6_numberOf_139 rfl (lv_at hl 3 rfl) ?_
        refine q_ic 4 hx hb dX6_numberOf_140 (by decide) ?_
        refine q_cge (tgt := 160) hx hb dX6_numberOf_141 (by decide) (by first | omega | exact Nat.lt_of_le_of_lt (hw3 _) (by decide)) (by first | omega | exact Nat.lt_of_le_of_lt (hw3 _) (by decide)) (fun c_141 => ?_) (fun c_141 => ?_)
        ·
          refine q_ic 0 hx hb dX6_numberOf_160 (by decide) ?_
          refine lv_istore (lv' := [(8, .int (nI 0)), (7, .int (nI (mv w K ro f t d1))), (0, .ref (ad 71)), (1, .int (nI 1)), (2, .int (nI (f))), (3, .int (nI (t))), (4, .long (lN (stN w ro K f t (min d1 K)))), (6, .int (nI (d1)))]) hx hb dX6_numberOf_161 hl (by decide) rfl (fun ls hl => ?_)
          refine lv_lload hx hb dX6_numberOf_163 (lv_at hl 6 rfl) ?_
          refine lv_iload hx hb dX6_numberOf_165 (lv_at hl 1 rfl) ?_
          refine q_ile (tgt := 211) hx hb dX6_numberOf_167 (by decide) (by first | omega | exact Nat.lt_of_le_of_lt (hw3 _) (by decide)) (fun c_167 => ?_) (fun c_167 => ?_)
          ·
            have hz1 : mv w K ro f t d1 = 0 := by omega
            refine q_lc 0 hx hb dX6_numberOf_211 (by decide) ?_
            refine q_ladd hx hb dX6_numberOf_212 ?_
            refine q_top (v2 := .long (lN (stN w ro K f t (min (d1 + 1) K)))) (congrArg (fun z => Value.long (lN z)) (num_s (by omega) ht (Or.inl ⟨hz1, rfl⟩))) ?_
            refine lv_lstore (lv' := [(4, .long (lN (stN w ro K f t (min (d1 + 1) K)))), (8, .int (nI 0)), (7, .int (nI (mv w K ro f t d1))), (0, .ref (ad 71)), (1, .int (nI 1)), (2, .int (nI (f))), (3, .int (nI (t))), (6, .int (nI (d1)))]) hx hb dX6_numberOf_213 hl (by decide) rfl (fun ls hl => ?_)
            refine q_iinc (z2 := d1 + 1) (lv' := [(6, .int (nI (d1 + 1))), (4, .long (lN (stN w ro K f t (min (d1 + 1) K)))), (8, .int (nI 0)), (7, .int (nI (mv w K ro f t d1))), (0, .ref (ad 71)), (1, .int (nI 1)), (2, .int (nI (f))), (3, .int (nI (t)))]) hx hb dX6_numberOf_215 hl (k := 7) rfl (inc_up _ 1 (by decide)) (by decide) rfl (fun ls hl => ?_)
            refine lv_goto (tgt := 112) hx hb dX6_numberOf_218 (by decide) ?_
            exact ih_112 (d1 + 1) (by omega) (by omega) _ _ hW _ (lv_sub hl [4, 5, 6, 7, 1, 0] rfl)
          ·
            have hp1 : 0 < mv w K ro f t d1 := by omega
            have hnx : nx t d1 ≤ K := nx_K2 hp1 (by omega)
            refine lv_iload hx hb dX6_numberOf_170 (lv_at hl 0 rfl) ?_
            refine q_ine (tgt := 211) hx hb dX6_numberOf_172 (by decide) (by first | omega | exact Nat.lt_of_le_of_lt (hw3 _) (by decide)) (fun c_172 => absurd c_172 (by decide)) (fun c_172 => ?_)
            refine lv_aload_n hx hb dX6_numberOf_175 rfl (lv_at hl 2 rfl) ?_
            refine g_6_7 (x := 71) (y := 77) hC hW (by omega) kd_71 gw_490 (hlk 71 7 77 (by omega) rfl) dX6_numberOf_176 ?_
            refine q_bp 7 hx hb dX6_numberOf_179 (by decide) ?_
            refine lv_iload_n hx hb dX6_numberOf_181 rfl (lv_at hl 4 rfl) ?_
            refine q_imul hx hb dX6_numberOf_182 ?_
            refine lv_iload hx hb dX6_numberOf_183 (lv_at hl 7 rfl) ?_
            refine q_iadd hx hb dX6_numberOf_185 ?_
            refine q_lald (x := 77) (i := (7 * f) + d1) hC hW (by omega) kd_77 (by omega) dX6_numberOf_186 ?_
            refine q_top (v2 := .long (lN (bF w (uB w ro d1) f))) (congrArg _ (hAh f d1 (by omega) (by omega))) ?_
            refine lv_iload hx hb dX6_numberOf_187 (lv_at hl 1 rfl) ?_
            refine q_i2l hx hb dX6_numberOf_189 (by first | omega | exact Nat.lt_of_le_of_lt (hw3 _) (by decide)) ?_
            refine q_lmul hx hb dX6_numberOf_190 ?_
            refine lv_aload_n hx hb dX6_numberOf_191 rfl (lv_at hl 2 rfl) ?_
            refine g_6_8 (x := 71) (y := 78) hC hW (by omega) kd_71 gw_491 (hlk 71 8 78 (by omega) rfl) dX6_numberOf_192 ?_
            refine q_bp 7 hx hb dX6_numberOf_195 (by decide) ?_
            refine lv_iload_n hx hb dX6_numberOf_197 rfl (lv_at hl 5 rfl) ?_
            refine q_imul hx hb dX6_numberOf_198 ?_
            refine lv_iload_n hx hb dX6_numberOf_199 rfl (lv_at hl 5 rfl) ?_
            refine lv_iload hx hb dX6_numberOf_200 (lv_at hl 7 rfl) ?_
            refine q_kI0 (q_rS (As := [.int (nI (t)), .int (nI (d1))]) (rest := [.int (nI (7 * t)), .ref (ad 78), .long (lN ((bF w (uB w ro d1) f) * (mv w K ro f t d1))), .long (lN (stN w ro K f t (min d1 K)))]) hC hW mw_X6_toldThen gw_598 (k_toldThen l G n ad H.size I L R _ _ (by omega) (by omega)) ⟨rfl, rfl⟩ ⟨Nat.le_of_ble_eq_true rfl, Nat.le_of_ble_eq_true rfl⟩ ⟨(Nat.le_of_ble_eq_true rfl), (Nat.le_of_ble_eq_true rfl)⟩ hl.1 rfl rfl (Nat.le_of_ble_eq_true rfl) dX6_numberOf_202) hW (fun r_202 H locs hp hW => ?_)
            subst hp
            refine q_iadd hx hb dX6_numberOf_205 ?_
            refine q_lald (x := 78) (i := (7 * t) + (nx t d1)) hC hW (by omega) kd_78 (by omega) dX6_numberOf_206 ?_
            refine q_top (v2 := .long (lN (Sx' w K ro (K - nx t d1) t))) (congrArg _ (hBh (nx t d1) t (by omega) hnx (by omega)).1) ?_
            refine q_lmul hx hb dX6_numberOf_207 ?_
            refine lv_goto (tgt := 212) hx hb dX6_numberOf_208 (by decide) ?_
            refine q_ladd hx hb dX6_numberOf_212 ?_
            refine q_top (v2 := .long (lN (stN w ro K f t (min (d1 + 1) K)))) (congrArg (fun z => Value.long (lN z)) (num_s (by omega) ht (Or.inr (Or.inl ⟨by omega, hp1, rfl⟩)))) ?_
            refine lv_lstore (lv' := [(4, .long (lN (stN w ro K f t (min (d1 + 1) K)))), (8, .int (nI 0)), (7, .int (nI (mv w K ro f t d1))), (0, .ref (ad 71)), (1, .int (nI 1)), (2, .int (nI (f))), (3, .int (nI (t))), (6, .int (nI (d1)))]) hx hb dX6_numberOf_213 hl (by decide) rfl (fun ls hl => ?_)
            refine q_iinc (z2 := d1 + 1) (lv' := [(6, .int (nI (d1 + 1))), (4, .long (lN (stN w ro K f t (min (d1 + 1) K)))), (8, .int (nI 0)), (7, .int (nI (mv w K ro f t d1))), (0, .ref (ad 71)), (1, .int (nI 1)), (2, .int (nI (f))), (3, .int (nI (t)))]) hx hb dX6_numberOf_215 hl (k := 7) rfl (inc_up _ 1 (by decide)) (by decide) rfl (fun ls hl => ?_)
            refine lv_goto (tgt := 112) hx hb dX6_numberOf_218 (by decide) ?_
            exact ih_112 (d1 + 1) (by omega) (by omega) _ _ hW _ (lv_sub hl [4, 5, 6, 7, 1, 0] rfl)
        ·
          refine lv_iload hx hb dX6_numberOf_144 (lv_at hl 6 rfl) ?_
          refine lv_aload_n hx hb dX6_numberOf_146 rfl (lv_at hl 1 rfl) ?_
          refine g_6_0 (x := 71) (y := 72) hC hW (by omega) kd_71 gw_483 (hlk 71 0 72 (by omega) rfl) dX6_numberOf_147 ?_
          refine q_bp 58 hx hb dX6_numberOf_150 (by decide) ?_
          refine q_iald (x := 72) (i := 58) hC hW (by omega) kd_72 (by omega) dX6_numberOf_152 ?_
          refine q_top (v2 := .int (nI (K))) (congrArg _ hN.2.1) ?_
          refine q_cne (tgt := 160) hx hb dX6_numberOf_153 (by decide) (by first | omega | exact Nat.lt_of_le_of_lt (hw3 _) (by decide)) (by first | omega | exact Nat.lt_of_le_of_lt (hw3 _) (by decide)) (fun c_153 => ?_) (fun c_153 => ?_)
          ·
            refine q_ic 0 hx hb dX6_numberOf_160 (by decide) ?_
            refine lv_istore (lv' := [(8, .int (nI 0)), (7, .int (nI (mv w K ro f t d1))), (0, .ref (ad 71)), (1, .int (nI 1)), (2, .int (nI (f))), (3, .int (nI (t))), (4, .long (lN (stN w ro K f t (min d1 K)))), (6, .int (nI (d1)))]) hx hb dX6_numberOf_161 hl (by decide) rfl (fun ls hl => ?_)
            refine lv_lload hx hb dX6_numberOf_163 (lv_at hl 6 rfl) ?_
            refine lv_iload hx hb dX6_numberOf_165 (lv_at hl 1 rfl) ?_
            refine q_ile (tgt := 211) hx hb dX6_numberOf_167 (by decide) (by first | omega | exact Nat.lt_of_le_of_lt (hw3 _) (by decide)) (fun c_167 => ?_) (fun c_167 => ?_)
            ·
              have hz1 : mv w K ro f t d1 = 0 := by omega
              refine q_lc 0 hx hb dX6_numberOf_211 (by decide) ?_
              refine q_ladd hx hb dX6_numberOf_212 ?_
              refine q_top (v2 := .long (lN (stN w ro K f t (min (d1 + 1) K)))) (congrArg (fun z => Value.long (lN z)) (num_s (by omega) ht (Or.inl ⟨hz1, rfl⟩))) ?_
              refine lv_lstore (lv' := [(4, .long (lN (stN w ro K f t (min (d1 + 1) K)))), (8, .int (nI 0)), (7, .int (nI (mv w K ro f t d1))), (0, .ref (ad 71)), (1, .int (nI 1)), (2, .int (nI (f))), (3, .int (nI (t))), (6, .int (nI (d1)))]) hx hb dX6_numberOf_213 hl (by decide) rfl (fun ls hl => ?_)
              refine q_iinc (z2 := d1 + 1) (lv' := [(6, .int (nI (d1 + 1))), (4, .long (lN (stN w ro K f t (min (d1 + 1) K)))), (8, .int (nI 0)), (7, .int (nI (mv w K ro f t d1))), (0, .ref (ad 71)), (1, .int (nI 1)), (2, .int (nI (f))), (3, .int (nI (t)))]) hx hb dX6_numberOf_215 hl (k := 7) rfl (inc_up _ 1 (by decide)) (by decide) rfl (fun ls hl => ?_)
              refine lv_goto (tgt := 112) hx hb dX6_numberOf_218 (by decide) ?_
              exact ih_112 (d1 + 1) (by omega) (by omega) _ _ hW _ (lv_sub hl [4, 5, 6, 7, 1, 0] rfl)
            ·
              have hp1 : 0 < mv w K ro f t d1 := by omega
              have hnx : nx t d1 ≤ K := nx_K2 hp1 (by omega)
              refine lv_iload hx hb dX6_numberOf_170 (lv_at hl 0 rfl) ?_
              refine q_ine (tgt := 211) hx hb dX6_numberOf_172 (by decide) (by first | omega | exact Nat.lt_of_le_of_lt (hw3 _) (by decide)) (fun c_172 => absurd c_172 (by decide)) (fun c_172 => ?_)
              refine lv_aload_n hx hb dX6_numberOf_175 rfl (lv_at hl 2 rfl) ?_
              refine g_6_7 (x := 71) (y := 77) hC hW (by omega) kd_71 gw_490 (hlk 71 7 77 (by omega) rfl) dX6_numberOf_176 ?_
              refine q_bp 7 hx hb dX6_numberOf_179 (by decide) ?_
              refine lv_iload_n hx hb dX6_numberOf_181 rfl (lv_at hl 4 rfl) ?_
              refine q_imul hx hb dX6_numberOf_182 ?_
              refine lv_iload hx hb dX6_numberOf_183 (lv_at hl 7 rfl) ?_
              refine q_iadd hx hb dX6_numberOf_185 ?_
              refine q_lald (x := 77) (i := (7 * f) + d1) hC hW (by omega) kd_77 (by omega) dX6_numberOf_186 ?_
              refine q_top (v2 := .long (lN (bF w (uB w ro d1) f))) (congrArg _ (hAh f d1 (by omega) (by omega))) ?_
              refine lv_iload hx hb dX6_numberOf_187 (lv_at hl 1 rfl) ?_
              refine q_i2l hx hb dX6_numberOf_189 (by first | omega | exact Nat.lt_of_le_of_lt (hw3 _) (by decide)) ?_
              refine q_lmul hx hb dX6_numberOf_190 ?_
              refine lv_aload_n hx hb dX6_numberOf_191 rfl (lv_at hl 2 rfl) ?_
              refine g_6_8 (x := 71) (y := 78) hC hW (by omega) kd_71 gw_491 (hlk 71 8 78 (by omega) rfl) dX6_numberOf_192 ?_
              refine q_bp 7 hx hb dX6_numberOf_195 (by decide) ?_
              refine lv_iload_n hx hb dX6_numberOf_197 rfl (lv_at hl 5 rfl) ?_
              refine q_imul hx hb dX6_numberOf_198 ?_
              refine lv_iload_n hx hb dX6_numberOf_199 rfl (lv_at hl 5 rfl) ?_
              refine lv_iload hx hb dX6_numberOf_200 (lv_at hl 7 rfl) ?_
              refine q_kI0 (q_rS (As := [.int (nI (t)), .int (nI (d1))]) (rest := [.int (nI (7 * t)), .ref (ad 78), .long (lN ((bF w (uB w ro d1) f) * (mv w K ro f t d1))), .long (lN (stN w ro K f t (min d1 K)))]) hC hW mw_X6_toldThen gw_598 (k_toldThen l G n ad H.size I L R _ _ (by omega) (by omega)) ⟨rfl, rfl⟩ ⟨Nat.le_of_ble_eq_true rfl, Nat.le_of_ble_eq_true rfl⟩ ⟨(Nat.le_of_ble_eq_true rfl), (Nat.le_of_ble_eq_true rfl)⟩ hl.1 rfl rfl (Nat.le_of_ble_eq_true rfl) dX6_numberOf_202) hW (fun r_202 H locs hp hW => ?_)
              subst hp
              refine q_iadd hx hb dX6_numberOf_205 ?_
              refine q_lald (x := 78) (i := (7 * t) + (nx t d1)) hC hW (by omega) kd_78 (by omega) dX6_numberOf_206 ?_
              refine q_top (v2 := .long (lN (Sx' w K ro (K - nx t d1) t))) (congrArg _ (hBh (nx t d1) t (by omega) hnx (by omega)).1) ?_
              refine q_lmul hx hb dX6_numberOf_207 ?_
              refine lv_goto (tgt := 212) hx hb dX6_numberOf_208 (by decide) ?_
              refine q_ladd hx hb dX6_numberOf_212 ?_
              refine q_top (v2 := .long (lN (stN w ro K f t (min (d1 + 1) K)))) (congrArg (fun z => Value.long (lN z)) (num_s (by omega) ht (Or.inr (Or.inl ⟨by omega, hp1, rfl⟩)))) ?_
              refine lv_lstore (lv' := [(4, .long (lN (stN w ro K f t (min (d1 + 1) K)))), (8, .int (nI 0)), (7, .int (nI (mv w K ro f t d1))), (0, .ref (ad 71)), (1, .int (nI 1)), (2, .int (nI (f))), (3, .int (nI (t))), (6, .int (nI (d1)))]) hx hb dX6_numberOf_213 hl (by decide) rfl (fun ls hl => ?_)
              refine q_iinc (z2 := d1 + 1) (lv' := [(6, .int (nI (d1 + 1))), (4, .long (lN (stN w ro K f t (min (d1 + 1) K)))), (8, .int (nI 0)), (7, .int (nI (mv w K ro f t d1))), (0, .ref (ad 71)), (1, .int (nI 1)), (2, .int (nI (f))), (3, .int (nI (t)))]) hx hb dX6_numberOf_215 hl (k := 7) rfl (inc_up _ 1 (by decide)) (by decide) rfl (fun ls hl => ?_)
              refine lv_goto (tgt := 112) hx hb dX6_numberOf_218 (by decide) ?_
              exact ih_112 (d1 + 1) (by omega) (by omega) _ _ hW _ (lv_sub hl [4, 5, 6, 7, 1, 0] rfl)
          ·
            refine q_ic 1 hx hb dX6_numberOf_156 (by decide) ?_
            refine lv_goto (tgt := 161) hx hb dX6_numberOf_157 (by decide) ?_
            refine lv_istore (lv' := [(8, .int (nI 1)), (7, .int (nI (mv w K ro f t d1))), (0, .ref (ad 71)), (1, .int (nI 1)), (2, .int (nI (f))), (3, .int (nI (t))), (4, .long (lN (stN w ro K f t (min d1 K)))), (6, .int (nI (d1)))]) hx hb dX6_numberOf_161 hl (by decide) rfl (fun ls hl => ?_)
            refine lv_lload hx hb dX6_numberOf_163 (lv_at hl 6 rfl) ?_
            refine lv_iload hx hb dX6_numberOf_165 (lv_at hl 1 rfl) ?_
            refine q_ile (tgt := 211) hx hb dX6_numberOf_167 (by decide) (by first | omega | exact Nat.lt_of_le_of_lt (hw3 _) (by decide)) (fun c_167 => ?_) (fun c_167 => ?_)
            ·
              have hz1 : mv w K ro f t d1 = 0 := by omega
              refine q_lc 0 hx hb dX6_numberOf_211 (by decide) ?_
              refine q_ladd hx hb dX6_numberOf_212 ?_
              refine q_top (v2 := .long (lN (stN w ro K f t (min (d1 + 1) K)))) (congrArg (fun z => Value.long (lN z)) (num_s (by omega) ht (Or.inl ⟨hz1, rfl⟩))) ?_
              refine lv_lstore (lv' := [(4, .long (lN (stN w ro K f t (min (d1 + 1) K)))), (8, .int (nI 1)), (7, .int (nI (mv w K ro f t d1))), (0, .ref (ad 71)), (1, .int (nI 1)), (2, .int (nI (f))), (3, .int (nI (t))), (6, .int (nI (d1)))]) hx hb dX6_numberOf_213 hl (by decide) rfl (fun ls hl => ?_)
              refine q_iinc (z2 := d1 + 1) (lv' := [(6, .int (nI (d1 + 1))), (4, .long (lN (stN w ro K f t (min (d1 + 1) K)))), (8, .int (nI 1)), (7, .int (nI (mv w K ro f t d1))), (0, .ref (ad 71)), (1, .int (nI 1)), (2, .int (nI (f))), (3, .int (nI (t)))]) hx hb dX6_numberOf_215 hl (k := 7) rfl (inc_up _ 1 (by decide)) (by decide) rfl (fun ls hl => ?_)
              refine lv_goto (tgt := 112) hx hb dX6_numberOf_218 (by decide) ?_
              exact ih_112 (d1 + 1) (by omega) (by omega) _ _ hW _ (lv_sub hl [4, 5, 6, 7, 1, 0] rfl)
            ·
              have hp1 : 0 < mv w K ro f t d1 := by omega
              have hnx : nx t d1 ≤ K := nx_K2 hp1 (by omega)
              refine lv_iload hx hb dX6_numberOf_170 (lv_at hl 0 rfl) ?_
              refine q_ine (tgt := 211) hx hb dX6_numberOf_172 (by decide) (by first | omega | exact Nat.lt_of_le_of_lt (hw3 _) (by decide)) (fun c_172 => ?_) (fun c_172 => absurd c_172 (by decide))
              refine q_lc 0 hx hb dX6_numberOf_211 (by decide) ?_
              refine q_ladd hx hb dX6_numberOf_212 ?_
              refine q_top (v2 := .long (lN (stN w ro K f t (min (d1 + 1) K)))) (congrArg (fun z => Value.long (lN z)) (num_s (by omega) ht (Or.inr (Or.inr ⟨by omega, by omega, rfl⟩)))) ?_
              refine lv_lstore (lv' := [(4, .long (lN (stN w ro K f t (min (d1 + 1) K)))), (8, .int (nI 1)), (7, .int (nI (mv w K ro f t d1))), (0, .ref (ad 71)), (1, .int (nI 1)), (2, .int (nI (f))), (3, .int (nI (t))), (6, .int (nI (d1)))]) hx hb dX6_numberOf_213 hl (by decide) rfl (fun ls hl => ?_)
              refine q_iinc (z2 := d1 + 1) (lv' := [(6, .int (nI (d1 + 1))), (4, .long (lN (stN w ro K f t (min (d1 + 1) K)))), (8, .int (nI 1)), (7, .int (nI (mv w K ro f t d1))), (0, .ref (ad 71)), (1, .int (nI 1)), (2, .int (nI (f))), (3, .int (nI (t)))]) hx hb dX6_numberOf_215 hl (k := 7) rfl (inc_up _ 1 (by decide)) (by decide) rfl (fun ls hl => ?_)
              refine lv_goto (tgt := 112) hx hb dX6_numberOf_218 (by decide) ?_
              exact ih_112 (d1 + 1) (by omega) (by omega) _ _ hW _ (lv_sub hl [4, 5, 6, 7, 1, 0] rfl)
  exact lp_112 (K + 1 + 1) 0 (by omega) (by omega) _ _ hW _ (lv_sub hl [2, 3, 4, 5, 1, 0] rfl)
set_option maxRecDepth 100000 in
set_option maxHeartbeats 4000000 in
theorem k_num2 (l : Launch) (G : Gx) (n : Nat) (ad : Nat → Nat) (sz : Nat) (I : Ic) (L : Lc) (R : Rc) (f t : Nat) (hf : f < 4) (ht : t < 4) (w : Nat → Nat) (K : Nat) (ro : Nat → Nat) (hn : 83 ≤ n) (hlk : LkOK n R) (hN : NwI (I 72) w K ro) (hBh : BhI w ro K I L 0) (hAh : AhI w ro K L) (hK0 : 0 < K) : Met l yX6_numberOf (Cond.code yX6_numberOf cX6_numberOf 9 (some .long) :: GW) ({ frames := 2, cells := 0, slots := 0, locals := 72 } : Room) (qPre G n ad sz I L R [.ref (ad 71), .int (nI 2), .int (nI (f)), .int (nI (t))]) (qL0 G (qA n ad sz) (n, ad, I, L, R) (fun z => z = lN (leN w ro K f t K))) 0 0 (qA n ad sz) := by
  refine q_met (by decide) (Nat.le_of_ble_eq_true rfl) ?_
  intro p_ e_ s m_ below meth c_ hC hr hlk0 hin hsz hW ls hl
  subst hsz
  have hC : CallFix p_ m_ c_ cX6_numberOf 9 s ([.ref (ad 71), .int (nI 2), .int (nI (f)), .int (nI (t))] : List Value).toArray GW "CoinRowsModel" := hC
  have hx := hC.1
  have hb := hC.2.1
  have hk6 : K ≤ 6 := hN.2.2.2.1
  have hw : Wok w := hN.2.2.2.2.1
  have hw3 : ∀ i, w i ≤ 3 := hw.1
  have hr4 : ∀ j, ro j < 4 := hN.2.2.2.2.2
  have hl : lv_has ls 9 [(0, .ref (ad 71)), (1, .int (nI 2)), (2, .int (nI (f))), (3, .int (nI (t)))] := hl
  refine q_lc 0 hx hb dX6_numberOf_0 (by decide) ?_
  refine lv_lstore (lv' := [(4, .long (lN 0)), (0, .ref (ad 71)), (1, .int (nI 2)), (2, .int (nI (f))), (3, .int (nI (t)))]) hx hb dX6_numberOf_1 hl (by decide) rfl (fun ls hl => ?_)
  refine lv_iload_n hx hb dX6_numberOf_3 rfl (lv_at hl 2 rfl) ?_
  refine q_ine (tgt := 50) hx hb dX6_numberOf_4 (by decide) (by first | omega | exact Nat.lt_of_le_of_lt (hw3 _) (by decide)) (fun c_4 => ?_) (fun c_4 => absurd c_4 (by decide))
  refine lv_iload_n hx hb dX6_numberOf_50 rfl (lv_at hl 2 rfl) ?_
  refine q_ic 2 hx hb dX6_numberOf_51 (by decide) ?_
  refine q_cne (tgt := 109) hx hb dX6_numberOf_52 (by decide) (by first | omega | exact Nat.lt_of_le_of_lt (hw3 _) (by decide)) (by first | omega | exact Nat.lt_of_le_of_lt (hw3 _) (by decide)) (fun c_52 => absurd c_52 (by decide)) (fun c_52 => ?_)
  refine q_ic 0 hx hb dX6_numberOf_55 (by decide) ?_
  refine lv_istore (lv' := [(6, .int (nI 0)), (4, .long (lN 0)), (0, .ref (ad 71)), (1, .int (nI 2)), (2, .int (nI (f))), (3, .int (nI (t)))]) hx hb dX6_numberOf_56 hl (by decide) rfl (fun ls hl => ?_)
  have lp_58 : ∀ (fu_58 : Nat) (p1 : Nat), K - p1 < fu_58 → (p1 ≤ K) → ∀ (H : Heap) (locs : List Loc), Wd G n ad I L R (qA n ad s.heap.size) s.heap H locs s → ∀ ls : Array Slot, lv_has ls 9 [(0, .ref (ad 71)), (1, .int (nI 2)), (2, .int (nI (f))), (3, .int (nI (t))), (4, .long (lN (leN w ro K f t p1))), (6, .int (nI (p1)))] → W p_ l e_ ({ frames := 2, cells := 0, slots := 0, locals := 72 } : Room) s m_ ([.ref (ad 71), .int (nI 2), .int (nI (f)), .int (nI (t))] : List Value).toArray below meth c_ H locs 0 0 (MQ below (qL0 G (qA n ad s.heap.size) (n, ad, I, L, R) (fun z => z = lN (leN w ro K f t K))) ([.ref (ad 71), .int (nI 2), .int (nI (f)), .int (nI (t))] : List Value).toArray s 0 0 (qA n ad s.heap.size)) (F0 m_ 58 ls []) := by
    intro fu_58
    induction fu_58 with
    | zero =>
      intro p1 hm; exact absurd hm (Nat.not_lt_zero _)
    | succ fu_58 ih_58 =>
      intro p1 hm_58 hpK H locs hW ls hl
      refine lv_iload hx hb dX6_numberOf_58 (lv_at hl 5 rfl) ?_
      refine lv_aload_n hx hb dX6_numberOf_60 rfl (lv_at hl 0 rfl) ?_
      refine g_6_0 (x := 71) (y := 72) hC hW (by omega) kd_71 gw_483 (hlk 71 0 72 (by omega) rfl) dX6_numberOf_61 ?_
      refine q_bp 58 hx hb dX6_numberOf_64 (by decide) ?_
      refine q_iald (x := 72) (i := 58) hC hW (by omega) kd_72 (by omega) dX6_numberOf_66 ?_
      refine q_top (v2 := .int (nI (K))) (congrArg _ hN.2.1) ?_
      refine q_cge (tgt := 106) hx hb dX6_numberOf_67 (by decide) (by first | omega | exact Nat.lt_of_le_of_lt (hw3 _) (by decide)) (by first | omega | exact Nat.lt_of_le_of_lt (hw3 _) (by decide)) (fun c_67 => ?_) (fun c_67 => ?_)
      ·
        refine lv_lload hx hb dX6_numberOf_106 (lv_at hl 4 rfl) ?_
        exact q_lret0 hC hW hr hlk0 (by rw [show p1 = K by omega]) dX6_numberOf_108
      ·
        refine lv_lload hx hb dX6_numberOf_70 (lv_at hl 4 rfl) ?_
        refine lv_aload_n hx hb dX6_numberOf_72 rfl (lv_at hl 0 rfl) ?_
        refine g_6_0 (x := 71) (y := 72) hC hW (by omega) kd_71 gw_483 (hlk 71 0 72 (by omega) rfl) dX6_numberOf_73 ?_
        refine q_bp 60 hx hb dX6_numberOf_76 (by decide) ?_
        refine lv_iload hx hb dX6_numberOf_78 (lv_at hl 5 rfl) ?_
        refine q_iadd hx hb dX6_numberOf_80 ?_
        refine q_iald (x := 72) (i := 60 + p1) hC hW (by omega) kd_72 (by omega) dX6_numberOf_81 ?_
        refine q_top (v2 := .int (nI (ro p1))) (congrArg _ (hN.2.2.1 _ (by omega))) ?_
        have hrp := hr4 p1
        refine lv_iload_n hx hb dX6_numberOf_82 rfl (lv_at hl 3 rfl) ?_
        refine q_cne (tgt := 96) hx hb dX6_numberOf_83 (by decide) (by first | omega | exact Nat.lt_of_le_of_lt (hw3 _) (by decide)) (by first | omega | exact Nat.lt_of_le_of_lt (hw3 _) (by decide)) (fun c_83 => ?_) (fun c_83 => ?_)
        ·
          have hq1 : ¬ ro p1 = t := c_83
          refine q_lc 0 hx hb dX6_numberOf_96 (by decide) ?_
          refine q_ladd hx hb dX6_numberOf_97 ?_
          refine q_top (v2 := .long (lN (leN w ro K f t (p1 + 1)))) (by rw [leN_n hq1, Nat.add_zero]) ?_
          refine lv_lstore (lv' := [(4, .long (lN (leN w ro K f t (p1 + 1)))), (0, .ref (ad 71)), (1, .int (nI 2)), (2, .int (nI (f))), (3, .int (nI (t))), (6, .int (nI (p1)))]) hx hb dX6_numberOf_98 hl (by decide) rfl (fun ls hl => ?_)
          refine q_iinc (z2 := p1 + 1) (lv' := [(6, .int (nI (p1 + 1))), (4, .long (lN (leN w ro K f t (p1 + 1)))), (0, .ref (ad 71)), (1, .int (nI 2)), (2, .int (nI (f))), (3, .int (nI (t)))]) hx hb dX6_numberOf_100 hl (k := 5) rfl (inc_up _ 1 (by decide)) (by decide) rfl (fun ls hl => ?_)
          refine lv_goto (tgt := 58) hx hb dX6_numberOf_103 (by decide) ?_
          exact ih_58 (p1 + 1) (by omega) (by omega) _ _ hW _ (lv_sub hl [2, 3, 4, 5, 1, 0] rfl)
        ·
          have hq1 : ro p1 = t := c_83
          refine lv_aload_n hx hb dX6_numberOf_86 rfl (lv_at hl 0 rfl) ?_
          refine lv_iload hx hb dX6_numberOf_87 (lv_at hl 5 rfl) ?_
          refine lv_iload_n hx hb dX6_numberOf_89 rfl (lv_at hl 2 rfl) ?_
          refine q_kL0 (q_rV (As := [.int (nI (p1)), .int (nI (f))]) (rest := [.long (lN (leN w ro K f t p1))]) (x := 71) hC hW mw_X6_through gw_660 (k_rthrough l G n ad H.size I L R _ _ (by omega) w K ro hn hlk hN hBh hAh (by omega)) (by omega) (ct_o6 kd_71) rfl ⟨rfl, rfl⟩ ⟨Nat.le_of_ble_eq_true rfl, Nat.le_of_ble_eq_true rfl⟩ ⟨(Nat.le_of_ble_eq_true rfl), (Nat.le_of_ble_eq_true rfl)⟩ hl.1 rfl rfl (Nat.le_of_ble_eq_true rfl) dX6_numberOf_90) hW (fun r_90 H locs hp hW => ?_)
          subst hp
          refine lv_goto (tgt := 97) hx hb dX6_numberOf_93 (by decide) ?_
          refine q_ladd hx hb dX6_numberOf_97 ?_
          refine q_top (v2 := .long (lN (leN w ro K f t (p1 + 1)))) (by rw [leN_y hq1]) ?_
          refine lv_lstore (lv' := [(4, .long (lN (leN w ro K f t (p1 + 1)))), (0, .ref (ad 71)), (1, .int (nI 2)), (2, .int (nI (f))), (3, .int (nI (t))), (6, .int (nI (p1)))]) hx hb dX6_numberOf_98 hl (by decide) rfl (fun ls hl => ?_)
          refine q_iinc (z2 := p1 + 1) (lv' := [(6, .int (nI (p1 + 1))), (4, .long (lN (leN w ro K f t (p1 + 1)))), (0, .ref (ad 71)), (1, .int (nI 2)), (2, .int (nI (f))), (3, .int (nI (t)))]) hx hb dX6_numberOf_100 hl (k := 5) rfl (inc_up _ 1 (by decide)) (by decide) rfl (fun ls hl => ?_)
          refine lv_goto (tgt := 58) hx hb dX6_numberOf_103 (by decide) ?_
          exact ih_58 (p1 + 1) (by omega) (by omega) _ _ hW _ (lv_sub hl [2, 3, 4, 5, 1, 0] rfl)
  exact lp_58 (K + 1) 0 (by omega) (by omega) _ _ hW _ (lv_sub hl [2, 3, 4, 5, 1, 0] rfl)
