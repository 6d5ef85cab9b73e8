set_option maxRecDepth 100000 in
set_option maxHeartbeats 4000000 in
theorem k_lay0 (l : Launch) (G : Gx) (n : Nat) (ad : Nat → Nat) (sz : Nat) (I : Ic) (L : Lc) (R : Rc) (x y : Int32) : Met l yX6_lay (Cond.code yX6_lay cX6_lay 4 none :: GW) ({ frames := 0, cells := 0, slots := 0, locals := 0 } : Room) (qPre G n ad sz I L R [.ref (ad 71), .int (nI 0), .int (x), .int (y)]) (qV1 G (qA n ad sz) n ad R (fun I1 L1 => I = I1 ∧ L = L1)) 0 0 (qA n ad sz) := by
  refine q_met (by decide) (Nat.le_of_ble_eq_true rfl) ?_
  intro p_ e_ s m_ below meth c_ hC hr hlk0 hin hsz hW ls hl
  subst hsz
  have hC : CallFix p_ m_ c_ cX6_lay 4 s ([.ref (ad 71), .int (nI 0), .int (x), .int (y)] : List Value).toArray GW "CoinRowsModel" := hC
  have hx := hC.1
  have hb := hC.2.1
  have hl : lv_has ls 4 [(0, .ref (ad 71)), (1, .int (nI 0)), (2, .int (x)), (3, .int (y))] := hl
  refine lv_iload_n hx hb dX6_lay_0 rfl (lv_at hl 1 rfl) ?_
  refine q_ieq (tgt := 11) hx hb dX6_lay_1 (by decide) (by first | omega | exact Nat.lt_of_le_of_lt (hw3 _) (by decide)) (fun c_1 => ?_) (fun c_1 => absurd c_1 (by decide))
  exact q_vret1 hC hW hr hlk0 ⟨rfl, rfl⟩ dX6_lay_11
set_option maxRecDepth 100000 in
set_option maxHeartbeats 4000000 in
theorem k_lay1 (l : Launch) (G : Gx) (n : Nat) (ad : Nat → Nat) (sz : Nat) (I : Ic) (L : Lc) (R : Rc) (a x : Nat) (ha : a < 70) (hn : 83 ≤ n) (hlk : LkOK n R) : Met l yX6_lay (Cond.code yX6_lay cX6_lay 4 none :: GW) ({ frames := 0, cells := 0, slots := 0, locals := 0 } : Room) (qPre G n ad sz I L R [.ref (ad 71), .int (nI 1), .int (nI (a)), .int (nI (x))]) (qV1 G (qA n ad sz) n ad R (fun I1 L1 => I1 = up2 I 72 a (nI x) ∧ L = L1)) 0 0 (qA n ad sz) := by
  refine q_met (by decide) (Nat.le_of_ble_eq_true rfl) ?_
  intro p_ e_ s m_ below meth c_ hC hr hlk0 hin hsz hW ls hl
  subst hsz
  have hC : CallFix p_ m_ c_ cX6_lay 4 s ([.ref (ad 71), .int (nI 1), .int (nI (a)), .int (nI (x))] : List Value).toArray GW "CoinRowsModel" := hC
  have hx := hC.1
  have hb := hC.2.1
  have hl : lv_has ls 4 [(0, .ref (ad 71)), (1, .int (nI 1)), (2, .int (nI (a))), (3, .int (nI (x)))] := hl
  refine lv_iload_n hx hb dX6_lay_0 rfl (lv_at hl 1 rfl) ?_
  refine q_ieq (tgt := 11) hx hb dX6_lay_1 (by decide) (by first | omega | exact Nat.lt_of_le_of_lt (hw3 _) (by decide)) (fun c_1 => absurd c_1 (by decide)) (fun c_1 => ?_)
  refine lv_aload_n hx hb dX6_lay_4 rfl (lv_at hl 0 rfl) ?_
  refine g_6_0 (x := 71) (y := 72) hC hW (by omega) kd_71 gw_483 (hlk 71 0 72 (by omega) rfl) dX6_lay_5 ?_
  refine lv_iload_n hx hb dX6_lay_8 rfl (lv_at hl 2 rfl) ?_
  refine lv_iload_n hx hb dX6_lay_9 rfl (lv_at hl 3 rfl) ?_
  refine q_iast (x := 72) (i := a) (v := nI x) hC hW (by omega) kd_72 (by omega) dX6_lay_10 (fun H locs hW => ?_)
  exact q_vret1 hC hW hr hlk0 ⟨rfl, rfl⟩ dX6_lay_11
set_option maxRecDepth 100000 in
set_option maxHeartbeats 4000000 in
theorem k_rreadN (l : Launch) (G : Gx) (n : Nat) (ad : Nat → Nat) (sz : Nat) (I : Ic) (L : Lc) (R : Rc) (pn : Nat) (ch : Nat → Nat) (w : Nat → Nat) (K : Nat) (ro : Nat → Nat) (hn : 83 ≤ n) (hlk : LkOK n R) (hN : NwI (I 72) w K ro) (hPd : PdB I pn ch)  : Met l yX6_read (Cond.code yX6_read cX6_read 13 (some .int) :: GW) ({ frames := 1, cells := 0, slots := 0, locals := 36 } : Room) (qPre G n ad sz I L R [.ref (ad 71), .int (nI 0)]) (qI1 G (qA n ad sz) n ad R (fun z I1 L1 => (∀ a, a ≠ 71 → I1 a = I a) ∧ (∀ j, j ≠ 15 → I1 71 j = I 71 j) ∧ L = L1 ∧ ((∃ i, i ≤ pn ∧ FL pn ch (0, 0, 0, 0, w, K, ro, 0) i ∧ z = nI i) ∨ (∃ σ, OKT pn ch (0, 0, 0, 0, w, K, ro, 0) σ ∧ z = -6)))) 0 0 (qA n ad sz) := by
  refine q_met (by decide) (Nat.le_of_ble_eq_true rfl) ?_
  intro p_ e_ s m_ below meth c_ hC hr hlk0 hin hsz hW ls hl
  subst hsz
  have hC : CallFix p_ m_ c_ cX6_read 13 s ([.ref (ad 71), .int (nI 0)] : List Value).toArray GW "CoinRowsModel" := hC
  have hx := hC.1
  have hb := hC.2.1
  have hp80 := hPd.2.1
  have hl : lv_has ls 13 [(0, .ref (ad 71)), (1, .int (nI 0))] := hl
  refine lv_aload_n hx hb dX6_read_0 rfl (lv_at hl 0 rfl) ?_
  refine q_ic 0 hx hb dX6_read_1 (by decide) ?_
  refine p_6_15 (x := 71) (v := nI 0) hC hW (by omega) kd_71 gw_498 dX6_read_2 (fun H locs hW => ?_)
  refine q_ic 0 hx hb dX6_read_5 (by decide) ?_
  refine lv_istore_n (lv' := [(2, .int (nI 0)), (0, .ref (ad 71)), (1, .int (nI 0))]) hx hb dX6_read_6 rfl hl (by decide) rfl (fun ls hl => ?_)
  refine q_ic 0 hx hb dX6_read_7 (by decide) ?_
  refine lv_istore_n (lv' := [(3, .int (nI 0)), (2, .int (nI 0)), (0, .ref (ad 71)), (1, .int (nI 0))]) hx hb dX6_read_8 rfl hl (by decide) rfl (fun ls hl => ?_)
  refine q_ic 0 hx hb dX6_read_9 (by decide) ?_
  refine lv_istore (lv' := [(4, .int (nI 0)), (3, .int (nI 0)), (2, .int (nI 0)), (0, .ref (ad 71)), (1, .int (nI 0))]) hx hb dX6_read_10 hl (by decide) rfl (fun ls hl => ?_)
  refine q_ic 0 hx hb dX6_read_12 (by decide) ?_
  refine lv_istore (lv' := [(5, .int (nI 0)), (4, .int (nI 0)), (3, .int (nI 0)), (2, .int (nI 0)), (0, .ref (ad 71)), (1, .int (nI 0))]) hx hb dX6_read_13 hl (by decide) rfl (fun ls hl => ?_)
  refine q_ic 0 hx hb dX6_read_15 (by decide) ?_
  refine lv_istore (lv' := [(6, .int (nI 0)), (5, .int (nI 0)), (4, .int (nI 0)), (3, .int (nI 0)), (2, .int (nI 0)), (0, .ref (ad 71)), (1, .int (nI 0))]) hx hb dX6_read_16 hl (by decide) rfl (fun ls hl => ?_)
  have lp_18 : ∀ (fu_18 : Nat) (i1 : Nat) (q : Nat) (a1 : Nat) (b1 : Nat) (m1 : Nat) (p1 : Nat) (w1 : Nat → Nat) (K1 : Nat) (r1 : Nat → Nat) (x3 : Int32) (x4 : Int32) (x5 : Int32) (I1 : Ic), pn - i1 < fu_18 → (PX false pn ch (0, 0, 0, 0, w, K, ro, 0) I i1 (q, a1, b1, m1, w1, K1, r1, p1) I1) → (QX q a1 b1 m1 K1 x3 x4 x5) → ∀ (H : Heap) (locs : List Loc), Wd G n ad I1 L R (qA n ad s.heap.size) s.heap H locs s → ∀ ls : Array Slot, lv_has ls 13 [(0, .ref (ad 71)), (1, .int (nI 0)), (2, .int (nI (q))), (3, .int (x3)), (4, .int (x4)), (5, .int (x5)), (6, .int (nI (i1)))] → W p_ l e_ ({ frames := 1, cells := 0, slots := 0, locals := 36 } : Room) s m_ ([.ref (ad 71), .int (nI 0)] : List Value).toArray below meth c_ H locs 0 0 (MQ below (qI1 G (qA n ad s.heap.size) n ad R (fun z I1 L1 => (∀ a, a ≠ 71 → I1 a = I a) ∧ (∀ j, j ≠ 15 → I1 71 j = I 71 j) ∧ L = L1 ∧ ((∃ i, i ≤ pn ∧ FL pn ch (0, 0, 0, 0, w, K, ro, 0) i ∧ z = nI i) ∨ (∃ σ, OKT pn ch (0, 0, 0, 0, w, K, ro, 0) σ ∧ z = -6)))) ([.ref (ad 71), .int (nI 0)] : List Value).toArray s 0 0 (qA n ad s.heap.size)) (F0 m_ 18 ls []) := by
    intro fu_18
    induction fu_18 with
    | zero =>
      intro i1 q a1 b1 m1 p1 w1 K1 r1 x3 x4 x5 I1 hm; exact absurd hm (Nat.not_lt_zero _)
    | succ fu_18 ih_18 =>
      intro i1 q a1 b1 m1 p1 w1 K1 r1 x3 x4 x5 I1 hm_18 hX hQ H locs hW ls hl
      have hq99 := hQ.2.2.2.2
      have hip := hX.2.1
      have hci := hPd.2.2.2 i1
      refine lv_iload hx hb dX6_read_18 (lv_at hl 6 rfl) ?_
      refine lv_aload_n hx hb dX6_read_20 rfl (lv_at hl 0 rfl) ?_
      refine g_6_6 (x := 71) hC hW (by omega) kd_71 gw_489 dX6_read_21 ?_
      refine q_top (v2 := .int (nI (pn))) (congrArg _ ((hX.2.2.2.2.2 6 (by decide)).trans hPd.1)) ?_
      refine q_cge (tgt := 563) hx hb dX6_read_24 (by decide) (by first | omega | exact Nat.lt_of_le_of_lt (hw3 _) (by decide)) (by first | omega | exact Nat.lt_of_le_of_lt (hw3 _) (by decide)) (fun c_24 => ?_) (fun c_24 => ?_)
      ·
        refine lv_aload_n hx hb dX6_read_563 rfl (lv_at hl 0 rfl) ?_
        refine lv_dup hx hb dX6_read_564 rfl ?_
        refine g_6_15 (x := 71) hC hW (by omega) kd_71 gw_498 dX6_read_565 ?_
        refine q_top (v2 := .int (nI (p1))) (congrArg _ hX.2.2.1) ?_
        refine q_ic 1 hx hb dX6_read_568 (by decide) ?_
        refine q_iadd hx hb dX6_read_569 ?_
        refine p_6_15 (x := 71) (v := nI (p1 + 1)) hC hW (by omega) kd_71 gw_498 dX6_read_570 (fun H locs hW => ?_)
        refine lv_iload_n hx hb dX6_read_573 rfl (lv_at hl 2 rfl) ?_
        refine q_bp 7 hx hb dX6_read_574 (by decide) ?_
        refine q_cle (tgt := 584) hx hb dX6_read_576 (by decide) (by first | omega | exact Nat.lt_of_le_of_lt (hw3 _) (by decide)) (by first | omega | exact Nat.lt_of_le_of_lt (hw3 _) (by decide)) (fun c_576 => ?_) (fun c_576 => ?_)
        ·
          refine lv_aload_n hx hb dX6_read_584 rfl (lv_at hl 0 rfl) ?_
          refine g_6_6 (x := 71) hC hW (by omega) kd_71 gw_489 dX6_read_585 ?_
          refine q_top (v2 := .int (nI (pn))) (congrArg _ (by rw [up2_at, if_neg (by decide)]; exact (hX.2.2.2.2.2 6 (by decide)).trans hPd.1)) ?_
          have ei : i1 = pn := by have h9 := hX.2.1; omega
          subst ei
          exact q_iret1 hC hW hr hlk0 ⟨fun a h1 => by rw [up2_ne h1]; by_cases e : a = 72; (rw [e]; exact hX.2.2.2.1); exact hX.2.2.2.2.1 a h1 e, fun j hj => by rw [up2_at, if_neg (fun q9 => hj q9.2)]; exact hX.2.2.2.2.2 j hj, rfl, Or.inl ⟨_, Nat.le_refl _, ⟨_, hX.1, Or.inr ⟨rfl, show q < 8 by omega⟩⟩, rfl⟩⟩ dX6_read_588
        ·
          refine lv_bipush (v := -6) hx hb dX6_read_579 (by decide) ?_
          refine lv_goto (tgt := 588) hx hb dX6_read_581 (by decide) ?_
          have ei : i1 = pn := by have h9 := hX.2.1; omega
          subst ei
          exact q_iret1 hC hW hr hlk0 ⟨fun a h1 => by rw [up2_ne h1]; by_cases e : a = 72; (rw [e]; exact hX.2.2.2.1); exact hX.2.2.2.2.1 a h1 e, fun j hj => by rw [up2_at, if_neg (fun q9 => hj q9.2)]; exact hX.2.2.2.2.2 j hj, rfl, Or.inr ⟨_, ⟨hX.1, show 8 ≤ q by omega⟩, rfl⟩⟩ dX6_read_588
      ·
        refine lv_aload_n hx hb dX6_read_27 rfl (lv_at hl 0 rfl) ?_
        refine g_6_5 (x := 71) (y := 76) hC hW (by omega) kd_71 gw_488 (hlk 71 5 76 (by omega) rfl) dX6_read_28 ?_
        refine lv_iload hx hb dX6_read_31 (lv_at hl 6 rfl) ?_
        refine q_iald (x := 76) (i := i1) hC hW (by omega) kd_76 (by omega) dX6_read_33 ?_
        refine q_top (v2 := .int (nI (ch i1))) (congrArg _ ((congrFun (hX.2.2.2.2.1 76 (by decide) (by decide)) _).trans (hPd.2.2.1 _ (by omega)))) ?_
        refine lv_istore (lv' := [(7, .int (nI (ch i1))), (0, .ref (ad 71)), (1, .int (nI 0)), (2, .int (nI (q))), (3, .int (x3)), (4, .int (x4)), (5, .int (x5)), (6, .int (nI (i1)))]) hx hb dX6_read_34 hl (by decide) rfl (fun ls hl => ?_)
        refine lv_iload hx hb dX6_read_36 (lv_at hl 0 rfl) ?_
        refine q_bp 48 hx hb dX6_read_38 (by decide) ?_
        refine lv_isub hx hb dX6_read_40 ?_
        refine lv_istore (lv' := [(8, .int (nI (ch i1) - nI 48)), (7, .int (nI (ch i1))), (0, .ref (ad 71)), (1, .int (nI 0)), (2, .int (nI (q))), (3, .int (x3)), (4, .int (x4)), (5, .int (x5)), (6, .int (nI (i1)))]) hx hb dX6_read_41 hl (by decide) rfl (fun ls hl => ?_)
        refine lv_iload hx hb dX6_read_43 (lv_at hl 0 rfl) ?_
        refine q_ic 0 hx hb dX6_read_45 (by decide) ?_
        refine q_ic 5 hx hb dX6_read_46 (by decide) ?_
        refine q_kI0 (q_rS (As := [.int (nI (ch i1) - nI 48), .int (nI 0), .int (nI 5)]) (rest := []) hC hW mw_X6_in gw_537 (k_in l G n ad H.size I1 L R _ _ _) ⟨rfl, rfl⟩ ⟨Nat.le_of_ble_eq_true rfl, Nat.le_of_ble_eq_true rfl⟩ ⟨(Nat.le_of_ble_eq_true rfl), (Nat.le_of_ble_eq_true rfl)⟩ hl.1 rfl rfl (Nat.le_of_ble_eq_true rfl) dX6_read_47) hW (fun r_47 H locs hp hW => ?_)
        have hbi : r_47 = bI (48 ≤ ch i1 ∧ ch i1 ≤ 53) := by
          rw [show (nI 0).toInt = 0 by decide, show (nI 5).toInt = 5 by decide, dgt (show ch i1 < 1000 by omega) (by decide)] at hp
          rcases hp with ⟨h1, h2, h3⟩ | ⟨h1, h2⟩
          · rw [h1, bI_t (by omega)]
          · rw [h1, bI_f (by omega)]
        subst hbi
        refine lv_istore (lv' := [(9, .int (bI (48 ≤ ch i1 ∧ ch i1 ≤ 53))), (8, .int (nI (ch i1) - nI 48)), (7, .int (nI (ch i1))), (0, .ref (ad 71)), (1, .int (nI 0)), (2, .int (nI (q))), (3, .int (x3)), (4, .int (x4)), (5, .int (x5)), (6, .int (nI (i1)))]) hx hb dX6_read_50 hl (by decide) rfl (fun ls hl => ?_)
        refine lv_iload hx hb dX6_read_52 (lv_at hl 1 rfl) ?_
        refine q_ic 0 hx hb dX6_read_54 (by decide) ?_
        refine q_ic 3 hx hb dX6_read_55 (by decide) ?_
        refine q_kI0 (q_rS (As := [.int (nI (ch i1) - nI 48), .int (nI 0), .int (nI 3)]) (rest := []) hC hW mw_X6_in gw_537 (k_in l G n ad H.size I1 L R _ _ _) ⟨rfl, rfl⟩ ⟨Nat.le_of_ble_eq_true rfl, Nat.le_of_ble_eq_true rfl⟩ ⟨(Nat.le_of_ble_eq_true rfl), (Nat.le_of_ble_eq_true rfl)⟩ hl.1 rfl rfl (Nat.le_of_ble_eq_true rfl) dX6_read_56) hW (fun r_56 H locs hp hW => ?_)
        have hbi : r_56 = bI (48 ≤ ch i1 ∧ ch i1 ≤ 51) := by
          rw [show (nI 0).toInt = 0 by decide, show (nI 3).toInt = 3 by decide, dgt (show ch i1 < 1000 by omega) (by decide)] at hp
          rcases hp with ⟨h1, h2, h3⟩ | ⟨h1, h2⟩
          · rw [h1, bI_t (by omega)]
          · rw [h1, bI_f (by omega)]
        subst hbi
        refine lv_istore (lv' := [(10, .int (bI (48 ≤ ch i1 ∧ ch i1 ≤ 51))), (9, .int (bI (48 ≤ ch i1 ∧ ch i1 ≤ 53))), (8, .int (nI (ch i1) - nI 48)), (7, .int (nI (ch i1))), (0, .ref (ad 71)), (1, .int (nI 0)), (2, .int (nI (q))), (3, .int (x3)), (4, .int (x4)), (5, .int (x5)), (6, .int (nI (i1)))]) hx hb dX6_read_59 hl (by decide) rfl (fun ls hl => ?_)
        refine lv_iload hx hb dX6_read_61 (lv_at hl 3 rfl) ?_
        refine q_bp 97 hx hb dX6_read_63 (by decide) ?_
        refine q_bp 100 hx hb dX6_read_65 (by decide) ?_
        refine q_kI0 (q_rS (As := [.int (nI (ch i1)), .int (nI 97), .int (nI 100)]) (rest := []) hC hW mw_X6_in gw_537 (k_in l G n ad H.size I1 L R _ _ _) ⟨rfl, rfl⟩ ⟨Nat.le_of_ble_eq_true rfl, Nat.le_of_ble_eq_true rfl⟩ ⟨(Nat.le_of_ble_eq_true rfl), (Nat.le_of_ble_eq_true rfl)⟩ hl.1 rfl rfl (Nat.le_of_ble_eq_true rfl) dX6_read_67) hW (fun r_67 H locs hp hW => ?_)
        have hbi : r_67 = bI (97 ≤ ch i1 ∧ ch i1 ≤ 100) := by
          rw [show (nI 97).toInt = 97 by decide, show (nI 100).toInt = 100 by decide, nI_toInt (show ch i1 < 2 ^ 31 by omega)] at hp
          rcases hp with ⟨h1, h2, h3⟩ | ⟨h1, h2⟩
          · rw [h1, bI_t (by omega)]
          · rw [h1, bI_f (by omega)]
        subst hbi
        refine lv_istore (lv' := [(11, .int (bI (97 ≤ ch i1 ∧ ch i1 ≤ 100))), (10, .int (bI (48 ≤ ch i1 ∧ ch i1 ≤ 51))), (9, .int (bI (48 ≤ ch i1 ∧ ch i1 ≤ 53))), (8, .int (nI (ch i1) - nI 48)), (7, .int (nI (ch i1))), (0, .ref (ad 71)), (1, .int (nI 0)), (2, .int (nI (q))), (3, .int (x3)), (4, .int (x4)), (5, .int (x5)), (6, .int (nI (i1)))]) hx hb dX6_read_70 hl (by decide) rfl (fun ls hl => ?_)
        refine lv_bipush (v := -6) hx hb dX6_read_72 (by decide) ?_
        refine lv_istore (lv' := [(12, .int (-6)), (11, .int (bI (97 ≤ ch i1 ∧ ch i1 ≤ 100))), (10, .int (bI (48 ≤ ch i1 ∧ ch i1 ≤ 51))), (9, .int (bI (48 ≤ ch i1 ∧ ch i1 ≤ 53))), (8, .int (nI (ch i1) - nI 48)), (7, .int (nI (ch i1))), (0, .ref (ad 71)), (1, .int (nI 0)), (2, .int (nI (q))), (3, .int (x3)), (4, .int (x4)), (5, .int (x5)), (6, .int (nI (i1)))]) hx hb dX6_read_74 hl (by decide) rfl (fun ls hl => ?_)
        refine lv_iload_n hx hb dX6_read_76 rfl (lv_at hl 8 rfl) ?_
        have hq9 : q = 0 ∨ q = 1 ∨ q = 2 ∨ q = 3 ∨ q = 4 ∨ q = 5 ∨ q = 6 ∨ q = 7 ∨ q = 8 ∨ q = 9 := by have h9 := hQ.2.2.2.2; omega
        rcases hq9 with rfl | rfl | rfl | rfl | rfl | rfl | rfl | rfl | rfl | rfl
        ·
          refine lv_tableIn (off := 51) (tgt := 128) hx hb dX6_read_77 (by decide) (by decide) rfl (by decide) ?_
          refine lv_iload hx hb dX6_read_128 (lv_at hl 5 rfl) ?_
          refine q_bp 64 hx hb dX6_read_130 (by decide) ?_
          refine q_cne (tgt := 139) hx hb dX6_read_132 (by decide) (by first | omega | exact Nat.lt_of_le_of_lt (hw3 _) (by decide)) (by first | omega | exact Nat.lt_of_le_of_lt (hw3 _) (by decide)) (fun c_132 => ?_) (fun c_132 => ?_)
          ·
            refine lv_iload hx hb dX6_read_139 (lv_at hl 3 rfl) ?_
            refine lv_if_eq (tgt := 148) hx hb dX6_read_141 (by decide) (fun c_141 => ?_) (fun c_141 => ?_)
            ·
              have hp_9 : ¬ (48 ≤ ch i1 ∧ ch i1 ≤ 53) := bI_0 c_141
              rw [bI_f hp_9] at hl
              refine lv_iload hx hb dX6_read_148 (lv_at hl 5 rfl) ?_
              refine q_bp 33 hx hb dX6_read_150 (by decide) ?_
              refine q_cne (tgt := 160) hx hb dX6_read_152 (by decide) (by first | omega | exact Nat.lt_of_le_of_lt (hw3 _) (by decide)) (by first | omega | exact Nat.lt_of_le_of_lt (hw3 _) (by decide)) (fun c_152 => ?_) (fun c_152 => ?_)
              ·
                refine lv_bipush (v := -6) hx hb dX6_read_160 (by decide) ?_
                refine lv_istore (lv' := [(12, .int (-6)), (11, .int (bI (97 ≤ ch i1 ∧ ch i1 ≤ 100))), (10, .int (bI (48 ≤ ch i1 ∧ ch i1 ≤ 51))), (9, .int (nI 0)), (8, .int (nI (ch i1) - nI 48)), (7, .int (nI (ch i1))), (0, .ref (ad 71)), (1, .int (nI 0)), (2, .int (nI 0)), (3, .int (x3)), (4, .int (x4)), (5, .int (x5)), (6, .int (nI (i1)))]) hx hb dX6_read_162 hl (by decide) rfl (fun ls hl => ?_)
                refine lv_iload hx hb dX6_read_164 (lv_at hl 4 rfl) ?_
                refine lv_istore_n (lv' := [(3, .int (nI (ch i1) - nI 48)), (12, .int (-6)), (11, .int (bI (97 ≤ ch i1 ∧ ch i1 ≤ 100))), (10, .int (bI (48 ≤ ch i1 ∧ ch i1 ≤ 51))), (9, .int (nI 0)), (8, .int (nI (ch i1) - nI 48)), (7, .int (nI (ch i1))), (0, .ref (ad 71)), (1, .int (nI 0)), (2, .int (nI 0)), (4, .int (x4)), (5, .int (x5)), (6, .int (nI (i1)))]) hx hb dX6_read_166 rfl hl (by decide) rfl (fun ls hl => ?_)
                refine q_ic 0 hx hb dX6_read_167 (by decide) ?_
                refine lv_istore (lv' := [(5, .int (nI 0)), (3, .int (nI (ch i1) - nI 48)), (12, .int (-6)), (11, .int (bI (97 ≤ ch i1 ∧ ch i1 ≤ 100))), (10, .int (bI (48 ≤ ch i1 ∧ ch i1 ≤ 51))), (9, .int (nI 0)), (8, .int (nI (ch i1) - nI 48)), (7, .int (nI (ch i1))), (0, .ref (ad 71)), (1, .int (nI 0)), (2, .int (nI 0)), (4, .int (x4)), (6, .int (nI (i1)))]) hx hb dX6_read_168 hl (by decide) rfl (fun ls hl => ?_)
                refine lv_iload hx hb dX6_read_170 (lv_at hl 7 rfl) ?_
                refine q_bp 33 hx hb dX6_read_172 (by decide) ?_
                refine q_cne (tgt := 527) hx hb dX6_read_174 (by decide) (by first | omega | exact Nat.lt_of_le_of_lt (hw3 _) (by decide)) (by first | omega | exact Nat.lt_of_le_of_lt (hw3 _) (by decide)) (fun c_174 => ?_) (fun c_174 => absurd c_174 (by omega))
                refine lv_iload hx hb dX6_read_527 (lv_at hl 2 rfl) ?_
                refine lv_if_ge (tgt := 535) hx hb dX6_read_529 (by decide) (fun c_529 => absurd c_529 (by decide)) (fun c_529 => ?_)
                refine lv_iload hx hb dX6_read_532 (lv_at hl 12 rfl) ?_
                exact q_iret1 hC hW hr hlk0 ⟨fun a h1 => by by_cases e : a = 72; (rw [e]; exact hX.2.2.2.1); exact hX.2.2.2.2.1 a h1 e, hX.2.2.2.2.2, rfl, Or.inl ⟨i1, hX.2.1, FLx hX (by omega) (s0_n (by omega) hp_9 (by omega)), rfl⟩⟩ dX6_read_534
              ·
                refine q_bp 8 hx hb dX6_read_155 (by decide) ?_
                refine lv_goto (tgt := 162) hx hb dX6_read_157 (by decide) ?_
                refine lv_istore (lv' := [(12, .int (nI 8)), (11, .int (bI (97 ≤ ch i1 ∧ ch i1 ≤ 100))), (10, .int (bI (48 ≤ ch i1 ∧ ch i1 ≤ 51))), (9, .int (nI 0)), (8, .int (nI (ch i1) - nI 48)), (7, .int (nI (ch i1))), (0, .ref (ad 71)), (1, .int (nI 0)), (2, .int (nI 0)), (3, .int (x3)), (4, .int (x4)), (5, .int (x5)), (6, .int (nI (i1)))]) hx hb dX6_read_162 hl (by decide) rfl (fun ls hl => ?_)
                refine lv_iload hx hb dX6_read_164 (lv_at hl 4 rfl) ?_
                refine lv_istore_n (lv' := [(3, .int (nI (ch i1) - nI 48)), (12, .int (nI 8)), (11, .int (bI (97 ≤ ch i1 ∧ ch i1 ≤ 100))), (10, .int (bI (48 ≤ ch i1 ∧ ch i1 ≤ 51))), (9, .int (nI 0)), (8, .int (nI (ch i1) - nI 48)), (7, .int (nI (ch i1))), (0, .ref (ad 71)), (1, .int (nI 0)), (2, .int (nI 0)), (4, .int (x4)), (5, .int (x5)), (6, .int (nI (i1)))]) hx hb dX6_read_166 rfl hl (by decide) rfl (fun ls hl => ?_)
                refine q_ic 0 hx hb dX6_read_167 (by decide) ?_
                refine lv_istore (lv' := [(5, .int (nI 0)), (3, .int (nI (ch i1) - nI 48)), (12, .int (nI 8)), (11, .int (bI (97 ≤ ch i1 ∧ ch i1 ≤ 100))), (10, .int (bI (48 ≤ ch i1 ∧ ch i1 ≤ 51))), (9, .int (nI 0)), (8, .int (nI (ch i1) - nI 48)), (7, .int (nI (ch i1))), (0, .ref (ad 71)), (1, .int (nI 0)), (2, .int (nI 0)), (4, .int (x4)), (6, .int (nI (i1)))]) hx hb dX6_read_168 hl (by decide) rfl (fun ls hl => ?_)
                refine lv_iload hx hb dX6_read_170 (lv_at hl 7 rfl) ?_
                refine q_bp 33 hx hb dX6_read_172 (by decide) ?_
                refine q_cne (tgt := 527) hx hb dX6_read_174 (by decide) (by first | omega | exact Nat.lt_of_le_of_lt (hw3 _) (by decide)) (by first | omega | exact Nat.lt_of_le_of_lt (hw3 _) (by decide)) (fun c_174 => absurd c_174 (by omega)) (fun c_174 => ?_)
                refine lv_iload_n hx hb dX6_read_177 rfl (lv_at hl 9 rfl) ?_
                refine q_ieq (tgt := 527) hx hb dX6_read_178 (by decide) (by first | omega | exact Nat.lt_of_le_of_lt (hw3 _) (by decide)) (fun c_178 => ?_) (fun c_178 => absurd c_178 (by decide))
                refine lv_iload hx hb dX6_read_527 (lv_at hl 2 rfl) ?_
                refine lv_if_ge (tgt := 535) hx hb dX6_read_529 (by decide) (fun c_529 => ?_) (fun c_529 => absurd c_529 (by decide))
                refine lv_aload_n hx hb dX6_read_535 rfl (lv_at hl 8 rfl) ?_
                refine lv_dup hx hb dX6_read_536 rfl ?_
                refine g_6_15 (x := 71) hC hW (by omega) kd_71 gw_498 dX6_read_537 ?_
                refine q_top (v2 := .int (nI (p1))) (congrArg _ hX.2.2.1) ?_
                refine lv_iload hx hb dX6_read_540 (lv_at hl 2 rfl) ?_
                refine q_ine (tgt := 549) hx hb dX6_read_542 (by decide) (by first | omega | exact Nat.lt_of_le_of_lt (hw3 _) (by decide)) (fun c_542 => ?_) (fun c_542 => absurd c_542 (by decide))
                refine q_ic 0 hx hb dX6_read_549 (by decide) ?_
                refine q_iadd hx hb dX6_read_550 ?_
                refine p_6_15 (x := 71) (v := nI (p1 + 0)) hC hW (by omega) kd_71 gw_498 dX6_read_551 (fun H locs hW => ?_)
                refine lv_iload hx hb dX6_read_554 (lv_at hl 2 rfl) ?_
                refine lv_istore_n (lv' := [(2, .int (nI 8)), (5, .int (nI 0)), (3, .int (nI (ch i1) - nI 48)), (12, .int (nI 8)), (11, .int (bI (97 ≤ ch i1 ∧ ch i1 ≤ 100))), (10, .int (bI (48 ≤ ch i1 ∧ ch i1 ≤ 51))), (9, .int (nI 0)), (8, .int (nI (ch i1) - nI 48)), (7, .int (nI (ch i1))), (0, .ref (ad 71)), (1, .int (nI 0)), (4, .int (x4)), (6, .int (nI (i1)))]) hx hb dX6_read_556 rfl hl (by decide) rfl (fun ls hl => ?_)
                refine q_iinc (z2 := i1 + 1) (lv' := [(6, .int (nI (i1 + 1))), (2, .int (nI 8)), (5, .int (nI 0)), (3, .int (nI (ch i1) - nI 48)), (12, .int (nI 8)), (11, .int (bI (97 ≤ ch i1 ∧ ch i1 ≤ 100))), (10, .int (bI (48 ≤ ch i1 ∧ ch i1 ≤ 51))), (9, .int (nI 0)), (8, .int (nI (ch i1) - nI 48)), (7, .int (nI (ch i1))), (0, .ref (ad 71)), (1, .int (nI 0)), (4, .int (x4))]) hx hb dX6_read_557 hl (k := 12) rfl (inc_up _ 1 (by decide)) (by decide) rfl (fun ls hl => ?_)
                refine lv_goto (tgt := 18) hx hb dX6_read_560 (by decide) ?_
                exact ih_18 (i1 + 1) 8 a1 b1 0 p1 w1 0 r1 (nI (ch i1) - nI 48) x4 (nI 0) (up2 I1 71 15 (nI (p1 + 0))) (by omega) (PX_g hX (by omega) (s0_8 (by omega)) (fun _ _ => rfl) (hX.2.2.2.1) rfl) (QX_8 (by decide) rfl) _ _ hW _ (lv_sub hl [10, 11, 1, 3, 12, 2, 0] rfl)
            ·
              have hp_9 : 48 ≤ ch i1 ∧ ch i1 ≤ 53 := bI_1 c_141
              rw [bI_t hp_9] at hl
              rw [show nI (ch i1) - nI 48 = nI (ch i1 - 48) from pk_sub (by omega)] at hl
              refine q_ic 3 hx hb dX6_read_144 (by decide) ?_
              refine lv_goto (tgt := 162) hx hb dX6_read_145 (by decide) ?_
              refine lv_istore (lv' := [(12, .int (nI 3)), (11, .int (bI (97 ≤ ch i1 ∧ ch i1 ≤ 100))), (10, .int (bI (48 ≤ ch i1 ∧ ch i1 ≤ 51))), (9, .int (nI 1)), (8, .int (nI (ch i1 - 48))), (7, .int (nI (ch i1))), (0, .ref (ad 71)), (1, .int (nI 0)), (2, .int (nI 0)), (3, .int (x3)), (4, .int (x4)), (5, .int (x5)), (6, .int (nI (i1)))]) hx hb dX6_read_162 hl (by decide) rfl (fun ls hl => ?_)
              refine lv_iload hx hb dX6_read_164 (lv_at hl 4 rfl) ?_
              refine lv_istore_n (lv' := [(3, .int (nI (ch i1 - 48))), (12, .int (nI 3)), (11, .int (bI (97 ≤ ch i1 ∧ ch i1 ≤ 100))), (10, .int (bI (48 ≤ ch i1 ∧ ch i1 ≤ 51))), (9, .int (nI 1)), (8, .int (nI (ch i1 - 48))), (7, .int (nI (ch i1))), (0, .ref (ad 71)), (1, .int (nI 0)), (2, .int (nI 0)), (4, .int (x4)), (5, .int (x5)), (6, .int (nI (i1)))]) hx hb dX6_read_166 rfl hl (by decide) rfl (fun ls hl => ?_)
              refine q_ic 0 hx hb dX6_read_167 (by decide) ?_
              refine lv_istore (lv' := [(5, .int (nI 0)), (3, .int (nI (ch i1 - 48))), (12, .int (nI 3)), (11, .int (bI (97 ≤ ch i1 ∧ ch i1 ≤ 100))), (10, .int (bI (48 ≤ ch i1 ∧ ch i1 ≤ 51))), (9, .int (nI 1)), (8, .int (nI (ch i1 - 48))), (7, .int (nI (ch i1))), (0, .ref (ad 71)), (1, .int (nI 0)), (2, .int (nI 0)), (4, .int (x4)), (6, .int (nI (i1)))]) hx hb dX6_read_168 hl (by decide) rfl (fun ls hl => ?_)
              refine lv_iload hx hb dX6_read_170 (lv_at hl 7 rfl) ?_
              refine q_bp 33 hx hb dX6_read_172 (by decide) ?_
              refine q_cne (tgt := 527) hx hb dX6_read_174 (by decide) (by first | omega | exact Nat.lt_of_le_of_lt (hw3 _) (by decide)) (by first | omega | exact Nat.lt_of_le_of_lt (hw3 _) (by decide)) (fun c_174 => ?_) (fun c_174 => absurd c_174 (by omega))
              refine lv_iload hx hb dX6_read_527 (lv_at hl 2 rfl) ?_
              refine lv_if_ge (tgt := 535) hx hb dX6_read_529 (by decide) (fun c_529 => ?_) (fun c_529 => absurd c_529 (by decide))
              refine lv_aload_n hx hb dX6_read_535 rfl (lv_at hl 8 rfl) ?_
              refine lv_dup hx hb dX6_read_536 rfl ?_
              refine g_6_15 (x := 71) hC hW (by omega) kd_71 gw_498 dX6_read_537 ?_
              refine q_top (v2 := .int (nI (p1))) (congrArg _ hX.2.2.1) ?_
              refine lv_iload hx hb dX6_read_540 (lv_at hl 2 rfl) ?_
              refine q_ine (tgt := 549) hx hb dX6_read_542 (by decide) (by first | omega | exact Nat.lt_of_le_of_lt (hw3 _) (by decide)) (fun c_542 => ?_) (fun c_542 => absurd c_542 (by decide))
              refine q_ic 0 hx hb dX6_read_549 (by decide) ?_
              refine q_iadd hx hb dX6_read_550 ?_
              refine p_6_15 (x := 71) (v := nI (p1 + 0)) hC hW (by omega) kd_71 gw_498 dX6_read_551 (fun H locs hW => ?_)
              refine lv_iload hx hb dX6_read_554 (lv_at hl 2 rfl) ?_
              refine lv_istore_n (lv' := [(2, .int (nI 3)), (5, .int (nI 0)), (3, .int (nI (ch i1 - 48))), (12, .int (nI 3)), (11, .int (bI (97 ≤ ch i1 ∧ ch i1 ≤ 100))), (10, .int (bI (48 ≤ ch i1 ∧ ch i1 ≤ 51))), (9, .int (nI 1)), (8, .int (nI (ch i1 - 48))), (7, .int (nI (ch i1))), (0, .ref (ad 71)), (1, .int (nI 0)), (4, .int (x4)), (6, .int (nI (i1)))]) hx hb dX6_read_556 rfl hl (by decide) rfl (fun ls hl => ?_)
              refine q_iinc (z2 := i1 + 1) (lv' := [(6, .int (nI (i1 + 1))), (2, .int (nI 3)), (5, .int (nI 0)), (3, .int (nI (ch i1 - 48))), (12, .int (nI 3)), (11, .int (bI (97 ≤ ch i1 ∧ ch i1 ≤ 100))), (10, .int (bI (48 ≤ ch i1 ∧ ch i1 ≤ 51))), (9, .int (nI 1)), (8, .int (nI (ch i1 - 48))), (7, .int (nI (ch i1))), (0, .ref (ad 71)), (1, .int (nI 0)), (4, .int (x4))]) hx hb dX6_read_557 hl (k := 12) rfl (inc_up _ 1 (by decide)) (by decide) rfl (fun ls hl => ?_)
              refine lv_goto (tgt := 18) hx hb dX6_read_560 (by decide) ?_
              exact ih_18 (i1 + 1) 3 (ch i1 - 48) b1 m1 p1 w1 K1 r1 (nI (ch i1 - 48)) x4 (nI 0) (up2 I1 71 15 (nI (p1 + 0))) (by omega) (PX_g hX (by omega) (s0_3 (by omega) (by omega)) (fun _ _ => rfl) (hX.2.2.2.1) rfl) (QX_c (by omega) (by omega)) _ _ hW _ (lv_sub hl [10, 11, 1, 3, 12, 2, 0] rfl)
          ·
            refine q_ic 1 hx hb dX6_read_135 (by decide) ?_
            refine lv_goto (tgt := 162) hx hb dX6_read_136 (by decide) ?_
            refine lv_istore (lv' := [(12, .int (nI 1)), (11, .int (bI (97 ≤ ch i1 ∧ ch i1 ≤ 100))), (10, .int (bI (48 ≤ ch i1 ∧ ch i1 ≤ 51))), (9, .int (bI (48 ≤ ch i1 ∧ ch i1 ≤ 53))), (8, .int (nI (ch i1) - nI 48)), (7, .int (nI (ch i1))), (0, .ref (ad 71)), (1, .int (nI 0)), (2, .int (nI 0)), (3, .int (x3)), (4, .int (x4)), (5, .int (x5)), (6, .int (nI (i1)))]) hx hb dX6_read_162 hl (by decide) rfl (fun ls hl => ?_)
            refine lv_iload hx hb dX6_read_164 (lv_at hl 4 rfl) ?_
            refine lv_istore_n (lv' := [(3, .int (nI (ch i1) - nI 48)), (12, .int (nI 1)), (11, .int (bI (97 ≤ ch i1 ∧ ch i1 ≤ 100))), (10, .int (bI (48 ≤ ch i1 ∧ ch i1 ≤ 51))), (9, .int (bI (48 ≤ ch i1 ∧ ch i1 ≤ 53))), (8, .int (nI (ch i1) - nI 48)), (7, .int (nI (ch i1))), (0, .ref (ad 71)), (1, .int (nI 0)), (2, .int (nI 0)), (4, .int (x4)), (5, .int (x5)), (6, .int (nI (i1)))]) hx hb dX6_read_166 rfl hl (by decide) rfl (fun ls hl => ?_)
            refine q_ic 0 hx hb dX6_read_167 (by decide) ?_
            refine lv_istore (lv' := [(5, .int (nI 0)), (3, .int (nI (ch i1) - nI 48)), (12, .int (nI 1)), (11, .int (bI (97 ≤ ch i1 ∧ ch i1 ≤ 100))), (10, .int (bI (48 ≤ ch i1 ∧ ch i1 ≤ 51))), (9, .int (bI (48 ≤ ch i1 ∧ ch i1 ≤ 53))), (8, .int (nI (ch i1) - nI 48)), (7, .int (nI (ch i1))), (0, .ref (ad 71)), (1, .int (nI 0)), (2, .int (nI 0)), (4, .int (x4)), (6, .int (nI (i1)))]) hx hb dX6_read_168 hl (by decide) rfl (fun ls hl => ?_)
            refine lv_iload hx hb dX6_read_170 (lv_at hl 7 rfl) ?_
            refine q_bp 33 hx hb dX6_read_172 (by decide) ?_
            refine q_cne (tgt := 527) hx hb dX6_read_174 (by decide) (by first | omega | exact Nat.lt_of_le_of_lt (hw3 _) (by decide)) (by first | omega | exact Nat.lt_of_le_of_lt (hw3 _) (by decide)) (fun c_174 => ?_) (fun c_174 => absurd c_174 (by omega))
            refine lv_iload hx hb dX6_read_527 (lv_at hl 2 rfl) ?_
            refine lv_if_ge (tgt := 535) hx hb dX6_read_529 (by decide) (fun c_529 => ?_) (fun c_529 => absurd c_529 (by decide))
            refine lv_aload_n hx hb dX6_read_535 rfl (lv_at hl 8 rfl) ?_
            refine lv_dup hx hb dX6_read_536 rfl ?_
            refine g_6_15 (x := 71) hC hW (by omega) kd_71 gw_498 dX6_read_537 ?_
            refine q_top (v2 := .int (nI (p1))) (congrArg _ hX.2.2.1) ?_
            refine lv_iload hx hb dX6_read_540 (lv_at hl 2 rfl) ?_
            refine q_ine (tgt := 549) hx hb dX6_read_542 (by decide) (by first | omega | exact Nat.lt_of_le_of_lt (hw3 _) (by decide)) (fun c_542 => ?_) (fun c_542 => absurd c_542 (by decide))
            refine q_ic 0 hx hb dX6_read_549 (by decide) ?_
            refine q_iadd hx hb dX6_read_550 ?_
            refine p_6_15 (x := 71) (v := nI (p1 + 0)) hC hW (by omega) kd_71 gw_498 dX6_read_551 (fun H locs hW => ?_)
            refine lv_iload hx hb dX6_read_554 (lv_at hl 2 rfl) ?_
            refine lv_istore_n (lv' := [(2, .int (nI 1)), (5, .int (nI 0)), (3, .int (nI (ch i1) - nI 48)), (12, .int (nI 1)), (11, .int (bI (97 ≤ ch i1 ∧ ch i1 ≤ 100))), (10, .int (bI (48 ≤ ch i1 ∧ ch i1 ≤ 51))), (9, .int (bI (48 ≤ ch i1 ∧ ch i1 ≤ 53))), (8, .int (nI (ch i1) - nI 48)), (7, .int (nI (ch i1))), (0, .ref (ad 71)), (1, .int (nI 0)), (4, .int (x4)), (6, .int (nI (i1)))]) hx hb dX6_read_556 rfl hl (by decide) rfl (fun ls hl => ?_)
            refine q_iinc (z2 := i1 + 1) (lv' := [(6, .int (nI (i1 + 1))), (2, .int (nI 1)), (5, .int (nI 0)), (3, .int (nI (ch i1) - nI 48)), (12, .int (nI 1)), (11, .int (bI (97 ≤ ch i1 ∧ ch i1 ≤ 100))), (10, .int (bI (48 ≤ ch i1 ∧ ch i1 ≤ 51))), (9, .int (bI (48 ≤ ch i1 ∧ ch i1 ≤ 53))), (8, .int (nI (ch i1) - nI 48)), (7, .int (nI (ch i1))), (0, .ref (ad 71)), (1, .int (nI 0)), (4, .int (x4))]) hx hb dX6_read_557 hl (k := 12) rfl (inc_up _ 1 (by decide)) (by decide) rfl (fun ls hl => ?_)
            refine lv_goto (tgt := 18) hx hb dX6_read_560 (by decide) ?_
            exact ih_18 (i1 + 1) 1 a1 b1 m1 p1 w1 K1 r1 (nI (ch i1) - nI 48) x4 (nI 0) (up2 I1 71 15 (nI (p1 + 0))) (by omega) (PX_g hX (by omega) (s0_1 (by omega)) (fun _ _ => rfl) (hX.2.2.2.1) rfl) QX_1 _ _ hW _ (lv_sub hl [10, 11, 1, 3, 12, 2, 0] rfl)
        ·
          refine lv_tableIn (off := 115) (tgt := 192) hx hb dX6_read_77 (by decide) (by decide) rfl (by decide) ?_
          refine lv_iload hx hb dX6_read_192 (lv_at hl 3 rfl) ?_
          refine lv_if_eq (tgt := 201) hx hb dX6_read_194 (by decide) (fun c_194 => ?_) (fun c_194 => ?_)
          ·
            have hp_9 : ¬ (48 ≤ ch i1 ∧ ch i1 ≤ 53) := bI_0 c_194
            rw [bI_f hp_9] at hl
            refine lv_bipush (v := -6) hx hb dX6_read_201 (by decide) ?_
            refine lv_istore (lv' := [(12, .int (-6)), (11, .int (bI (97 ≤ ch i1 ∧ ch i1 ≤ 100))), (10, .int (bI (48 ≤ ch i1 ∧ ch i1 ≤ 51))), (9, .int (nI 0)), (8, .int (nI (ch i1) - nI 48)), (7, .int (nI (ch i1))), (0, .ref (ad 71)), (1, .int (nI 0)), (2, .int (nI 1)), (3, .int (x3)), (4, .int (x4)), (5, .int (x5)), (6, .int (nI (i1)))]) hx hb dX6_read_203 hl (by decide) rfl (fun ls hl => ?_)
            refine lv_iload hx hb dX6_read_205 (lv_at hl 4 rfl) ?_
            refine lv_istore_n (lv' := [(3, .int (nI (ch i1) - nI 48)), (12, .int (-6)), (11, .int (bI (97 ≤ ch i1 ∧ ch i1 ≤ 100))), (10, .int (bI (48 ≤ ch i1 ∧ ch i1 ≤ 51))), (9, .int (nI 0)), (8, .int (nI (ch i1) - nI 48)), (7, .int (nI (ch i1))), (0, .ref (ad 71)), (1, .int (nI 0)), (2, .int (nI 1)), (4, .int (x4)), (5, .int (x5)), (6, .int (nI (i1)))]) hx hb dX6_read_207 rfl hl (by decide) rfl (fun ls hl => ?_)
            refine lv_goto (tgt := 527) hx hb dX6_read_208 (by decide) ?_
            refine lv_iload hx hb dX6_read_527 (lv_at hl 1 rfl) ?_
            refine lv_if_ge (tgt := 535) hx hb dX6_read_529 (by decide) (fun c_529 => absurd c_529 (by decide)) (fun c_529 => ?_)
            refine lv_iload hx hb dX6_read_532 (lv_at hl 12 rfl) ?_
            exact q_iret1 hC hW hr hlk0 ⟨fun a h1 => by by_cases e : a = 72; (rw [e]; exact hX.2.2.2.1); exact hX.2.2.2.2.1 a h1 e, hX.2.2.2.2.2, rfl, Or.inl ⟨i1, hX.2.1, FLx hX (by omega) (s1_n hp_9), rfl⟩⟩ dX6_read_534
          ·
            have hp_9 : 48 ≤ ch i1 ∧ ch i1 ≤ 53 := bI_1 c_194
            rw [bI_t hp_9] at hl
            rw [show nI (ch i1) - nI 48 = nI (ch i1 - 48) from pk_sub (by omega)] at hl
            refine q_ic 2 hx hb dX6_read_197 (by decide) ?_
            refine lv_goto (tgt := 203) hx hb dX6_read_198 (by decide) ?_
            refine lv_istore (lv' := [(12, .int (nI 2)), (11, .int (bI (97 ≤ ch i1 ∧ ch i1 ≤ 100))), (10, .int (bI (48 ≤ ch i1 ∧ ch i1 ≤ 51))), (9, .int (nI 1)), (8, .int (nI (ch i1 - 48))), (7, .int (nI (ch i1))), (0, .ref (ad 71)), (1, .int (nI 0)), (2, .int (nI 1)), (3, .int (x3)), (4, .int (x4)), (5, .int (x5)), (6, .int (nI (i1)))]) hx hb dX6_read_203 hl (by decide) rfl (fun ls hl => ?_)
            refine lv_iload hx hb dX6_read_205 (lv_at hl 4 rfl) ?_
            refine lv_istore_n (lv' := [(3, .int (nI (ch i1 - 48))), (12, .int (nI 2)), (11, .int (bI (97 ≤ ch i1 ∧ ch i1 ≤ 100))), (10, .int (bI (48 ≤ ch i1 ∧ ch i1 ≤ 51))), (9, .int (nI 1)), (8, .int (nI (ch i1 - 48))), (7, .int (nI (ch i1))), (0, .ref (ad 71)), (1, .int (nI 0)), (2, .int (nI 1)), (4, .int (x4)), (5, .int (x5)), (6, .int (nI (i1)))]) hx hb dX6_read_207 rfl hl (by decide) rfl (fun ls hl => ?_)
            refine lv_goto (tgt := 527) hx hb dX6_read_208 (by decide) ?_
            refine lv_iload hx hb dX6_read_527 (lv_at hl 1 rfl) ?_
            refine lv_if_ge (tgt := 535) hx hb dX6_read_529 (by decide) (fun c_529 => ?_) (fun c_529 => absurd c_529 (by decide))
            refine lv_aload_n hx hb dX6_read_535 rfl (lv_at hl 7 rfl) ?_
            refine lv_dup hx hb dX6_read_536 rfl ?_
            refine g_6_15 (x := 71) hC hW (by omega) kd_71 gw_498 dX6_read_537 ?_
            refine q_top (v2 := .int (nI (p1))) (congrArg _ hX.2.2.1) ?_
            refine lv_iload hx hb dX6_read_540 (lv_at hl 1 rfl) ?_
            refine q_ine (tgt := 549) hx hb dX6_read_542 (by decide) (by first | omega | exact Nat.lt_of_le_of_lt (hw3 _) (by decide)) (fun c_542 => ?_) (fun c_542 => absurd c_542 (by decide))
            refine q_ic 0 hx hb dX6_read_549 (by decide) ?_
            refine q_iadd hx hb dX6_read_550 ?_
            refine p_6_15 (x := 71) (v := nI (p1 + 0)) hC hW (by omega) kd_71 gw_498 dX6_read_551 (fun H locs hW => ?_)
            refine lv_iload hx hb dX6_read_554 (lv_at hl 1 rfl) ?_
            refine lv_istore_n (lv' := [(2, .int (nI 2)), (3, .int (nI (ch i1 - 48))), (12, .int (nI 2)), (11, .int (bI (97 ≤ ch i1 ∧ ch i1 ≤ 100))), (10, .int (bI (48 ≤ ch i1 ∧ ch i1 ≤ 51))), (9, .int (nI 1)), (8, .int (nI (ch i1 - 48))), (7, .int (nI (ch i1))), (0, .ref (ad 71)), (1, .int (nI 0)), (4, .int (x4)), (5, .int (x5)), (6, .int (nI (i1)))]) hx hb dX6_read_556 rfl hl (by decide) rfl (fun ls hl => ?_)
            refine q_iinc (z2 := i1 + 1) (lv' := [(6, .int (nI (i1 + 1))), (2, .int (nI 2)), (3, .int (nI (ch i1 - 48))), (12, .int (nI 2)), (11, .int (bI (97 ≤ ch i1 ∧ ch i1 ≤ 100))), (10, .int (bI (48 ≤ ch i1 ∧ ch i1 ≤ 51))), (9, .int (nI 1)), (8, .int (nI (ch i1 - 48))), (7, .int (nI (ch i1))), (0, .ref (ad 71)), (1, .int (nI 0)), (4, .int (x4)), (5, .int (x5))]) hx hb dX6_read_557 hl (k := 12) rfl (inc_up _ 1 (by decide)) (by decide) rfl (fun ls hl => ?_)
            refine lv_goto (tgt := 18) hx hb dX6_read_560 (by decide) ?_
            exact ih_18 (i1 + 1) 2 (ch i1 - 48) b1 m1 p1 w1 K1 r1 (nI (ch i1 - 48)) x4 x5 (up2 I1 71 15 (nI (p1 + 0))) (by omega) (PX_g hX (by omega) (s1_2 hp_9) (fun _ _ => rfl) (hX.2.2.2.1) rfl) (QX_c (by omega) (by omega)) _ _ hW _ (lv_sub hl [9, 10, 1, 2, 11, 12, 0] rfl)
        ·
          obtain ⟨rfl, ha6, ha4⟩ := hQ.1 (by decide) (by decide)
          refine lv_tableIn (off := 134) (tgt := 211) hx hb dX6_read_77 (by decide) (by decide) rfl (by decide) ?_
          refine lv_iload hx hb dX6_read_211 (lv_at hl 2 rfl) ?_
          refine lv_if_eq (tgt := 221) hx hb dX6_read_213 (by decide) (fun c_213 => ?_) (fun c_213 => ?_)
          ·
            have hp_10 : ¬ (48 ≤ ch i1 ∧ ch i1 ≤ 51) := bI_0 c_213
            rw [bI_f hp_10] at hl
            refine lv_bipush (v := -6) hx hb dX6_read_221 (by decide) ?_
            refine lv_istore (lv' := [(12, .int (-6)), (11, .int (bI (97 ≤ ch i1 ∧ ch i1 ≤ 100))), (10, .int (nI 0)), (9, .int (bI (48 ≤ ch i1 ∧ ch i1 ≤ 53))), (8, .int (nI (ch i1) - nI 48)), (7, .int (nI (ch i1))), (0, .ref (ad 71)), (1, .int (nI 0)), (2, .int (nI 2)), (3, .int (nI (a1))), (4, .int (x4)), (5, .int (x5)), (6, .int (nI (i1)))]) hx hb dX6_read_223 hl (by decide) rfl (fun ls hl => ?_)
            refine lv_aload_n hx hb dX6_read_225 rfl (lv_at hl 6 rfl) ?_
            refine lv_iload_n hx hb dX6_read_226 rfl (lv_at hl 7 rfl) ?_
            refine q_ieq (tgt := 239) hx hb dX6_read_227 (by decide) (by first | omega | exact Nat.lt_of_le_of_lt (hw3 _) (by decide)) (fun c_227 => ?_) (fun c_227 => absurd c_227 (by decide))
            refine q_ic 0 hx hb dX6_read_239 (by decide) ?_
            refine lv_iload_n hx hb dX6_read_240 rfl (lv_at hl 9 rfl) ?_
            refine lv_iload hx hb dX6_read_241 (lv_at hl 4 rfl) ?_
            refine q_kV1 (q_rV (As := [.int (nI 0), .int (nI (a1)), .int (nI (ch i1) - nI 48)]) (rest := []) (x := 71) hC hW mw_X6_lay gw_736 (k_lay0 l G n ad H.size I1 L R (nI a1) (nI (ch i1) - nI 48)) (by omega) (ct_o6 kd_71) rfl ⟨rfl, rfl⟩ ⟨Nat.le_of_ble_eq_true rfl, Nat.le_of_ble_eq_true rfl⟩ ⟨(Nat.le_of_ble_eq_true rfl), (Nat.le_of_ble_eq_true rfl)⟩ hl.1 rfl rfl (Nat.le_of_ble_eq_true rfl) dX6_read_243) hW (fun I_243 L_243 H locs hp hW => ?_)
            obtain ⟨rfl, rfl⟩ := hp
            refine lv_goto (tgt := 527) hx hb dX6_read_246 (by decide) ?_
            refine lv_iload hx hb dX6_read_527 (lv_at hl 0 rfl) ?_
            refine lv_if_ge (tgt := 535) hx hb dX6_read_529 (by decide) (fun c_529 => absurd c_529 (by decide)) (fun c_529 => ?_)
            refine lv_iload hx hb dX6_read_532 (lv_at hl 12 rfl) ?_
            exact q_iret1 hC hW hr hlk0 ⟨fun a h1 => by by_cases e : a = 72; (rw [e]; exact hX.2.2.2.1); exact hX.2.2.2.2.1 a h1 e, hX.2.2.2.2.2, rfl, Or.inl ⟨i1, hX.2.1, FLx hX (by omega) (s2_n hp_10), rfl⟩⟩ dX6_read_534
          ·
            have hp_10 : 48 ≤ ch i1 ∧ ch i1 ≤ 51 := bI_1 c_213
            rw [bI_t hp_10] at hl
            rw [show nI (ch i1) - nI 48 = nI (ch i1 - 48) from pk_sub (by omega)] at hl
            refine q_bp 9 hx hb dX6_read_216 (by decide) ?_
            refine lv_goto (tgt := 223) hx hb dX6_read_218 (by decide) ?_
            refine lv_istore (lv' := [(12, .int (nI 9)), (11, .int (bI (97 ≤ ch i1 ∧ ch i1 ≤ 100))), (10, .int (nI 1)), (9, .int (bI (48 ≤ ch i1 ∧ ch i1 ≤ 53))), (8, .int (nI (ch i1 - 48))), (7, .int (nI (ch i1))), (0, .ref (ad 71)), (1, .int (nI 0)), (2, .int (nI 2)), (3, .int (nI (a1))), (4, .int (x4)), (5, .int (x5)), (6, .int (nI (i1)))]) hx hb dX6_read_223 hl (by decide) rfl (fun ls hl => ?_)
            refine lv_aload_n hx hb dX6_read_225 rfl (lv_at hl 6 rfl) ?_
            refine lv_iload_n hx hb dX6_read_226 rfl (lv_at hl 7 rfl) ?_
            refine q_ieq (tgt := 239) hx hb dX6_read_227 (by decide) (by first | omega | exact Nat.lt_of_le_of_lt (hw3 _) (by decide)) (fun c_227 => ?_) (fun c_227 => absurd c_227 (by decide))
            refine q_ic 0 hx hb dX6_read_239 (by decide) ?_
            refine lv_iload_n hx hb dX6_read_240 rfl (lv_at hl 9 rfl) ?_
            refine lv_iload hx hb dX6_read_241 (lv_at hl 4 rfl) ?_
            refine q_kV1 (q_rV (As := [.int (nI 0), .int (nI (a1)), .int (nI (ch i1 - 48))]) (rest := []) (x := 71) hC hW mw_X6_lay gw_736 (k_lay0 l G n ad H.size I1 L R (nI a1) (nI (ch i1 - 48))) (by omega) (ct_o6 kd_71) rfl ⟨rfl, rfl⟩ ⟨Nat.le_of_ble_eq_true rfl, Nat.le_of_ble_eq_true rfl⟩ ⟨(Nat.le_of_ble_eq_true rfl), (Nat.le_of_ble_eq_true rfl)⟩ hl.1 rfl rfl (Nat.le_of_ble_eq_true rfl) dX6_read_243) hW (fun I_243 L_243 H locs hp hW => ?_)
            obtain ⟨rfl, rfl⟩ := hp
            refine lv_goto (tgt := 527) hx hb dX6_read_246 (by decide) ?_
            refine lv_iload hx hb dX6_read_527 (lv_at hl 0 rfl) ?_
            refine lv_if_ge (tgt := 535) hx hb dX6_read_529 (by decide) (fun c_529 => ?_) (fun c_529 => absurd c_529 (by decide))
            refine lv_aload_n hx hb dX6_read_535 rfl (lv_at hl 6 rfl) ?_
            refine lv_dup hx hb dX6_read_536 rfl ?_
            refine g_6_15 (x := 71) hC hW (by omega) kd_71 gw_498 dX6_read_537 ?_
            refine q_top (v2 := .int (nI (p1))) (congrArg _ hX.2.2.1) ?_
            refine lv_iload hx hb dX6_read_540 (lv_at hl 0 rfl) ?_
            refine q_ine (tgt := 549) hx hb dX6_read_542 (by decide) (by first | omega | exact Nat.lt_of_le_of_lt (hw3 _) (by decide)) (fun c_542 => ?_) (fun c_542 => absurd c_542 (by decide))
            refine q_ic 0 hx hb dX6_read_549 (by decide) ?_
            refine q_iadd hx hb dX6_read_550 ?_
            refine p_6_15 (x := 71) (v := nI (p1 + 0)) hC hW (by omega) kd_71 gw_498 dX6_read_551 (fun H locs hW => ?_)
            refine lv_iload hx hb dX6_read_554 (lv_at hl 0 rfl) ?_
            refine lv_istore_n (lv' := [(2, .int (nI 9)), (12, .int (nI 9)), (11, .int (bI (97 ≤ ch i1 ∧ ch i1 ≤ 100))), (10, .int (nI 1)), (9, .int (bI (48 ≤ ch i1 ∧ ch i1 ≤ 53))), (8, .int (nI (ch i1 - 48))), (7, .int (nI (ch i1))), (0, .ref (ad 71)), (1, .int (nI 0)), (3, .int (nI (a1))), (4, .int (x4)), (5, .int (x5)), (6, .int (nI (i1)))]) hx hb dX6_read_556 rfl hl (by decide) rfl (fun ls hl => ?_)
            refine q_iinc (z2 := i1 + 1) (lv' := [(6, .int (nI (i1 + 1))), (2, .int (nI 9)), (12, .int (nI 9)), (11, .int (bI (97 ≤ ch i1 ∧ ch i1 ≤ 100))), (10, .int (nI 1)), (9, .int (bI (48 ≤ ch i1 ∧ ch i1 ≤ 53))), (8, .int (nI (ch i1 - 48))), (7, .int (nI (ch i1))), (0, .ref (ad 71)), (1, .int (nI 0)), (3, .int (nI (a1))), (4, .int (x4)), (5, .int (x5))]) hx hb dX6_read_557 hl (k := 12) rfl (inc_up _ 1 (by decide)) (by decide) rfl (fun ls hl => ?_)
            refine lv_goto (tgt := 18) hx hb dX6_read_560 (by decide) ?_
            exact ih_18 (i1 + 1) 9 a1 b1 m1 p1 (upN w1 (36 + a1) (ch i1 - 48)) K1 r1 (nI a1) x4 x5 (up2 I1 71 15 (nI (p1 + 0))) (by omega) (PX_g hX (by omega) (s2_9 hp_10) (fun _ _ => rfl) (hX.2.2.2.1) rfl) QX_9 _ _ hW _ (lv_sub hl [8, 9, 1, 10, 11, 12, 0] rfl)
        ·
          obtain ⟨rfl, ha6, ha4⟩ := hQ.1 (by decide) (by decide)
          refine lv_tableIn (off := 172) (tgt := 249) hx hb dX6_read_77 (by decide) (by decide) rfl (by decide) ?_
          refine lv_iload hx hb dX6_read_249 (lv_at hl 5 rfl) ?_
          refine q_bp 62 hx hb dX6_read_251 (by decide) ?_
          refine q_cne (tgt := 260) hx hb dX6_read_253 (by decide) (by first | omega | exact Nat.lt_of_le_of_lt (hw3 _) (by decide)) (by first | omega | exact Nat.lt_of_le_of_lt (hw3 _) (by decide)) (fun c_253 => ?_) (fun c_253 => ?_)
          ·
            refine lv_iload hx hb dX6_read_260 (lv_at hl 5 rfl) ?_
            refine q_bp 61 hx hb dX6_read_262 (by decide) ?_
            refine q_cne (tgt := 277) hx hb dX6_read_264 (by decide) (by first | omega | exact Nat.lt_of_le_of_lt (hw3 _) (by decide)) (by first | omega | exact Nat.lt_of_le_of_lt (hw3 _) (by decide)) (fun c_264 => ?_) (fun c_264 => ?_)
            ·
              refine lv_bipush (v := -6) hx hb dX6_read_277 (by decide) ?_
              refine lv_istore (lv' := [(12, .int (-6)), (11, .int (bI (97 ≤ ch i1 ∧ ch i1 ≤ 100))), (10, .int (bI (48 ≤ ch i1 ∧ ch i1 ≤ 51))), (9, .int (bI (48 ≤ ch i1 ∧ ch i1 ≤ 53))), (8, .int (nI (ch i1) - nI 48)), (7, .int (nI (ch i1))), (0, .ref (ad 71)), (1, .int (nI 0)), (2, .int (nI 3)), (3, .int (nI (a1))), (4, .int (x4)), (5, .int (x5)), (6, .int (nI (i1)))]) hx hb dX6_read_279 hl (by decide) rfl (fun ls hl => ?_)
              refine lv_goto (tgt := 527) hx hb dX6_read_281 (by decide) ?_
              refine lv_iload hx hb dX6_read_527 (lv_at hl 0 rfl) ?_
              refine lv_if_ge (tgt := 535) hx hb dX6_read_529 (by decide) (fun c_529 => absurd c_529 (by decide)) (fun c_529 => ?_)
              refine lv_iload hx hb dX6_read_532 (lv_at hl 12 rfl) ?_
              exact q_iret1 hC hW hr hlk0 ⟨fun a h1 => by by_cases e : a = 72; (rw [e]; exact hX.2.2.2.1); exact hX.2.2.2.2.1 a h1 e, hX.2.2.2.2.2, rfl, Or.inl ⟨i1, hX.2.1, FLx hX (by omega) (s3_n (by omega) (by omega)), rfl⟩⟩ dX6_read_534
            ·
              refine lv_iload_n hx hb dX6_read_267 rfl (lv_at hl 9 rfl) ?_
              refine q_ic 4 hx hb dX6_read_268 (by decide) ?_
              refine q_cge (tgt := 277) hx hb dX6_read_269 (by decide) (by first | omega | exact Nat.lt_of_le_of_lt (hw3 _) (by decide)) (by first | omega | exact Nat.lt_of_le_of_lt (hw3 _) (by decide)) (fun c_269 => ?_) (fun c_269 => ?_)
              ·
                refine lv_bipush (v := -6) hx hb dX6_read_277 (by decide) ?_
                refine lv_istore (lv' := [(12, .int (-6)), (11, .int (bI (97 ≤ ch i1 ∧ ch i1 ≤ 100))), (10, .int (bI (48 ≤ ch i1 ∧ ch i1 ≤ 51))), (9, .int (bI (48 ≤ ch i1 ∧ ch i1 ≤ 53))), (8, .int (nI (ch i1) - nI 48)), (7, .int (nI (ch i1))), (0, .ref (ad 71)), (1, .int (nI 0)), (2, .int (nI 3)), (3, .int (nI (a1))), (4, .int (x4)), (5, .int (x5)), (6, .int (nI (i1)))]) hx hb dX6_read_279 hl (by decide) rfl (fun ls hl => ?_)
                refine lv_goto (tgt := 527) hx hb dX6_read_281 (by decide) ?_
                refine lv_iload hx hb dX6_read_527 (lv_at hl 0 rfl) ?_
                refine lv_if_ge (tgt := 535) hx hb dX6_read_529 (by decide) (fun c_529 => absurd c_529 (by decide)) (fun c_529 => ?_)
                refine lv_iload hx hb dX6_read_532 (lv_at hl 12 rfl) ?_
                exact q_iret1 hC hW hr hlk0 ⟨fun a h1 => by by_cases e : a = 72; (rw [e]; exact hX.2.2.2.1); exact hX.2.2.2.2.1 a h1 e, hX.2.2.2.2.2, rfl, Or.inl ⟨i1, hX.2.1, FLx hX (by omega) (s3_n (by omega) (by omega)), rfl⟩⟩ dX6_read_534
              ·
                refine q_bp 6 hx hb dX6_read_272 (by decide) ?_
                refine lv_goto (tgt := 279) hx hb dX6_read_274 (by decide) ?_
                refine lv_istore (lv' := [(12, .int (nI 6)), (11, .int (bI (97 ≤ ch i1 ∧ ch i1 ≤ 100))), (10, .int (bI (48 ≤ ch i1 ∧ ch i1 ≤ 51))), (9, .int (bI (48 ≤ ch i1 ∧ ch i1 ≤ 53))), (8, .int (nI (ch i1) - nI 48)), (7, .int (nI (ch i1))), (0, .ref (ad 71)), (1, .int (nI 0)), (2, .int (nI 3)), (3, .int (nI (a1))), (4, .int (x4)), (5, .int (x5)), (6, .int (nI (i1)))]) hx hb dX6_read_279 hl (by decide) rfl (fun ls hl => ?_)
                refine lv_goto (tgt := 527) hx hb dX6_read_281 (by decide) ?_
                refine lv_iload hx hb dX6_read_527 (lv_at hl 0 rfl) ?_
                refine lv_if_ge (tgt := 535) hx hb dX6_read_529 (by decide) (fun c_529 => ?_) (fun c_529 => absurd c_529 (by decide))
                refine lv_aload_n hx hb dX6_read_535 rfl (lv_at hl 6 rfl) ?_
                refine lv_dup hx hb dX6_read_536 rfl ?_
                refine g_6_15 (x := 71) hC hW (by omega) kd_71 gw_498 dX6_read_537 ?_
                refine q_top (v2 := .int (nI (p1))) (congrArg _ hX.2.2.1) ?_
                refine lv_iload hx hb dX6_read_540 (lv_at hl 0 rfl) ?_
                refine q_ine (tgt := 549) hx hb dX6_read_542 (by decide) (by first | omega | exact Nat.lt_of_le_of_lt (hw3 _) (by decide)) (fun c_542 => ?_) (fun c_542 => absurd c_542 (by decide))
                refine q_ic 0 hx hb dX6_read_549 (by decide) ?_
                refine q_iadd hx hb dX6_read_550 ?_
                refine p_6_15 (x := 71) (v := nI (p1 + 0)) hC hW (by omega) kd_71 gw_498 dX6_read_551 (fun H locs hW => ?_)
                refine lv_iload hx hb dX6_read_554 (lv_at hl 0 rfl) ?_
                refine lv_istore_n (lv' := [(2, .int (nI 6)), (12, .int (nI 6)), (11, .int (bI (97 ≤ ch i1 ∧ ch i1 ≤ 100))), (10, .int (bI (48 ≤ ch i1 ∧ ch i1 ≤ 51))), (9, .int (bI (48 ≤ ch i1 ∧ ch i1 ≤ 53))), (8, .int (nI (ch i1) - nI 48)), (7, .int (nI (ch i1))), (0, .ref (ad 71)), (1, .int (nI 0)), (3, .int (nI (a1))), (4, .int (x4)), (5, .int (x5)), (6, .int (nI (i1)))]) hx hb dX6_read_556 rfl hl (by decide) rfl (fun ls hl => ?_)
                refine q_iinc (z2 := i1 + 1) (lv' := [(6, .int (nI (i1 + 1))), (2, .int (nI 6)), (12, .int (nI 6)), (11, .int (bI (97 ≤ ch i1 ∧ ch i1 ≤ 100))), (10, .int (bI (48 ≤ ch i1 ∧ ch i1 ≤ 51))), (9, .int (bI (48 ≤ ch i1 ∧ ch i1 ≤ 53))), (8, .int (nI (ch i1) - nI 48)), (7, .int (nI (ch i1))), (0, .ref (ad 71)), (1, .int (nI 0)), (3, .int (nI (a1))), (4, .int (x4)), (5, .int (x5))]) hx hb dX6_read_557 hl (k := 12) rfl (inc_up _ 1 (by decide)) (by decide) rfl (fun ls hl => ?_)
                refine lv_goto (tgt := 18) hx hb dX6_read_560 (by decide) ?_
                exact ih_18 (i1 + 1) 6 a1 b1 m1 p1 w1 K1 r1 (nI a1) x4 x5 (up2 I1 71 15 (nI (p1 + 0))) (by omega) (PX_g hX (by omega) (s3_6 (by omega) (by omega)) (fun _ _ => rfl) (hX.2.2.2.1) rfl) (QX_c (by omega) (by omega)) _ _ hW _ (lv_sub hl [8, 9, 1, 10, 11, 12, 0] rfl)
          ·
            refine q_ic 4 hx hb dX6_read_256 (by decide) ?_
            refine lv_goto (tgt := 279) hx hb dX6_read_257 (by decide) ?_
            refine lv_istore (lv' := [(12, .int (nI 4)), (11, .int (bI (97 ≤ ch i1 ∧ ch i1 ≤ 100))), (10, .int (bI (48 ≤ ch i1 ∧ ch i1 ≤ 51))), (9, .int (bI (48 ≤ ch i1 ∧ ch i1 ≤ 53))), (8, .int (nI (ch i1) - nI 48)), (7, .int (nI (ch i1))), (0, .ref (ad 71)), (1, .int (nI 0)), (2, .int (nI 3)), (3, .int (nI (a1))), (4, .int (x4)), (5, .int (x5)), (6, .int (nI (i1)))]) hx hb dX6_read_279 hl (by decide) rfl (fun ls hl => ?_)
            refine lv_goto (tgt := 527) hx hb dX6_read_281 (by decide) ?_
            refine lv_iload hx hb dX6_read_527 (lv_at hl 0 rfl) ?_
            refine lv_if_ge (tgt := 535) hx hb dX6_read_529 (by decide) (fun c_529 => ?_) (fun c_529 => absurd c_529 (by decide))
            refine lv_aload_n hx hb dX6_read_535 rfl (lv_at hl 6 rfl) ?_
            refine lv_dup hx hb dX6_read_536 rfl ?_
            refine g_6_15 (x := 71) hC hW (by omega) kd_71 gw_498 dX6_read_537 ?_
            refine q_top (v2 := .int (nI (p1))) (congrArg _ hX.2.2.1) ?_
            refine lv_iload hx hb dX6_read_540 (lv_at hl 0 rfl) ?_
            refine q_ine (tgt := 549) hx hb dX6_read_542 (by decide) (by first | omega | exact Nat.lt_of_le_of_lt (hw3 _) (by decide)) (fun c_542 => ?_) (fun c_542 => absurd c_542 (by decide))
            refine q_ic 0 hx hb dX6_read_549 (by decide) ?_
            refine q_iadd hx hb dX6_read_550 ?_
            refine p_6_15 (x := 71) (v := nI (p1 + 0)) hC hW (by omega) kd_71 gw_498 dX6_read_551 (fun H locs hW => ?_)
            refine lv_iload hx hb dX6_read_554 (lv_at hl 0 rfl) ?_
            refine lv_istore_n (lv' := [(2, .int (nI 4)), (12, .int (nI 4)), (11, .int (bI (97 ≤ ch i1 ∧ ch i1 ≤ 100))), (10, .int (bI (48 ≤ ch i1 ∧ ch i1 ≤ 51))), (9, .int (bI (48 ≤ ch i1 ∧ ch i1 ≤ 53))), (8, .int (nI (ch i1) - nI 48)), (7, .int (nI (ch i1))), (0, .ref (ad 71)), (1, .int (nI 0)), (3, .int (nI (a1))), (4, .int (x4)), (5, .int (x5)), (6, .int (nI (i1)))]) hx hb dX6_read_556 rfl hl (by decide) rfl (fun ls hl => ?_)
            refine q_iinc (z2 := i1 + 1) (lv' := [(6, .int (nI (i1 + 1))), (2, .int (nI 4)), (12, .int (nI 4)), (11, .int (bI (97 ≤ ch i1 ∧ ch i1 ≤ 100))), (10, .int (bI (48 ≤ ch i1 ∧ ch i1 ≤ 51))), (9, .int (bI (48 ≤ ch i1 ∧ ch i1 ≤ 53))), (8, .int (nI (ch i1) - nI 48)), (7, .int (nI (ch i1))), (0, .ref (ad 71)), (1, .int (nI 0)), (3, .int (nI (a1))), (4, .int (x4)), (5, .int (x5))]) hx hb dX6_read_557 hl (k := 12) rfl (inc_up _ 1 (by decide)) (by decide) rfl (fun ls hl => ?_)
            refine lv_goto (tgt := 18) hx hb dX6_read_560 (by decide) ?_
            exact ih_18 (i1 + 1) 4 a1 b1 m1 p1 w1 K1 r1 (nI a1) x4 x5 (up2 I1 71 15 (nI (p1 + 0))) (by omega) (PX_g hX (by omega) (s3_4 (by omega)) (fun _ _ => rfl) (hX.2.2.2.1) rfl) (QX_c (by omega) (by omega)) _ _ hW _ (lv_sub hl [8, 9, 1, 10, 11, 12, 0] rfl)
        ·
          obtain ⟨rfl, ha6, ha4⟩ := hQ.1 (by decide) (by decide)
          refine lv_tableIn (off := 207) (tgt := 284) hx hb dX6_read_77 (by decide) (by decide) rfl (by decide) ?_
          refine lv_iload hx hb dX6_read_284 (lv_at hl 3 rfl) ?_
          refine lv_if_eq (tgt := 293) hx hb dX6_read_286 (by decide) (fun c_286 => ?_) (fun c_286 => ?_)
          ·
            have hp_9 : ¬ (48 ≤ ch i1 ∧ ch i1 ≤ 53) := bI_0 c_286
            rw [bI_f hp_9] at hl
            refine lv_bipush (v := -6) hx hb dX6_read_293 (by decide) ?_
            refine lv_istore (lv' := [(12, .int (-6)), (11, .int (bI (97 ≤ ch i1 ∧ ch i1 ≤ 100))), (10, .int (bI (48 ≤ ch i1 ∧ ch i1 ≤ 51))), (9, .int (nI 0)), (8, .int (nI (ch i1) - nI 48)), (7, .int (nI (ch i1))), (0, .ref (ad 71)), (1, .int (nI 0)), (2, .int (nI 4)), (3, .int (nI (a1))), (4, .int (x4)), (5, .int (x5)), (6, .int (nI (i1)))]) hx hb dX6_read_295 hl (by decide) rfl (fun ls hl => ?_)
            refine lv_iload hx hb dX6_read_297 (lv_at hl 4 rfl) ?_
            refine lv_istore (lv' := [(4, .int (nI (ch i1) - nI 48)), (12, .int (-6)), (11, .int (bI (97 ≤ ch i1 ∧ ch i1 ≤ 100))), (10, .int (bI (48 ≤ ch i1 ∧ ch i1 ≤ 51))), (9, .int (nI 0)), (8, .int (nI (ch i1) - nI 48)), (7, .int (nI (ch i1))), (0, .ref (ad 71)), (1, .int (nI 0)), (2, .int (nI 4)), (3, .int (nI (a1))), (5, .int (x5)), (6, .int (nI (i1)))]) hx hb dX6_read_299 hl (by decide) rfl (fun ls hl => ?_)
            refine lv_goto (tgt := 527) hx hb dX6_read_301 (by decide) ?_
            refine lv_iload hx hb dX6_read_527 (lv_at hl 1 rfl) ?_
            refine lv_if_ge (tgt := 535) hx hb dX6_read_529 (by decide) (fun c_529 => absurd c_529 (by decide)) (fun c_529 => ?_)
            refine lv_iload hx hb dX6_read_532 (lv_at hl 12 rfl) ?_
            exact q_iret1 hC hW hr hlk0 ⟨fun a h1 => by by_cases e : a = 72; (rw [e]; exact hX.2.2.2.1); exact hX.2.2.2.2.1 a h1 e, hX.2.2.2.2.2, rfl, Or.inl ⟨i1, hX.2.1, FLx hX (by omega) (s4_n hp_9), rfl⟩⟩ dX6_read_534
          ·
            have hp_9 : 48 ≤ ch i1 ∧ ch i1 ≤ 53 := bI_1 c_286
            rw [bI_t hp_9] at hl
            rw [show nI (ch i1) - nI 48 = nI (ch i1 - 48) from pk_sub (by omega)] at hl
            refine q_ic 5 hx hb dX6_read_289 (by decide) ?_
            refine lv_goto (tgt := 295) hx hb dX6_read_290 (by decide) ?_
            refine lv_istore (lv' := [(12, .int (nI 5)), (11, .int (bI (97 ≤ ch i1 ∧ ch i1 ≤ 100))), (10, .int (bI (48 ≤ ch i1 ∧ ch i1 ≤ 51))), (9, .int (nI 1)), (8, .int (nI (ch i1 - 48))), (7, .int (nI (ch i1))), (0, .ref (ad 71)), (1, .int (nI 0)), (2, .int (nI 4)), (3, .int (nI (a1))), (4, .int (x4)), (5, .int (x5)), (6, .int (nI (i1)))]) hx hb dX6_read_295 hl (by decide) rfl (fun ls hl => ?_)
            refine lv_iload hx hb dX6_read_297 (lv_at hl 4 rfl) ?_
            refine lv_istore (lv' := [(4, .int (nI (ch i1 - 48))), (12, .int (nI 5)), (11, .int (bI (97 ≤ ch i1 ∧ ch i1 ≤ 100))), (10, .int (bI (48 ≤ ch i1 ∧ ch i1 ≤ 51))), (9, .int (nI 1)), (8, .int (nI (ch i1 - 48))), (7, .int (nI (ch i1))), (0, .ref (ad 71)), (1, .int (nI 0)), (2, .int (nI 4)), (3, .int (nI (a1))), (5, .int (x5)), (6, .int (nI (i1)))]) hx hb dX6_read_299 hl (by decide) rfl (fun ls hl => ?_)
            refine lv_goto (tgt := 527) hx hb dX6_read_301 (by decide) ?_
            refine lv_iload hx hb dX6_read_527 (lv_at hl 1 rfl) ?_
            refine lv_if_ge (tgt := 535) hx hb dX6_read_529 (by decide) (fun c_529 => ?_) (fun c_529 => absurd c_529 (by decide))
            refine lv_aload_n hx hb dX6_read_535 rfl (lv_at hl 7 rfl) ?_
            refine lv_dup hx hb dX6_read_536 rfl ?_
            refine g_6_15 (x := 71) hC hW (by omega) kd_71 gw_498 dX6_read_537 ?_
            refine q_top (v2 := .int (nI (p1))) (congrArg _ hX.2.2.1) ?_
            refine lv_iload hx hb dX6_read_540 (lv_at hl 1 rfl) ?_
            refine q_ine (tgt := 549) hx hb dX6_read_542 (by decide) (by first | omega | exact Nat.lt_of_le_of_lt (hw3 _) (by decide)) (fun c_542 => ?_) (fun c_542 => absurd c_542 (by decide))
            refine q_ic 0 hx hb dX6_read_549 (by decide) ?_
            refine q_iadd hx hb dX6_read_550 ?_
            refine p_6_15 (x := 71) (v := nI (p1 + 0)) hC hW (by omega) kd_71 gw_498 dX6_read_551 (fun H locs hW => ?_)
            refine lv_iload hx hb dX6_read_554 (lv_at hl 1 rfl) ?_
            refine lv_istore_n (lv' := [(2, .int (nI 5)), (4, .int (nI (ch i1 - 48))), (12, .int (nI 5)), (11, .int (bI (97 ≤ ch i1 ∧ ch i1 ≤ 100))), (10, .int (bI (48 ≤ ch i1 ∧ ch i1 ≤ 51))), (9, .int (nI 1)), (8, .int (nI (ch i1 - 48))), (7, .int (nI (ch i1))), (0, .ref (ad 71)), (1, .int (nI 0)), (3, .int (nI (a1))), (5, .int (x5)), (6, .int (nI (i1)))]) hx hb dX6_read_556 rfl hl (by decide) rfl (fun ls hl => ?_)
            refine q_iinc (z2 := i1 + 1) (lv' := [(6, .int (nI (i1 + 1))), (2, .int (nI 5)), (4, .int (nI (ch i1 - 48))), (12, .int (nI 5)), (11, .int (bI (97 ≤ ch i1 ∧ ch i1 ≤ 100))), (10, .int (bI (48 ≤ ch i1 ∧ ch i1 ≤ 51))), (9, .int (nI 1)), (8, .int (nI (ch i1 - 48))), (7, .int (nI (ch i1))), (0, .ref (ad 71)), (1, .int (nI 0)), (3, .int (nI (a1))), (5, .int (x5))]) hx hb dX6_read_557 hl (k := 12) rfl (inc_up _ 1 (by decide)) (by decide) rfl (fun ls hl => ?_)
            refine lv_goto (tgt := 18) hx hb dX6_read_560 (by decide) ?_
            exact ih_18 (i1 + 1) 5 a1 (ch i1 - 48) m1 p1 w1 K1 r1 (nI a1) (nI (ch i1 - 48)) x5 (up2 I1 71 15 (nI (p1 + 0))) (by omega) (PX_g hX (by omega) (s4_5 hp_9) (fun _ _ => rfl) (hX.2.2.2.1) rfl) (QX_5 (by omega) (by omega)) _ _ hW _ (lv_sub hl [9, 10, 1, 11, 2, 12, 0] rfl)
        ·
          obtain ⟨rfl, ha6, ha4⟩ := hQ.1 (by decide) (by decide)
          obtain ⟨rfl, hb6⟩ := hQ.2.1 rfl
          refine lv_tableIn (off := 227) (tgt := 304) hx hb dX6_read_77 (by decide) (by decide) rfl (by decide) ?_
          refine lv_iload hx hb dX6_read_304 (lv_at hl 2 rfl) ?_
          refine lv_if_eq (tgt := 328) hx hb dX6_read_306 (by decide) (fun c_306 => ?_) (fun c_306 => ?_)
          ·
            have hp_10 : ¬ (48 ≤ ch i1 ∧ ch i1 ≤ 51) := bI_0 c_306
            rw [bI_f hp_10] at hl
            refine lv_bipush (v := -6) hx hb dX6_read_328 (by decide) ?_
            refine lv_istore (lv' := [(12, .int (-6)), (11, .int (bI (97 ≤ ch i1 ∧ ch i1 ≤ 100))), (10, .int (nI 0)), (9, .int (bI (48 ≤ ch i1 ∧ ch i1 ≤ 53))), (8, .int (nI (ch i1) - nI 48)), (7, .int (nI (ch i1))), (0, .ref (ad 71)), (1, .int (nI 0)), (2, .int (nI 5)), (3, .int (nI (a1))), (4, .int (nI (b1))), (5, .int (x5)), (6, .int (nI (i1)))]) hx hb dX6_read_330 hl (by decide) rfl (fun ls hl => ?_)
            refine lv_aload_n hx hb dX6_read_332 rfl (lv_at hl 6 rfl) ?_
            refine lv_iload_n hx hb dX6_read_333 rfl (lv_at hl 7 rfl) ?_
            refine q_ieq (tgt := 348) hx hb dX6_read_334 (by decide) (by first | omega | exact Nat.lt_of_le_of_lt (hw3 _) (by decide)) (fun c_334 => ?_) (fun c_334 => absurd c_334 (by decide))
            refine q_ic 0 hx hb dX6_read_348 (by decide) ?_
            refine q_bp 6 hx hb dX6_read_349 (by decide) ?_
            refine q_bp 6 hx hb dX6_read_351 (by decide) ?_
            refine lv_iload_n hx hb dX6_read_353 rfl (lv_at hl 9 rfl) ?_
            refine q_imul hx hb dX6_read_354 ?_
            refine q_iadd hx hb dX6_read_355 ?_
            refine lv_iload hx hb dX6_read_356 (lv_at hl 10 rfl) ?_
            refine q_iadd hx hb dX6_read_358 ?_
            refine lv_iload hx hb dX6_read_359 (lv_at hl 4 rfl) ?_
            refine q_kV1 (q_rV (As := [.int (nI 0), .int (nI ((6 + (6 * a1)) + b1)), .int (nI (ch i1) - nI 48)]) (rest := []) (x := 71) hC hW mw_X6_lay gw_736 (k_lay0 l G n ad H.size I1 L R (nI ((6 + (6 * a1)) + b1)) (nI (ch i1) - nI 48)) (by omega) (ct_o6 kd_71) rfl ⟨rfl, rfl⟩ ⟨Nat.le_of_ble_eq_true rfl, Nat.le_of_ble_eq_true rfl⟩ ⟨(Nat.le_of_ble_eq_true rfl), (Nat.le_of_ble_eq_true rfl)⟩ hl.1 rfl rfl (Nat.le_of_ble_eq_true rfl) dX6_read_361) hW (fun I_361 L_361 H locs hp hW => ?_)
            obtain ⟨rfl, rfl⟩ := hp
            refine lv_goto (tgt := 527) hx hb dX6_read_364 (by decide) ?_
            refine lv_iload hx hb dX6_read_527 (lv_at hl 0 rfl) ?_
            refine lv_if_ge (tgt := 535) hx hb dX6_read_529 (by decide) (fun c_529 => absurd c_529 (by decide)) (fun c_529 => ?_)
            refine lv_iload hx hb dX6_read_532 (lv_at hl 12 rfl) ?_
            exact q_iret1 hC hW hr hlk0 ⟨fun a h1 => by by_cases e : a = 72; (rw [e]; exact hX.2.2.2.1); exact hX.2.2.2.2.1 a h1 e, hX.2.2.2.2.2, rfl, Or.inl ⟨i1, hX.2.1, FLx hX (by omega) (s5_n (Or.inl hp_10)), rfl⟩⟩ dX6_read_534
          ·
            have hp_10 : 48 ≤ ch i1 ∧ ch i1 ≤ 51 := bI_1 c_306
            rw [bI_t hp_10] at hl
            rw [show nI (ch i1) - nI 48 = nI (ch i1 - 48) from pk_sub (by omega)] at hl
            refine lv_iload hx hb dX6_read_309 (lv_at hl 4 rfl) ?_
            refine q_ieq (tgt := 323) hx hb dX6_read_311 (by decide) (by first | omega | exact Nat.lt_of_le_of_lt (hw3 _) (by decide)) (fun c_311 => ?_) (fun c_311 => ?_)
            ·
              refine q_bp 9 hx hb dX6_read_323 (by decide) ?_
              refine lv_goto (tgt := 330) hx hb dX6_read_325 (by decide) ?_
              refine lv_istore (lv' := [(12, .int (nI 9)), (11, .int (bI (97 ≤ ch i1 ∧ ch i1 ≤ 100))), (10, .int (nI 1)), (9, .int (bI (48 ≤ ch i1 ∧ ch i1 ≤ 53))), (8, .int (nI (ch i1 - 48))), (7, .int (nI (ch i1))), (0, .ref (ad 71)), (1, .int (nI 0)), (2, .int (nI 5)), (3, .int (nI (a1))), (4, .int (nI (b1))), (5, .int (x5)), (6, .int (nI (i1)))]) hx hb dX6_read_330 hl (by decide) rfl (fun ls hl => ?_)
              refine lv_aload_n hx hb dX6_read_332 rfl (lv_at hl 6 rfl) ?_
              refine lv_iload_n hx hb dX6_read_333 rfl (lv_at hl 7 rfl) ?_
              refine q_ieq (tgt := 348) hx hb dX6_read_334 (by decide) (by first | omega | exact Nat.lt_of_le_of_lt (hw3 _) (by decide)) (fun c_334 => ?_) (fun c_334 => absurd c_334 (by decide))
              refine q_ic 0 hx hb dX6_read_348 (by decide) ?_
              refine q_bp 6 hx hb dX6_read_349 (by decide) ?_
              refine q_bp 6 hx hb dX6_read_351 (by decide) ?_
              refine lv_iload_n hx hb dX6_read_353 rfl (lv_at hl 9 rfl) ?_
              refine q_imul hx hb dX6_read_354 ?_
              refine q_iadd hx hb dX6_read_355 ?_
              refine lv_iload hx hb dX6_read_356 (lv_at hl 10 rfl) ?_
              refine q_iadd hx hb dX6_read_358 ?_
              refine lv_iload hx hb dX6_read_359 (lv_at hl 4 rfl) ?_
              refine q_kV1 (q_rV (As := [.int (nI 0), .int (nI ((6 + (6 * a1)) + b1)), .int (nI (ch i1 - 48))]) (rest := []) (x := 71) hC hW mw_X6_lay gw_736 (k_lay0 l G n ad H.size I1 L R (nI ((6 + (6 * a1)) + b1)) (nI (ch i1 - 48))) (by omega) (ct_o6 kd_71) rfl ⟨rfl, rfl⟩ ⟨Nat.le_of_ble_eq_true rfl, Nat.le_of_ble_eq_true rfl⟩ ⟨(Nat.le_of_ble_eq_true rfl), (Nat.le_of_ble_eq_true rfl)⟩ hl.1 rfl rfl (Nat.le_of_ble_eq_true rfl) dX6_read_361) hW (fun I_361 L_361 H locs hp hW => ?_)
              obtain ⟨rfl, rfl⟩ := hp
              refine lv_goto (tgt := 527) hx hb dX6_read_364 (by decide) ?_
              refine lv_iload hx hb dX6_read_527 (lv_at hl 0 rfl) ?_
              refine lv_if_ge (tgt := 535) hx hb dX6_read_529 (by decide) (fun c_529 => ?_) (fun c_529 => absurd c_529 (by decide))
              refine lv_aload_n hx hb dX6_read_535 rfl (lv_at hl 6 rfl) ?_
              refine lv_dup hx hb dX6_read_536 rfl ?_
              refine g_6_15 (x := 71) hC hW (by omega) kd_71 gw_498 dX6_read_537 ?_
              refine q_top (v2 := .int (nI (p1))) (congrArg _ hX.2.2.1) ?_
              refine lv_iload hx hb dX6_read_540 (lv_at hl 0 rfl) ?_
              refine q_ine (tgt := 549) hx hb dX6_read_542 (by decide) (by first | omega | exact Nat.lt_of_le_of_lt (hw3 _) (by decide)) (fun c_542 => ?_) (fun c_542 => absurd c_542 (by decide))
              refine q_ic 0 hx hb dX6_read_549 (by decide) ?_
              refine q_iadd hx hb dX6_read_550 ?_
              refine p_6_15 (x := 71) (v := nI (p1 + 0)) hC hW (by omega) kd_71 gw_498 dX6_read_551 (fun H locs hW => ?_)
              refine lv_iload hx hb dX6_read_554 (lv_at hl 0 rfl) ?_
              refine lv_istore_n (lv' := [(2, .int (nI 9)), (12, .int (nI 9)), (11, .int (bI (97 ≤ ch i1 ∧ ch i1 ≤ 100))), (10, .int (nI 1)), (9, .int (bI (48 ≤ ch i1 ∧ ch i1 ≤ 53))), (8, .int (nI (ch i1 - 48))), (7, .int (nI (ch i1))), (0, .ref (ad 71)), (1, .int (nI 0)), (3, .int (nI (a1))), (4, .int (nI (b1))), (5, .int (x5)), (6, .int (nI (i1)))]) hx hb dX6_read_556 rfl hl (by decide) rfl (fun ls hl => ?_)
              refine q_iinc (z2 := i1 + 1) (lv' := [(6, .int (nI (i1 + 1))), (2, .int (nI 9)), (12, .int (nI 9)), (11, .int (bI (97 ≤ ch i1 ∧ ch i1 ≤ 100))), (10, .int (nI 1)), (9, .int (bI (48 ≤ ch i1 ∧ ch i1 ≤ 53))), (8, .int (nI (ch i1 - 48))), (7, .int (nI (ch i1))), (0, .ref (ad 71)), (1, .int (nI 0)), (3, .int (nI (a1))), (4, .int (nI (b1))), (5, .int (x5))]) hx hb dX6_read_557 hl (k := 12) rfl (inc_up _ 1 (by decide)) (by decide) rfl (fun ls hl => ?_)
              refine lv_goto (tgt := 18) hx hb dX6_read_560 (by decide) ?_
              exact ih_18 (i1 + 1) 9 a1 b1 m1 p1 (upN w1 (a1 * 6 + b1) (ch i1 - 48)) K1 r1 (nI a1) (nI b1) x5 (up2 I1 71 15 (nI (p1 + 0))) (by omega) (PX_g hX (by omega) (s5_9 hp_10 (Or.inl (by omega))) (fun _ _ => rfl) (hX.2.2.2.1) rfl) QX_9 _ _ hW _ (lv_sub hl [8, 9, 1, 10, 11, 12, 0] rfl)
            ·
              refine lv_iload_n hx hb dX6_read_314 rfl (lv_at hl 9 rfl) ?_
              refine lv_iload hx hb dX6_read_315 (lv_at hl 10 rfl) ?_
              refine q_kI0 (q_rS (As := [.int (nI (a1)), .int (nI (b1))]) (rest := []) hC hW mw_X6_isNought gw_543 (k_isNought l G n ad H.size I1 L R _ _ (by omega) (by omega)) ⟨rfl, rfl⟩ ⟨Nat.le_of_ble_eq_true rfl, Nat.le_of_ble_eq_true rfl⟩ ⟨(Nat.le_of_ble_eq_true rfl), (Nat.le_of_ble_eq_true rfl)⟩ hl.1 rfl rfl (Nat.le_of_ble_eq_true rfl) dX6_read_317) hW (fun r_317 H locs hp hW => ?_)
              rcases hp with ⟨hb_317, rfl⟩ | ⟨hb_317, rfl⟩
              ·
                refine q_ine (tgt := 328) hx hb dX6_read_320 (by decide) (by first | omega | exact Nat.lt_of_le_of_lt (hw3 _) (by decide)) (fun c_320 => ?_) (fun c_320 => absurd c_320 (by decide))
                refine lv_bipush (v := -6) hx hb dX6_read_328 (by decide) ?_
                refine lv_istore (lv' := [(12, .int (-6)), (11, .int (bI (97 ≤ ch i1 ∧ ch i1 ≤ 100))), (10, .int (nI 1)), (9, .int (bI (48 ≤ ch i1 ∧ ch i1 ≤ 53))), (8, .int (nI (ch i1 - 48))), (7, .int (nI (ch i1))), (0, .ref (ad 71)), (1, .int (nI 0)), (2, .int (nI 5)), (3, .int (nI (a1))), (4, .int (nI (b1))), (5, .int (x5)), (6, .int (nI (i1)))]) hx hb dX6_read_330 hl (by decide) rfl (fun ls hl => ?_)
                refine lv_aload_n hx hb dX6_read_332 rfl (lv_at hl 6 rfl) ?_
                refine lv_iload_n hx hb dX6_read_333 rfl (lv_at hl 7 rfl) ?_
                refine q_ieq (tgt := 348) hx hb dX6_read_334 (by decide) (by first | omega | exact Nat.lt_of_le_of_lt (hw3 _) (by decide)) (fun c_334 => ?_) (fun c_334 => absurd c_334 (by decide))
                refine q_ic 0 hx hb dX6_read_348 (by decide) ?_
                refine q_bp 6 hx hb dX6_read_349 (by decide) ?_
                refine q_bp 6 hx hb dX6_read_351 (by decide) ?_
                refine lv_iload_n hx hb dX6_read_353 rfl (lv_at hl 9 rfl) ?_
                refine q_imul hx hb dX6_read_354 ?_
                refine q_iadd hx hb dX6_read_355 ?_
                refine lv_iload hx hb dX6_read_356 (lv_at hl 10 rfl) ?_
                refine q_iadd hx hb dX6_read_358 ?_
                refine lv_iload hx hb dX6_read_359 (lv_at hl 4 rfl) ?_
                refine q_kV1 (q_rV (As := [.int (nI 0), .int (nI ((6 + (6 * a1)) + b1)), .int (nI (ch i1 - 48))]) (rest := []) (x := 71) hC hW mw_X6_lay gw_736 (k_lay0 l G n ad H.size I1 L R (nI ((6 + (6 * a1)) + b1)) (nI (ch i1 - 48))) (by omega) (ct_o6 kd_71) rfl ⟨rfl, rfl⟩ ⟨Nat.le_of_ble_eq_true rfl, Nat.le_of_ble_eq_true rfl⟩ ⟨(Nat.le_of_ble_eq_true rfl), (Nat.le_of_ble_eq_true rfl)⟩ hl.1 rfl rfl (Nat.le_of_ble_eq_true rfl) dX6_read_361) hW (fun I_361 L_361 H locs hp hW => ?_)
                obtain ⟨rfl, rfl⟩ := hp
                refine lv_goto (tgt := 527) hx hb dX6_read_364 (by decide) ?_
                refine lv_iload hx hb dX6_read_527 (lv_at hl 0 rfl) ?_
                refine lv_if_ge (tgt := 535) hx hb dX6_read_529 (by decide) (fun c_529 => absurd c_529 (by decide)) (fun c_529 => ?_)
                refine lv_iload hx hb dX6_read_532 (lv_at hl 12 rfl) ?_
                exact q_iret1 hC hW hr hlk0 ⟨fun a h1 => by by_cases e : a = 72; (rw [e]; exact hX.2.2.2.1); exact hX.2.2.2.2.1 a h1 e, hX.2.2.2.2.2, rfl, Or.inl ⟨i1, hX.2.1, FLx hX (by omega) (s5_n (Or.inr ⟨by omega, hb_317⟩)), rfl⟩⟩ dX6_read_534
              ·
                refine q_ine (tgt := 328) hx hb dX6_read_320 (by decide) (by first | omega | exact Nat.lt_of_le_of_lt (hw3 _) (by decide)) (fun c_320 => absurd c_320 (by decide)) (fun c_320 => ?_)
                refine q_bp 9 hx hb dX6_read_323 (by decide) ?_
                refine lv_goto (tgt := 330) hx hb dX6_read_325 (by decide) ?_
                refine lv_istore (lv' := [(12, .int (nI 9)), (11, .int (bI (97 ≤ ch i1 ∧ ch i1 ≤ 100))), (10, .int (nI 1)), (9, .int (bI (48 ≤ ch i1 ∧ ch i1 ≤ 53))), (8, .int (nI (ch i1 - 48))), (7, .int (nI (ch i1))), (0, .ref (ad 71)), (1, .int (nI 0)), (2, .int (nI 5)), (3, .int (nI (a1))), (4, .int (nI (b1))), (5, .int (x5)), (6, .int (nI (i1)))]) hx hb dX6_read_330 hl (by decide) rfl (fun ls hl => ?_)
                refine lv_aload_n hx hb dX6_read_332 rfl (lv_at hl 6 rfl) ?_
                refine lv_iload_n hx hb dX6_read_333 rfl (lv_at hl 7 rfl) ?_
                refine q_ieq (tgt := 348) hx hb dX6_read_334 (by decide) (by first | omega | exact Nat.lt_of_le_of_lt (hw3 _) (by decide)) (fun c_334 => ?_) (fun c_334 => absurd c_334 (by decide))
                refine q_ic 0 hx hb dX6_read_348 (by decide) ?_
                refine q_bp 6 hx hb dX6_read_349 (by decide) ?_
                refine q_bp 6 hx hb dX6_read_351 (by decide) ?_
                refine lv_iload_n hx hb dX6_read_353 rfl (lv_at hl 9 rfl) ?_
                refine q_imul hx hb dX6_read_354 ?_
                refine q_iadd hx hb dX6_read_355 ?_
                refine lv_iload hx hb dX6_read_356 (lv_at hl 10 rfl) ?_
                refine q_iadd hx hb dX6_read_358 ?_
                refine lv_iload hx hb dX6_read_359 (lv_at hl 4 rfl) ?_
                refine q_kV1 (q_rV (As := [.int (nI 0), .int (nI ((6 + (6 * a1)) + b1)), .int (nI (ch i1 - 48))]) (rest := []) (x := 71) hC hW mw_X6_lay gw_736 (k_lay0 l G n ad H.size I1 L R (nI ((6 + (6 * a1)) + b1)) (nI (ch i1 - 48))) (by omega) (ct_o6 kd_71) rfl ⟨rfl, rfl⟩ ⟨Nat.le_of_ble_eq_true rfl, Nat.le_of_ble_eq_true rfl⟩ ⟨(Nat.le_of_ble_eq_true rfl), (Nat.le_of_ble_eq_true rfl)⟩ hl.1 rfl rfl (Nat.le_of_ble_eq_true rfl) dX6_read_361) hW (fun I_361 L_361 H locs hp hW => ?_)
                obtain ⟨rfl, rfl⟩ := hp
                refine lv_goto (tgt := 527) hx hb dX6_read_364 (by decide) ?_
                refine lv_iload hx hb dX6_read_527 (lv_at hl 0 rfl) ?_
                refine lv_if_ge (tgt := 535) hx hb dX6_read_529 (by decide) (fun c_529 => ?_) (fun c_529 => absurd c_529 (by decide))
                refine lv_aload_n hx hb dX6_read_535 rfl (lv_at hl 6 rfl) ?_
                refine lv_dup hx hb dX6_read_536 rfl ?_
                refine g_6_15 (x := 71) hC hW (by omega) kd_71 gw_498 dX6_read_537 ?_
                refine q_top (v2 := .int (nI (p1))) (congrArg _ hX.2.2.1) ?_
                refine lv_iload hx hb dX6_read_540 (lv_at hl 0 rfl) ?_
                refine q_ine (tgt := 549) hx hb dX6_read_542 (by decide) (by first | omega | exact Nat.lt_of_le_of_lt (hw3 _) (by decide)) (fun c_542 => ?_) (fun c_542 => absurd c_542 (by decide))
                refine q_ic 0 hx hb dX6_read_549 (by decide) ?_
                refine q_iadd hx hb dX6_read_550 ?_
                refine p_6_15 (x := 71) (v := nI (p1 + 0)) hC hW (by omega) kd_71 gw_498 dX6_read_551 (fun H locs hW => ?_)
                refine lv_iload hx hb dX6_read_554 (lv_at hl 0 rfl) ?_
                refine lv_istore_n (lv' := [(2, .int (nI 9)), (12, .int (nI 9)), (11, .int (bI (97 ≤ ch i1 ∧ ch i1 ≤ 100))), (10, .int (nI 1)), (9, .int (bI (48 ≤ ch i1 ∧ ch i1 ≤ 53))), (8, .int (nI (ch i1 - 48))), (7, .int (nI (ch i1))), (0, .ref (ad 71)), (1, .int (nI 0)), (3, .int (nI (a1))), (4, .int (nI (b1))), (5, .int (x5)), (6, .int (nI (i1)))]) hx hb dX6_read_556 rfl hl (by decide) rfl (fun ls hl => ?_)
                refine q_iinc (z2 := i1 + 1) (lv' := [(6, .int (nI (i1 + 1))), (2, .int (nI 9)), (12, .int (nI 9)), (11, .int (bI (97 ≤ ch i1 ∧ ch i1 ≤ 100))), (10, .int (nI 1)), (9, .int (bI (48 ≤ ch i1 ∧ ch i1 ≤ 53))), (8, .int (nI (ch i1 - 48))), (7, .int (nI (ch i1))), (0, .ref (ad 71)), (1, .int (nI 0)), (3, .int (nI (a1))), (4, .int (nI (b1))), (5, .int (x5))]) hx hb dX6_read_557 hl (k := 12) rfl (inc_up _ 1 (by decide)) (by decide) rfl (fun ls hl => ?_)
                refine lv_goto (tgt := 18) hx hb dX6_read_560 (by decide) ?_
                exact ih_18 (i1 + 1) 9 a1 b1 m1 p1 (upN w1 (a1 * 6 + b1) (ch i1 - 48)) K1 r1 (nI a1) (nI b1) x5 (up2 I1 71 15 (nI (p1 + 0))) (by omega) (PX_g hX (by omega) (s5_9 hp_10 (Or.inr hb_317)) (fun _ _ => rfl) (hX.2.2.2.1) rfl) QX_9 _ _ hW _ (lv_sub hl [8, 9, 1, 10, 11, 12, 0] rfl)
        ·
          obtain ⟨rfl, ha6, ha4⟩ := hQ.1 (by decide) (by decide)
          have ha4 := ha4 (by decide)
          refine lv_tableIn (off := 290) (tgt := 367) hx hb dX6_read_77 (by decide) (by decide) rfl (by decide) ?_
          refine lv_iload hx hb dX6_read_367 (lv_at hl 1 rfl) ?_
          refine lv_if_eq (tgt := 377) hx hb dX6_read_369 (by decide) (fun c_369 => ?_) (fun c_369 => ?_)
          ·
            have hp_11 : ¬ (97 ≤ ch i1 ∧ ch i1 ≤ 100) := bI_0 c_369
            rw [bI_f hp_11] at hl
            refine lv_bipush (v := -6) hx hb dX6_read_377 (by decide) ?_
            refine lv_istore (lv' := [(12, .int (-6)), (11, .int (nI 0)), (10, .int (bI (48 ≤ ch i1 ∧ ch i1 ≤ 51))), (9, .int (bI (48 ≤ ch i1 ∧ ch i1 ≤ 53))), (8, .int (nI (ch i1) - nI 48)), (7, .int (nI (ch i1))), (0, .ref (ad 71)), (1, .int (nI 0)), (2, .int (nI 6)), (3, .int (nI (a1))), (4, .int (x4)), (5, .int (x5)), (6, .int (nI (i1)))]) hx hb dX6_read_379 hl (by decide) rfl (fun ls hl => ?_)
            refine lv_iload hx hb dX6_read_381 (lv_at hl 5 rfl) ?_
            refine q_bp 97 hx hb dX6_read_383 (by decide) ?_
            refine lv_isub hx hb dX6_read_385 ?_
            refine lv_istore (lv' := [(4, .int (nI (ch i1) - nI 97)), (12, .int (-6)), (11, .int (nI 0)), (10, .int (bI (48 ≤ ch i1 ∧ ch i1 ≤ 51))), (9, .int (bI (48 ≤ ch i1 ∧ ch i1 ≤ 53))), (8, .int (nI (ch i1) - nI 48)), (7, .int (nI (ch i1))), (0, .ref (ad 71)), (1, .int (nI 0)), (2, .int (nI 6)), (3, .int (nI (a1))), (5, .int (x5)), (6, .int (nI (i1)))]) hx hb dX6_read_386 hl (by decide) rfl (fun ls hl => ?_)
            refine lv_goto (tgt := 527) hx hb dX6_read_388 (by decide) ?_
            refine lv_iload hx hb dX6_read_527 (lv_at hl 1 rfl) ?_
            refine lv_if_ge (tgt := 535) hx hb dX6_read_529 (by decide) (fun c_529 => absurd c_529 (by decide)) (fun c_529 => ?_)
            refine lv_iload hx hb dX6_read_532 (lv_at hl 12 rfl) ?_
            exact q_iret1 hC hW hr hlk0 ⟨fun a h1 => by by_cases e : a = 72; (rw [e]; exact hX.2.2.2.1); exact hX.2.2.2.2.1 a h1 e, hX.2.2.2.2.2, rfl, Or.inl ⟨i1, hX.2.1, FLx hX (by omega) (s6_n hp_11), rfl⟩⟩ dX6_read_534
          ·
            have hp_11 : 97 ≤ ch i1 ∧ ch i1 ≤ 100 := bI_1 c_369
            rw [bI_t hp_11] at hl
            refine q_bp 7 hx hb dX6_read_372 (by decide) ?_
            refine lv_goto (tgt := 379) hx hb dX6_read_374 (by decide) ?_
            refine lv_istore (lv' := [(12, .int (nI 7)), (11, .int (nI 1)), (10, .int (bI (48 ≤ ch i1 ∧ ch i1 ≤ 51))), (9, .int (bI (48 ≤ ch i1 ∧ ch i1 ≤ 53))), (8, .int (nI (ch i1) - nI 48)), (7, .int (nI (ch i1))), (0, .ref (ad 71)), (1, .int (nI 0)), (2, .int (nI 6)), (3, .int (nI (a1))), (4, .int (x4)), (5, .int (x5)), (6, .int (nI (i1)))]) hx hb dX6_read_379 hl (by decide) rfl (fun ls hl => ?_)
            refine lv_iload hx hb dX6_read_381 (lv_at hl 5 rfl) ?_
            refine q_bp 97 hx hb dX6_read_383 (by decide) ?_
            refine lv_isub hx hb dX6_read_385 ?_
            refine lv_istore (lv' := [(4, .int (nI (ch i1) - nI 97)), (12, .int (nI 7)), (11, .int (nI 1)), (10, .int (bI (48 ≤ ch i1 ∧ ch i1 ≤ 51))), (9, .int (bI (48 ≤ ch i1 ∧ ch i1 ≤ 53))), (8, .int (nI (ch i1) - nI 48)), (7, .int (nI (ch i1))), (0, .ref (ad 71)), (1, .int (nI 0)), (2, .int (nI 6)), (3, .int (nI (a1))), (5, .int (x5)), (6, .int (nI (i1)))]) hx hb dX6_read_386 hl (by decide) rfl (fun ls hl => ?_)
            refine lv_goto (tgt := 527) hx hb dX6_read_388 (by decide) ?_
            refine lv_iload hx hb dX6_read_527 (lv_at hl 1 rfl) ?_
            refine lv_if_ge (tgt := 535) hx hb dX6_read_529 (by decide) (fun c_529 => ?_) (fun c_529 => absurd c_529 (by decide))
            refine lv_aload_n hx hb dX6_read_535 rfl (lv_at hl 7 rfl) ?_
            refine lv_dup hx hb dX6_read_536 rfl ?_
            refine g_6_15 (x := 71) hC hW (by omega) kd_71 gw_498 dX6_read_537 ?_
            refine q_top (v2 := .int (nI (p1))) (congrArg _ hX.2.2.1) ?_
            refine lv_iload hx hb dX6_read_540 (lv_at hl 1 rfl) ?_
            refine q_ine (tgt := 549) hx hb dX6_read_542 (by decide) (by first | omega | exact Nat.lt_of_le_of_lt (hw3 _) (by decide)) (fun c_542 => ?_) (fun c_542 => absurd c_542 (by decide))
            refine q_ic 0 hx hb dX6_read_549 (by decide) ?_
            refine q_iadd hx hb dX6_read_550 ?_
            refine p_6_15 (x := 71) (v := nI (p1 + 0)) hC hW (by omega) kd_71 gw_498 dX6_read_551 (fun H locs hW => ?_)
            refine lv_iload hx hb dX6_read_554 (lv_at hl 1 rfl) ?_
            refine lv_istore_n (lv' := [(2, .int (nI 7)), (4, .int (nI (ch i1) - nI 97)), (12, .int (nI 7)), (11, .int (nI 1)), (10, .int (bI (48 ≤ ch i1 ∧ ch i1 ≤ 51))), (9, .int (bI (48 ≤ ch i1 ∧ ch i1 ≤ 53))), (8, .int (nI (ch i1) - nI 48)), (7, .int (nI (ch i1))), (0, .ref (ad 71)), (1, .int (nI 0)), (3, .int (nI (a1))), (5, .int (x5)), (6, .int (nI (i1)))]) hx hb dX6_read_556 rfl hl (by decide) rfl (fun ls hl => ?_)
            refine q_iinc (z2 := i1 + 1) (lv' := [(6, .int (nI (i1 + 1))), (2, .int (nI 7)), (4, .int (nI (ch i1) - nI 97)), (12, .int (nI 7)), (11, .int (nI 1)), (10, .int (bI (48 ≤ ch i1 ∧ ch i1 ≤ 51))), (9, .int (bI (48 ≤ ch i1 ∧ ch i1 ≤ 53))), (8, .int (nI (ch i1) - nI 48)), (7, .int (nI (ch i1))), (0, .ref (ad 71)), (1, .int (nI 0)), (3, .int (nI (a1))), (5, .int (x5))]) hx hb dX6_read_557 hl (k := 12) rfl (inc_up _ 1 (by decide)) (by decide) rfl (fun ls hl => ?_)
            refine lv_goto (tgt := 18) hx hb dX6_read_560 (by decide) ?_
            exact ih_18 (i1 + 1) 7 a1 (ch i1 - 97) m1 p1 w1 K1 r1 (nI a1) (nI (ch i1) - nI 97) x5 (up2 I1 71 15 (nI (p1 + 0))) (by omega) (PX_g hX (by omega) (s6_7 hp_11) (fun _ _ => rfl) (hX.2.2.2.1) rfl) (QX_7 (by omega) (by omega) (pk_sub (by omega))) _ _ hW _ (lv_sub hl [9, 10, 1, 11, 2, 12, 0] rfl)
        ·
          obtain ⟨rfl, ha6, ha4⟩ := hQ.1 (by decide) (by decide)
          have ha4 := ha4 (by decide)
          obtain ⟨rfl, hb4⟩ := hQ.2.2.1 rfl
          refine lv_tableIn (off := 314) (tgt := 391) hx hb dX6_read_77 (by decide) (by decide) rfl (by decide) ?_
          refine lv_iload hx hb dX6_read_391 (lv_at hl 2 rfl) ?_
          refine lv_if_eq (tgt := 401) hx hb dX6_read_393 (by decide) (fun c_393 => ?_) (fun c_393 => ?_)
          ·
            have hp_10 : ¬ (48 ≤ ch i1 ∧ ch i1 ≤ 51) := bI_0 c_393
            rw [bI_f hp_10] at hl
            refine lv_bipush (v := -6) hx hb dX6_read_401 (by decide) ?_
            refine lv_istore (lv' := [(12, .int (-6)), (11, .int (bI (97 ≤ ch i1 ∧ ch i1 ≤ 100))), (10, .int (nI 0)), (9, .int (bI (48 ≤ ch i1 ∧ ch i1 ≤ 53))), (8, .int (nI (ch i1) - nI 48)), (7, .int (nI (ch i1))), (0, .ref (ad 71)), (1, .int (nI 0)), (2, .int (nI 7)), (3, .int (nI (a1))), (4, .int (nI (b1))), (5, .int (x5)), (6, .int (nI (i1)))]) hx hb dX6_read_403 hl (by decide) rfl (fun ls hl => ?_)
            refine lv_aload_n hx hb dX6_read_405 rfl (lv_at hl 6 rfl) ?_
            refine lv_iload_n hx hb dX6_read_406 rfl (lv_at hl 7 rfl) ?_
            refine q_ieq (tgt := 419) hx hb dX6_read_407 (by decide) (by first | omega | exact Nat.lt_of_le_of_lt (hw3 _) (by decide)) (fun c_407 => ?_) (fun c_407 => absurd c_407 (by decide))
            refine q_ic 0 hx hb dX6_read_419 (by decide) ?_
            refine q_bp 42 hx hb dX6_read_420 (by decide) ?_
            refine q_ic 4 hx hb dX6_read_422 (by decide) ?_
            refine lv_iload_n hx hb dX6_read_423 rfl (lv_at hl 9 rfl) ?_
            refine q_imul hx hb dX6_read_424 ?_
            refine q_iadd hx hb dX6_read_425 ?_
            refine lv_iload hx hb dX6_read_426 (lv_at hl 10 rfl) ?_
            refine q_iadd hx hb dX6_read_428 ?_
            refine lv_iload hx hb dX6_read_429 (lv_at hl 4 rfl) ?_
            refine q_kV1 (q_rV (As := [.int (nI 0), .int (nI ((42 + (4 * a1)) + b1)), .int (nI (ch i1) - nI 48)]) (rest := []) (x := 71) hC hW mw_X6_lay gw_736 (k_lay0 l G n ad H.size I1 L R (nI ((42 + (4 * a1)) + b1)) (nI (ch i1) - nI 48)) (by omega) (ct_o6 kd_71) rfl ⟨rfl, rfl⟩ ⟨Nat.le_of_ble_eq_true rfl, Nat.le_of_ble_eq_true rfl⟩ ⟨(Nat.le_of_ble_eq_true rfl), (Nat.le_of_ble_eq_true rfl)⟩ hl.1 rfl rfl (Nat.le_of_ble_eq_true rfl) dX6_read_431) hW (fun I_431 L_431 H locs hp hW => ?_)
            obtain ⟨rfl, rfl⟩ := hp
            refine lv_goto (tgt := 527) hx hb dX6_read_434 (by decide) ?_
            refine lv_iload hx hb dX6_read_527 (lv_at hl 0 rfl) ?_
            refine lv_if_ge (tgt := 535) hx hb dX6_read_529 (by decide) (fun c_529 => absurd c_529 (by decide)) (fun c_529 => ?_)
            refine lv_iload hx hb dX6_read_532 (lv_at hl 12 rfl) ?_
            exact q_iret1 hC hW hr hlk0 ⟨fun a h1 => by by_cases e : a = 72; (rw [e]; exact hX.2.2.2.1); exact hX.2.2.2.2.1 a h1 e, hX.2.2.2.2.2, rfl, Or.inl ⟨i1, hX.2.1, FLx hX (by omega) (s7_n hp_10), rfl⟩⟩ dX6_read_534
          ·
            have hp_10 : 48 ≤ ch i1 ∧ ch i1 ≤ 51 := bI_1 c_393
            rw [bI_t hp_10] at hl
            rw [show nI (ch i1) - nI 48 = nI (ch i1 - 48) from pk_sub (by omega)] at hl
            refine q_bp 9 hx hb dX6_read_396 (by decide) ?_
            refine lv_goto (tgt := 403) hx hb dX6_read_398 (by decide) ?_
            refine lv_istore (lv' := [(12, .int (nI 9)), (11, .int (bI (97 ≤ ch i1 ∧ ch i1 ≤ 100))), (10, .int (nI 1)), (9, .int (bI (48 ≤ ch i1 ∧ ch i1 ≤ 53))), (8, .int (nI (ch i1 - 48))), (7, .int (nI (ch i1))), (0, .ref (ad 71)), (1, .int (nI 0)), (2, .int (nI 7)), (3, .int (nI (a1))), (4, .int (nI (b1))), (5, .int (x5)), (6, .int (nI (i1)))]) hx hb dX6_read_403 hl (by decide) rfl (fun ls hl => ?_)
            refine lv_aload_n hx hb dX6_read_405 rfl (lv_at hl 6 rfl) ?_
            refine lv_iload_n hx hb dX6_read_406 rfl (lv_at hl 7 rfl) ?_
            refine q_ieq (tgt := 419) hx hb dX6_read_407 (by decide) (by first | omega | exact Nat.lt_of_le_of_lt (hw3 _) (by decide)) (fun c_407 => ?_) (fun c_407 => absurd c_407 (by decide))
            refine q_ic 0 hx hb dX6_read_419 (by decide) ?_
            refine q_bp 42 hx hb dX6_read_420 (by decide) ?_
            refine q_ic 4 hx hb dX6_read_422 (by decide) ?_
            refine lv_iload_n hx hb dX6_read_423 rfl (lv_at hl 9 rfl) ?_
            refine q_imul hx hb dX6_read_424 ?_
            refine q_iadd hx hb dX6_read_425 ?_
            refine lv_iload hx hb dX6_read_426 (lv_at hl 10 rfl) ?_
            refine q_iadd hx hb dX6_read_428 ?_
            refine lv_iload hx hb dX6_read_429 (lv_at hl 4 rfl) ?_
            refine q_kV1 (q_rV (As := [.int (nI 0), .int (nI ((42 + (4 * a1)) + b1)), .int (nI (ch i1 - 48))]) (rest := []) (x := 71) hC hW mw_X6_lay gw_736 (k_lay0 l G n ad H.size I1 L R (nI ((42 + (4 * a1)) + b1)) (nI (ch i1 - 48))) (by omega) (ct_o6 kd_71) rfl ⟨rfl, rfl⟩ ⟨Nat.le_of_ble_eq_true rfl, Nat.le_of_ble_eq_true rfl⟩ ⟨(Nat.le_of_ble_eq_true rfl), (Nat.le_of_ble_eq_true rfl)⟩ hl.1 rfl rfl (Nat.le_of_ble_eq_true rfl) dX6_read_431) hW (fun I_431 L_431 H locs hp hW => ?_)
            obtain ⟨rfl, rfl⟩ := hp
            refine lv_goto (tgt := 527) hx hb dX6_read_434 (by decide) ?_
            refine lv_iload hx hb dX6_read_527 (lv_at hl 0 rfl) ?_
            refine lv_if_ge (tgt := 535) hx hb dX6_read_529 (by decide) (fun c_529 => ?_) (fun c_529 => absurd c_529 (by decide))
            refine lv_aload_n hx hb dX6_read_535 rfl (lv_at hl 6 rfl) ?_
            refine lv_dup hx hb dX6_read_536 rfl ?_
            refine g_6_15 (x := 71) hC hW (by omega) kd_71 gw_498 dX6_read_537 ?_
            refine q_top (v2 := .int (nI (p1))) (congrArg _ hX.2.2.1) ?_
            refine lv_iload hx hb dX6_read_540 (lv_at hl 0 rfl) ?_
            refine q_ine (tgt := 549) hx hb dX6_read_542 (by decide) (by first | omega | exact Nat.lt_of_le_of_lt (hw3 _) (by decide)) (fun c_542 => ?_) (fun c_542 => absurd c_542 (by decide))
            refine q_ic 0 hx hb dX6_read_549 (by decide) ?_
            refine q_iadd hx hb dX6_read_550 ?_
            refine p_6_15 (x := 71) (v := nI (p1 + 0)) hC hW (by omega) kd_71 gw_498 dX6_read_551 (fun H locs hW => ?_)
            refine lv_iload hx hb dX6_read_554 (lv_at hl 0 rfl) ?_
            refine lv_istore_n (lv' := [(2, .int (nI 9)), (12, .int (nI 9)), (11, .int (bI (97 ≤ ch i1 ∧ ch i1 ≤ 100))), (10, .int (nI 1)), (9, .int (bI (48 ≤ ch i1 ∧ ch i1 ≤ 53))), (8, .int (nI (ch i1 - 48))), (7, .int (nI (ch i1))), (0, .ref (ad 71)), (1, .int (nI 0)), (3, .int (nI (a1))), (4, .int (nI (b1))), (5, .int (x5)), (6, .int (nI (i1)))]) hx hb dX6_read_556 rfl hl (by decide) rfl (fun ls hl => ?_)
            refine q_iinc (z2 := i1 + 1) (lv' := [(6, .int (nI (i1 + 1))), (2, .int (nI 9)), (12, .int (nI 9)), (11, .int (bI (97 ≤ ch i1 ∧ ch i1 ≤ 100))), (10, .int (nI 1)), (9, .int (bI (48 ≤ ch i1 ∧ ch i1 ≤ 53))), (8, .int (nI (ch i1 - 48))), (7, .int (nI (ch i1))), (0, .ref (ad 71)), (1, .int (nI 0)), (3, .int (nI (a1))), (4, .int (nI (b1))), (5, .int (x5))]) hx hb dX6_read_557 hl (k := 12) rfl (inc_up _ 1 (by decide)) (by decide) rfl (fun ls hl => ?_)
            refine lv_goto (tgt := 18) hx hb dX6_read_560 (by decide) ?_
            exact ih_18 (i1 + 1) 9 a1 b1 m1 p1 (upN w1 (42 + a1 * 4 + b1) (ch i1 - 48)) K1 r1 (nI a1) (nI b1) x5 (up2 I1 71 15 (nI (p1 + 0))) (by omega) (PX_g hX (by omega) (s7_9 hp_10) (fun _ _ => rfl) (hX.2.2.2.1) rfl) QX_9 _ _ hW _ (lv_sub hl [8, 9, 1, 10, 11, 12, 0] rfl)
        ·
          obtain ⟨rfl, hm6, hKm⟩ := hQ.2.2.2.1 rfl
          subst hKm
          refine lv_tableIn (off := 360) (tgt := 437) hx hb dX6_read_77 (by decide) (by decide) rfl (by decide) ?_
          refine lv_iload hx hb dX6_read_437 (lv_at hl 1 rfl) ?_
          refine lv_if_eq (tgt := 454) hx hb dX6_read_439 (by decide) (fun c_439 => ?_) (fun c_439 => ?_)
          ·
            have hp_11 : ¬ (97 ≤ ch i1 ∧ ch i1 ≤ 100) := bI_0 c_439
            rw [bI_f hp_11] at hl
            refine lv_iload hx hb dX6_read_454 (lv_at hl 5 rfl) ?_
            refine q_bp 59 hx hb dX6_read_456 (by decide) ?_
            refine q_cne (tgt := 465) hx hb dX6_read_458 (by decide) (by first | omega | exact Nat.lt_of_le_of_lt (hw3 _) (by decide)) (by first | omega | exact Nat.lt_of_le_of_lt (hw3 _) (by decide)) (fun c_458 => ?_) (fun c_458 => ?_)
            ·
              refine lv_bipush (v := -6) hx hb dX6_read_465 (by decide) ?_
              refine lv_istore (lv' := [(12, .int (-6)), (11, .int (nI 0)), (10, .int (bI (48 ≤ ch i1 ∧ ch i1 ≤ 51))), (9, .int (bI (48 ≤ ch i1 ∧ ch i1 ≤ 53))), (8, .int (nI (ch i1) - nI 48)), (7, .int (nI (ch i1))), (0, .ref (ad 71)), (1, .int (nI 0)), (2, .int (nI 8)), (3, .int (x3)), (4, .int (x4)), (5, .int (nI (K1))), (6, .int (nI (i1)))]) hx hb dX6_read_467 hl (by decide) rfl (fun ls hl => ?_)
              refine lv_iload hx hb dX6_read_469 (lv_at hl 0 rfl) ?_
              refine q_bp 8 hx hb dX6_read_471 (by decide) ?_
              refine lv_icmp_ne (tgt := 506) hx hb dX6_read_473 (by decide) (fun c_473 => ?_) (fun c_473 => absurd c_473 (by decide))
              refine q_iinc (z2 := K1 + 1) (lv' := [(5, .int (nI (K1 + 1))), (12, .int (-6)), (11, .int (nI 0)), (10, .int (bI (48 ≤ ch i1 ∧ ch i1 ≤ 51))), (9, .int (bI (48 ≤ ch i1 ∧ ch i1 ≤ 53))), (8, .int (nI (ch i1) - nI 48)), (7, .int (nI (ch i1))), (0, .ref (ad 71)), (1, .int (nI 0)), (2, .int (nI 8)), (3, .int (x3)), (4, .int (x4)), (6, .int (nI (i1)))]) hx hb dX6_read_506 hl (k := 11) rfl (inc_up _ 1 (by decide)) (by decide) rfl (fun ls hl => ?_)
              refine lv_goto (tgt := 527) hx hb dX6_read_509 (by decide) ?_
              refine lv_iload hx hb dX6_read_527 (lv_at hl 1 rfl) ?_
              refine lv_if_ge (tgt := 535) hx hb dX6_read_529 (by decide) (fun c_529 => absurd c_529 (by decide)) (fun c_529 => ?_)
              refine lv_iload hx hb dX6_read_532 (lv_at hl 12 rfl) ?_
              exact q_iret1 hC hW hr hlk0 ⟨fun a h1 => by by_cases e : a = 72; (rw [e]; exact hX.2.2.2.1); exact hX.2.2.2.2.1 a h1 e, hX.2.2.2.2.2, rfl, Or.inl ⟨i1, hX.2.1, FLx hX (by omega) (s8_n (by omega) (by omega)), rfl⟩⟩ dX6_read_534
            ·
              refine q_ic 0 hx hb dX6_read_461 (by decide) ?_
              refine lv_goto (tgt := 467) hx hb dX6_read_462 (by decide) ?_
              refine lv_istore (lv' := [(12, .int (nI 0)), (11, .int (nI 0)), (10, .int (bI (48 ≤ ch i1 ∧ ch i1 ≤ 51))), (9, .int (bI (48 ≤ ch i1 ∧ ch i1 ≤ 53))), (8, .int (nI (ch i1) - nI 48)), (7, .int (nI (ch i1))), (0, .ref (ad 71)), (1, .int (nI 0)), (2, .int (nI 8)), (3, .int (x3)), (4, .int (x4)), (5, .int (nI (K1))), (6, .int (nI (i1)))]) hx hb dX6_read_467 hl (by decide) rfl (fun ls hl => ?_)
              refine lv_iload hx hb dX6_read_469 (lv_at hl 0 rfl) ?_
              refine q_bp 8 hx hb dX6_read_471 (by decide) ?_
              refine q_cne (tgt := 506) hx hb dX6_read_473 (by decide) (by first | omega | exact Nat.lt_of_le_of_lt (hw3 _) (by decide)) (by first | omega | exact Nat.lt_of_le_of_lt (hw3 _) (by decide)) (fun c_473 => ?_) (fun c_473 => absurd c_473 (by decide))
              refine q_iinc (z2 := K1 + 1) (lv' := [(5, .int (nI (K1 + 1))), (12, .int (nI 0)), (11, .int (nI 0)), (10, .int (bI (48 ≤ ch i1 ∧ ch i1 ≤ 51))), (9, .int (bI (48 ≤ ch i1 ∧ ch i1 ≤ 53))), (8, .int (nI (ch i1) - nI 48)), (7, .int (nI (ch i1))), (0, .ref (ad 71)), (1, .int (nI 0)), (2, .int (nI 8)), (3, .int (x3)), (4, .int (x4)), (6, .int (nI (i1)))]) hx hb dX6_read_506 hl (k := 11) rfl (inc_up _ 1 (by decide)) (by decide) rfl (fun ls hl => ?_)
              refine lv_goto (tgt := 527) hx hb dX6_read_509 (by decide) ?_
              refine lv_iload hx hb dX6_read_527 (lv_at hl 1 rfl) ?_
              refine lv_if_ge (tgt := 535) hx hb dX6_read_529 (by decide) (fun c_529 => ?_) (fun c_529 => absurd c_529 (by decide))
              refine lv_aload_n hx hb dX6_read_535 rfl (lv_at hl 7 rfl) ?_
              refine lv_dup hx hb dX6_read_536 rfl ?_
              refine g_6_15 (x := 71) hC hW (by omega) kd_71 gw_498 dX6_read_537 ?_
              refine q_top (v2 := .int (nI (p1))) (congrArg _ hX.2.2.1) ?_
              refine lv_iload hx hb dX6_read_540 (lv_at hl 1 rfl) ?_
              refine q_ine (tgt := 549) hx hb dX6_read_542 (by decide) (by first | omega | exact Nat.lt_of_le_of_lt (hw3 _) (by decide)) (fun c_542 => absurd c_542 (by decide)) (fun c_542 => ?_)
              refine q_ic 1 hx hb dX6_read_545 (by decide) ?_
              refine lv_goto (tgt := 550) hx hb dX6_read_546 (by decide) ?_
              refine q_iadd hx hb dX6_read_550 ?_
              refine p_6_15 (x := 71) (v := nI (p1 + 1)) hC hW (by omega) kd_71 gw_498 dX6_read_551 (fun H locs hW => ?_)
              refine lv_iload hx hb dX6_read_554 (lv_at hl 1 rfl) ?_
              refine lv_istore_n (lv' := [(2, .int (nI 0)), (5, .int (nI (K1 + 1))), (12, .int (nI 0)), (11, .int (nI 0)), (10, .int (bI (48 ≤ ch i1 ∧ ch i1 ≤ 51))), (9, .int (bI (48 ≤ ch i1 ∧ ch i1 ≤ 53))), (8, .int (nI (ch i1) - nI 48)), (7, .int (nI (ch i1))), (0, .ref (ad 71)), (1, .int (nI 0)), (3, .int (x3)), (4, .int (x4)), (6, .int (nI (i1)))]) hx hb dX6_read_556 rfl hl (by decide) rfl (fun ls hl => ?_)
              refine q_iinc (z2 := i1 + 1) (lv' := [(6, .int (nI (i1 + 1))), (2, .int (nI 0)), (5, .int (nI (K1 + 1))), (12, .int (nI 0)), (11, .int (nI 0)), (10, .int (bI (48 ≤ ch i1 ∧ ch i1 ≤ 51))), (9, .int (bI (48 ≤ ch i1 ∧ ch i1 ≤ 53))), (8, .int (nI (ch i1) - nI 48)), (7, .int (nI (ch i1))), (0, .ref (ad 71)), (1, .int (nI 0)), (3, .int (x3)), (4, .int (x4))]) hx hb dX6_read_557 hl (k := 12) rfl (inc_up _ 1 (by decide)) (by decide) rfl (fun ls hl => ?_)
              refine lv_goto (tgt := 18) hx hb dX6_read_560 (by decide) ?_
              exact ih_18 (i1 + 1) 0 a1 b1 K1 (p1 + 1) w1 K1 r1 x3 x4 (nI (K1 + 1)) (up2 I1 71 15 (nI (p1 + 1))) (by omega) (PX_g hX (by omega) (s8_0 (by omega)) (fun _ _ => rfl) (hX.2.2.2.1) rfl) QX_0 _ _ hW _ (lv_sub hl [9, 10, 1, 11, 12, 2, 0] rfl)
          ·
            have hp_11 : 97 ≤ ch i1 ∧ ch i1 ≤ 100 := bI_1 c_439
            rw [bI_t hp_11] at hl
            refine lv_iload hx hb dX6_read_442 (lv_at hl 11 rfl) ?_
            refine q_bp 6 hx hb dX6_read_444 (by decide) ?_
            refine q_cge (tgt := 454) hx hb dX6_read_446 (by decide) (by first | omega | exact Nat.lt_of_le_of_lt (hw3 _) (by decide)) (by first | omega | exact Nat.lt_of_le_of_lt (hw3 _) (by decide)) (fun c_446 => ?_) (fun c_446 => ?_)
            ·
              refine lv_iload hx hb dX6_read_454 (lv_at hl 5 rfl) ?_
              refine q_bp 59 hx hb dX6_read_456 (by decide) ?_
              refine q_cne (tgt := 465) hx hb dX6_read_458 (by decide) (by first | omega | exact Nat.lt_of_le_of_lt (hw3 _) (by decide)) (by first | omega | exact Nat.lt_of_le_of_lt (hw3 _) (by decide)) (fun c_458 => ?_) (fun c_458 => ?_)
              ·
                refine lv_bipush (v := -6) hx hb dX6_read_465 (by decide) ?_
                refine lv_istore (lv' := [(12, .int (-6)), (11, .int (nI 1)), (10, .int (bI (48 ≤ ch i1 ∧ ch i1 ≤ 51))), (9, .int (bI (48 ≤ ch i1 ∧ ch i1 ≤ 53))), (8, .int (nI (ch i1) - nI 48)), (7, .int (nI (ch i1))), (0, .ref (ad 71)), (1, .int (nI 0)), (2, .int (nI 8)), (3, .int (x3)), (4, .int (x4)), (5, .int (nI (K1))), (6, .int (nI (i1)))]) hx hb dX6_read_467 hl (by decide) rfl (fun ls hl => ?_)
                refine lv_iload hx hb dX6_read_469 (lv_at hl 0 rfl) ?_
                refine q_bp 8 hx hb dX6_read_471 (by decide) ?_
                refine lv_icmp_ne (tgt := 506) hx hb dX6_read_473 (by decide) (fun c_473 => ?_) (fun c_473 => absurd c_473 (by decide))
                refine q_iinc (z2 := K1 + 1) (lv' := [(5, .int (nI (K1 + 1))), (12, .int (-6)), (11, .int (nI 1)), (10, .int (bI (48 ≤ ch i1 ∧ ch i1 ≤ 51))), (9, .int (bI (48 ≤ ch i1 ∧ ch i1 ≤ 53))), (8, .int (nI (ch i1) - nI 48)), (7, .int (nI (ch i1))), (0, .ref (ad 71)), (1, .int (nI 0)), (2, .int (nI 8)), (3, .int (x3)), (4, .int (x4)), (6, .int (nI (i1)))]) hx hb dX6_read_506 hl (k := 11) rfl (inc_up _ 1 (by decide)) (by decide) rfl (fun ls hl => ?_)
                refine lv_goto (tgt := 527) hx hb dX6_read_509 (by decide) ?_
                refine lv_iload hx hb dX6_read_527 (lv_at hl 1 rfl) ?_
                refine lv_if_ge (tgt := 535) hx hb dX6_read_529 (by decide) (fun c_529 => absurd c_529 (by decide)) (fun c_529 => ?_)
                refine lv_iload hx hb dX6_read_532 (lv_at hl 12 rfl) ?_
                exact q_iret1 hC hW hr hlk0 ⟨fun a h1 => by by_cases e : a = 72; (rw [e]; exact hX.2.2.2.1); exact hX.2.2.2.2.1 a h1 e, hX.2.2.2.2.2, rfl, Or.inl ⟨i1, hX.2.1, FLx hX (by omega) (s8_n (by omega) (by omega)), rfl⟩⟩ dX6_read_534
              ·
                refine q_ic 0 hx hb dX6_read_461 (by decide) ?_
                refine lv_goto (tgt := 467) hx hb dX6_read_462 (by decide) ?_
                refine lv_istore (lv' := [(12, .int (nI 0)), (11, .int (nI 1)), (10, .int (bI (48 ≤ ch i1 ∧ ch i1 ≤ 51))), (9, .int (bI (48 ≤ ch i1 ∧ ch i1 ≤ 53))), (8, .int (nI (ch i1) - nI 48)), (7, .int (nI (ch i1))), (0, .ref (ad 71)), (1, .int (nI 0)), (2, .int (nI 8)), (3, .int (x3)), (4, .int (x4)), (5, .int (nI (K1))), (6, .int (nI (i1)))]) hx hb dX6_read_467 hl (by decide) rfl (fun ls hl => ?_)
                refine lv_iload hx hb dX6_read_469 (lv_at hl 0 rfl) ?_
                refine q_bp 8 hx hb dX6_read_471 (by decide) ?_
                refine q_cne (tgt := 506) hx hb dX6_read_473 (by decide) (by first | omega | exact Nat.lt_of_le_of_lt (hw3 _) (by decide)) (by first | omega | exact Nat.lt_of_le_of_lt (hw3 _) (by decide)) (fun c_473 => ?_) (fun c_473 => absurd c_473 (by decide))
                refine q_iinc (z2 := K1 + 1) (lv' := [(5, .int (nI (K1 + 1))), (12, .int (nI 0)), (11, .int (nI 1)), (10, .int (bI (48 ≤ ch i1 ∧ ch i1 ≤ 51))), (9, .int (bI (48 ≤ ch i1 ∧ ch i1 ≤ 53))), (8, .int (nI (ch i1) - nI 48)), (7, .int (nI (ch i1))), (0, .ref (ad 71)), (1, .int (nI 0)), (2, .int (nI 8)), (3, .int (x3)), (4, .int (x4)), (6, .int (nI (i1)))]) hx hb dX6_read_506 hl (k := 11) rfl (inc_up _ 1 (by decide)) (by decide) rfl (fun ls hl => ?_)
                refine lv_goto (tgt := 527) hx hb dX6_read_509 (by decide) ?_
                refine lv_iload hx hb dX6_read_527 (lv_at hl 1 rfl) ?_
                refine lv_if_ge (tgt := 535) hx hb dX6_read_529 (by decide) (fun c_529 => ?_) (fun c_529 => absurd c_529 (by decide))
                refine lv_aload_n hx hb dX6_read_535 rfl (lv_at hl 7 rfl) ?_
                refine lv_dup hx hb dX6_read_536 rfl ?_
                refine g_6_15 (x := 71) hC hW (by omega) kd_71 gw_498 dX6_read_537 ?_
                refine q_top (v2 := .int (nI (p1))) (congrArg _ hX.2.2.1) ?_
                refine lv_iload hx hb dX6_read_540 (lv_at hl 1 rfl) ?_
                refine q_ine (tgt := 549) hx hb dX6_read_542 (by decide) (by first | omega | exact Nat.lt_of_le_of_lt (hw3 _) (by decide)) (fun c_542 => absurd c_542 (by decide)) (fun c_542 => ?_)
                refine q_ic 1 hx hb dX6_read_545 (by decide) ?_
                refine lv_goto (tgt := 550) hx hb dX6_read_546 (by decide) ?_
                refine q_iadd hx hb dX6_read_550 ?_
                refine p_6_15 (x := 71) (v := nI (p1 + 1)) hC hW (by omega) kd_71 gw_498 dX6_read_551 (fun H locs hW => ?_)
                refine lv_iload hx hb dX6_read_554 (lv_at hl 1 rfl) ?_
                refine lv_istore_n (lv' := [(2, .int (nI 0)), (5, .int (nI (K1 + 1))), (12, .int (nI 0)), (11, .int (nI 1)), (10, .int (bI (48 ≤ ch i1 ∧ ch i1 ≤ 51))), (9, .int (bI (48 ≤ ch i1 ∧ ch i1 ≤ 53))), (8, .int (nI (ch i1) - nI 48)), (7, .int (nI (ch i1))), (0, .ref (ad 71)), (1, .int (nI 0)), (3, .int (x3)), (4, .int (x4)), (6, .int (nI (i1)))]) hx hb dX6_read_556 rfl hl (by decide) rfl (fun ls hl => ?_)
                refine q_iinc (z2 := i1 + 1) (lv' := [(6, .int (nI (i1 + 1))), (2, .int (nI 0)), (5, .int (nI (K1 + 1))), (12, .int (nI 0)), (11, .int (nI 1)), (10, .int (bI (48 ≤ ch i1 ∧ ch i1 ≤ 51))), (9, .int (bI (48 ≤ ch i1 ∧ ch i1 ≤ 53))), (8, .int (nI (ch i1) - nI 48)), (7, .int (nI (ch i1))), (0, .ref (ad 71)), (1, .int (nI 0)), (3, .int (x3)), (4, .int (x4))]) hx hb dX6_read_557 hl (k := 12) rfl (inc_up _ 1 (by decide)) (by decide) rfl (fun ls hl => ?_)
                refine lv_goto (tgt := 18) hx hb dX6_read_560 (by decide) ?_
                exact ih_18 (i1 + 1) 0 a1 b1 K1 (p1 + 1) w1 K1 r1 x3 x4 (nI (K1 + 1)) (up2 I1 71 15 (nI (p1 + 1))) (by omega) (PX_g hX (by omega) (s8_0 (by omega)) (fun _ _ => rfl) (hX.2.2.2.1) rfl) QX_0 _ _ hW _ (lv_sub hl [9, 10, 1, 11, 12, 2, 0] rfl)
            ·
              refine q_bp 8 hx hb dX6_read_449 (by decide) ?_
              refine lv_goto (tgt := 467) hx hb dX6_read_451 (by decide) ?_
              refine lv_istore (lv' := [(12, .int (nI 8)), (11, .int (nI 1)), (10, .int (bI (48 ≤ ch i1 ∧ ch i1 ≤ 51))), (9, .int (bI (48 ≤ ch i1 ∧ ch i1 ≤ 53))), (8, .int (nI (ch i1) - nI 48)), (7, .int (nI (ch i1))), (0, .ref (ad 71)), (1, .int (nI 0)), (2, .int (nI 8)), (3, .int (x3)), (4, .int (x4)), (5, .int (nI (K1))), (6, .int (nI (i1)))]) hx hb dX6_read_467 hl (by decide) rfl (fun ls hl => ?_)
              refine lv_iload hx hb dX6_read_469 (lv_at hl 0 rfl) ?_
              refine q_bp 8 hx hb dX6_read_471 (by decide) ?_
              refine q_cne (tgt := 506) hx hb dX6_read_473 (by decide) (by first | omega | exact Nat.lt_of_le_of_lt (hw3 _) (by decide)) (by first | omega | exact Nat.lt_of_le_of_lt (hw3 _) (by decide)) (fun c_473 => absurd c_473 (by decide)) (fun c_473 => ?_)
              refine lv_iload_n hx hb dX6_read_476 rfl (lv_at hl 7 rfl) ?_
              refine q_ieq (tgt := 506) hx hb dX6_read_477 (by decide) (by first | omega | exact Nat.lt_of_le_of_lt (hw3 _) (by decide)) (fun c_477 => ?_) (fun c_477 => absurd c_477 (by decide))
              refine q_iinc (z2 := K1 + 1) (lv' := [(5, .int (nI (K1 + 1))), (12, .int (nI 8)), (11, .int (nI 1)), (10, .int (bI (48 ≤ ch i1 ∧ ch i1 ≤ 51))), (9, .int (bI (48 ≤ ch i1 ∧ ch i1 ≤ 53))), (8, .int (nI (ch i1) - nI 48)), (7, .int (nI (ch i1))), (0, .ref (ad 71)), (1, .int (nI 0)), (2, .int (nI 8)), (3, .int (x3)), (4, .int (x4)), (6, .int (nI (i1)))]) hx hb dX6_read_506 hl (k := 11) rfl (inc_up _ 1 (by decide)) (by decide) rfl (fun ls hl => ?_)
              refine lv_goto (tgt := 527) hx hb dX6_read_509 (by decide) ?_
              refine lv_iload hx hb dX6_read_527 (lv_at hl 1 rfl) ?_
              refine lv_if_ge (tgt := 535) hx hb dX6_read_529 (by decide) (fun c_529 => ?_) (fun c_529 => absurd c_529 (by decide))
              refine lv_aload_n hx hb dX6_read_535 rfl (lv_at hl 7 rfl) ?_
              refine lv_dup hx hb dX6_read_536 rfl ?_
              refine g_6_15 (x := 71) hC hW (by omega) kd_71 gw_498 dX6_read_537 ?_
              refine q_top (v2 := .int (nI (p1))) (congrArg _ hX.2.2.1) ?_
              refine lv_iload hx hb dX6_read_540 (lv_at hl 1 rfl) ?_
              refine q_ine (tgt := 549) hx hb dX6_read_542 (by decide) (by first | omega | exact Nat.lt_of_le_of_lt (hw3 _) (by decide)) (fun c_542 => ?_) (fun c_542 => absurd c_542 (by decide))
              refine q_ic 0 hx hb dX6_read_549 (by decide) ?_
              refine q_iadd hx hb dX6_read_550 ?_
              refine p_6_15 (x := 71) (v := nI (p1 + 0)) hC hW (by omega) kd_71 gw_498 dX6_read_551 (fun H locs hW => ?_)
              refine lv_iload hx hb dX6_read_554 (lv_at hl 1 rfl) ?_
              refine lv_istore_n (lv' := [(2, .int (nI 8)), (5, .int (nI (K1 + 1))), (12, .int (nI 8)), (11, .int (nI 1)), (10, .int (bI (48 ≤ ch i1 ∧ ch i1 ≤ 51))), (9, .int (bI (48 ≤ ch i1 ∧ ch i1 ≤ 53))), (8, .int (nI (ch i1) - nI 48)), (7, .int (nI (ch i1))), (0, .ref (ad 71)), (1, .int (nI 0)), (3, .int (x3)), (4, .int (x4)), (6, .int (nI (i1)))]) hx hb dX6_read_556 rfl hl (by decide) rfl (fun ls hl => ?_)
              refine q_iinc (z2 := i1 + 1) (lv' := [(6, .int (nI (i1 + 1))), (2, .int (nI 8)), (5, .int (nI (K1 + 1))), (12, .int (nI 8)), (11, .int (nI 1)), (10, .int (bI (48 ≤ ch i1 ∧ ch i1 ≤ 51))), (9, .int (bI (48 ≤ ch i1 ∧ ch i1 ≤ 53))), (8, .int (nI (ch i1) - nI 48)), (7, .int (nI (ch i1))), (0, .ref (ad 71)), (1, .int (nI 0)), (3, .int (x3)), (4, .int (x4))]) hx hb dX6_read_557 hl (k := 12) rfl (inc_up _ 1 (by decide)) (by decide) rfl (fun ls hl => ?_)
              refine lv_goto (tgt := 18) hx hb dX6_read_560 (by decide) ?_
              exact ih_18 (i1 + 1) 8 a1 b1 (K1 + 1) p1 w1 (K1 + 1) (upN r1 K1 (ch i1 - 97)) x3 x4 (nI (K1 + 1)) (up2 I1 71 15 (nI (p1 + 0))) (by omega) (PX_g hX (by omega) (s8_8 (by omega)) (fun _ _ => rfl) (hX.2.2.2.1) rfl) (QX_8 (by omega) rfl) _ _ hW _ (lv_sub hl [9, 10, 1, 11, 12, 2, 0] rfl)
        ·
          refine lv_tableOut (tgt := 512) hx hb dX6_read_77 (Or.inr (by decide)) (by decide) ?_
          refine lv_iload hx hb dX6_read_512 (lv_at hl 5 rfl) ?_
          refine q_bp 59 hx hb dX6_read_514 (by decide) ?_
          refine q_cne (tgt := 523) hx hb dX6_read_516 (by decide) (by first | omega | exact Nat.lt_of_le_of_lt (hw3 _) (by decide)) (by first | omega | exact Nat.lt_of_le_of_lt (hw3 _) (by decide)) (fun c_516 => ?_) (fun c_516 => ?_)
          ·
            refine lv_bipush (v := -6) hx hb dX6_read_523 (by decide) ?_
            refine lv_istore (lv' := [(12, .int (-6)), (11, .int (bI (97 ≤ ch i1 ∧ ch i1 ≤ 100))), (10, .int (bI (48 ≤ ch i1 ∧ ch i1 ≤ 51))), (9, .int (bI (48 ≤ ch i1 ∧ ch i1 ≤ 53))), (8, .int (nI (ch i1) - nI 48)), (7, .int (nI (ch i1))), (0, .ref (ad 71)), (1, .int (nI 0)), (2, .int (nI 9)), (3, .int (x3)), (4, .int (x4)), (5, .int (x5)), (6, .int (nI (i1)))]) hx hb dX6_read_525 hl (by decide) rfl (fun ls hl => ?_)
            refine lv_iload hx hb dX6_read_527 (lv_at hl 0 rfl) ?_
            refine lv_if_ge (tgt := 535) hx hb dX6_read_529 (by decide) (fun c_529 => absurd c_529 (by decide)) (fun c_529 => ?_)
            refine lv_iload hx hb dX6_read_532 (lv_at hl 12 rfl) ?_
            exact q_iret1 hC hW hr hlk0 ⟨fun a h1 => by by_cases e : a = 72; (rw [e]; exact hX.2.2.2.1); exact hX.2.2.2.2.1 a h1 e, hX.2.2.2.2.2, rfl, Or.inl ⟨i1, hX.2.1, FLx hX (by omega) (s9_n (by omega)), rfl⟩⟩ dX6_read_534
          ·
            refine q_ic 0 hx hb dX6_read_519 (by decide) ?_
            refine lv_goto (tgt := 525) hx hb dX6_read_520 (by decide) ?_
            refine lv_istore (lv' := [(12, .int (nI 0)), (11, .int (bI (97 ≤ ch i1 ∧ ch i1 ≤ 100))), (10, .int (bI (48 ≤ ch i1 ∧ ch i1 ≤ 51))), (9, .int (bI (48 ≤ ch i1 ∧ ch i1 ≤ 53))), (8, .int (nI (ch i1) - nI 48)), (7, .int (nI (ch i1))), (0, .ref (ad 71)), (1, .int (nI 0)), (2, .int (nI 9)), (3, .int (x3)), (4, .int (x4)), (5, .int (x5)), (6, .int (nI (i1)))]) hx hb dX6_read_525 hl (by decide) rfl (fun ls hl => ?_)
            refine lv_iload hx hb dX6_read_527 (lv_at hl 0 rfl) ?_
            refine lv_if_ge (tgt := 535) hx hb dX6_read_529 (by decide) (fun c_529 => ?_) (fun c_529 => absurd c_529 (by decide))
            refine lv_aload_n hx hb dX6_read_535 rfl (lv_at hl 6 rfl) ?_
            refine lv_dup hx hb dX6_read_536 rfl ?_
            refine g_6_15 (x := 71) hC hW (by omega) kd_71 gw_498 dX6_read_537 ?_
            refine q_top (v2 := .int (nI (p1))) (congrArg _ hX.2.2.1) ?_
            refine lv_iload hx hb dX6_read_540 (lv_at hl 0 rfl) ?_
            refine q_ine (tgt := 549) hx hb dX6_read_542 (by decide) (by first | omega | exact Nat.lt_of_le_of_lt (hw3 _) (by decide)) (fun c_542 => absurd c_542 (by decide)) (fun c_542 => ?_)
            refine q_ic 1 hx hb dX6_read_545 (by decide) ?_
            refine lv_goto (tgt := 550) hx hb dX6_read_546 (by decide) ?_
            refine q_iadd hx hb dX6_read_550 ?_
            refine p_6_15 (x := 71) (v := nI (p1 + 1)) hC hW (by omega) kd_71 gw_498 dX6_read_551 (fun H locs hW => ?_)
            refine lv_iload hx hb dX6_read_554 (lv_at hl 0 rfl) ?_
            refine lv_istore_n (lv' := [(2, .int (nI 0)), (12, .int (nI 0)), (11, .int (bI (97 ≤ ch i1 ∧ ch i1 ≤ 100))), (10, .int (bI (48 ≤ ch i1 ∧ ch i1 ≤ 51))), (9, .int (bI (48 ≤ ch i1 ∧ ch i1 ≤ 53))), (8, .int (nI (ch i1) - nI 48)), (7, .int (nI (ch i1))), (0, .ref (ad 71)), (1, .int (nI 0)), (3, .int (x3)), (4, .int (x4)), (5, .int (x5)), (6, .int (nI (i1)))]) hx hb dX6_read_556 rfl hl (by decide) rfl (fun ls hl => ?_)
            refine q_iinc (z2 := i1 + 1) (lv' := [(6, .int (nI (i1 + 1))), (2, .int (nI 0)), (12, .int (nI 0)), (11, .int (bI (97 ≤ ch i1 ∧ ch i1 ≤ 100))), (10, .int (bI (48 ≤ ch i1 ∧ ch i1 ≤ 51))), (9, .int (bI (48 ≤ ch i1 ∧ ch i1 ≤ 53))), (8, .int (nI (ch i1) - nI 48)), (7, .int (nI (ch i1))), (0, .ref (ad 71)), (1, .int (nI 0)), (3, .int (x3)), (4, .int (x4)), (5, .int (x5))]) hx hb dX6_read_557 hl (k := 12) rfl (inc_up _ 1 (by decide)) (by decide) rfl (fun ls hl => ?_)
            refine lv_goto (tgt := 18) hx hb dX6_read_560 (by decide) ?_
            exact ih_18 (i1 + 1) 0 a1 b1 m1 (p1 + 1) w1 K1 r1 x3 x4 x5 (up2 I1 71 15 (nI (p1 + 1))) (by omega) (PX_g hX (by omega) (s9_0 (by omega)) (fun _ _ => rfl) (hX.2.2.2.1) rfl) QX_0 _ _ hW _ (lv_sub hl [8, 9, 1, 10, 11, 12, 0] rfl)
  exact lp_18 (pn + 1) 0 0 0 0 0 0 w K ro (nI 0) (nI 0) (nI 0) (up2 I 71 15 (nI 0)) (by omega) (⟨rfl, by omega, by rw [up2_at, if_pos ⟨rfl, rfl⟩], (show up2 I 71 15 (nI 0) 72 = I 72 from up2_ne (by decide)), fun a h1 _ => up2_ne h1, fun j hj => by rw [up2_at, if_neg (fun q9 => hj q9.2)]⟩) QX_0 _ _ hW _ (lv_sub hl [5, 6, 4, 3, 2, 1, 0] rfl)
set_option maxRecDepth 100000 in
set_option maxHeartbeats 4000000 in
theorem k_rreadM (l : Launch) (G : Gx) (n : Nat) (ad : Nat → Nat) (sz : Nat) (I : Ic) (L : Lc) (R : Rc) (pn : Nat) (ch : Nat → Nat) (w : Nat → Nat) (K : Nat) (ro : Nat → Nat) (hn : 83 ≤ n) (hlk : LkOK n R) (hN : NwI (I 72) w K ro) (hPd : PdB I pn ch)  : Met l yX6_read (Cond.code yX6_read cX6_read 13 (some .int) :: GW) ({ frames := 1, cells := 0, slots := 0, locals := 36 } : Room) (qPre G n ad sz I L R [.ref (ad 71), .int (nI 1)]) (qI1 G (qA n ad sz) n ad R (fun z I1 L1 => (∀ a, a ≠ 71 → a ≠ 72 → I1 a = I a) ∧ (∀ j, j ≠ 15 → I1 71 j = I 71 j) ∧ L = L1 ∧ ((∃ i, i ≤ pn ∧ FL pn ch (0, 0, 0, 0, w, K, ro, 0) i ∧ z = nI i) ∨ (∃ σ : Sg, OKT pn ch (0, 0, 0, 0, w, K, ro, 0) σ ∧ I1 71 15 = nI (σ.2.2.2.2.2.2.2 + 1) ∧ NwI (I1 72) σ.2.2.2.2.1 σ.2.2.2.2.2.1 σ.2.2.2.2.2.2.1)))) 0 0 (qA n ad sz) := by
  refine q_met (by decide) (Nat.le_of_ble_eq_true rfl) ?_
  intro p_ e_ s m_ below meth c_ hC hr hlk0 hin hsz hW ls hl
  subst hsz
  have hC : CallFix p_ m_ c_ cX6_read 13 s ([.ref (ad 71), .int (nI 1)] : List Value).toArray GW "CoinRowsModel" := hC
  have hx := hC.1
  have hb := hC.2.1
  have hp80 := hPd.2.1
  have hl : lv_has ls 13 [(0, .ref (ad 71)), (1, .int (nI 1))] := hl
  refine lv_aload_n hx hb dX6_read_0 rfl (lv_at hl 0 rfl) ?_
  refine q_ic 0 hx hb dX6_read_1 (by decide) ?_
  refine p_6_15 (x := 71) (v := nI 0) hC hW (by omega) kd_71 gw_498 dX6_read_2 (fun H locs hW => ?_)
  refine q_ic 0 hx hb dX6_read_5 (by decide) ?_
  refine lv_istore_n (lv' := [(2, .int (nI 0)), (0, .ref (ad 71)), (1, .int (nI 1))]) hx hb dX6_read_6 rfl hl (by decide) rfl (fun ls hl => ?_)
  refine q_ic 0 hx hb dX6_read_7 (by decide) ?_
  refine lv_istore_n (lv' := [(3, .int (nI 0)), (2, .int (nI 0)), (0, .ref (ad 71)), (1, .int (nI 1))]) hx hb dX6_read_8 rfl hl (by decide) rfl (fun ls hl => ?_)
  refine q_ic 0 hx hb dX6_read_9 (by decide) ?_
  refine lv_istore (lv' := [(4, .int (nI 0)), (3, .int (nI 0)), (2, .int (nI 0)), (0, .ref (ad 71)), (1, .int (nI 1))]) hx hb dX6_read_10 hl (by decide) rfl (fun ls hl => ?_)
  refine q_ic 0 hx hb dX6_read_12 (by decide) ?_
  refine lv_istore (lv' := [(5, .int (nI 0)), (4, .int (nI 0)), (3, .int (nI 0)), (2, .int (nI 0)), (0, .ref (ad 71)), (1, .int (nI 1))]) hx hb dX6_read_13 hl (by decide) rfl (fun ls hl => ?_)
  refine q_ic 0 hx hb dX6_read_15 (by decide) ?_
  refine lv_istore (lv' := [(6, .int (nI 0)), (5, .int (nI 0)), (4, .int (nI 0)), (3, .int (nI 0)), (2, .int (nI 0)), (0, .ref (ad 71)), (1, .int (nI 1))]) hx hb dX6_read_16 hl (by decide) rfl (fun ls hl => ?_)
  have lp_18 : ∀ (fu_18 : Nat) (i1 : Nat) (q : Nat) (a1 : Nat) (b1 : Nat) (m1 : Nat) (p1 : Nat) (w1 : Nat → Nat) (K1 : Nat) (r1 : Nat → Nat) (x3 : Int32) (x4 : Int32) (x5 : Int32) (I1 : Ic), pn - i1 < fu_18 → (PX true pn ch (0, 0, 0, 0, w, K, ro, 0) I i1 (q, a1, b1, m1, w1, K1, r1, p1) I1) → (QX q a1 b1 m1 K1 x3 x4 x5) → ∀ (H : Heap) (locs : List Loc), Wd G n ad I1 L R (qA n ad s.heap.size) s.heap H locs s → ∀ ls : Array Slot, lv_has ls 13 [(0, .ref (ad 71)), (1, .int (nI 1)), (2, .int (nI (q))), (3, .int (x3)), (4, .int (x4)), (5, .int (x5)), (6, .int (nI (i1)))] → W p_ l e_ ({ frames := 1, cells := 0, slots := 0, locals := 36 } : Room) s m_ ([.ref (ad 71), .int (nI 1)] : List Value).toArray below meth c_ H locs 0 0 (MQ below (qI1 G (qA n ad s.heap.size) n ad R (fun z I1 L1 => (∀ a, a ≠ 71 → a ≠ 72 → I1 a = I a) ∧ (∀ j, j ≠ 15 → I1 71 j = I 71 j) ∧ L = L1 ∧ ((∃ i, i ≤ pn ∧ FL pn ch (0, 0, 0, 0, w, K, ro, 0) i ∧ z = nI i) ∨ (∃ σ : Sg, OKT pn ch (0, 0, 0, 0, w, K, ro, 0) σ ∧ I1 71 15 = nI (σ.2.2.2.2.2.2.2 + 1) ∧ NwI (I1 72) σ.2.2.2.2.1 σ.2.2.2.2.2.1 σ.2.2.2.2.2.2.1)))) ([.ref (ad 71), .int (nI 1)] : List Value).toArray s 0 0 (qA n ad s.heap.size)) (F0 m_ 18 ls []) := by
    intro fu_18
    induction fu_18 with
    | zero =>
      intro i1 q a1 b1 m1 p1 w1 K1 r1 x3 x4 x5 I1 hm; exact absurd hm (Nat.not_lt_zero _)
    | succ fu_18 ih_18 =>
      intro i1 q a1 b1 m1 p1 w1 K1 r1 x3 x4 x5 I1 hm_18 hX hQ H locs hW ls hl
      have hq99 := hQ.2.2.2.2
      have hip := hX.2.1
      have hci := hPd.2.2.2 i1
      have hN1 : NwI (I1 72) w1 K1 r1 := hX.2.2.2.1
      refine lv_iload hx hb dX6_read_18 (lv_at hl 6 rfl) ?_
      refine lv_aload_n hx hb dX6_read_20 rfl (lv_at hl 0 rfl) ?_
      refine g_6_6 (x := 71) hC hW (by omega) kd_71 gw_489 dX6_read_21 ?_
      refine q_top (v2 := .int (nI (pn))) (congrArg _ ((hX.2.2.2.2.2 6 (by decide)).trans hPd.1)) ?_
      refine q_cge (tgt := 563) hx hb dX6_read_24 (by decide) (by first | omega | exact Nat.lt_of_le_of_lt (hw3 _) (by decide)) (by first | omega | exact Nat.lt_of_le_of_lt (hw3 _) (by decide)) (fun c_24 => ?_) (fun c_24 => ?_)
      ·
        refine lv_aload_n hx hb dX6_read_563 rfl (lv_at hl 0 rfl) ?_
        refine lv_dup hx hb dX6_read_564 rfl ?_
        refine g_6_15 (x := 71) hC hW (by omega) kd_71 gw_498 dX6_read_565 ?_
        refine q_top (v2 := .int (nI (p1))) (congrArg _ hX.2.2.1) ?_
        refine q_ic 1 hx hb dX6_read_568 (by decide) ?_
        refine q_iadd hx hb dX6_read_569 ?_
        refine p_6_15 (x := 71) (v := nI (p1 + 1)) hC hW (by omega) kd_71 gw_498 dX6_read_570 (fun H locs hW => ?_)
        refine lv_iload_n hx hb dX6_read_573 rfl (lv_at hl 2 rfl) ?_
        refine q_bp 7 hx hb dX6_read_574 (by decide) ?_
        refine q_cle (tgt := 584) hx hb dX6_read_576 (by decide) (by first | omega | exact Nat.lt_of_le_of_lt (hw3 _) (by decide)) (by first | omega | exact Nat.lt_of_le_of_lt (hw3 _) (by decide)) (fun c_576 => ?_) (fun c_576 => ?_)
        ·
          refine lv_aload_n hx hb dX6_read_584 rfl (lv_at hl 0 rfl) ?_
          refine g_6_6 (x := 71) hC hW (by omega) kd_71 gw_489 dX6_read_585 ?_
          refine q_top (v2 := .int (nI (pn))) (congrArg _ (by rw [up2_at, if_neg (by decide)]; exact (hX.2.2.2.2.2 6 (by decide)).trans hPd.1)) ?_
          have ei : i1 = pn := by have h9 := hX.2.1; omega
          subst ei
          exact q_iret1 hC hW hr hlk0 ⟨fun a h1 h2 => by rw [up2_ne h1]; exact hX.2.2.2.2.1 a h1 h2, fun j hj => by rw [up2_at, if_neg (fun q9 => hj q9.2)]; exact hX.2.2.2.2.2 j hj, rfl, Or.inl ⟨_, Nat.le_refl _, ⟨_, hX.1, Or.inr ⟨rfl, show q < 8 by omega⟩⟩, rfl⟩⟩ dX6_read_588
        ·
          refine lv_bipush (v := -6) hx hb dX6_read_579 (by decide) ?_
          refine lv_goto (tgt := 588) hx hb dX6_read_581 (by decide) ?_
          have ei : i1 = pn := by have h9 := hX.2.1; omega
          subst ei
          exact q_iret1 hC hW hr hlk0 ⟨fun a h1 h2 => by rw [up2_ne h1]; exact hX.2.2.2.2.1 a h1 h2, fun j hj => by rw [up2_at, if_neg (fun q9 => hj q9.2)]; exact hX.2.2.2.2.2 j hj, rfl, Or.inr ⟨_, ⟨hX.1, show 8 ≤ q by omega⟩, by rw [up2_at, if_pos ⟨rfl, rfl⟩], by rw [up2_ne (by decide)]; exact hX.2.2.2.1⟩⟩ dX6_read_588
      ·
        refine lv_aload_n hx hb dX6_read_27 rfl (lv_at hl 0 rfl) ?_
        refine g_6_5 (x := 71) (y := 76) hC hW (by omega) kd_71 gw_488 (hlk 71 5 76 (by omega) rfl) dX6_read_28 ?_
        refine lv_iload hx hb dX6_read_31 (lv_at hl 6 rfl) ?_
        refine q_iald (x := 76) (i := i1) hC hW (by omega) kd_76 (by omega) dX6_read_33 ?_
        refine q_top (v2 := .int (nI (ch i1))) (congrArg _ ((congrFun (hX.2.2.2.2.1 76 (by decide) (by decide)) _).trans (hPd.2.2.1 _ (by omega)))) ?_
        refine lv_istore (lv' := [(7, .int (nI (ch i1))), (0, .ref (ad 71)), (1, .int (nI 1)), (2, .int (nI (q))), (3, .int (x3)), (4, .int (x4)), (5, .int (x5)), (6, .int (nI (i1)))]) hx hb dX6_read_34 hl (by decide) rfl (fun ls hl => ?_)
        refine lv_iload hx hb dX6_read_36 (lv_at hl 0 rfl) ?_
        refine q_bp 48 hx hb dX6_read_38 (by decide) ?_
        refine lv_isub hx hb dX6_read_40 ?_
        refine lv_istore (lv' := [(8, .int (nI (ch i1) - nI 48)), (7, .int (nI (ch i1))), (0, .ref (ad 71)), (1, .int (nI 1)), (2, .int (nI (q))), (3, .int (x3)), (4, .int (x4)), (5, .int (x5)), (6, .int (nI (i1)))]) hx hb dX6_read_41 hl (by decide) rfl (fun ls hl => ?_)
        refine lv_iload hx hb dX6_read_43 (lv_at hl 0 rfl) ?_
        refine q_ic 0 hx hb dX6_read_45 (by decide) ?_
        refine q_ic 5 hx hb dX6_read_46 (by decide) ?_
        refine q_kI0 (q_rS (As := [.int (nI (ch i1) - nI 48), .int (nI 0), .int (nI 5)]) (rest := []) hC hW mw_X6_in gw_537 (k_in l G n ad H.size I1 L R _ _ _) ⟨rfl, rfl⟩ ⟨Nat.le_of_ble_eq_true rfl, Nat.le_of_ble_eq_true rfl⟩ ⟨(Nat.le_of_ble_eq_true rfl), (Nat.le_of_ble_eq_true rfl)⟩ hl.1 rfl rfl (Nat.le_of_ble_eq_true rfl) dX6_read_47) hW (fun r_47 H locs hp hW => ?_)
        have hbi : r_47 = bI (48 ≤ ch i1 ∧ ch i1 ≤ 53) := by
          rw [show (nI 0).toInt = 0 by decide, show (nI 5).toInt = 5 by decide, dgt (show ch i1 < 1000 by omega) (by decide)] at hp
          rcases hp with ⟨h1, h2, h3⟩ | ⟨h1, h2⟩
          · rw [h1, bI_t (by omega)]
          · rw [h1, bI_f (by omega)]
        subst hbi
        refine lv_istore (lv' := [(9, .int (bI (48 ≤ ch i1 ∧ ch i1 ≤ 53))), (8, .int (nI (ch i1) - nI 48)), (7, .int (nI (ch i1))), (0, .ref (ad 71)), (1, .int (nI 1)), (2, .int (nI (q))), (3, .int (x3)), (4, .int (x4)), (5, .int (x5)), (6, .int (nI (i1)))]) hx hb dX6_read_50 hl (by decide) rfl (fun ls hl => ?_)
        refine lv_iload hx hb dX6_read_52 (lv_at hl 1 rfl) ?_
        refine q_ic 0 hx hb dX6_read_54 (by decide) ?_
        refine q_ic 3 hx hb dX6_read_55 (by decide) ?_
        refine q_kI0 (q_rS (As := [.int (nI (ch i1) - nI 48), .int (nI 0), .int (nI 3)]) (rest := []) hC hW mw_X6_in gw_537 (k_in l G n ad H.size I1 L R _ _ _) ⟨rfl, rfl⟩ ⟨Nat.le_of_ble_eq_true rfl, Nat.le_of_ble_eq_true rfl⟩ ⟨(Nat.le_of_ble_eq_true rfl), (Nat.le_of_ble_eq_true rfl)⟩ hl.1 rfl rfl (Nat.le_of_ble_eq_true rfl) dX6_read_56) hW (fun r_56 H locs hp hW => ?_)
        have hbi : r_56 = bI (48 ≤ ch i1 ∧ ch i1 ≤ 51) := by
          rw [show (nI 0).toInt = 0 by decide, show (nI 3).toInt = 3 by decide, dgt (show ch i1 < 1000 by omega) (by decide)] at hp
          rcases hp with ⟨h1, h2, h3⟩ | ⟨h1, h2⟩
          · rw [h1, bI_t (by omega)]
          · rw [h1, bI_f (by omega)]
        subst hbi
        refine lv_istore (lv' := [(10, .int (bI (48 ≤ ch i1 ∧ ch i1 ≤ 51))), (9, .int (bI (48 ≤ ch i1 ∧ ch i1 ≤ 53))), (8, .int (nI (ch i1) - nI 48)), (7, .int (nI (ch i1))), (0, .ref (ad 71)), (1, .int (nI 1)), (2, .int (nI (q))), (3, .int (x3)), (4, .int (x4)), (5, .int (x5)), (6, .int (nI (i1)))]) hx hb dX6_read_59 hl (by decide) rfl (fun ls hl => ?_)
        refine lv_iload hx hb dX6_read_61 (lv_at hl 3 rfl) ?_
        refine q_bp 97 hx hb dX6_read_63 (by decide) ?_
        refine q_bp 100 hx hb dX6_read_65 (by decide) ?_
        refine q_kI0 (q_rS (As := [.int (nI (ch i1)), .int (nI 97), .int (nI 100)]) (rest := []) hC hW mw_X6_in gw_537 (k_in l G n ad H.size I1 L R _ _ _) ⟨rfl, rfl⟩ ⟨Nat.le_of_ble_eq_true rfl, Nat.le_of_ble_eq_true rfl⟩ ⟨(Nat.le_of_ble_eq_true rfl), (Nat.le_of_ble_eq_true rfl)⟩ hl.1 rfl rfl (Nat.le_of_ble_eq_true rfl) dX6_read_67) hW (fun r_67 H locs hp hW => ?_)
        have hbi : r_67 = bI (97 ≤ ch i1 ∧ ch i1 ≤ 100) := by
          rw [show (nI 97).toInt = 97 by decide, show (nI 100).toInt = 100 by decide, nI_toInt (show ch i1 < 2 ^ 31 by omega)] at hp
          rcases hp with ⟨h1, h2, h3⟩ | ⟨h1, h2⟩
          · rw [h1, bI_t (by omega)]
          · rw [h1, bI_f (by omega)]
        subst hbi
        refine lv_istore (lv' := [(11, .int (bI (97 ≤ ch i1 ∧ ch i1 ≤ 100))), (10, .int (bI (48 ≤ ch i1 ∧ ch i1 ≤ 51))), (9, .int (bI (48 ≤ ch i1 ∧ ch i1 ≤ 53))), (8, .int (nI (ch i1) - nI 48)), (7, .int (nI (ch i1))), (0, .ref (ad 71)), (1, .int (nI 1)), (2, .int (nI (q))), (3, .int (x3)), (4, .int (x4)), (5, .int (x5)), (6, .int (nI (i1)))]) hx hb dX6_read_70 hl (by decide) rfl (fun ls hl => ?_)
        refine lv_bipush (v := -6) hx hb dX6_read_72 (by decide) ?_
        refine lv_istore (lv' := [(12, .int (-6)), (11, .int (bI (97 ≤ ch i1 ∧ ch i1 ≤ 100))), (10, .int (bI (48 ≤ ch i1 ∧ ch i1 ≤ 51))), (9, .int (bI (48 ≤ ch i1 ∧ ch i1 ≤ 53))), (8, .int (nI (ch i1) - nI 48)), (7, .int (nI (ch i1))), (0, .ref (ad 71)), (1, .int (nI 1)), (2, .int (nI (q))), (3, .int (x3)), (4, .int (x4)), (5, .int (x5)), (6, .int (nI (i1)))]) hx hb dX6_read_74 hl (by decide) rfl (fun ls hl => ?_)
        refine lv_iload_n hx hb dX6_read_76 rfl (lv_at hl 8 rfl) ?_
        have hq9 : q = 0 ∨ q = 1 ∨ q = 2 ∨ q = 3 ∨ q = 4 ∨ q = 5 ∨ q = 6 ∨ q = 7 ∨ q = 8 ∨ q = 9 := by have h9 := hQ.2.2.2.2; omega
        rcases hq9 with rfl | rfl | rfl | rfl | rfl | rfl | rfl | rfl | rfl | rfl
        ·
          refine lv_tableIn (off := 51) (tgt := 128) hx hb dX6_read_77 (by decide) (by decide) rfl (by decide) ?_
          refine lv_iload hx hb dX6_read_128 (lv_at hl 5 rfl) ?_
          refine q_bp 64 hx hb dX6_read_130 (by decide) ?_
          refine q_cne (tgt := 139) hx hb dX6_read_132 (by decide) (by first | omega | exact Nat.lt_of_le_of_lt (hw3 _) (by decide)) (by first | omega | exact Nat.lt_of_le_of_lt (hw3 _) (by decide)) (fun c_132 => ?_) (fun c_132 => ?_)
          ·
            refine lv_iload hx hb dX6_read_139 (lv_at hl 3 rfl) ?_
            refine lv_if_eq (tgt := 148) hx hb dX6_read_141 (by decide) (fun c_141 => ?_) (fun c_141 => ?_)
            ·
              have hp_9 : ¬ (48 ≤ ch i1 ∧ ch i1 ≤ 53) := bI_0 c_141
              rw [bI_f hp_9] at hl
              refine lv_iload hx hb dX6_read_148 (lv_at hl 5 rfl) ?_
              refine q_bp 33 hx hb dX6_read_150 (by decide) ?_
              refine q_cne (tgt := 160) hx hb dX6_read_152 (by decide) (by first | omega | exact Nat.lt_of_le_of_lt (hw3 _) (by decide)) (by first | omega | exact Nat.lt_of_le_of_lt (hw3 _) (by decide)) (fun c_152 => ?_) (fun c_152 => ?_)
              ·
                refine lv_bipush (v := -6) hx hb dX6_read_160 (by decide) ?_
                refine lv_istore (lv' := [(12, .int (-6)), (11, .int (bI (97 ≤ ch i1 ∧ ch i1 ≤ 100))), (10, .int (bI (48 ≤ ch i1 ∧ ch i1 ≤ 51))), (9, .int (nI 0)), (8, .int (nI (ch i1) - nI 48)), (7, .int (nI (ch i1))), (0, .ref (ad 71)), (1, .int (nI 1)), (2, .int (nI 0)), (3, .int (x3)), (4, .int (x4)), (5, .int (x5)), (6, .int (nI (i1)))]) hx hb dX6_read_162 hl (by decide) rfl (fun ls hl => ?_)
                refine lv_iload hx hb dX6_read_164 (lv_at hl 4 rfl) ?_
                refine lv_istore_n (lv' := [(3, .int (nI (ch i1) - nI 48)), (12, .int (-6)), (11, .int (bI (97 ≤ ch i1 ∧ ch i1 ≤ 100))), (10, .int (bI (48 ≤ ch i1 ∧ ch i1 ≤ 51))), (9, .int (nI 0)), (8, .int (nI (ch i1) - nI 48)), (7, .int (nI (ch i1))), (0, .ref (ad 71)), (1, .int (nI 1)), (2, .int (nI 0)), (4, .int (x4)), (5, .int (x5)), (6, .int (nI (i1)))]) hx hb dX6_read_166 rfl hl (by decide) rfl (fun ls hl => ?_)
                refine q_ic 0 hx hb dX6_read_167 (by decide) ?_
                refine lv_istore (lv' := [(5, .int (nI 0)), (3, .int (nI (ch i1) - nI 48)), (12, .int (-6)), (11, .int (bI (97 ≤ ch i1 ∧ ch i1 ≤ 100))), (10, .int (bI (48 ≤ ch i1 ∧ ch i1 ≤ 51))), (9, .int (nI 0)), (8, .int (nI (ch i1) - nI 48)), (7, .int (nI (ch i1))), (0, .ref (ad 71)), (1, .int (nI 1)), (2, .int (nI 0)), (4, .int (x4)), (6, .int (nI (i1)))]) hx hb dX6_read_168 hl (by decide) rfl (fun ls hl => ?_)
                refine lv_iload hx hb dX6_read_170 (lv_at hl 7 rfl) ?_
                refine q_bp 33 hx hb dX6_read_172 (by decide) ?_
                refine q_cne (tgt := 527) hx hb dX6_read_174 (by decide) (by first | omega | exact Nat.lt_of_le_of_lt (hw3 _) (by decide)) (by first | omega | exact Nat.lt_of_le_of_lt (hw3 _) (by decide)) (fun c_174 => ?_) (fun c_174 => absurd c_174 (by omega))
                refine lv_iload hx hb dX6_read_527 (lv_at hl 2 rfl) ?_
                refine lv_if_ge (tgt := 535) hx hb dX6_read_529 (by decide) (fun c_529 => absurd c_529 (by decide)) (fun c_529 => ?_)
                refine lv_iload hx hb dX6_read_532 (lv_at hl 12 rfl) ?_
                exact q_iret1 hC hW hr hlk0 ⟨hX.2.2.2.2.1, hX.2.2.2.2.2, rfl, Or.inl ⟨i1, hX.2.1, FLx hX (by omega) (s0_n (by omega) hp_9 (by omega)), rfl⟩⟩ dX6_read_534
              ·
                refine q_bp 8 hx hb dX6_read_155 (by decide) ?_
                refine lv_goto (tgt := 162) hx hb dX6_read_157 (by decide) ?_
                refine lv_istore (lv' := [(12, .int (nI 8)), (11, .int (bI (97 ≤ ch i1 ∧ ch i1 ≤ 100))), (10, .int (bI (48 ≤ ch i1 ∧ ch i1 ≤ 51))), (9, .int (nI 0)), (8, .int (nI (ch i1) - nI 48)), (7, .int (nI (ch i1))), (0, .ref (ad 71)), (1, .int (nI 1)), (2, .int (nI 0)), (3, .int (x3)), (4, .int (x4)), (5, .int (x5)), (6, .int (nI (i1)))]) hx hb dX6_read_162 hl (by decide) rfl (fun ls hl => ?_)
                refine lv_iload hx hb dX6_read_164 (lv_at hl 4 rfl) ?_
                refine lv_istore_n (lv' := [(3, .int (nI (ch i1) - nI 48)), (12, .int (nI 8)), (11, .int (bI (97 ≤ ch i1 ∧ ch i1 ≤ 100))), (10, .int (bI (48 ≤ ch i1 ∧ ch i1 ≤ 51))), (9, .int (nI 0)), (8, .int (nI (ch i1) - nI 48)), (7, .int (nI (ch i1))), (0, .ref (ad 71)), (1, .int (nI 1)), (2, .int (nI 0)), (4, .int (x4)), (5, .int (x5)), (6, .int (nI (i1)))]) hx hb dX6_read_166 rfl hl (by decide) rfl (fun ls hl => ?_)
                refine q_ic 0 hx hb dX6_read_167 (by decide) ?_
                refine lv_istore (lv' := [(5, .int (nI 0)), (3, .int (nI (ch i1) - nI 48)), (12, .int (nI 8)), (11, .int (bI (97 ≤ ch i1 ∧ ch i1 ≤ 100))), (10, .int (bI (48 ≤ ch i1 ∧ ch i1 ≤ 51))), (9, .int (nI 0)), (8, .int (nI (ch i1) - nI 48)), (7, .int (nI (ch i1))), (0, .ref (ad 71)), (1, .int (nI 1)), (2, .int (nI 0)), (4, .int (x4)), (6, .int (nI (i1)))]) hx hb dX6_read_168 hl (by decide) rfl (fun ls hl => ?_)
                refine lv_iload hx hb dX6_read_170 (lv_at hl 7 rfl) ?_
                refine q_bp 33 hx hb dX6_read_172 (by decide) ?_
                refine q_cne (tgt := 527) hx hb dX6_read_174 (by decide) (by first | omega | exact Nat.lt_of_le_of_lt (hw3 _) (by decide)) (by first | omega | exact Nat.lt_of_le_of_lt (hw3 _) (by decide)) (fun c_174 => absurd c_174 (by omega)) (fun c_174 => ?_)
                refine lv_iload_n hx hb dX6_read_177 rfl (lv_at hl 9 rfl) ?_
                refine q_ieq (tgt := 527) hx hb dX6_read_178 (by decide) (by first | omega | exact Nat.lt_of_le_of_lt (hw3 _) (by decide)) (fun c_178 => absurd c_178 (by decide)) (fun c_178 => ?_)
                refine lv_aload_n hx hb dX6_read_181 rfl (lv_at hl 8 rfl) ?_
                refine g_6_0 (x := 71) (y := 72) hC hW (by omega) kd_71 gw_483 (hlk 71 0 72 (by omega) rfl) dX6_read_182 ?_
                refine q_bp 58 hx hb dX6_read_185 (by decide) ?_
                refine q_ic 0 hx hb dX6_read_187 (by decide) ?_
                refine q_iast (x := 72) (i := 58) (v := nI 0) hC hW (by omega) kd_72 (by omega) dX6_read_188 (fun H locs hW => ?_)
                refine lv_goto (tgt := 527) hx hb dX6_read_189 (by decide) ?_
                refine lv_iload hx hb dX6_read_527 (lv_at hl 2 rfl) ?_
                refine lv_if_ge (tgt := 535) hx hb dX6_read_529 (by decide) (fun c_529 => ?_) (fun c_529 => absurd c_529 (by decide))
                refine lv_aload_n hx hb dX6_read_535 rfl (lv_at hl 8 rfl) ?_
                refine lv_dup hx hb dX6_read_536 rfl ?_
                refine g_6_15 (x := 71) hC hW (by omega) kd_71 gw_498 dX6_read_537 ?_
                refine q_top (v2 := .int (nI (p1))) (congrArg _ (by rw [up2_ne (by decide), hX.2.2.1])) ?_
                refine lv_iload hx hb dX6_read_540 (lv_at hl 2 rfl) ?_
                refine q_ine (tgt := 549) hx hb dX6_read_542 (by decide) (by first | omega | exact Nat.lt_of_le_of_lt (hw3 _) (by decide)) (fun c_542 => ?_) (fun c_542 => absurd c_542 (by decide))
                refine q_ic 0 hx hb dX6_read_549 (by decide) ?_
                refine q_iadd hx hb dX6_read_550 ?_
                refine p_6_15 (x := 71) (v := nI (p1 + 0)) hC hW (by omega) kd_71 gw_498 dX6_read_551 (fun H locs hW => ?_)
                refine lv_iload hx hb dX6_read_554 (lv_at hl 2 rfl) ?_
                refine lv_istore_n (lv' := [(2, .int (nI 8)), (5, .int (nI 0)), (3, .int (nI (ch i1) - nI 48)), (12, .int (nI 8)), (11, .int (bI (97 ≤ ch i1 ∧ ch i1 ≤ 100))), (10, .int (bI (48 ≤ ch i1 ∧ ch i1 ≤ 51))), (9, .int (nI 0)), (8, .int (nI (ch i1) - nI 48)), (7, .int (nI (ch i1))), (0, .ref (ad 71)), (1, .int (nI 1)), (4, .int (x4)), (6, .int (nI (i1)))]) hx hb dX6_read_556 rfl hl (by decide) rfl (fun ls hl => ?_)
                refine q_iinc (z2 := i1 + 1) (lv' := [(6, .int (nI (i1 + 1))), (2, .int (nI 8)), (5, .int (nI 0)), (3, .int (nI (ch i1) - nI 48)), (12, .int (nI 8)), (11, .int (bI (97 ≤ ch i1 ∧ ch i1 ≤ 100))), (10, .int (bI (48 ≤ ch i1 ∧ ch i1 ≤ 51))), (9, .int (nI 0)), (8, .int (nI (ch i1) - nI 48)), (7, .int (nI (ch i1))), (0, .ref (ad 71)), (1, .int (nI 1)), (4, .int (x4))]) hx hb dX6_read_557 hl (k := 12) rfl (inc_up _ 1 (by decide)) (by decide) rfl (fun ls hl => ?_)
                refine lv_goto (tgt := 18) hx hb dX6_read_560 (by decide) ?_
                exact ih_18 (i1 + 1) 8 a1 b1 0 p1 w1 0 r1 (nI (ch i1) - nI 48) x4 (nI 0) (up2 (up2 I1 72 58 (nI 0)) 71 15 (nI (p1 + 0))) (by omega) (PX_g hX (by omega) (s0_8 (by omega)) (fun a ha => by rw [up2_ne ha]) (N_0 hN1) rfl) (QX_8 (by decide) rfl) _ _ hW _ (lv_sub hl [10, 11, 1, 3, 12, 2, 0] rfl)
            ·
              have hp_9 : 48 ≤ ch i1 ∧ ch i1 ≤ 53 := bI_1 c_141
              rw [bI_t hp_9] at hl
              rw [show nI (ch i1) - nI 48 = nI (ch i1 - 48) from pk_sub (by omega)] at hl
              refine q_ic 3 hx hb dX6_read_144 (by decide) ?_
              refine lv_goto (tgt := 162) hx hb dX6_read_145 (by decide) ?_
              refine lv_istore (lv' := [(12, .int (nI 3)), (11, .int (bI (97 ≤ ch i1 ∧ ch i1 ≤ 100))), (10, .int (bI (48 ≤ ch i1 ∧ ch i1 ≤ 51))), (9, .int (nI 1)), (8, .int (nI (ch i1 - 48))), (7, .int (nI (ch i1))), (0, .ref (ad 71)), (1, .int (nI 1)), (2, .int (nI 0)), (3, .int (x3)), (4, .int (x4)), (5, .int (x5)), (6, .int (nI (i1)))]) hx hb dX6_read_162 hl (by decide) rfl (fun ls hl => ?_)
              refine lv_iload hx hb dX6_read_164 (lv_at hl 4 rfl) ?_
              refine lv_istore_n (lv' := [(3, .int (nI (ch i1 - 48))), (12, .int (nI 3)), (11, .int (bI (97 ≤ ch i1 ∧ ch i1 ≤ 100))), (10, .int (bI (48 ≤ ch i1 ∧ ch i1 ≤ 51))), (9, .int (nI 1)), (8, .int (nI (ch i1 - 48))), (7, .int (nI (ch i1))), (0, .ref (ad 71)), (1, .int (nI 1)), (2, .int (nI 0)), (4, .int (x4)), (5, .int (x5)), (6, .int (nI (i1)))]) hx hb dX6_read_166 rfl hl (by decide) rfl (fun ls hl => ?_)
              refine q_ic 0 hx hb dX6_read_167 (by decide) ?_
              refine lv_istore (lv' := [(5, .int (nI 0)), (3, .int (nI (ch i1 - 48))), (12, .int (nI 3)), (11, .int (bI (97 ≤ ch i1 ∧ ch i1 ≤ 100))), (10, .int (bI (48 ≤ ch i1 ∧ ch i1 ≤ 51))), (9, .int (nI 1)), (8, .int (nI (ch i1 - 48))), (7, .int (nI (ch i1))), (0, .ref (ad 71)), (1, .int (nI 1)), (2, .int (nI 0)), (4, .int (x4)), (6, .int (nI (i1)))]) hx hb dX6_read_168 hl (by decide) rfl (fun ls hl => ?_)
              refine lv_iload hx hb dX6_read_170 (lv_at hl 7 rfl) ?_
              refine q_bp 33 hx hb dX6_read_172 (by decide) ?_
              refine q_cne (tgt := 527) hx hb dX6_read_174 (by decide) (by first | omega | exact Nat.lt_of_le_of_lt (hw3 _) (by decide)) (by first | omega | exact Nat.lt_of_le_of_lt (hw3 _) (by decide)) (fun c_174 => ?_) (fun c_174 => absurd c_174 (by omega))
              refine lv_iload hx hb dX6_read_527 (lv_at hl 2 rfl) ?_
              refine lv_if_ge (tgt := 535) hx hb dX6_read_529 (by decide) (fun c_529 => ?_) (fun c_529 => absurd c_529 (by decide))
              refine lv_aload_n hx hb dX6_read_535 rfl (lv_at hl 8 rfl) ?_
              refine lv_dup hx hb dX6_read_536 rfl ?_
              refine g_6_15 (x := 71) hC hW (by omega) kd_71 gw_498 dX6_read_537 ?_
              refine q_top (v2 := .int (nI (p1))) (congrArg _ hX.2.2.1) ?_
              refine lv_iload hx hb dX6_read_540 (lv_at hl 2 rfl) ?_
              refine q_ine (tgt := 549) hx hb dX6_read_542 (by decide) (by first | omega | exact Nat.lt_of_le_of_lt (hw3 _) (by decide)) (fun c_542 => ?_) (fun c_542 => absurd c_542 (by decide))
              refine q_ic 0 hx hb dX6_read_549 (by decide) ?_
              refine q_iadd hx hb dX6_read_550 ?_
              refine p_6_15 (x := 71) (v := nI (p1 + 0)) hC hW (by omega) kd_71 gw_498 dX6_read_551 (fun H locs hW => ?_)
              refine lv_iload hx hb dX6_read_554 (lv_at hl 2 rfl) ?_
              refine lv_istore_n (lv' := [(2, .int (nI 3)), (5, .int (nI 0)), (3, .int (nI (ch i1 - 48))), (12, .int (nI 3)), (11, .int (bI (97 ≤ ch i1 ∧ ch i1 ≤ 100))), (10, .int (bI (48 ≤ ch i1 ∧ ch i1 ≤ 51))), (9, .int (nI 1)), (8, .int (nI (ch i1 - 48))), (7, .int (nI (ch i1))), (0, .ref (ad 71)), (1, .int (nI 1)), (4, .int (x4)), (6, .int (nI (i1)))]) hx hb dX6_read_556 rfl hl (by decide) rfl (fun ls hl => ?_)
              refine q_iinc (z2 := i1 + 1) (lv' := [(6, .int (nI (i1 + 1))), (2, .int (nI 3)), (5, .int (nI 0)), (3, .int (nI (ch i1 - 48))), (12, .int (nI 3)), (11, .int (bI (97 ≤ ch i1 ∧ ch i1 ≤ 100))), (10, .int (bI (48 ≤ ch i1 ∧ ch i1 ≤ 51))), (9, .int (nI 1)), (8, .int (nI (ch i1 - 48))), (7, .int (nI (ch i1))), (0, .ref (ad 71)), (1, .int (nI 1)), (4, .int (x4))]) hx hb dX6_read_557 hl (k := 12) rfl (inc_up _ 1 (by decide)) (by decide) rfl (fun ls hl => ?_)
              refine lv_goto (tgt := 18) hx hb dX6_read_560 (by decide) ?_
              exact ih_18 (i1 + 1) 3 (ch i1 - 48) b1 m1 p1 w1 K1 r1 (nI (ch i1 - 48)) x4 (nI 0) (up2 I1 71 15 (nI (p1 + 0))) (by omega) (PX_g hX (by omega) (s0_3 (by omega) (by omega)) (fun _ _ => rfl) (hN1) rfl) (QX_c (by omega) (by omega)) _ _ hW _ (lv_sub hl [10, 11, 1, 3, 12, 2, 0] rfl)
          ·
            refine q_ic 1 hx hb dX6_read_135 (by decide) ?_
            refine lv_goto (tgt := 162) hx hb dX6_read_136 (by decide) ?_
            refine lv_istore (lv' := [(12, .int (nI 1)), (11, .int (bI (97 ≤ ch i1 ∧ ch i1 ≤ 100))), (10, .int (bI (48 ≤ ch i1 ∧ ch i1 ≤ 51))), (9, .int (bI (48 ≤ ch i1 ∧ ch i1 ≤ 53))), (8, .int (nI (ch i1) - nI 48)), (7, .int (nI (ch i1))), (0, .ref (ad 71)), (1, .int (nI 1)), (2, .int (nI 0)), (3, .int (x3)), (4, .int (x4)), (5, .int (x5)), (6, .int (nI (i1)))]) hx hb dX6_read_162 hl (by decide) rfl (fun ls hl => ?_)
            refine lv_iload hx hb dX6_read_164 (lv_at hl 4 rfl) ?_
            refine lv_istore_n (lv' := [(3, .int (nI (ch i1) - nI 48)), (12, .int (nI 1)), (11, .int (bI (97 ≤ ch i1 ∧ ch i1 ≤ 100))), (10, .int (bI (48 ≤ ch i1 ∧ ch i1 ≤ 51))), (9, .int (bI (48 ≤ ch i1 ∧ ch i1 ≤ 53))), (8, .int (nI (ch i1) - nI 48)), (7, .int (nI (ch i1))), (0, .ref (ad 71)), (1, .int (nI 1)), (2, .int (nI 0)), (4, .int (x4)), (5, .int (x5)), (6, .int (nI (i1)))]) hx hb dX6_read_166 rfl hl (by decide) rfl (fun ls hl => ?_)
            refine q_ic 0 hx hb dX6_read_167 (by decide) ?_
            refine lv_istore (lv' := [(5, .int (nI 0)), (3, .int (nI (ch i1) - nI 48)), (12, .int (nI 1)), (11, .int (bI (97 ≤ ch i1 ∧ ch i1 ≤ 100))), (10, .int (bI (48 ≤ ch i1 ∧ ch i1 ≤ 51))), (9, .int (bI (48 ≤ ch i1 ∧ ch i1 ≤ 53))), (8, .int (nI (ch i1) - nI 48)), (7, .int (nI (ch i1))), (0, .ref (ad 71)), (1, .int (nI 1)), (2, .int (nI 0)), (4, .int (x4)), (6, .int (nI (i1)))]) hx hb dX6_read_168 hl (by decide) rfl (fun ls hl => ?_)
            refine lv_iload hx hb dX6_read_170 (lv_at hl 7 rfl) ?_
            refine q_bp 33 hx hb dX6_read_172 (by decide) ?_
            refine q_cne (tgt := 527) hx hb dX6_read_174 (by decide) (by first | omega | exact Nat.lt_of_le_of_lt (hw3 _) (by decide)) (by first | omega | exact Nat.lt_of_le_of_lt (hw3 _) (by decide)) (fun c_174 => ?_) (fun c_174 => absurd c_174 (by omega))
            refine lv_iload hx hb dX6_read_527 (lv_at hl 2 rfl) ?_
            refine lv_if_ge (tgt := 535) hx hb dX6_read_529 (by decide) (fun c_529 => ?_) (fun c_529 => absurd c_529 (by decide))
            refine lv_aload_n hx hb dX6_read_535 rfl (lv_at hl 8 rfl) ?_
            refine lv_dup hx hb dX6_read_536 rfl ?_
            refine g_6_15 (x := 71) hC hW (by omega) kd_71 gw_498 dX6_read_537 ?_
            refine q_top (v2 := .int (nI (p1))) (congrArg _ hX.2.2.1) ?_
            refine lv_iload hx hb dX6_read_540 (lv_at hl 2 rfl) ?_
            refine q_ine (tgt := 549) hx hb dX6_read_542 (by decide) (by first | omega | exact Nat.lt_of_le_of_lt (hw3 _) (by decide)) (fun c_542 => ?_) (fun c_542 => absurd c_542 (by decide))
            refine q_ic 0 hx hb dX6_read_549 (by decide) ?_
            refine q_iadd hx hb dX6_read_550 ?_
            refine p_6_15 (x := 71) (v := nI (p1 + 0)) hC hW (by omega) kd_71 gw_498 dX6_read_551 (fun H locs hW => ?_)
            refine lv_iload hx hb dX6_read_554 (lv_at hl 2 rfl) ?_
            refine lv_istore_n (lv' := [(2, .int (nI 1)), (5, .int (nI 0)), (3, .int (nI (ch i1) - nI 48)), (12, .int (nI 1)), (11, .int (bI (97 ≤ ch i1 ∧ ch i1 ≤ 100))), (10, .int (bI (48 ≤ ch i1 ∧ ch i1 ≤ 51))), (9, .int (bI (48 ≤ ch i1 ∧ ch i1 ≤ 53))), (8, .int (nI (ch i1) - nI 48)), (7, .int (nI (ch i1))), (0, .ref (ad 71)), (1, .int (nI 1)), (4, .int (x4)), (6, .int (nI (i1)))]) hx hb dX6_read_556 rfl hl (by decide) rfl (fun ls hl => ?_)
            refine q_iinc (z2 := i1 + 1) (lv' := [(6, .int (nI (i1 + 1))), (2, .int (nI 1)), (5, .int (nI 0)), (3, .int (nI (ch i1) - nI 48)), (12, .int (nI 1)), (11, .int (bI (97 ≤ ch i1 ∧ ch i1 ≤ 100))), (10, .int (bI (48 ≤ ch i1 ∧ ch i1 ≤ 51))), (9, .int (bI (48 ≤ ch i1 ∧ ch i1 ≤ 53))), (8, .int (nI (ch i1) - nI 48)), (7, .int (nI (ch i1))), (0, .ref (ad 71)), (1, .int (nI 1)), (4, .int (x4))]) hx hb dX6_read_557 hl (k := 12) rfl (inc_up _ 1 (by decide)) (by decide) rfl (fun ls hl => ?_)
            refine lv_goto (tgt := 18) hx hb dX6_read_560 (by decide) ?_
            exact ih_18 (i1 + 1) 1 a1 b1 m1 p1 w1 K1 r1 (nI (ch i1) - nI 48) x4 (nI 0) (up2 I1 71 15 (nI (p1 + 0))) (by omega) (PX_g hX (by omega) (s0_1 (by omega)) (fun _ _ => rfl) (hN1) rfl) QX_1 _ _ hW _ (lv_sub hl [10, 11, 1, 3, 12, 2, 0] rfl)
        ·
          refine lv_tableIn (off := 115) (tgt := 192) hx hb dX6_read_77 (by decide) (by decide) rfl (by decide) ?_
          refine lv_iload hx hb dX6_read_192 (lv_at hl 3 rfl) ?_
          refine lv_if_eq (tgt := 201) hx hb dX6_read_194 (by decide) (fun c_194 => ?_) (fun c_194 => ?_)
          ·
            have hp_9 : ¬ (48 ≤ ch i1 ∧ ch i1 ≤ 53) := bI_0 c_194
            rw [bI_f hp_9] at hl
            refine lv_bipush (v := -6) hx hb dX6_read_201 (by decide) ?_
            refine lv_istore (lv' := [(12, .int (-6)), (11, .int (bI (97 ≤ ch i1 ∧ ch i1 ≤ 100))), (10, .int (bI (48 ≤ ch i1 ∧ ch i1 ≤ 51))), (9, .int (nI 0)), (8, .int (nI (ch i1) - nI 48)), (7, .int (nI (ch i1))), (0, .ref (ad 71)), (1, .int (nI 1)), (2, .int (nI 1)), (3, .int (x3)), (4, .int (x4)), (5, .int (x5)), (6, .int (nI (i1)))]) hx hb dX6_read_203 hl (by decide) rfl (fun ls hl => ?_)
            refine lv_iload hx hb dX6_read_205 (lv_at hl 4 rfl) ?_
            refine lv_istore_n (lv' := [(3, .int (nI (ch i1) - nI 48)), (12, .int (-6)), (11, .int (bI (97 ≤ ch i1 ∧ ch i1 ≤ 100))), (10, .int (bI (48 ≤ ch i1 ∧ ch i1 ≤ 51))), (9, .int (nI 0)), (8, .int (nI (ch i1) - nI 48)), (7, .int (nI (ch i1))), (0, .ref (ad 71)), (1, .int (nI 1)), (2, .int (nI 1)), (4, .int (x4)), (5, .int (x5)), (6, .int (nI (i1)))]) hx hb dX6_read_207 rfl hl (by decide) rfl (fun ls hl => ?_)
            refine lv_goto (tgt := 527) hx hb dX6_read_208 (by decide) ?_
            refine lv_iload hx hb dX6_read_527 (lv_at hl 1 rfl) ?_
            refine lv_if_ge (tgt := 535) hx hb dX6_read_529 (by decide) (fun c_529 => absurd c_529 (by decide)) (fun c_529 => ?_)
            refine lv_iload hx hb dX6_read_532 (lv_at hl 12 rfl) ?_
            exact q_iret1 hC hW hr hlk0 ⟨hX.2.2.2.2.1, hX.2.2.2.2.2, rfl, Or.inl ⟨i1, hX.2.1, FLx hX (by omega) (s1_n hp_9), rfl⟩⟩ dX6_read_534
          ·
            have hp_9 : 48 ≤ ch i1 ∧ ch i1 ≤ 53 := bI_1 c_194
            rw [bI_t hp_9] at hl
            rw [show nI (ch i1) - nI 48 = nI (ch i1 - 48) from pk_sub (by omega)] at hl
            refine q_ic 2 hx hb dX6_read_197 (by decide) ?_
            refine lv_goto (tgt := 203) hx hb dX6_read_198 (by decide) ?_
            refine lv_istore (lv' := [(12, .int (nI 2)), (11, .int (bI (97 ≤ ch i1 ∧ ch i1 ≤ 100))), (10, .int (bI (48 ≤ ch i1 ∧ ch i1 ≤ 51))), (9, .int (nI 1)), (8, .int (nI (ch i1 - 48))), (7, .int (nI (ch i1))), (0, .ref (ad 71)), (1, .int (nI 1)), (2, .int (nI 1)), (3, .int (x3)), (4, .int (x4)), (5, .int (x5)), (6, .int (nI (i1)))]) hx hb dX6_read_203 hl (by decide) rfl (fun ls hl => ?_)
            refine lv_iload hx hb dX6_read_205 (lv_at hl 4 rfl) ?_
            refine lv_istore_n (lv' := [(3, .int (nI (ch i1 - 48))), (12, .int (nI 2)), (11, .int (bI (97 ≤ ch i1 ∧ ch i1 ≤ 100))), (10, .int (bI (48 ≤ ch i1 ∧ ch i1 ≤ 51))), (9, .int (nI 1)), (8, .int (nI (ch i1 - 48))), (7, .int (nI (ch i1))), (0, .ref (ad 71)), (1, .int (nI 1)), (2, .int (nI 1)), (4, .int (x4)), (5, .int (x5)), (6, .int (nI (i1)))]) hx hb dX6_read_207 rfl hl (by decide) rfl (fun ls hl => ?_)
            refine lv_goto (tgt := 527) hx hb dX6_read_208 (by decide) ?_
            refine lv_iload hx hb dX6_read_527 (lv_at hl 1 rfl) ?_
            refine lv_if_ge (tgt := 535) hx hb dX6_read_529 (by decide) (fun c_529 => ?_) (fun c_529 => absurd c_529 (by decide))
            refine lv_aload_n hx hb dX6_read_535 rfl (lv_at hl 7 rfl) ?_
            refine lv_dup hx hb dX6_read_536 rfl ?_
            refine g_6_15 (x := 71) hC hW (by omega) kd_71 gw_498 dX6_read_537 ?_
            refine q_top (v2 := .int (nI (p1))) (congrArg _ hX.2.2.1) ?_
            refine lv_iload hx hb dX6_read_540 (lv_at hl 1 rfl) ?_
            refine q_ine (tgt := 549) hx hb dX6_read_542 (by decide) (by first | omega | exact Nat.lt_of_le_of_lt (hw3 _) (by decide)) (fun c_542 => ?_) (fun c_542 => absurd c_542 (by decide))
            refine q_ic 0 hx hb dX6_read_549 (by decide) ?_
            refine q_iadd hx hb dX6_read_550 ?_
            refine p_6_15 (x := 71) (v := nI (p1 + 0)) hC hW (by omega) kd_71 gw_498 dX6_read_551 (fun H locs hW => ?_)
            refine lv_iload hx hb dX6_read_554 (lv_at hl 1 rfl) ?_
            refine lv_istore_n (lv' := [(2, .int (nI 2)), (3, .int (nI (ch i1 - 48))), (12, .int (nI 2)), (11, .int (bI (97 ≤ ch i1 ∧ ch i1 ≤ 100))), (10, .int (bI (48 ≤ ch i1 ∧ ch i1 ≤ 51))), (9, .int (nI 1)), (8, .int (nI (ch i1 - 48))), (7, .int (nI (ch i1))), (0, .ref (ad 71)), (1, .int (nI 1)), (4, .int (x4)), (5, .int (x5)), (6, .int (nI (i1)))]) hx hb dX6_read_556 rfl hl (by decide) rfl (fun ls hl => ?_)
            refine q_iinc (z2 := i1 + 1) (lv' := [(6, .int (nI (i1 + 1))), (2, .int (nI 2)), (3, .int (nI (ch i1 - 48))), (12, .int (nI 2)), (11, .int (bI (97 ≤ ch i1 ∧ ch i1 ≤ 100))), (10, .int (bI (48 ≤ ch i1 ∧ ch i1 ≤ 51))), (9, .int (nI 1)), (8, .int (nI (ch i1 - 48))), (7, .int (nI (ch i1))), (0, .ref (ad 71)), (1, .int (nI 1)), (4, .int (x4)), (5, .int (x5))]) hx hb dX6_read_557 hl (k := 12) rfl (inc_up _ 1 (by decide)) (by decide) rfl (fun ls hl => ?_)
            refine lv_goto (tgt := 18) hx hb dX6_read_560 (by decide) ?_
            exact ih_18 (i1 + 1) 2 (ch i1 - 48) b1 m1 p1 w1 K1 r1 (nI (ch i1 - 48)) x4 x5 (up2 I1 71 15 (nI (p1 + 0))) (by omega) (PX_g hX (by omega) (s1_2 hp_9) (fun _ _ => rfl) (hN1) rfl) (QX_c (by omega) (by omega)) _ _ hW _ (lv_sub hl [9, 10, 1, 2, 11, 12, 0] rfl)
        ·
          obtain ⟨rfl, ha6, ha4⟩ := hQ.1 (by decide) (by decide)
          refine lv_tableIn (off := 134) (tgt := 211) hx hb dX6_read_77 (by decide) (by decide) rfl (by decide) ?_
          refine lv_iload hx hb dX6_read_211 (lv_at hl 2 rfl) ?_
          refine lv_if_eq (tgt := 221) hx hb dX6_read_213 (by decide) (fun c_213 => ?_) (fun c_213 => ?_)
          ·
            have hp_10 : ¬ (48 ≤ ch i1 ∧ ch i1 ≤ 51) := bI_0 c_213
            rw [bI_f hp_10] at hl
            refine lv_bipush (v := -6) hx hb dX6_read_221 (by decide) ?_
            refine lv_istore (lv' := [(12, .int (-6)), (11, .int (bI (97 ≤ ch i1 ∧ ch i1 ≤ 100))), (10, .int (nI 0)), (9, .int (bI (48 ≤ ch i1 ∧ ch i1 ≤ 53))), (8, .int (nI (ch i1) - nI 48)), (7, .int (nI (ch i1))), (0, .ref (ad 71)), (1, .int (nI 1)), (2, .int (nI 2)), (3, .int (nI (a1))), (4, .int (x4)), (5, .int (x5)), (6, .int (nI (i1)))]) hx hb dX6_read_223 hl (by decide) rfl (fun ls hl => ?_)
            refine lv_aload_n hx hb dX6_read_225 rfl (lv_at hl 6 rfl) ?_
            refine lv_iload_n hx hb dX6_read_226 rfl (lv_at hl 7 rfl) ?_
            refine q_ieq (tgt := 239) hx hb dX6_read_227 (by decide) (by first | omega | exact Nat.lt_of_le_of_lt (hw3 _) (by decide)) (fun c_227 => absurd c_227 (by decide)) (fun c_227 => ?_)
            refine lv_iload hx hb dX6_read_230 (lv_at hl 2 rfl) ?_
            refine q_ieq (tgt := 239) hx hb dX6_read_232 (by decide) (by first | omega | exact Nat.lt_of_le_of_lt (hw3 _) (by decide)) (fun c_232 => ?_) (fun c_232 => absurd c_232 (by decide))
            refine q_ic 0 hx hb dX6_read_239 (by decide) ?_
            refine lv_iload_n hx hb dX6_read_240 rfl (lv_at hl 9 rfl) ?_
            refine lv_iload hx hb dX6_read_241 (lv_at hl 4 rfl) ?_
            refine q_kV1 (q_rV (As := [.int (nI 0), .int (nI (a1)), .int (nI (ch i1) - nI 48)]) (rest := []) (x := 71) hC hW mw_X6_lay gw_736 (k_lay0 l G n ad H.size I1 L R (nI a1) (nI (ch i1) - nI 48)) (by omega) (ct_o6 kd_71) rfl ⟨rfl, rfl⟩ ⟨Nat.le_of_ble_eq_true rfl, Nat.le_of_ble_eq_true rfl⟩ ⟨(Nat.le_of_ble_eq_true rfl), (Nat.le_of_ble_eq_true rfl)⟩ hl.1 rfl rfl (Nat.le_of_ble_eq_true rfl) dX6_read_243) hW (fun I_243 L_243 H locs hp hW => ?_)
            obtain ⟨rfl, rfl⟩ := hp
            refine lv_goto (tgt := 527) hx hb dX6_read_246 (by decide) ?_
            refine lv_iload hx hb dX6_read_527 (lv_at hl 0 rfl) ?_
            refine lv_if_ge (tgt := 535) hx hb dX6_read_529 (by decide) (fun c_529 => absurd c_529 (by decide)) (fun c_529 => ?_)
            refine lv_iload hx hb dX6_read_532 (lv_at hl 12 rfl) ?_
            exact q_iret1 hC hW hr hlk0 ⟨hX.2.2.2.2.1, hX.2.2.2.2.2, rfl, Or.inl ⟨i1, hX.2.1, FLx hX (by omega) (s2_n hp_10), rfl⟩⟩ dX6_read_534
          ·
            have hp_10 : 48 ≤ ch i1 ∧ ch i1 ≤ 51 := bI_1 c_213
            rw [bI_t hp_10] at hl
            rw [show nI (ch i1) - nI 48 = nI (ch i1 - 48) from pk_sub (by omega)] at hl
            refine q_bp 9 hx hb dX6_read_216 (by decide) ?_
            refine lv_goto (tgt := 223) hx hb dX6_read_218 (by decide) ?_
            refine lv_istore (lv' := [(12, .int (nI 9)), (11, .int (bI (97 ≤ ch i1 ∧ ch i1 ≤ 100))), (10, .int (nI 1)), (9, .int (bI (48 ≤ ch i1 ∧ ch i1 ≤ 53))), (8, .int (nI (ch i1 - 48))), (7, .int (nI (ch i1))), (0, .ref (ad 71)), (1, .int (nI 1)), (2, .int (nI 2)), (3, .int (nI (a1))), (4, .int (x4)), (5, .int (x5)), (6, .int (nI (i1)))]) hx hb dX6_read_223 hl (by decide) rfl (fun ls hl => ?_)
            refine lv_aload_n hx hb dX6_read_225 rfl (lv_at hl 6 rfl) ?_
            refine lv_iload_n hx hb dX6_read_226 rfl (lv_at hl 7 rfl) ?_
            refine q_ieq (tgt := 239) hx hb dX6_read_227 (by decide) (by first | omega | exact Nat.lt_of_le_of_lt (hw3 _) (by decide)) (fun c_227 => absurd c_227 (by decide)) (fun c_227 => ?_)
            refine lv_iload hx hb dX6_read_230 (lv_at hl 2 rfl) ?_
            refine q_ieq (tgt := 239) hx hb dX6_read_232 (by decide) (by first | omega | exact Nat.lt_of_le_of_lt (hw3 _) (by decide)) (fun c_232 => absurd c_232 (by decide)) (fun c_232 => ?_)
            refine q_ic 1 hx hb dX6_read_235 (by decide) ?_
            refine lv_goto (tgt := 240) hx hb dX6_read_236 (by decide) ?_
            refine lv_iload_n hx hb dX6_read_240 rfl (lv_at hl 9 rfl) ?_
            refine lv_iload hx hb dX6_read_241 (lv_at hl 4 rfl) ?_
            refine q_kV1 (q_rV (As := [.int (nI 1), .int (nI (a1)), .int (nI (ch i1 - 48))]) (rest := []) (x := 71) hC hW mw_X6_lay gw_736 (k_lay1 l G n ad H.size I1 L R _ _ (by omega) hn hlk) (by omega) (ct_o6 kd_71) rfl ⟨rfl, rfl⟩ ⟨Nat.le_of_ble_eq_true rfl, Nat.le_of_ble_eq_true rfl⟩ ⟨(Nat.le_of_ble_eq_true rfl), (Nat.le_of_ble_eq_true rfl)⟩ hl.1 rfl rfl (Nat.le_of_ble_eq_true rfl) dX6_read_243) hW (fun I_243 L_243 H locs hp hW => ?_)
            obtain ⟨rfl, rfl⟩ := hp
            refine lv_goto (tgt := 527) hx hb dX6_read_246 (by decide) ?_
            refine lv_iload hx hb dX6_read_527 (lv_at hl 0 rfl) ?_
            refine lv_if_ge (tgt := 535) hx hb dX6_read_529 (by decide) (fun c_529 => ?_) (fun c_529 => absurd c_529 (by decide))
            refine lv_aload_n hx hb dX6_read_535 rfl (lv_at hl 6 rfl) ?_
            refine lv_dup hx hb dX6_read_536 rfl ?_
            refine g_6_15 (x := 71) hC hW (by omega) kd_71 gw_498 dX6_read_537 ?_
            refine q_top (v2 := .int (nI (p1))) (congrArg _ (by rw [up2_ne (by decide), hX.2.2.1])) ?_
            refine lv_iload hx hb dX6_read_540 (lv_at hl 0 rfl) ?_
            refine q_ine (tgt := 549) hx hb dX6_read_542 (by decide) (by first | omega | exact Nat.lt_of_le_of_lt (hw3 _) (by decide)) (fun c_542 => ?_) (fun c_542 => absurd c_542 (by decide))
            refine q_ic 0 hx hb dX6_read_549 (by decide) ?_
            refine q_iadd hx hb dX6_read_550 ?_
            refine p_6_15 (x := 71) (v := nI (p1 + 0)) hC hW (by omega) kd_71 gw_498 dX6_read_551 (fun H locs hW => ?_)
            refine lv_iload hx hb dX6_read_554 (lv_at hl 0 rfl) ?_
            refine lv_istore_n (lv' := [(2, .int (nI 9)), (12, .int (nI 9)), (11, .int (bI (97 ≤ ch i1 ∧ ch i1 ≤ 100))), (10, .int (nI 1)), (9, .int (bI (48 ≤ ch i1 ∧ ch i1 ≤ 53))), (8, .int (nI (ch i1 - 48))), (7, .int (nI (ch i1))), (0, .ref (ad 71)), (1, .int (nI 1)), (3, .int (nI (a1))), (4, .int (x4)), (5, .int (x5)), (6, .int (nI (i1)))]) hx hb dX6_read_556 rfl hl (by decide) rfl (fun ls hl => ?_)
            refine q_iinc (z2 := i1 + 1) (lv' := [(6, .int (nI (i1 + 1))), (2, .int (nI 9)), (12, .int (nI 9)), (11, .int (bI (97 ≤ ch i1 ∧ ch i1 ≤ 100))), (10, .int (nI 1)), (9, .int (bI (48 ≤ ch i1 ∧ ch i1 ≤ 53))), (8, .int (nI (ch i1 - 48))), (7, .int (nI (ch i1))), (0, .ref (ad 71)), (1, .int (nI 1)), (3, .int (nI (a1))), (4, .int (x4)), (5, .int (x5))]) hx hb dX6_read_557 hl (k := 12) rfl (inc_up _ 1 (by decide)) (by decide) rfl (fun ls hl => ?_)
            refine lv_goto (tgt := 18) hx hb dX6_read_560 (by decide) ?_
            exact ih_18 (i1 + 1) 9 a1 b1 m1 p1 (upN w1 (36 + a1) (ch i1 - 48)) K1 r1 (nI a1) x4 x5 (up2 (up2 I1 72 a1 (nI (ch i1 - 48))) 71 15 (nI (p1 + 0))) (by omega) (PX_g hX (by omega) (s2_9 hp_10) (fun a ha => by rw [up2_ne ha]) (N_w hN1 (rj_b ha6) (by omega) (by omega) (by omega)) rfl) QX_9 _ _ hW _ (lv_sub hl [8, 9, 1, 10, 11, 12, 0] rfl)
        ·
          obtain ⟨rfl, ha6, ha4⟩ := hQ.1 (by decide) (by decide)
          refine lv_tableIn (off := 172) (tgt := 249) hx hb dX6_read_77 (by decide) (by decide) rfl (by decide) ?_
          refine lv_iload hx hb dX6_read_249 (lv_at hl 5 rfl) ?_
          refine q_bp 62 hx hb dX6_read_251 (by decide) ?_
          refine q_cne (tgt := 260) hx hb dX6_read_253 (by decide) (by first | omega | exact Nat.lt_of_le_of_lt (hw3 _) (by decide)) (by first | omega | exact Nat.lt_of_le_of_lt (hw3 _) (by decide)) (fun c_253 => ?_) (fun c_253 => ?_)
          ·
            refine lv_iload hx hb dX6_read_260 (lv_at hl 5 rfl) ?_
            refine q_bp 61 hx hb dX6_read_262 (by decide) ?_
            refine q_cne (tgt := 277) hx hb dX6_read_264 (by decide) (by first | omega | exact Nat.lt_of_le_of_lt (hw3 _) (by decide)) (by first | omega | exact Nat.lt_of_le_of_lt (hw3 _) (by decide)) (fun c_264 => ?_) (fun c_264 => ?_)
            ·
              refine lv_bipush (v := -6) hx hb dX6_read_277 (by decide) ?_
              refine lv_istore (lv' := [(12, .int (-6)), (11, .int (bI (97 ≤ ch i1 ∧ ch i1 ≤ 100))), (10, .int (bI (48 ≤ ch i1 ∧ ch i1 ≤ 51))), (9, .int (bI (48 ≤ ch i1 ∧ ch i1 ≤ 53))), (8, .int (nI (ch i1) - nI 48)), (7, .int (nI (ch i1))), (0, .ref (ad 71)), (1, .int (nI 1)), (2, .int (nI 3)), (3, .int (nI (a1))), (4, .int (x4)), (5, .int (x5)), (6, .int (nI (i1)))]) hx hb dX6_read_279 hl (by decide) rfl (fun ls hl => ?_)
              refine lv_goto (tgt := 527) hx hb dX6_read_281 (by decide) ?_
              refine lv_iload hx hb dX6_read_527 (lv_at hl 0 rfl) ?_
              refine lv_if_ge (tgt := 535) hx hb dX6_read_529 (by decide) (fun c_529 => absurd c_529 (by decide)) (fun c_529 => ?_)
              refine lv_iload hx hb dX6_read_532 (lv_at hl 12 rfl) ?_
              exact q_iret1 hC hW hr hlk0 ⟨hX.2.2.2.2.1, hX.2.2.2.2.2, rfl, Or.inl ⟨i1, hX.2.1, FLx hX (by omega) (s3_n (by omega) (by omega)), rfl⟩⟩ dX6_read_534
            ·
              refine lv_iload_n hx hb dX6_read_267 rfl (lv_at hl 9 rfl) ?_
              refine q_ic 4 hx hb dX6_read_268 (by decide) ?_
              refine q_cge (tgt := 277) hx hb dX6_read_269 (by decide) (by first | omega | exact Nat.lt_of_le_of_lt (hw3 _) (by decide)) (by first | omega | exact Nat.lt_of_le_of_lt (hw3 _) (by decide)) (fun c_269 => ?_) (fun c_269 => ?_)
              ·
                refine lv_bipush (v := -6) hx hb dX6_read_277 (by decide) ?_
                refine lv_istore (lv' := [(12, .int (-6)), (11, .int (bI (97 ≤ ch i1 ∧ ch i1 ≤ 100))), (10, .int (bI (48 ≤ ch i1 ∧ ch i1 ≤ 51))), (9, .int (bI (48 ≤ ch i1 ∧ ch i1 ≤ 53))), (8, .int (nI (ch i1) - nI 48)), (7, .int (nI (ch i1))), (0, .ref (ad 71)), (1, .int (nI 1)), (2, .int (nI 3)), (3, .int (nI (a1))), (4, .int (x4)), (5, .int (x5)), (6, .int (nI (i1)))]) hx hb dX6_read_279 hl (by decide) rfl (fun ls hl => ?_)
                refine lv_goto (tgt := 527) hx hb dX6_read_281 (by decide) ?_
                refine lv_iload hx hb dX6_read_527 (lv_at hl 0 rfl) ?_
                refine lv_if_ge (tgt := 535) hx hb dX6_read_529 (by decide) (fun c_529 => absurd c_529 (by decide)) (fun c_529 => ?_)
                refine lv_iload hx hb dX6_read_532 (lv_at hl 12 rfl) ?_
                exact q_iret1 hC hW hr hlk0 ⟨hX.2.2.2.2.1, hX.2.2.2.2.2, rfl, Or.inl ⟨i1, hX.2.1, FLx hX (by omega) (s3_n (by omega) (by omega)), rfl⟩⟩ dX6_read_534
              ·
                refine q_bp 6 hx hb dX6_read_272 (by decide) ?_
                refine lv_goto (tgt := 279) hx hb dX6_read_274 (by decide) ?_
                refine lv_istore (lv' := [(12, .int (nI 6)), (11, .int (bI (97 ≤ ch i1 ∧ ch i1 ≤ 100))), (10, .int (bI (48 ≤ ch i1 ∧ ch i1 ≤ 51))), (9, .int (bI (48 ≤ ch i1 ∧ ch i1 ≤ 53))), (8, .int (nI (ch i1) - nI 48)), (7, .int (nI (ch i1))), (0, .ref (ad 71)), (1, .int (nI 1)), (2, .int (nI 3)), (3, .int (nI (a1))), (4, .int (x4)), (5, .int (x5)), (6, .int (nI (i1)))]) hx hb dX6_read_279 hl (by decide) rfl (fun ls hl => ?_)
                refine lv_goto (tgt := 527) hx hb dX6_read_281 (by decide) ?_
                refine lv_iload hx hb dX6_read_527 (lv_at hl 0 rfl) ?_
                refine lv_if_ge (tgt := 535) hx hb dX6_read_529 (by decide) (fun c_529 => ?_) (fun c_529 => absurd c_529 (by decide))
                refine lv_aload_n hx hb dX6_read_535 rfl (lv_at hl 6 rfl) ?_
                refine lv_dup hx hb dX6_read_536 rfl ?_
                refine g_6_15 (x := 71) hC hW (by omega) kd_71 gw_498 dX6_read_537 ?_
                refine q_top (v2 := .int (nI (p1))) (congrArg _ hX.2.2.1) ?_
                refine lv_iload hx hb dX6_read_540 (lv_at hl 0 rfl) ?_
                refine q_ine (tgt := 549) hx hb dX6_read_542 (by decide) (by first | omega | exact Nat.lt_of_le_of_lt (hw3 _) (by decide)) (fun c_542 => ?_) (fun c_542 => absurd c_542 (by decide))
                refine q_ic 0 hx hb dX6_read_549 (by decide) ?_
                refine q_iadd hx hb dX6_read_550 ?_
                refine p_6_15 (x := 71) (v := nI (p1 + 0)) hC hW (by omega) kd_71 gw_498 dX6_read_551 (fun H locs hW => ?_)
                refine lv_iload hx hb dX6_read_554 (lv_at hl 0 rfl) ?_
                refine lv_istore_n (lv' := [(2, .int (nI 6)), (12, .int (nI 6)), (11, .int (bI (97 ≤ ch i1 ∧ ch i1 ≤ 100))), (10, .int (bI (48 ≤ ch i1 ∧ ch i1 ≤ 51))), (9, .int (bI (48 ≤ ch i1 ∧ ch i1 ≤ 53))), (8, .int (nI (ch i1) - nI 48)), (7, .int (nI (ch i1))), (0, .ref (ad 71)), (1, .int (nI 1)), (3, .int (nI (a1))), (4, .int (x4)), (5, .int (x5)), (6, .int (nI (i1)))]) hx hb dX6_read_556 rfl hl (by decide) rfl (fun ls hl => ?_)
                refine q_iinc (z2 := i1 + 1) (lv' := [(6, .int (nI (i1 + 1))), (2, .int (nI 6)), (12, .int (nI 6)), (11, .int (bI (97 ≤ ch i1 ∧ ch i1 ≤ 100))), (10, .int (bI (48 ≤ ch i1 ∧ ch i1 ≤ 51))), (9, .int (bI (48 ≤ ch i1 ∧ ch i1 ≤ 53))), (8, .int (nI (ch i1) - nI 48)), (7, .int (nI (ch i1))), (0, .ref (ad 71)), (1, .int (nI 1)), (3, .int (nI (a1))), (4, .int (x4)), (5, .int (x5))]) hx hb dX6_read_557 hl (k := 12) rfl (inc_up _ 1 (by decide)) (by decide) rfl (fun ls hl => ?_)
                refine lv_goto (tgt := 18) hx hb dX6_read_560 (by decide) ?_
                exact ih_18 (i1 + 1) 6 a1 b1 m1 p1 w1 K1 r1 (nI a1) x4 x5 (up2 I1 71 15 (nI (p1 + 0))) (by omega) (PX_g hX (by omega) (s3_6 (by omega) (by omega)) (fun _ _ => rfl) (hN1) rfl) (QX_c (by omega) (by omega)) _ _ hW _ (lv_sub hl [8, 9, 1, 10, 11, 12, 0] rfl)
          ·
            refine q_ic 4 hx hb dX6_read_256 (by decide) ?_
            refine lv_goto (tgt := 279) hx hb dX6_read_257 (by decide) ?_
            refine lv_istore (lv' := [(12, .int (nI 4)), (11, .int (bI (97 ≤ ch i1 ∧ ch i1 ≤ 100))), (10, .int (bI (48 ≤ ch i1 ∧ ch i1 ≤ 51))), (9, .int (bI (48 ≤ ch i1 ∧ ch i1 ≤ 53))), (8, .int (nI (ch i1) - nI 48)), (7, .int (nI (ch i1))), (0, .ref (ad 71)), (1, .int (nI 1)), (2, .int (nI 3)), (3, .int (nI (a1))), (4, .int (x4)), (5, .int (x5)), (6, .int (nI (i1)))]) hx hb dX6_read_279 hl (by decide) rfl (fun ls hl => ?_)
            refine lv_goto (tgt := 527) hx hb dX6_read_281 (by decide) ?_
            refine lv_iload hx hb dX6_read_527 (lv_at hl 0 rfl) ?_
            refine lv_if_ge (tgt := 535) hx hb dX6_read_529 (by decide) (fun c_529 => ?_) (fun c_529 => absurd c_529 (by decide))
            refine lv_aload_n hx hb dX6_read_535 rfl (lv_at hl 6 rfl) ?_
            refine lv_dup hx hb dX6_read_536 rfl ?_
            refine g_6_15 (x := 71) hC hW (by omega) kd_71 gw_498 dX6_read_537 ?_
            refine q_top (v2 := .int (nI (p1))) (congrArg _ hX.2.2.1) ?_
            refine lv_iload hx hb dX6_read_540 (lv_at hl 0 rfl) ?_
            refine q_ine (tgt := 549) hx hb dX6_read_542 (by decide) (by first | omega | exact Nat.lt_of_le_of_lt (hw3 _) (by decide)) (fun c_542 => ?_) (fun c_542 => absurd c_542 (by decide))
            refine q_ic 0 hx hb dX6_read_549 (by decide) ?_
            refine q_iadd hx hb dX6_read_550 ?_
            refine p_6_15 (x := 71) (v := nI (p1 + 0)) hC hW (by omega) kd_71 gw_498 dX6_read_551 (fun H locs hW => ?_)
            refine lv_iload hx hb dX6_read_554 (lv_at hl 0 rfl) ?_
            refine lv_istore_n (lv' := [(2, .int (nI 4)), (12, .int (nI 4)), (11, .int (bI (97 ≤ ch i1 ∧ ch i1 ≤ 100))), (10, .int (bI (48 ≤ ch i1 ∧ ch i1 ≤ 51))), (9, .int (bI (48 ≤ ch i1 ∧ ch i1 ≤ 53))), (8, .int (nI (ch i1) - nI 48)), (7, .int (nI (ch i1))), (0, .ref (ad 71)), (1, .int (nI 1)), (3, .int (nI (a1))), (4, .int (x4)), (5, .int (x5)), (6, .int (nI (i1)))]) hx hb dX6_read_556 rfl hl (by decide) rfl (fun ls hl => ?_)
            refine q_iinc (z2 := i1 + 1) (lv' := [(6, .int (nI (i1 + 1))), (2, .int (nI 4)), (12, .int (nI 4)), (11, .int (bI (97 ≤ ch i1 ∧ ch i1 ≤ 100))), (10, .int (bI (48 ≤ ch i1 ∧ ch i1 ≤ 51))), (9, .int (bI (48 ≤ ch i1 ∧ ch i1 ≤ 53))), (8, .int (nI (ch i1) - nI 48)), (7, .int (nI (ch i1))), (0, .ref (ad 71)), (1, .int (nI 1)), (3, .int (nI (a1))), (4, .int (x4)), (5, .int (x5))]) hx hb dX6_read_557 hl (k := 12) rfl (inc_up _ 1 (by decide)) (by decide) rfl (fun ls hl => ?_)
            refine lv_goto (tgt := 18) hx hb dX6_read_560 (by decide) ?_
            exact ih_18 (i1 + 1) 4 a1 b1 m1 p1 w1 K1 r1 (nI a1) x4 x5 (up2 I1 71 15 (nI (p1 + 0))) (by omega) (PX_g hX (by omega) (s3_4 (by omega)) (fun _ _ => rfl) (hN1) rfl) (QX_c (by omega) (by omega)) _ _ hW _ (lv_sub hl [8, 9, 1, 10, 11, 12, 0] rfl)
        ·
          obtain ⟨rfl, ha6, ha4⟩ := hQ.1 (by decide) (by decide)
          refine lv_tableIn (off := 207) (tgt := 284) hx hb dX6_read_77 (by decide) (by decide) rfl (by decide) ?_
          refine lv_iload hx hb dX6_read_284 (lv_at hl 3 rfl) ?_
          refine lv_if_eq (tgt := 293) hx hb dX6_read_286 (by decide) (fun c_286 => ?_) (fun c_286 => ?_)
          ·
            have hp_9 : ¬ (48 ≤ ch i1 ∧ ch i1 ≤ 53) := bI_0 c_286
            rw [bI_f hp_9] at hl
            refine lv_bipush (v := -6) hx hb dX6_read_293 (by decide) ?_
            refine lv_istore (lv' := [(12, .int (-6)), (11, .int (bI (97 ≤ ch i1 ∧ ch i1 ≤ 100))), (10, .int (bI (48 ≤ ch i1 ∧ ch i1 ≤ 51))), (9, .int (nI 0)), (8, .int (nI (ch i1) - nI 48)), (7, .int (nI (ch i1))), (0, .ref (ad 71)), (1, .int (nI 1)), (2, .int (nI 4)), (3, .int (nI (a1))), (4, .int (x4)), (5, .int (x5)), (6, .int (nI (i1)))]) hx hb dX6_read_295 hl (by decide) rfl (fun ls hl => ?_)
            refine lv_iload hx hb dX6_read_297 (lv_at hl 4 rfl) ?_
            refine lv_istore (lv' := [(4, .int (nI (ch i1) - nI 48)), (12, .int (-6)), (11, .int (bI (97 ≤ ch i1 ∧ ch i1 ≤ 100))), (10, .int (bI (48 ≤ ch i1 ∧ ch i1 ≤ 51))), (9, .int (nI 0)), (8, .int (nI (ch i1) - nI 48)), (7, .int (nI (ch i1))), (0, .ref (ad 71)), (1, .int (nI 1)), (2, .int (nI 4)), (3, .int (nI (a1))), (5, .int (x5)), (6, .int (nI (i1)))]) hx hb dX6_read_299 hl (by decide) rfl (fun ls hl => ?_)
            refine lv_goto (tgt := 527) hx hb dX6_read_301 (by decide) ?_
            refine lv_iload hx hb dX6_read_527 (lv_at hl 1 rfl) ?_
            refine lv_if_ge (tgt := 535) hx hb dX6_read_529 (by decide) (fun c_529 => absurd c_529 (by decide)) (fun c_529 => ?_)
            refine lv_iload hx hb dX6_read_532 (lv_at hl 12 rfl) ?_
            exact q_iret1 hC hW hr hlk0 ⟨hX.2.2.2.2.1, hX.2.2.2.2.2, rfl, Or.inl ⟨i1, hX.2.1, FLx hX (by omega) (s4_n hp_9), rfl⟩⟩ dX6_read_534
          ·
            have hp_9 : 48 ≤ ch i1 ∧ ch i1 ≤ 53 := bI_1 c_286
            rw [bI_t hp_9] at hl
            rw [show nI (ch i1) - nI 48 = nI (ch i1 - 48) from pk_sub (by omega)] at hl
            refine q_ic 5 hx hb dX6_read_289 (by decide) ?_
            refine lv_goto (tgt := 295) hx hb dX6_read_290 (by decide) ?_
            refine lv_istore (lv' := [(12, .int (nI 5)), (11, .int (bI (97 ≤ ch i1 ∧ ch i1 ≤ 100))), (10, .int (bI (48 ≤ ch i1 ∧ ch i1 ≤ 51))), (9, .int (nI 1)), (8, .int (nI (ch i1 - 48))), (7, .int (nI (ch i1))), (0, .ref (ad 71)), (1, .int (nI 1)), (2, .int (nI 4)), (3, .int (nI (a1))), (4, .int (x4)), (5, .int (x5)), (6, .int (nI (i1)))]) hx hb dX6_read_295 hl (by decide) rfl (fun ls hl => ?_)
            refine lv_iload hx hb dX6_read_297 (lv_at hl 4 rfl) ?_
            refine lv_istore (lv' := [(4, .int (nI (ch i1 - 48))), (12, .int (nI 5)), (11, .int (bI (97 ≤ ch i1 ∧ ch i1 ≤ 100))), (10, .int (bI (48 ≤ ch i1 ∧ ch i1 ≤ 51))), (9, .int (nI 1)), (8, .int (nI (ch i1 - 48))), (7, .int (nI (ch i1))), (0, .ref (ad 71)), (1, .int (nI 1)), (2, .int (nI 4)), (3, .int (nI (a1))), (5, .int (x5)), (6, .int (nI (i1)))]) hx hb dX6_read_299 hl (by decide) rfl (fun ls hl => ?_)
            refine lv_goto (tgt := 527) hx hb dX6_read_301 (by decide) ?_
            refine lv_iload hx hb dX6_read_527 (lv_at hl 1 rfl) ?_
            refine lv_if_ge (tgt := 535) hx hb dX6_read_529 (by decide) (fun c_529 => ?_) (fun c_529 => absurd c_529 (by decide))
            refine lv_aload_n hx hb dX6_read_535 rfl (lv_at hl 7 rfl) ?_
            refine lv_dup hx hb dX6_read_536 rfl ?_
            refine g_6_15 (x := 71) hC hW (by omega) kd_71 gw_498 dX6_read_537 ?_
            refine q_top (v2 := .int (nI (p1))) (congrArg _ hX.2.2.1) ?_
            refine lv_iload hx hb dX6_read_540 (lv_at hl 1 rfl) ?_
            refine q_ine (tgt := 549) hx hb dX6_read_542 (by decide) (by first | omega | exact Nat.lt_of_le_of_lt (hw3 _) (by decide)) (fun c_542 => ?_) (fun c_542 => absurd c_542 (by decide))
            refine q_ic 0 hx hb dX6_read_549 (by decide) ?_
            refine q_iadd hx hb dX6_read_550 ?_
            refine p_6_15 (x := 71) (v := nI (p1 + 0)) hC hW (by omega) kd_71 gw_498 dX6_read_551 (fun H locs hW => ?_)
            refine lv_iload hx hb dX6_read_554 (lv_at hl 1 rfl) ?_
            refine lv_istore_n (lv' := [(2, .int (nI 5)), (4, .int (nI (ch i1 - 48))), (12, .int (nI 5)), (11, .int (bI (97 ≤ ch i1 ∧ ch i1 ≤ 100))), (10, .int (bI (48 ≤ ch i1 ∧ ch i1 ≤ 51))), (9, .int (nI 1)), (8, .int (nI (ch i1 - 48))), (7, .int (nI (ch i1))), (0, .ref (ad 71)), (1, .int (nI 1)), (3, .int (nI (a1))), (5, .int (x5)), (6, .int (nI (i1)))]) hx hb dX6_read_556 rfl hl (by decide) rfl (fun ls hl => ?_)
            refine q_iinc (z2 := i1 + 1) (lv' := [(6, .int (nI (i1 + 1))), (2, .int (nI 5)), (4, .int (nI (ch i1 - 48))), (12, .int (nI 5)), (11, .int (bI (97 ≤ ch i1 ∧ ch i1 ≤ 100))), (10, .int (bI (48 ≤ ch i1 ∧ ch i1 ≤ 51))), (9, .int (nI 1)), (8, .int (nI (ch i1 - 48))), (7, .int (nI (ch i1))), (0, .ref (ad 71)), (1, .int (nI 1)), (3, .int (nI (a1))), (5, .int (x5))]) hx hb dX6_read_557 hl (k := 12) rfl (inc_up _ 1 (by decide)) (by decide) rfl (fun ls hl => ?_)
            refine lv_goto (tgt := 18) hx hb dX6_read_560 (by decide) ?_
            exact ih_18 (i1 + 1) 5 a1 (ch i1 - 48) m1 p1 w1 K1 r1 (nI a1) (nI (ch i1 - 48)) x5 (up2 I1 71 15 (nI (p1 + 0))) (by omega) (PX_g hX (by omega) (s4_5 hp_9) (fun _ _ => rfl) (hN1) rfl) (QX_5 (by omega) (by omega)) _ _ hW _ (lv_sub hl [9, 10, 1, 11, 2, 12, 0] rfl)
        ·
          obtain ⟨rfl, ha6, ha4⟩ := hQ.1 (by decide) (by decide)
          obtain ⟨rfl, hb6⟩ := hQ.2.1 rfl
          refine lv_tableIn (off := 227) (tgt := 304) hx hb dX6_read_77 (by decide) (by decide) rfl (by decide) ?_
          refine lv_iload hx hb dX6_read_304 (lv_at hl 2 rfl) ?_
          refine lv_if_eq (tgt := 328) hx hb dX6_read_306 (by decide) (fun c_306 => ?_) (fun c_306 => ?_)
          ·
            have hp_10 : ¬ (48 ≤ ch i1 ∧ ch i1 ≤ 51) := bI_0 c_306
            rw [bI_f hp_10] at hl
            refine lv_bipush (v := -6) hx hb dX6_read_328 (by decide) ?_
            refine lv_istore (lv' := [(12, .int (-6)), (11, .int (bI (97 ≤ ch i1 ∧ ch i1 ≤ 100))), (10, .int (nI 0)), (9, .int (bI (48 ≤ ch i1 ∧ ch i1 ≤ 53))), (8, .int (nI (ch i1) - nI 48)), (7, .int (nI (ch i1))), (0, .ref (ad 71)), (1, .int (nI 1)), (2, .int (nI 5)), (3, .int (nI (a1))), (4, .int (nI (b1))), (5, .int (x5)), (6, .int (nI (i1)))]) hx hb dX6_read_330 hl (by decide) rfl (fun ls hl => ?_)
            refine lv_aload_n hx hb dX6_read_332 rfl (lv_at hl 6 rfl) ?_
            refine lv_iload_n hx hb dX6_read_333 rfl (lv_at hl 7 rfl) ?_
            refine q_ieq (tgt := 348) hx hb dX6_read_334 (by decide) (by first | omega | exact Nat.lt_of_le_of_lt (hw3 _) (by decide)) (fun c_334 => absurd c_334 (by decide)) (fun c_334 => ?_)
            refine lv_iload hx hb dX6_read_337 (lv_at hl 0 rfl) ?_
            refine q_bp 9 hx hb dX6_read_339 (by decide) ?_
            refine lv_icmp_ne (tgt := 348) hx hb dX6_read_341 (by decide) (fun c_341 => ?_) (fun c_341 => absurd c_341 (by decide))
            refine q_ic 0 hx hb dX6_read_348 (by decide) ?_
            refine q_bp 6 hx hb dX6_read_349 (by decide) ?_
            refine q_bp 6 hx hb dX6_read_351 (by decide) ?_
            refine lv_iload_n hx hb dX6_read_353 rfl (lv_at hl 9 rfl) ?_
            refine q_imul hx hb dX6_read_354 ?_
            refine q_iadd hx hb dX6_read_355 ?_
            refine lv_iload hx hb dX6_read_356 (lv_at hl 10 rfl) ?_
            refine q_iadd hx hb dX6_read_358 ?_
            refine lv_iload hx hb dX6_read_359 (lv_at hl 4 rfl) ?_
            refine q_kV1 (q_rV (As := [.int (nI 0), .int (nI ((6 + (6 * a1)) + b1)), .int (nI (ch i1) - nI 48)]) (rest := []) (x := 71) hC hW mw_X6_lay gw_736 (k_lay0 l G n ad H.size I1 L R (nI ((6 + (6 * a1)) + b1)) (nI (ch i1) - nI 48)) (by omega) (ct_o6 kd_71) rfl ⟨rfl, rfl⟩ ⟨Nat.le_of_ble_eq_true rfl, Nat.le_of_ble_eq_true rfl⟩ ⟨(Nat.le_of_ble_eq_true rfl), (Nat.le_of_ble_eq_true rfl)⟩ hl.1 rfl rfl (Nat.le_of_ble_eq_true rfl) dX6_read_361) hW (fun I_361 L_361 H locs hp hW => ?_)
            obtain ⟨rfl, rfl⟩ := hp
            refine lv_goto (tgt := 527) hx hb dX6_read_364 (by decide) ?_
            refine lv_iload hx hb dX6_read_527 (lv_at hl 0 rfl) ?_
            refine lv_if_ge (tgt := 535) hx hb dX6_read_529 (by decide) (fun c_529 => absurd c_529 (by decide)) (fun c_529 => ?_)
            refine lv_iload hx hb dX6_read_532 (lv_at hl 12 rfl) ?_
            exact q_iret1 hC hW hr hlk0 ⟨hX.2.2.2.2.1, hX.2.2.2.2.2, rfl, Or.inl ⟨i1, hX.2.1, FLx hX (by omega) (s5_n (Or.inl hp_10)), rfl⟩⟩ dX6_read_534
          ·
            have hp_10 : 48 ≤ ch i1 ∧ ch i1 ≤ 51 := bI_1 c_306
            rw [bI_t hp_10] at hl
            rw [show nI (ch i1) - nI 48 = nI (ch i1 - 48) from pk_sub (by omega)] at hl
            refine lv_iload hx hb dX6_read_309 (lv_at hl 4 rfl) ?_
            refine q_ieq (tgt := 323) hx hb dX6_read_311 (by decide) (by first | omega | exact Nat.lt_of_le_of_lt (hw3 _) (by decide)) (fun c_311 => ?_) (fun c_311 => ?_)
            ·
              refine q_bp 9 hx hb dX6_read_323 (by decide) ?_
              refine lv_goto (tgt := 330) hx hb dX6_read_325 (by decide) ?_
              refine lv_istore (lv' := [(12, .int (nI 9)), (11, .int (bI (97 ≤ ch i1 ∧ ch i1 ≤ 100))), (10, .int (nI 1)), (9, .int (bI (48 ≤ ch i1 ∧ ch i1 ≤ 53))), (8, .int (nI (ch i1 - 48))), (7, .int (nI (ch i1))), (0, .ref (ad 71)), (1, .int (nI 1)), (2, .int (nI 5)), (3, .int (nI (a1))), (4, .int (nI (b1))), (5, .int (x5)), (6, .int (nI (i1)))]) hx hb dX6_read_330 hl (by decide) rfl (fun ls hl => ?_)
              refine lv_aload_n hx hb dX6_read_332 rfl (lv_at hl 6 rfl) ?_
              refine lv_iload_n hx hb dX6_read_333 rfl (lv_at hl 7 rfl) ?_
              refine q_ieq (tgt := 348) hx hb dX6_read_334 (by decide) (by first | omega | exact Nat.lt_of_le_of_lt (hw3 _) (by decide)) (fun c_334 => absurd c_334 (by decide)) (fun c_334 => ?_)
              refine lv_iload hx hb dX6_read_337 (lv_at hl 0 rfl) ?_
              refine q_bp 9 hx hb dX6_read_339 (by decide) ?_
              refine q_cne (tgt := 348) hx hb dX6_read_341 (by decide) (by first | omega | exact Nat.lt_of_le_of_lt (hw3 _) (by decide)) (by first | omega | exact Nat.lt_of_le_of_lt (hw3 _) (by decide)) (fun c_341 => absurd c_341 (by decide)) (fun c_341 => ?_)
              refine q_ic 1 hx hb dX6_read_344 (by decide) ?_
              refine lv_goto (tgt := 349) hx hb dX6_read_345 (by decide) ?_
              refine q_bp 6 hx hb dX6_read_349 (by decide) ?_
              refine q_bp 6 hx hb dX6_read_351 (by decide) ?_
              refine lv_iload_n hx hb dX6_read_353 rfl (lv_at hl 9 rfl) ?_
              refine q_imul hx hb dX6_read_354 ?_
              refine q_iadd hx hb dX6_read_355 ?_
              refine lv_iload hx hb dX6_read_356 (lv_at hl 10 rfl) ?_
              refine q_iadd hx hb dX6_read_358 ?_
              refine lv_iload hx hb dX6_read_359 (lv_at hl 4 rfl) ?_
              refine q_kV1 (q_rV (As := [.int (nI 1), .int (nI ((6 + (6 * a1)) + b1)), .int (nI (ch i1 - 48))]) (rest := []) (x := 71) hC hW mw_X6_lay gw_736 (k_lay1 l G n ad H.size I1 L R _ _ (by omega) hn hlk) (by omega) (ct_o6 kd_71) rfl ⟨rfl, rfl⟩ ⟨Nat.le_of_ble_eq_true rfl, Nat.le_of_ble_eq_true rfl⟩ ⟨(Nat.le_of_ble_eq_true rfl), (Nat.le_of_ble_eq_true rfl)⟩ hl.1 rfl rfl (Nat.le_of_ble_eq_true rfl) dX6_read_361) hW (fun I_361 L_361 H locs hp hW => ?_)
              obtain ⟨rfl, rfl⟩ := hp
              refine lv_goto (tgt := 527) hx hb dX6_read_364 (by decide) ?_
              refine lv_iload hx hb dX6_read_527 (lv_at hl 0 rfl) ?_
              refine lv_if_ge (tgt := 535) hx hb dX6_read_529 (by decide) (fun c_529 => ?_) (fun c_529 => absurd c_529 (by decide))
              refine lv_aload_n hx hb dX6_read_535 rfl (lv_at hl 6 rfl) ?_
              refine lv_dup hx hb dX6_read_536 rfl ?_
              refine g_6_15 (x := 71) hC hW (by omega) kd_71 gw_498 dX6_read_537 ?_
              refine q_top (v2 := .int (nI (p1))) (congrArg _ (by rw [up2_ne (by decide), hX.2.2.1])) ?_
              refine lv_iload hx hb dX6_read_540 (lv_at hl 0 rfl) ?_
              refine q_ine (tgt := 549) hx hb dX6_read_542 (by decide) (by first | omega | exact Nat.lt_of_le_of_lt (hw3 _) (by decide)) (fun c_542 => ?_) (fun c_542 => absurd c_542 (by decide))
              refine q_ic 0 hx hb dX6_read_549 (by decide) ?_
              refine q_iadd hx hb dX6_read_550 ?_
              refine p_6_15 (x := 71) (v := nI (p1 + 0)) hC hW (by omega) kd_71 gw_498 dX6_read_551 (fun H locs hW => ?_)
              refine lv_iload hx hb dX6_read_554 (lv_at hl 0 rfl) ?_
              refine lv_istore_n (lv' := [(2, .int (nI 9)), (12, .int (nI 9)), (11, .int (bI (97 ≤ ch i1 ∧ ch i1 ≤ 100))), (10, .int (nI 1)), (9, .int (bI (48 ≤ ch i1 ∧ ch i1 ≤ 53))), (8, .int (nI (ch i1 - 48))), (7, .int (nI (ch i1))), (0, .ref (ad 71)), (1, .int (nI 1)), (3, .int (nI (a1))), (4, .int (nI (b1))), (5, .int (x5)), (6, .int (nI (i1)))]) hx hb dX6_read_556 rfl hl (by decide) rfl (fun ls hl => ?_)
              refine q_iinc (z2 := i1 + 1) (lv' := [(6, .int (nI (i1 + 1))), (2, .int (nI 9)), (12, .int (nI 9)), (11, .int (bI (97 ≤ ch i1 ∧ ch i1 ≤ 100))), (10, .int (nI 1)), (9, .int (bI (48 ≤ ch i1 ∧ ch i1 ≤ 53))), (8, .int (nI (ch i1 - 48))), (7, .int (nI (ch i1))), (0, .ref (ad 71)), (1, .int (nI 1)), (3, .int (nI (a1))), (4, .int (nI (b1))), (5, .int (x5))]) hx hb dX6_read_557 hl (k := 12) rfl (inc_up _ 1 (by decide)) (by decide) rfl (fun ls hl => ?_)
              refine lv_goto (tgt := 18) hx hb dX6_read_560 (by decide) ?_
              exact ih_18 (i1 + 1) 9 a1 b1 m1 p1 (upN w1 (a1 * 6 + b1) (ch i1 - 48)) K1 r1 (nI a1) (nI b1) x5 (up2 (up2 I1 72 ((6 + (6 * a1)) + b1) (nI (ch i1 - 48))) 71 15 (nI (p1 + 0))) (by omega) (PX_g hX (by omega) (s5_9 hp_10 (Or.inl (by omega))) (fun a ha => by rw [up2_ne ha]) (N_w hN1 (rj_s ha6 hb6) (by omega) (by omega) (Or.inl (by omega))) rfl) QX_9 _ _ hW _ (lv_sub hl [8, 9, 1, 10, 11, 12, 0] rfl)
            ·
              refine lv_iload_n hx hb dX6_read_314 rfl (lv_at hl 9 rfl) ?_
              refine lv_iload hx hb dX6_read_315 (lv_at hl 10 rfl) ?_
              refine q_kI0 (q_rS (As := [.int (nI (a1)), .int (nI (b1))]) (rest := []) hC hW mw_X6_isNought gw_543 (k_isNought l G n ad H.size I1 L R _ _ (by omega) (by omega)) ⟨rfl, rfl⟩ ⟨Nat.le_of_ble_eq_true rfl, Nat.le_of_ble_eq_true rfl⟩ ⟨(Nat.le_of_ble_eq_true rfl), (Nat.le_of_ble_eq_true rfl)⟩ hl.1 rfl rfl (Nat.le_of_ble_eq_true rfl) dX6_read_317) hW (fun r_317 H locs hp hW => ?_)
              rcases hp with ⟨hb_317, rfl⟩ | ⟨hb_317, rfl⟩
              ·
                refine q_ine (tgt := 328) hx hb dX6_read_320 (by decide) (by first | omega | exact Nat.lt_of_le_of_lt (hw3 _) (by decide)) (fun c_320 => ?_) (fun c_320 => absurd c_320 (by decide))
                refine lv_bipush (v := -6) hx hb dX6_read_328 (by decide) ?_
                refine lv_istore (lv' := [(12, .int (-6)), (11, .int (bI (97 ≤ ch i1 ∧ ch i1 ≤ 100))), (10, .int (nI 1)), (9, .int (bI (48 ≤ ch i1 ∧ ch i1 ≤ 53))), (8, .int (nI (ch i1 - 48))), (7, .int (nI (ch i1))), (0, .ref (ad 71)), (1, .int (nI 1)), (2, .int (nI 5)), (3, .int (nI (a1))), (4, .int (nI (b1))), (5, .int (x5)), (6, .int (nI (i1)))]) hx hb dX6_read_330 hl (by decide) rfl (fun ls hl => ?_)
                refine lv_aload_n hx hb dX6_read_332 rfl (lv_at hl 6 rfl) ?_
                refine lv_iload_n hx hb dX6_read_333 rfl (lv_at hl 7 rfl) ?_
                refine q_ieq (tgt := 348) hx hb dX6_read_334 (by decide) (by first | omega | exact Nat.lt_of_le_of_lt (hw3 _) (by decide)) (fun c_334 => absurd c_334 (by decide)) (fun c_334 => ?_)
                refine lv_iload hx hb dX6_read_337 (lv_at hl 0 rfl) ?_
                refine q_bp 9 hx hb dX6_read_339 (by decide) ?_
                refine lv_icmp_ne (tgt := 348) hx hb dX6_read_341 (by decide) (fun c_341 => ?_) (fun c_341 => absurd c_341 (by decide))
                refine q_ic 0 hx hb dX6_read_348 (by decide) ?_
                refine q_bp 6 hx hb dX6_read_349 (by decide) ?_
                refine q_bp 6 hx hb dX6_read_351 (by decide) ?_
                refine lv_iload_n hx hb dX6_read_353 rfl (lv_at hl 9 rfl) ?_
                refine q_imul hx hb dX6_read_354 ?_
                refine q_iadd hx hb dX6_read_355 ?_
                refine lv_iload hx hb dX6_read_356 (lv_at hl 10 rfl) ?_
                refine q_iadd hx hb dX6_read_358 ?_
                refine lv_iload hx hb dX6_read_359 (lv_at hl 4 rfl) ?_
                refine q_kV1 (q_rV (As := [.int (nI 0), .int (nI ((6 + (6 * a1)) + b1)), .int (nI (ch i1 - 48))]) (rest := []) (x := 71) hC hW mw_X6_lay gw_736 (k_lay0 l G n ad H.size I1 L R (nI ((6 + (6 * a1)) + b1)) (nI (ch i1 - 48))) (by omega) (ct_o6 kd_71) rfl ⟨rfl, rfl⟩ ⟨Nat.le_of_ble_eq_true rfl, Nat.le_of_ble_eq_true rfl⟩ ⟨(Nat.le_of_ble_eq_true rfl), (Nat.le_of_ble_eq_true rfl)⟩ hl.1 rfl rfl (Nat.le_of_ble_eq_true rfl) dX6_read_361) hW (fun I_361 L_361 H locs hp hW => ?_)
                obtain ⟨rfl, rfl⟩ := hp
                refine lv_goto (tgt := 527) hx hb dX6_read_364 (by decide) ?_
                refine lv_iload hx hb dX6_read_527 (lv_at hl 0 rfl) ?_
                refine lv_if_ge (tgt := 535) hx hb dX6_read_529 (by decide) (fun c_529 => absurd c_529 (by decide)) (fun c_529 => ?_)
                refine lv_iload hx hb dX6_read_532 (lv_at hl 12 rfl) ?_
                exact q_iret1 hC hW hr hlk0 ⟨hX.2.2.2.2.1, hX.2.2.2.2.2, rfl, Or.inl ⟨i1, hX.2.1, FLx hX (by omega) (s5_n (Or.inr ⟨by omega, hb_317⟩)), rfl⟩⟩ dX6_read_534
              ·
                refine q_ine (tgt := 328) hx hb dX6_read_320 (by decide) (by first | omega | exact Nat.lt_of_le_of_lt (hw3 _) (by decide)) (fun c_320 => absurd c_320 (by decide)) (fun c_320 => ?_)
                refine q_bp 9 hx hb dX6_read_323 (by decide) ?_
                refine lv_goto (tgt := 330) hx hb dX6_read_325 (by decide) ?_
                refine lv_istore (lv' := [(12, .int (nI 9)), (11, .int (bI (97 ≤ ch i1 ∧ ch i1 ≤ 100))), (10, .int (nI 1)), (9, .int (bI (48 ≤ ch i1 ∧ ch i1 ≤ 53))), (8, .int (nI (ch i1 - 48))), (7, .int (nI (ch i1))), (0, .ref (ad 71)), (1, .int (nI 1)), (2, .int (nI 5)), (3, .int (nI (a1))), (4, .int (nI (b1))), (5, .int (x5)), (6, .int (nI (i1)))]) hx hb dX6_read_330 hl (by decide) rfl (fun ls hl => ?_)
                refine lv_aload_n hx hb dX6_read_332 rfl (lv_at hl 6 rfl) ?_
                refine lv_iload_n hx hb dX6_read_333 rfl (lv_at hl 7 rfl) ?_
                refine q_ieq (tgt := 348) hx hb dX6_read_334 (by decide) (by first | omega | exact Nat.lt_of_le_of_lt (hw3 _) (by decide)) (fun c_334 => absurd c_334 (by decide)) (fun c_334 => ?_)
                refine lv_iload hx hb dX6_read_337 (lv_at hl 0 rfl) ?_
                refine q_bp 9 hx hb dX6_read_339 (by decide) ?_
                refine q_cne (tgt := 348) hx hb dX6_read_341 (by decide) (by first | omega | exact Nat.lt_of_le_of_lt (hw3 _) (by decide)) (by first | omega | exact Nat.lt_of_le_of_lt (hw3 _) (by decide)) (fun c_341 => absurd c_341 (by decide)) (fun c_341 => ?_)
                refine q_ic 1 hx hb dX6_read_344 (by decide) ?_
                refine lv_goto (tgt := 349) hx hb dX6_read_345 (by decide) ?_
                refine q_bp 6 hx hb dX6_read_349 (by decide) ?_
                refine q_bp 6 hx hb dX6_read_351 (by decide) ?_
                refine lv_iload_n hx hb dX6_read_353 rfl (lv_at hl 9 rfl) ?_
                refine q_imul hx hb dX6_read_354 ?_
                refine q_iadd hx hb dX6_read_355 ?_
                refine lv_iload hx hb dX6_read_356 (lv_at hl 10 rfl) ?_
                refine q_iadd hx hb dX6_read_358 ?_
                refine lv_iload hx hb dX6_read_359 (lv_at hl 4 rfl) ?_
                refine q_kV1 (q_rV (As := [.int (nI 1), .int (nI ((6 + (6 * a1)) + b1)), .int (nI (ch i1 - 48))]) (rest := []) (x := 71) hC hW mw_X6_lay gw_736 (k_lay1 l G n ad H.size I1 L R _ _ (by omega) hn hlk) (by omega) (ct_o6 kd_71) rfl ⟨rfl, rfl⟩ ⟨Nat.le_of_ble_eq_true rfl, Nat.le_of_ble_eq_true rfl⟩ ⟨(Nat.le_of_ble_eq_true rfl), (Nat.le_of_ble_eq_true rfl)⟩ hl.1 rfl rfl (Nat.le_of_ble_eq_true rfl) dX6_read_361) hW (fun I_361 L_361 H locs hp hW => ?_)
                obtain ⟨rfl, rfl⟩ := hp
                refine lv_goto (tgt := 527) hx hb dX6_read_364 (by decide) ?_
                refine lv_iload hx hb dX6_read_527 (lv_at hl 0 rfl) ?_
                refine lv_if_ge (tgt := 535) hx hb dX6_read_529 (by decide) (fun c_529 => ?_) (fun c_529 => absurd c_529 (by decide))
                refine lv_aload_n hx hb dX6_read_535 rfl (lv_at hl 6 rfl) ?_
                refine lv_dup hx hb dX6_read_536 rfl ?_
                refine g_6_15 (x := 71) hC hW (by omega) kd_71 gw_498 dX6_read_537 ?_
                refine q_top (v2 := .int (nI (p1))) (congrArg _ (by rw [up2_ne (by decide), hX.2.2.1])) ?_
                refine lv_iload hx hb dX6_read_540 (lv_at hl 0 rfl) ?_
                refine q_ine (tgt := 549) hx hb dX6_read_542 (by decide) (by first | omega | exact Nat.lt_of_le_of_lt (hw3 _) (by decide)) (fun c_542 => ?_) (fun c_542 => absurd c_542 (by decide))
                refine q_ic 0 hx hb dX6_read_549 (by decide) ?_
                refine q_iadd hx hb dX6_read_550 ?_
                refine p_6_15 (x := 71) (v := nI (p1 + 0)) hC hW (by omega) kd_71 gw_498 dX6_read_551 (fun H locs hW => ?_)
                refine lv_iload hx hb dX6_read_554 (lv_at hl 0 rfl) ?_
                refine lv_istore_n (lv' := [(2, .int (nI 9)), (12, .int (nI 9)), (11, .int (bI (97 ≤ ch i1 ∧ ch i1 ≤ 100))), (10, .int (nI 1)), (9, .int (bI (48 ≤ ch i1 ∧ ch i1 ≤ 53))), (8, .int (nI (ch i1 - 48))), (7, .int (nI (ch i1))), (0, .ref (ad 71)), (1, .int (nI 1)), (3, .int (nI (a1))), (4, .int (nI (b1))), (5, .int (x5)), (6, .int (nI (i1)))]) hx hb dX6_read_556 rfl hl (by decide) rfl (fun ls hl => ?_)
                refine q_iinc (z2 := i1 + 1) (lv' := [(6, .int (nI (i1 + 1))), (2, .int (nI 9)), (12, .int (nI 9)), (11, .int (bI (97 ≤ ch i1 ∧ ch i1 ≤ 100))), (10, .int (nI 1)), (9, .int (bI (48 ≤ ch i1 ∧ ch i1 ≤ 53))), (8, .int (nI (ch i1 - 48))), (7, .int (nI (ch i1))), (0, .ref (ad 71)), (1, .int (nI 1)), (3, .int (nI (a1))), (4, .int (nI (b1))), (5, .int (x5))]) hx hb dX6_read_557 hl (k := 12) rfl (inc_up _ 1 (by decide)) (by decide) rfl (fun ls hl => ?_)
                refine lv_goto (tgt := 18) hx hb dX6_read_560 (by decide) ?_
                exact ih_18 (i1 + 1) 9 a1 b1 m1 p1 (upN w1 (a1 * 6 + b1) (ch i1 - 48)) K1 r1 (nI a1) (nI b1) x5 (up2 (up2 I1 72 ((6 + (6 * a1)) + b1) (nI (ch i1 - 48))) 71 15 (nI (p1 + 0))) (by omega) (PX_g hX (by omega) (s5_9 hp_10 (Or.inr hb_317)) (fun a ha => by rw [up2_ne ha]) (N_w hN1 (rj_s ha6 hb6) (by omega) (by omega) (Or.inr (by have h9 := hb_317; unfold barred at h9; omega))) rfl) QX_9 _ _ hW _ (lv_sub hl [8, 9, 1, 10, 11, 12, 0] rfl)
        ·
          obtain ⟨rfl, ha6, ha4⟩ := hQ.1 (by decide) (by decide)
          have ha4 := ha4 (by decide)
          refine lv_tableIn (off := 290) (tgt := 367) hx hb dX6_read_77 (by decide) (by decide) rfl (by decide) ?_
          refine lv_iload hx hb dX6_read_367 (lv_at hl 1 rfl) ?_
          refine lv_if_eq (tgt := 377) hx hb dX6_read_369 (by decide) (fun c_369 => ?_) (fun c_369 => ?_)
          ·
            have hp_11 : ¬ (97 ≤ ch i1 ∧ ch i1 ≤ 100) := bI_0 c_369
            rw [bI_f hp_11] at hl
            refine lv_bipush (v := -6) hx hb dX6_read_377 (by decide) ?_
            refine lv_istore (lv' := [(12, .int (-6)), (11, .int (nI 0)), (10, .int (bI (48 ≤ ch i1 ∧ ch i1 ≤ 51))), (9, .int (bI (48 ≤ ch i1 ∧ ch i1 ≤ 53))), (8, .int (nI (ch i1) - nI 48)), (7, .int (nI (ch i1))), (0, .ref (ad 71)), (1, .int (nI 1)), (2, .int (nI 6)), (3, .int (nI (a1))), (4, .int (x4)), (5, .int (x5)), (6, .int (nI (i1)))]) hx hb dX6_read_379 hl (by decide) rfl (fun ls hl => ?_)
            refine lv_iload hx hb dX6_read_381 (lv_at hl 5 rfl) ?_
            refine q_bp 97 hx hb dX6_read_383 (by decide) ?_
            refine lv_isub hx hb dX6_read_385 ?_
            refine lv_istore (lv' := [(4, .int (nI (ch i1) - nI 97)), (12, .int (-6)), (11, .int (nI 0)), (10, .int (bI (48 ≤ ch i1 ∧ ch i1 ≤ 51))), (9, .int (bI (48 ≤ ch i1 ∧ ch i1 ≤ 53))), (8, .int (nI (ch i1) - nI 48)), (7, .int (nI (ch i1))), (0, .ref (ad 71)), (1, .int (nI 1)), (2, .int (nI 6)), (3, .int (nI (a1))), (5, .int (x5)), (6, .int (nI (i1)))]) hx hb dX6_read_386 hl (by decide) rfl (fun ls hl => ?_)
            refine lv_goto (tgt := 527) hx hb dX6_read_388 (by decide) ?_
            refine lv_iload hx hb dX6_read_527 (lv_at hl 1 rfl) ?_
            refine lv_if_ge (tgt := 535) hx hb dX6_read_529 (by decide) (fun c_529 => absurd c_529 (by decide)) (fun c_529 => ?_)
            refine lv_iload hx hb dX6_read_532 (lv_at hl 12 rfl) ?_
            exact q_iret1 hC hW hr hlk0 ⟨hX.2.2.2.2.1, hX.2.2.2.2.2, rfl, Or.inl ⟨i1, hX.2.1, FLx hX (by omega) (s6_n hp_11), rfl⟩⟩ dX6_read_534
          ·
            have hp_11 : 97 ≤ ch i1 ∧ ch i1 ≤ 100 := bI_1 c_369
            rw [bI_t hp_11] at hl
            refine q_bp 7 hx hb dX6_read_372 (by decide) ?_
            refine lv_goto (tgt := 379) hx hb dX6_read_374 (by decide) ?_
            refine lv_istore (lv' := [(12, .int (nI 7)), (11, .int (nI 1)), (10, .int (bI (48 ≤ ch i1 ∧ ch i1 ≤ 51))), (9, .int (bI (48 ≤ ch i1 ∧ ch i1 ≤ 53))), (8, .int (nI (ch i1) - nI 48)), (7, .int (nI (ch i1))), (0, .ref (ad 71)), (1, .int (nI 1)), (2, .int (nI 6)), (3, .int (nI (a1))), (4, .int (x4)), (5, .int (x5)), (6, .int (nI (i1)))]) hx hb dX6_read_379 hl (by decide) rfl (fun ls hl => ?_)
            refine lv_iload hx hb dX6_read_381 (lv_at hl 5 rfl) ?_
            refine q_bp 97 hx hb dX6_read_383 (by decide) ?_
            refine lv_isub hx hb dX6_read_385 ?_
            refine lv_istore (lv' := [(4, .int (nI (ch i1) - nI 97)), (12, .int (nI 7)), (11, .int (nI 1)), (10, .int (bI (48 ≤ ch i1 ∧ ch i1 ≤ 51))), (9, .int (bI (48 ≤ ch i1 ∧ ch i1 ≤ 53))), (8, .int (nI (ch i1) - nI 48)), (7, .int (nI (ch i1))), (0, .ref (ad 71)), (1, .int (nI 1)), (2, .int (nI 6)), (3, .int (nI (a1))), (5, .int (x5)), (6, .int (nI (i1)))]) hx hb dX6_read_386 hl (by decide) rfl (fun ls hl => ?_)
            refine lv_goto (tgt := 527) hx hb dX6_read_388 (by decide) ?_
            refine lv_iload hx hb dX6_read_527 (lv_at hl 1 rfl) ?_
            refine lv_if_ge (tgt := 535) hx hb dX6_read_529 (by decide) (fun c_529 => ?_) (fun c_529 => absurd c_529 (by decide))
            refine lv_aload_n hx hb dX6_read_535 rfl (lv_at hl 7 rfl) ?_
            refine lv_dup hx hb dX6_read_536 rfl ?_
            refine g_6_15 (x := 71) hC hW (by omega) kd_71 gw_498 dX6_read_537 ?_
            refine q_top (v2 := .int (nI (p1))) (congrArg _ hX.2.2.1) ?_
            refine lv_iload hx hb dX6_read_540 (lv_at hl 1 rfl) ?_
            refine q_ine (tgt := 549) hx hb dX6_read_542 (by decide) (by first | omega | exact Nat.lt_of_le_of_lt (hw3 _) (by decide)) (fun c_542 => ?_) (fun c_542 => absurd c_542 (by decide))
            refine q_ic 0 hx hb dX6_read_549 (by decide) ?_
            refine q_iadd hx hb dX6_read_550 ?_
            refine p_6_15 (x := 71) (v := nI (p1 + 0)) hC hW (by omega) kd_71 gw_498 dX6_read_551 (fun H locs hW => ?_)
            refine lv_iload hx hb dX6_read_554 (lv_at hl 1 rfl) ?_
            refine lv_istore_n (lv' := [(2, .int (nI 7)), (4, .int (nI (ch i1) - nI 97)), (12, .int (nI 7)), (11, .int (nI 1)), (10, .int (bI (48 ≤ ch i1 ∧ ch i1 ≤ 51))), (9, .int (bI (48 ≤ ch i1 ∧ ch i1 ≤ 53))), (8, .int (nI (ch i1) - nI 48)), (7, .int (nI (ch i1))), (0, .ref (ad 71)), (1, .int (nI 1)), (3, .int (nI (a1))), (5, .int (x5)), (6, .int (nI (i1)))]) hx hb dX6_read_556 rfl hl (by decide) rfl (fun ls hl => ?_)
            refine q_iinc (z2 := i1 + 1) (lv' := [(6, .int (nI (i1 + 1))), (2, .int (nI 7)), (4, .int (nI (ch i1) - nI 97)), (12, .int (nI 7)), (11, .int (nI 1)), (10, .int (bI (48 ≤ ch i1 ∧ ch i1 ≤ 51))), (9, .int (bI (48 ≤ ch i1 ∧ ch i1 ≤ 53))), (8, .int (nI (ch i1) - nI 48)), (7, .int (nI (ch i1))), (0, .ref (ad 71)), (1, .int (nI 1)), (3, .int (nI (a1))), (5, .int (x5))]) hx hb dX6_read_557 hl (k := 12) rfl (inc_up _ 1 (by decide)) (by decide) rfl (fun ls hl => ?_)
            refine lv_goto (tgt := 18) hx hb dX6_read_560 (by decide) ?_
            exact ih_18 (i1 + 1) 7 a1 (ch i1 - 97) m1 p1 w1 K1 r1 (nI a1) (nI (ch i1) - nI 97) x5 (up2 I1 71 15 (nI (p1 + 0))) (by omega) (PX_g hX (by omega) (s6_7 hp_11) (fun _ _ => rfl) (hN1) rfl) (QX_7 (by omega) (by omega) (pk_sub (by omega))) _ _ hW _ (lv_sub hl [9, 10, 1, 11, 2, 12, 0] rfl)
        ·
          obtain ⟨rfl, ha6, ha4⟩ := hQ.1 (by decide) (by decide)
          have ha4 := ha4 (by decide)
          obtain ⟨rfl, hb4⟩ := hQ.2.2.1 rfl
          refine lv_tableIn (off := 314) (tgt := 391) hx hb dX6_read_77 (by decide) (by decide) rfl (by decide) ?_
          refine lv_iload hx hb dX6_read_391 (lv_at hl 2 rfl) ?_
          refine lv_if_eq (tgt := 401) hx hb dX6_read_393 (by decide) (fun c_393 => ?_) (fun c_393 => ?_)
          ·
            have hp_10 : ¬ (48 ≤ ch i1 ∧ ch i1 ≤ 51) := bI_0 c_393
            rw [bI_f hp_10] at hl
            refine lv_bipush (v := -6) hx hb dX6_read_401 (by decide) ?_
            refine lv_istore (lv' := [(12, .int (-6)), (11, .int (bI (97 ≤ ch i1 ∧ ch i1 ≤ 100))), (10, .int (nI 0)), (9, .int (bI (48 ≤ ch i1 ∧ ch i1 ≤ 53))), (8, .int (nI (ch i1) - nI 48)), (7, .int (nI (ch i1))), (0, .ref (ad 71)), (1, .int (nI 1)), (2, .int (nI 7)), (3, .int (nI (a1))), (4, .int (nI (b1))), (5, .int (x5)), (6, .int (nI (i1)))]) hx hb dX6_read_403 hl (by decide) rfl (fun ls hl => ?_)
            refine lv_aload_n hx hb dX6_read_405 rfl (lv_at hl 6 rfl) ?_
            refine lv_iload_n hx hb dX6_read_406 rfl (lv_at hl 7 rfl) ?_
            refine q_ieq (tgt := 419) hx hb dX6_read_407 (by decide) (by first | omega | exact Nat.lt_of_le_of_lt (hw3 _) (by decide)) (fun c_407 => absurd c_407 (by decide)) (fun c_407 => ?_)
            refine lv_iload hx hb dX6_read_410 (lv_at hl 2 rfl) ?_
            refine q_ieq (tgt := 419) hx hb dX6_read_412 (by decide) (by first | omega | exact Nat.lt_of_le_of_lt (hw3 _) (by decide)) (fun c_412 => ?_) (fun c_412 => absurd c_412 (by decide))
            refine q_ic 0 hx hb dX6_read_419 (by decide) ?_
            refine q_bp 42 hx hb dX6_read_420 (by decide) ?_
            refine q_ic 4 hx hb dX6_read_422 (by decide) ?_
            refine lv_iload_n hx hb dX6_read_423 rfl (lv_at hl 9 rfl) ?_
            refine q_imul hx hb dX6_read_424 ?_
            refine q_iadd hx hb dX6_read_425 ?_
            refine lv_iload hx hb dX6_read_426 (lv_at hl 10 rfl) ?_
            refine q_iadd hx hb dX6_read_428 ?_
            refine lv_iload hx hb dX6_read_429 (lv_at hl 4 rfl) ?_
            refine q_kV1 (q_rV (As := [.int (nI 0), .int (nI ((42 + (4 * a1)) + b1)), .int (nI (ch i1) - nI 48)]) (rest := []) (x := 71) hC hW mw_X6_lay gw_736 (k_lay0 l G n ad H.size I1 L R (nI ((42 + (4 * a1)) + b1)) (nI (ch i1) - nI 48)) (by omega) (ct_o6 kd_71) rfl ⟨rfl, rfl⟩ ⟨Nat.le_of_ble_eq_true rfl, Nat.le_of_ble_eq_true rfl⟩ ⟨(Nat.le_of_ble_eq_true rfl), (Nat.le_of_ble_eq_true rfl)⟩ hl.1 rfl rfl (Nat.le_of_ble_eq_true rfl) dX6_read_431) hW (fun I_431 L_431 H locs hp hW => ?_)
            obtain ⟨rfl, rfl⟩ := hp
            refine lv_goto (tgt := 527) hx hb dX6_read_434 (by decide) ?_
            refine lv_iload hx hb dX6_read_527 (lv_at hl 0 rfl) ?_
            refine lv_if_ge (tgt := 535) hx hb dX6_read_529 (by decide) (fun c_529 => absurd c_529 (by decide)) (fun c_529 => ?_)
            refine lv_iload hx hb dX6_read_532 (lv_at hl 12 rfl) ?_
            exact q_iret1 hC hW hr hlk0 ⟨hX.2.2.2.2.1, hX.2.2.2.2.2, rfl, Or.inl ⟨i1, hX.2.1, FLx hX (by omega) (s7_n hp_10), rfl⟩⟩ dX6_read_534
          ·
            have hp_10 : 48 ≤ ch i1 ∧ ch i1 ≤ 51 := bI_1 c_393
            rw [bI_t hp_10] at hl
            rw [show nI (ch i1) - nI 48 = nI (ch i1 - 48) from pk_sub (by omega)] at hl
            refine q_bp 9 hx hb dX6_read_396 (by decide) ?_
            refine lv_goto (tgt := 403) hx hb dX6_read_398 (by decide) ?_
            refine lv_istore (lv' := [(12, .int (nI 9)), (11, .int (bI (97 ≤ ch i1 ∧ ch i1 ≤ 100))), (10, .int (nI 1)), (9, .int (bI (48 ≤ ch i1 ∧ ch i1 ≤ 53))), (8, .int (nI (ch i1 - 48))), (7, .int (nI (ch i1))), (0, .ref (ad 71)), (1, .int (nI 1)), (2, .int (nI 7)), (3, .int (nI (a1))), (4, .int (nI (b1))), (5, .int (x5)), (6, .int (nI (i1)))]) hx hb dX6_read_403 hl (by decide) rfl (fun ls hl => ?_)
            refine lv_aload_n hx hb dX6_read_405 rfl (lv_at hl 6 rfl) ?_
            refine lv_iload_n hx hb dX6_read_406 rfl (lv_at hl 7 rfl) ?_
            refine q_ieq (tgt := 419) hx hb dX6_read_407 (by decide) (by first | omega | exact Nat.lt_of_le_of_lt (hw3 _) (by decide)) (fun c_407 => absurd c_407 (by decide)) (fun c_407 => ?_)
            refine lv_iload hx hb dX6_read_410 (lv_at hl 2 rfl) ?_
            refine q_ieq (tgt := 419) hx hb dX6_read_412 (by decide) (by first | omega | exact Nat.lt_of_le_of_lt (hw3 _) (by decide)) (fun c_412 => absurd c_412 (by decide)) (fun c_412 => ?_)
            refine q_ic 1 hx hb dX6_read_415 (by decide) ?_
            refine lv_goto (tgt := 420) hx hb dX6_read_416 (by decide) ?_
            refine q_bp 42 hx hb dX6_read_420 (by decide) ?_
            refine q_ic 4 hx hb dX6_read_422 (by decide) ?_
            refine lv_iload_n hx hb dX6_read_423 rfl (lv_at hl 9 rfl) ?_
            refine q_imul hx hb dX6_read_424 ?_
            refine q_iadd hx hb dX6_read_425 ?_
            refine lv_iload hx hb dX6_read_426 (lv_at hl 10 rfl) ?_
            refine q_iadd hx hb dX6_read_428 ?_
            refine lv_iload hx hb dX6_read_429 (lv_at hl 4 rfl) ?_
            refine q_kV1 (q_rV (As := [.int (nI 1), .int (nI ((42 + (4 * a1)) + b1)), .int (nI (ch i1 - 48))]) (rest := []) (x := 71) hC hW mw_X6_lay gw_736 (k_lay1 l G n ad H.size I1 L R _ _ (by omega) hn hlk) (by omega) (ct_o6 kd_71) rfl ⟨rfl, rfl⟩ ⟨Nat.le_of_ble_eq_true rfl, Nat.le_of_ble_eq_true rfl⟩ ⟨(Nat.le_of_ble_eq_true rfl), (Nat.le_of_ble_eq_true rfl)⟩ hl.1 rfl rfl (Nat.le_of_ble_eq_true rfl) dX6_read_431) hW (fun I_431 L_431 H locs hp hW => ?_)
            obtain ⟨rfl, rfl⟩ := hp
            refine lv_goto (tgt := 527) hx hb dX6_read_434 (by decide) ?_
            refine lv_iload hx hb dX6_read_527 (lv_at hl 0 rfl) ?_
            refine lv_if_ge (tgt := 535) hx hb dX6_read_529 (by decide) (fun c_529 => ?_) (fun c_529 => absurd c_529 (by decide))
            refine lv_aload_n hx hb dX6_read_535 rfl (lv_at hl 6 rfl) ?_
            refine lv_dup hx hb dX6_read_536 rfl ?_
            refine g_6_15 (x := 71) hC hW (by omega) kd_71 gw_498 dX6_read_537 ?_
            refine q_top (v2 := .int (nI (p1))) (congrArg _ (by rw [up2_ne (by decide), hX.2.2.1])) ?_
            refine lv_iload hx hb dX6_read_540 (lv_at hl 0 rfl) ?_
            refine q_ine (tgt := 549) hx hb dX6_read_542 (by decide) (by first | omega | exact Nat.lt_of_le_of_lt (hw3 _) (by decide)) (fun c_542 => ?_) (fun c_542 => absurd c_542 (by decide))
            refine q_ic 0 hx hb dX6_read_549 (by decide) ?_
            refine q_iadd hx hb dX6_read_550 ?_
            refine p_6_15 (x := 71) (v := nI (p1 + 0)) hC hW (by omega) kd_71 gw_498 dX6_read_551 (fun H locs hW => ?_)
            refine lv_iload hx hb dX6_read_554 (lv_at hl 0 rfl) ?_
            refine lv_istore_n (lv' := [(2, .int (nI 9)), (12, .int (nI 9)), (11, .int (bI (97 ≤ ch i1 ∧ ch i1 ≤ 100))), (10, .int (nI 1)), (9, .int (bI (48 ≤ ch i1 ∧ ch i1 ≤ 53))), (8, .int (nI (ch i1 - 48))), (7, .int (nI (ch i1))), (0, .ref (ad 71)), (1, .int (nI 1)), (3, .int (nI (a1))), (4, .int (nI (b1))), (5, .int (x5)), (6, .int (nI (i1)))]) hx hb dX6_read_556 rfl hl (by decide) rfl (fun ls hl => ?_)
            refine q_iinc (z2 := i1 + 1) (lv' := [(6, .int (nI (i1 + 1))), (2, .int (nI 9)), (12, .int (nI 9)), (11, .int (bI (97 ≤ ch i1 ∧ ch i1 ≤ 100))), (10, .int (nI 1)), (9, .int (bI (48 ≤ ch i1 ∧ ch i1 ≤ 53))), (8, .int (nI (ch i1 - 48))), (7, .int (nI (ch i1))), (0, .ref (ad 71)), (1, .int (nI 1)), (3, .int (nI (a1))), (4, .int (nI (b1))), (5, .int (x5))]) hx hb dX6_read_557 hl (k := 12) rfl (inc_up _ 1 (by decide)) (by decide) rfl (fun ls hl => ?_)
            refine lv_goto (tgt := 18) hx hb dX6_read_560 (by decide) ?_
            exact ih_18 (i1 + 1) 9 a1 b1 m1 p1 (upN w1 (42 + a1 * 4 + b1) (ch i1 - 48)) K1 r1 (nI a1) (nI b1) x5 (up2 (up2 I1 72 ((42 + (4 * a1)) + b1) (nI (ch i1 - 48))) 71 15 (nI (p1 + 0))) (by omega) (PX_g hX (by omega) (s7_9 hp_10) (fun a ha => by rw [up2_ne ha]) (N_w hN1 rj_l (by omega) (by omega) (by omega)) rfl) QX_9 _ _ hW _ (lv_sub hl [8, 9, 1, 10, 11, 12, 0] rfl)
        ·
          obtain ⟨rfl, hm6, hKm⟩ := hQ.2.2.2.1 rfl
          subst hKm
          refine lv_tableIn (off := 360) (tgt := 437) hx hb dX6_read_77 (by decide) (by decide) rfl (by decide) ?_
          refine lv_iload hx hb dX6_read_437 (lv_at hl 1 rfl) ?_
          refine lv_if_eq (tgt := 454) hx hb dX6_read_439 (by decide) (fun c_439 => ?_) (fun c_439 => ?_)
          ·
            have hp_11 : ¬ (97 ≤ ch i1 ∧ ch i1 ≤ 100) := bI_0 c_439
            rw [bI_f hp_11] at hl
            refine lv_iload hx hb dX6_read_454 (lv_at hl 5 rfl) ?_
            refine q_bp 59 hx hb dX6_read_456 (by decide) ?_
            refine q_cne (tgt := 465) hx hb dX6_read_458 (by decide) (by first | omega | exact Nat.lt_of_le_of_lt (hw3 _) (by decide)) (by first | omega | exact Nat.lt_of_le_of_lt (hw3 _) (by decide)) (fun c_458 => ?_) (fun c_458 => ?_)
            ·
              refine lv_bipush (v := -6) hx hb dX6_read_465 (by decide) ?_
              refine lv_istore (lv' := [(12, .int (-6)), (11, .int (nI 0)), (10, .int (bI (48 ≤ ch i1 ∧ ch i1 ≤ 51))), (9, .int (bI (48 ≤ ch i1 ∧ ch i1 ≤ 53))), (8, .int (nI (ch i1) - nI 48)), (7, .int (nI (ch i1))), (0, .ref (ad 71)), (1, .int (nI 1)), (2, .int (nI 8)), (3, .int (x3)), (4, .int (x4)), (5, .int (nI (K1))), (6, .int (nI (i1)))]) hx hb dX6_read_467 hl (by decide) rfl (fun ls hl => ?_)
              refine lv_iload hx hb dX6_read_469 (lv_at hl 0 rfl) ?_
              refine q_bp 8 hx hb dX6_read_471 (by decide) ?_
              refine lv_icmp_ne (tgt := 506) hx hb dX6_read_473 (by decide) (fun c_473 => ?_) (fun c_473 => absurd c_473 (by decide))
              refine q_iinc (z2 := K1 + 1) (lv' := [(5, .int (nI (K1 + 1))), (12, .int (-6)), (11, .int (nI 0)), (10, .int (bI (48 ≤ ch i1 ∧ ch i1 ≤ 51))), (9, .int (bI (48 ≤ ch i1 ∧ ch i1 ≤ 53))), (8, .int (nI (ch i1) - nI 48)), (7, .int (nI (ch i1))), (0, .ref (ad 71)), (1, .int (nI 1)), (2, .int (nI 8)), (3, .int (x3)), (4, .int (x4)), (6, .int (nI (i1)))]) hx hb dX6_read_506 hl (k := 11) rfl (inc_up _ 1 (by decide)) (by decide) rfl (fun ls hl => ?_)
              refine lv_goto (tgt := 527) hx hb dX6_read_509 (by decide) ?_
              refine lv_iload hx hb dX6_read_527 (lv_at hl 1 rfl) ?_
              refine lv_if_ge (tgt := 535) hx hb dX6_read_529 (by decide) (fun c_529 => absurd c_529 (by decide)) (fun c_529 => ?_)
              refine lv_iload hx hb dX6_read_532 (lv_at hl 12 rfl) ?_
              exact q_iret1 hC hW hr hlk0 ⟨hX.2.2.2.2.1, hX.2.2.2.2.2, rfl, Or.inl ⟨i1, hX.2.1, FLx hX (by omega) (s8_n (by omega) (by omega)), rfl⟩⟩ dX6_read_534
            ·
              refine q_ic 0 hx hb dX6_read_461 (by decide) ?_
              refine lv_goto (tgt := 467) hx hb dX6_read_462 (by decide) ?_
              refine lv_istore (lv' := [(12, .int (nI 0)), (11, .int (nI 0)), (10, .int (bI (48 ≤ ch i1 ∧ ch i1 ≤ 51))), (9, .int (bI (48 ≤ ch i1 ∧ ch i1 ≤ 53))), (8, .int (nI (ch i1) - nI 48)), (7, .int (nI (ch i1))), (0, .ref (ad 71)), (1, .int (nI 1)), (2, .int (nI 8)), (3, .int (x3)), (4, .int (x4)), (5, .int (nI (K1))), (6, .int (nI (i1)))]) hx hb dX6_read_467 hl (by decide) rfl (fun ls hl => ?_)
              refine lv_iload hx hb dX6_read_469 (lv_at hl 0 rfl) ?_
              refine q_bp 8 hx hb dX6_read_471 (by decide) ?_
              refine q_cne (tgt := 506) hx hb dX6_read_473 (by decide) (by first | omega | exact Nat.lt_of_le_of_lt (hw3 _) (by decide)) (by first | omega | exact Nat.lt_of_le_of_lt (hw3 _) (by decide)) (fun c_473 => ?_) (fun c_473 => absurd c_473 (by decide))
              refine q_iinc (z2 := K1 + 1) (lv' := [(5, .int (nI (K1 + 1))), (12, .int (nI 0)), (11, .int (nI 0)), (10, .int (bI (48 ≤ ch i1 ∧ ch i1 ≤ 51))), (9, .int (bI (48 ≤ ch i1 ∧ ch i1 ≤ 53))), (8, .int (nI (ch i1) - nI 48)), (7, .int (nI (ch i1))), (0, .ref (ad 71)), (1, .int (nI 1)), (2, .int (nI 8)), (3, .int (x3)), (4, .int (x4)), (6, .int (nI (i1)))]) hx hb dX6_read_506 hl (k := 11) rfl (inc_up _ 1 (by decide)) (by decide) rfl (fun ls hl => ?_)
              refine lv_goto (tgt := 527) hx hb dX6_read_509 (by decide) ?_
              refine lv_iload hx hb dX6_read_527 (lv_at hl 1 rfl) ?_
              refine lv_if_ge (tgt := 535) hx hb dX6_read_529 (by decide) (fun c_529 => ?_) (fun c_529 => absurd c_529 (by decide))
              refine lv_aload_n hx hb dX6_read_535 rfl (lv_at hl 7 rfl) ?_
              refine lv_dup hx hb dX6_read_536 rfl ?_
              refine g_6_15 (x := 71) hC hW (by omega) kd_71 gw_498 dX6_read_537 ?_
              refine q_top (v2 := .int (nI (p1))) (congrArg _ hX.2.2.1) ?_
              refine lv_iload hx hb dX6_read_540 (lv_at hl 1 rfl) ?_
              refine q_ine (tgt := 549) hx hb dX6_read_542 (by decide) (by first | omega | exact Nat.lt_of_le_of_lt (hw3 _) (by decide)) (fun c_542 => absurd c_542 (by decide)) (fun c_542 => ?_)
              refine q_ic 1 hx hb dX6_read_545 (by decide) ?_
              refine lv_goto (tgt := 550) hx hb dX6_read_546 (by decide) ?_
              refine q_iadd hx hb dX6_read_550 ?_
              refine p_6_15 (x := 71) (v := nI (p1 + 1)) hC hW (by omega) kd_71 gw_498 dX6_read_551 (fun H locs hW => ?_)
              refine lv_iload hx hb dX6_read_554 (lv_at hl 1 rfl) ?_
              refine lv_istore_n (lv' := [(2, .int (nI 0)), (5, .int (nI (K1 + 1))), (12, .int (nI 0)), (11, .int (nI 0)), (10, .int (bI (48 ≤ ch i1 ∧ ch i1 ≤ 51))), (9, .int (bI (48 ≤ ch i1 ∧ ch i1 ≤ 53))), (8, .int (nI (ch i1) - nI 48)), (7, .int (nI (ch i1))), (0, .ref (ad 71)), (1, .int (nI 1)), (3, .int (x3)), (4, .int (x4)), (6, .int (nI (i1)))]) hx hb dX6_read_556 rfl hl (by decide) rfl (fun ls hl => ?_)
              refine q_iinc (z2 := i1 + 1) (lv' := [(6, .int (nI (i1 + 1))), (2, .int (nI 0)), (5, .int (nI (K1 + 1))), (12, .int (nI 0)), (11, .int (nI 0)), (10, .int (bI (48 ≤ ch i1 ∧ ch i1 ≤ 51))), (9, .int (bI (48 ≤ ch i1 ∧ ch i1 ≤ 53))), (8, .int (nI (ch i1) - nI 48)), (7, .int (nI (ch i1))), (0, .ref (ad 71)), (1, .int (nI 1)), (3, .int (x3)), (4, .int (x4))]) hx hb dX6_read_557 hl (k := 12) rfl (inc_up _ 1 (by decide)) (by decide) rfl (fun ls hl => ?_)
              refine lv_goto (tgt := 18) hx hb dX6_read_560 (by decide) ?_
              exact ih_18 (i1 + 1) 0 a1 b1 K1 (p1 + 1) w1 K1 r1 x3 x4 (nI (K1 + 1)) (up2 I1 71 15 (nI (p1 + 1))) (by omega) (PX_g hX (by omega) (s8_0 (by omega)) (fun _ _ => rfl) (hN1) rfl) QX_0 _ _ hW _ (lv_sub hl [9, 10, 1, 11, 12, 2, 0] rfl)
          ·
            have hp_11 : 97 ≤ ch i1 ∧ ch i1 ≤ 100 := bI_1 c_439
            rw [bI_t hp_11] at hl
            refine lv_iload hx hb dX6_read_442 (lv_at hl 11 rfl) ?_
            refine q_bp 6 hx hb dX6_read_444 (by decide) ?_
            refine q_cge (tgt := 454) hx hb dX6_read_446 (by decide) (by first | omega | exact Nat.lt_of_le_of_lt (hw3 _) (by decide)) (by first | omega | exact Nat.lt_of_le_of_lt (hw3 _) (by decide)) (fun c_446 => ?_) (fun c_446 => ?_)
            ·
              refine lv_iload hx hb dX6_read_454 (lv_at hl 5 rfl) ?_
              refine q_bp 59 hx hb dX6_read_456 (by decide) ?_
              refine q_cne (tgt := 465) hx hb dX6_read_458 (by decide) (by first | omega | exact Nat.lt_of_le_of_lt (hw3 _) (by decide)) (by first | omega | exact Nat.lt_of_le_of_lt (hw3 _) (by decide)) (fun c_458 => ?_) (fun c_458 => ?_)
              ·
                refine lv_bipush (v := -6) hx hb dX6_read_465 (by decide) ?_
                refine lv_istore (lv' := [(12, .int (-6)), (11, .int (nI 1)), (10, .int (bI (48 ≤ ch i1 ∧ ch i1 ≤ 51))), (9, .int (bI (48 ≤ ch i1 ∧ ch i1 ≤ 53))), (8, .int (nI (ch i1) - nI 48)), (7, .int (nI (ch i1))), (0, .ref (ad 71)), (1, .int (nI 1)), (2, .int (nI 8)), (3, .int (x3)), (4, .int (x4)), (5, .int (nI (K1))), (6, .int (nI (i1)))]) hx hb dX6_read_467 hl (by decide) rfl (fun ls hl => ?_)
                refine lv_iload hx hb dX6_read_469 (lv_at hl 0 rfl) ?_
                refine q_bp 8 hx hb dX6_read_471 (by decide) ?_
                refine lv_icmp_ne (tgt := 506) hx hb dX6_read_473 (by decide) (fun c_473 => ?_) (fun c_473 => absurd c_473 (by decide))
                refine q_iinc (z2 := K1 + 1) (lv' := [(5, .int (nI (K1 + 1))), (12, .int (-6)), (11, .int (nI 1)), (10, .int (bI (48 ≤ ch i1 ∧ ch i1 ≤ 51))), (9, .int (bI (48 ≤ ch i1 ∧ ch i1 ≤ 53))), (8, .int (nI (ch i1) - nI 48)), (7, .int (nI (ch i1))), (0, .ref (ad 71)), (1, .int (nI 1)), (2, .int (nI 8)), (3, .int (x3)), (4, .int (x4)), (6, .int (nI (i1)))]) hx hb dX6_read_506 hl (k := 11) rfl (inc_up _ 1 (by decide)) (by decide) rfl (fun ls hl => ?_)
                refine lv_goto (tgt := 527) hx hb dX6_read_509 (by decide) ?_
                refine lv_iload hx hb dX6_read_527 (lv_at hl 1 rfl) ?_
                refine lv_if_ge (tgt := 535) hx hb dX6_read_529 (by decide) (fun c_529 => absurd c_529 (by decide)) (fun c_529 => ?_)
                refine lv_iload hx hb dX6_read_532 (lv_at hl 12 rfl) ?_
                exact q_iret1 hC hW hr hlk0 ⟨hX.2.2.2.2.1, hX.2.2.2.2.2, rfl, Or.inl ⟨i1, hX.2.1, FLx hX (by omega) (s8_n (by omega) (by omega)), rfl⟩⟩ dX6_read_534
              ·
                refine q_ic 0 hx hb dX6_read_461 (by decide) ?_
                refine lv_goto (tgt := 467) hx hb dX6_read_462 (by decide) ?_
                refine lv_istore (lv' := [(12, .int (nI 0)), (11, .int (nI 1)), (10, .int (bI (48 ≤ ch i1 ∧ ch i1 ≤ 51))), (9, .int (bI (48 ≤ ch i1 ∧ ch i1 ≤ 53))), (8, .int (nI (ch i1) - nI 48)), (7, .int (nI (ch i1))), (0, .ref (ad 71)), (1, .int (nI 1)), (2, .int (nI 8)), (3, .int (x3)), (4, .int (x4)), (5, .int (nI (K1))), (6, .int (nI (i1)))]) hx hb dX6_read_467 hl (by decide) rfl (fun ls hl => ?_)
                refine lv_iload hx hb dX6_read_469 (lv_at hl 0 rfl) ?_
                refine q_bp 8 hx hb dX6_read_471 (by decide) ?_
                refine q_cne (tgt := 506) hx hb dX6_read_473 (by decide) (by first | omega | exact Nat.lt_of_le_of_lt (hw3 _) (by decide)) (by first | omega | exact Nat.lt_of_le_of_lt (hw3 _) (by decide)) (fun c_473 => ?_) (fun c_473 => absurd c_473 (by decide))
                refine q_iinc (z2 := K1 + 1) (lv' := [(5, .int (nI (K1 + 1))), (12, .int (nI 0)), (11, .int (nI 1)), (10, .int (bI (48 ≤ ch i1 ∧ ch i1 ≤ 51))), (9, .int (bI (48 ≤ ch i1 ∧ ch i1 ≤ 53))), (8, .int (nI (ch i1) - nI 48)), (7, .int (nI (ch i1))), (0, .ref (ad 71)), (1, .int (nI 1)), (2, .int (nI 8)), (3, .int (x3)), (4, .int (x4)), (6, .int (nI (i1)))]) hx hb dX6_read_506 hl (k := 11) rfl (inc_up _ 1 (by decide)) (by decide) rfl (fun ls hl => ?_)
                refine lv_goto (tgt := 527) hx hb dX6_read_509 (by decide) ?_
                refine lv_iload hx hb dX6_read_527 (lv_at hl 1 rfl) ?_
                refine lv_if_ge (tgt := 535) hx hb dX6_read_529 (by decide) (fun c_529 => ?_) (fun c_529 => absurd c_529 (by decide))
                refine lv_aload_n hx hb dX6_read_535 rfl (lv_at hl 7 rfl) ?_
                refine lv_dup hx hb dX6_read_536 rfl ?_
                refine g_6_15 (x := 71) hC hW (by omega) kd_71 gw_498 dX6_read_537 ?_
                refine q_top (v2 := .int (nI (p1))) (congrArg _ hX.2.2.1) ?_
                refine lv_iload hx hb dX6_read_540 (lv_at hl 1 rfl) ?_
                refine q_ine (tgt := 549) hx hb dX6_read_542 (by decide) (by first | omega | exact Nat.lt_of_le_of_lt (hw3 _) (by decide)) (fun c_542 => absurd c_542 (by decide)) (fun c_542 => ?_)
                refine q_ic 1 hx hb dX6_read_545 (by decide) ?_
                refine lv_goto (tgt := 550) hx hb dX6_read_546 (by decide) ?_
                refine q_iadd hx hb dX6_read_550 ?_
                refine p_6_15 (x := 71) (v := nI (p1 + 1)) hC hW (by omega) kd_71 gw_498 dX6_read_551 (fun H locs hW => ?_)
                refine lv_iload hx hb dX6_read_554 (lv_at hl 1 rfl) ?_
                refine lv_istore_n (lv' := [(2, .int (nI 0)), (5, .int (nI (K1 + 1))), (12, .int (nI 0)), (11, .int (nI 1)), (10, .int (bI (48 ≤ ch i1 ∧ ch i1 ≤ 51))), (9, .int (bI (48 ≤ ch i1 ∧ ch i1 ≤ 53))), (8, .int (nI (ch i1) - nI 48)), (7, .int (nI (ch i1))), (0, .ref (ad 71)), (1, .int (nI 1)), (3, .int (x3)), (4, .int (x4)), (6, .int (nI (i1)))]) hx hb dX6_read_556 rfl hl (by decide) rfl (fun ls hl => ?_)
                refine q_iinc (z2 := i1 + 1) (lv' := [(6, .int (nI (i1 + 1))), (2, .int (nI 0)), (5, .int (nI (K1 + 1))), (12, .int (nI 0)), (11, .int (nI 1)), (10, .int (bI (48 ≤ ch i1 ∧ ch i1 ≤ 51))), (9, .int (bI (48 ≤ ch i1 ∧ ch i1 ≤ 53))), (8, .int (nI (ch i1) - nI 48)), (7, .int (nI (ch i1))), (0, .ref (ad 71)), (1, .int (nI 1)), (3, .int (x3)), (4, .int (x4))]) hx hb dX6_read_557 hl (k := 12) rfl (inc_up _ 1 (by decide)) (by decide) rfl (fun ls hl => ?_)
                refine lv_goto (tgt := 18) hx hb dX6_read_560 (by decide) ?_
                exact ih_18 (i1 + 1) 0 a1 b1 K1 (p1 + 1) w1 K1 r1 x3 x4 (nI (K1 + 1)) (up2 I1 71 15 (nI (p1 + 1))) (by omega) (PX_g hX (by omega) (s8_0 (by omega)) (fun _ _ => rfl) (hN1) rfl) QX_0 _ _ hW _ (lv_sub hl [9, 10, 1, 11, 12, 2, 0] rfl)
            ·
              refine q_bp 8 hx hb dX6_read_449 (by decide) ?_
              refine lv_goto (tgt := 467) hx hb dX6_read_451 (by decide) ?_
              refine lv_istore (lv' := [(12, .int (nI 8)), (11, .int (nI 1)), (10, .int (bI (48 ≤ ch i1 ∧ ch i1 ≤ 51))), (9, .int (bI (48 ≤ ch i1 ∧ ch i1 ≤ 53))), (8, .int (nI (ch i1) - nI 48)), (7, .int (nI (ch i1))), (0, .ref (ad 71)), (1, .int (nI 1)), (2, .int (nI 8)), (3, .int (x3)), (4, .int (x4)), (5, .int (nI (K1))), (6, .int (nI (i1)))]) hx hb dX6_read_467 hl (by decide) rfl (fun ls hl => ?_)
              refine lv_iload hx hb dX6_read_469 (lv_at hl 0 rfl) ?_
              refine q_bp 8 hx hb dX6_read_471 (by decide) ?_
              refine q_cne (tgt := 506) hx hb dX6_read_473 (by decide) (by first | omega | exact Nat.lt_of_le_of_lt (hw3 _) (by decide)) (by first | omega | exact Nat.lt_of_le_of_lt (hw3 _) (by decide)) (fun c_473 => absurd c_473 (by decide)) (fun c_473 => ?_)
              refine lv_iload_n hx hb dX6_read_476 rfl (lv_at hl 7 rfl) ?_
              refine q_ieq (tgt := 506) hx hb dX6_read_477 (by decide) (by first | omega | exact Nat.lt_of_le_of_lt (hw3 _) (by decide)) (fun c_477 => absurd c_477 (by decide)) (fun c_477 => ?_)
              refine lv_aload_n hx hb dX6_read_480 rfl (lv_at hl 6 rfl) ?_
              refine g_6_0 (x := 71) (y := 72) hC hW (by omega) kd_71 gw_483 (hlk 71 0 72 (by omega) rfl) dX6_read_481 ?_
              refine q_bp 60 hx hb dX6_read_484 (by decide) ?_
              refine lv_iload hx hb dX6_read_486 (lv_at hl 11 rfl) ?_
              refine q_iadd hx hb dX6_read_488 ?_
              refine lv_iload hx hb dX6_read_489 (lv_at hl 5 rfl) ?_
              refine q_bp 97 hx hb dX6_read_491 (by decide) ?_
              refine q_isub hx hb dX6_read_493 (by omega) ?_
              refine q_iast (x := 72) (i := 60 + K1) (v := nI ((ch i1) - 97)) hC hW (by omega) kd_72 (by omega) dX6_read_494 (fun H locs hW => ?_)
              refine lv_aload_n hx hb dX6_read_495 rfl (lv_at hl 6 rfl) ?_
              refine g_6_0 (x := 71) (y := 72) hC hW (by omega) kd_71 gw_483 (hlk 71 0 72 (by omega) rfl) dX6_read_496 ?_
              refine q_bp 58 hx hb dX6_read_499 (by decide) ?_
              refine lv_iload hx hb dX6_read_501 (lv_at hl 11 rfl) ?_
              refine q_ic 1 hx hb dX6_read_503 (by decide) ?_
              refine q_iadd hx hb dX6_read_504 ?_
              refine q_iast (x := 72) (i := 58) (v := nI (K1 + 1)) hC hW (by omega) kd_72 (by omega) dX6_read_505 (fun H locs hW => ?_)
              refine q_iinc (z2 := K1 + 1) (lv' := [(5, .int (nI (K1 + 1))), (12, .int (nI 8)), (11, .int (nI 1)), (10, .int (bI (48 ≤ ch i1 ∧ ch i1 ≤ 51))), (9, .int (bI (48 ≤ ch i1 ∧ ch i1 ≤ 53))), (8, .int (nI (ch i1) - nI 48)), (7, .int (nI (ch i1))), (0, .ref (ad 71)), (1, .int (nI 1)), (2, .int (nI 8)), (3, .int (x3)), (4, .int (x4)), (6, .int (nI (i1)))]) hx hb dX6_read_506 hl (k := 11) rfl (inc_up _ 1 (by decide)) (by decide) rfl (fun ls hl => ?_)
              refine lv_goto (tgt := 527) hx hb dX6_read_509 (by decide) ?_
              refine lv_iload hx hb dX6_read_527 (lv_at hl 1 rfl) ?_
              refine lv_if_ge (tgt := 535) hx hb dX6_read_529 (by decide) (fun c_529 => ?_) (fun c_529 => absurd c_529 (by decide))
              refine lv_aload_n hx hb dX6_read_535 rfl (lv_at hl 7 rfl) ?_
              refine lv_dup hx hb dX6_read_536 rfl ?_
              refine g_6_15 (x := 71) hC hW (by omega) kd_71 gw_498 dX6_read_537 ?_
              refine q_top (v2 := .int (nI (p1))) (congrArg _ (by rw [up2_ne (by decide), up2_ne (by decide), hX.2.2.1])) ?_
              refine lv_iload hx hb dX6_read_540 (lv_at hl 1 rfl) ?_
              refine q_ine (tgt := 549) hx hb dX6_read_542 (by decide) (by first | omega | exact Nat.lt_of_le_of_lt (hw3 _) (by decide)) (fun c_542 => ?_) (fun c_542 => absurd c_542 (by decide))
              refine q_ic 0 hx hb dX6_read_549 (by decide) ?_
              refine q_iadd hx hb dX6_read_550 ?_
              refine p_6_15 (x := 71) (v := nI (p1 + 0)) hC hW (by omega) kd_71 gw_498 dX6_read_551 (fun H locs hW => ?_)
              refine lv_iload hx hb dX6_read_554 (lv_at hl 1 rfl) ?_
              refine lv_istore_n (lv' := [(2, .int (nI 8)), (5, .int (nI (K1 + 1))), (12, .int (nI 8)), (11, .int (nI 1)), (10, .int (bI (48 ≤ ch i1 ∧ ch i1 ≤ 51))), (9, .int (bI (48 ≤ ch i1 ∧ ch i1 ≤ 53))), (8, .int (nI (ch i1) - nI 48)), (7, .int (nI (ch i1))), (0, .ref (ad 71)), (1, .int (nI 1)), (3, .int (x3)), (4, .int (x4)), (6, .int (nI (i1)))]) hx hb dX6_read_556 rfl hl (by decide) rfl (fun ls hl => ?_)
              refine q_iinc (z2 := i1 + 1) (lv' := [(6, .int (nI (i1 + 1))), (2, .int (nI 8)), (5, .int (nI (K1 + 1))), (12, .int (nI 8)), (11, .int (nI 1)), (10, .int (bI (48 ≤ ch i1 ∧ ch i1 ≤ 51))), (9, .int (bI (48 ≤ ch i1 ∧ ch i1 ≤ 53))), (8, .int (nI (ch i1) - nI 48)), (7, .int (nI (ch i1))), (0, .ref (ad 71)), (1, .int (nI 1)), (3, .int (x3)), (4, .int (x4))]) hx hb dX6_read_557 hl (k := 12) rfl (inc_up _ 1 (by decide)) (by decide) rfl (fun ls hl => ?_)
              refine lv_goto (tgt := 18) hx hb dX6_read_560 (by decide) ?_
              exact ih_18 (i1 + 1) 8 a1 b1 (K1 + 1) p1 w1 (K1 + 1) (upN r1 K1 (ch i1 - 97)) x3 x4 (nI (K1 + 1)) (up2 (up2 (up2 I1 72 (60 + K1) (nI ((ch i1) - 97))) 72 58 (nI (K1 + 1))) 71 15 (nI (p1 + 0))) (by omega) (PX_g hX (by omega) (s8_8 (by omega)) (fun a ha => by rw [up2_ne ha, up2_ne ha]) (N_8 hN1 (by omega) (by omega)) rfl) (QX_8 (by omega) rfl) _ _ hW _ (lv_sub hl [9, 10, 1, 11, 12, 2, 0] rfl)
        ·
          refine lv_tableOut (tgt := 512) hx hb dX6_read_77 (Or.inr (by decide)) (by decide) ?_
          refine lv_iload hx hb dX6_read_512 (lv_at hl 5 rfl) ?_
          refine q_bp 59 hx hb dX6_read_514 (by decide) ?_
          refine q_cne (tgt := 523) hx hb dX6_read_516 (by decide) (by first | omega | exact Nat.lt_of_le_of_lt (hw3 _) (by decide)) (by first | omega | exact Nat.lt_of_le_of_lt (hw3 _) (by decide)) (fun c_516 => ?_) (fun c_516 => ?_)
          ·
            refine lv_bipush (v := -6) hx hb dX6_read_523 (by decide) ?_
            refine lv_istore (lv' := [(12, .int (-6)), (11, .int (bI (97 ≤ ch i1 ∧ ch i1 ≤ 100))), (10, .int (bI (48 ≤ ch i1 ∧ ch i1 ≤ 51))), (9, .int (bI (48 ≤ ch i1 ∧ ch i1 ≤ 53))), (8, .int (nI (ch i1) - nI 48)), (7, .int (nI (ch i1))), (0, .ref (ad 71)), (1, .int (nI 1)), (2, .int (nI 9)), (3, .int (x3)), (4, .int (x4)), (5, .int (x5)), (6, .int (nI (i1)))]) hx hb dX6_read_525 hl (by decide) rfl (fun ls hl => ?_)
            refine lv_iload hx hb dX6_read_527 (lv_at hl 0 rfl) ?_
            refine lv_if_ge (tgt := 535) hx hb dX6_read_529 (by decide) (fun c_529 => absurd c_529 (by decide)) (fun c_529 => ?_)
            refine lv_iload hx hb dX6_read_532 (lv_at hl 12 rfl) ?_
            exact q_iret1 hC hW hr hlk0 ⟨hX.2.2.2.2.1, hX.2.2.2.2.2, rfl, Or.inl ⟨i1, hX.2.1, FLx hX (by omega) (s9_n (by omega)), rfl⟩⟩ dX6_read_534
          ·
            refine q_ic 0 hx hb dX6_read_519 (by decide) ?_
            refine lv_goto (tgt := 525) hx hb dX6_read_520 (by decide) ?_
            refine lv_istore (lv' := [(12, .int (nI 0)), (11, .int (bI (97 ≤ ch i1 ∧ ch i1 ≤ 100))), (10, .int (bI (48 ≤ ch i1 ∧ ch i1 ≤ 51))), (9, .int (bI (48 ≤ ch i1 ∧ ch i1 ≤ 53))), (8, .int (nI (ch i1) - nI 48)), (7, .int (nI (ch i1))), (0, .ref (ad 71)), (1, .int (nI 1)), (2, .int (nI 9)), (3, .int (x3)), (4, .int (x4)), (5, .int (x5)), (6, .int (nI (i1)))]) hx hb dX6_read_525 hl (by decide) rfl (fun ls hl => ?_)
            refine lv_iload hx hb dX6_read_527 (lv_at hl 0 rfl) ?_
            refine lv_if_ge (tgt := 535) hx hb dX6_read_529 (by decide) (fun c_529 => ?_) (fun c_529 => absurd c_529 (by decide))
            refine lv_aload_n hx hb dX6_read_535 rfl (lv_at hl 6 rfl) ?_
            refine lv_dup hx hb dX6_read_536 rfl ?_
            refine g_6_15 (x := 71) hC hW (by omega) kd_71 gw_498 dX6_read_537 ?_
            refine q_top (v2 := .int (nI (p1))) (congrArg _ hX.2.2.1) ?_
            refine lv_iload hx hb dX6_read_540 (lv_at hl 0 rfl) ?_
            refine q_ine (tgt := 549) hx hb dX6_read_542 (by decide) (by first | omega | exact Nat.lt_of_le_of_lt (hw3 _) (by decide)) (fun c_542 => absurd c_542 (by decide)) (fun c_542 => ?_)
            refine q_ic 1 hx hb dX6_read_545 (by decide) ?_
            refine lv_goto (tgt := 550) hx hb dX6_read_546 (by decide) ?_
            refine q_iadd hx hb dX6_read_550 ?_
            refine p_6_15 (x := 71) (v := nI (p1 + 1)) hC hW (by omega) kd_71 gw_498 dX6_read_551 (fun H locs hW => ?_)
            refine lv_iload hx hb dX6_read_554 (lv_at hl 0 rfl) ?_
            refine lv_istore_n (lv' := [(2, .int (nI 0)), (12, .int (nI 0)), (11, .int (bI (97 ≤ ch i1 ∧ ch i1 ≤ 100))), (10, .int (bI (48 ≤ ch i1 ∧ ch i1 ≤ 51))), (9, .int (bI (48 ≤ ch i1 ∧ ch i1 ≤ 53))), (8, .int (nI (ch i1) - nI 48)), (7, .int (nI (ch i1))), (0, .ref (ad 71)), (1, .int (nI 1)), (3, .int (x3)), (4, .int (x4)), (5, .int (x5)), (6, .int (nI (i1)))]) hx hb dX6_read_556 rfl hl (by decide) rfl (fun ls hl => ?_)
            refine q_iinc (z2 := i1 + 1) (lv' := [(6, .int (nI (i1 + 1))), (2, .int (nI 0)), (12, .int (nI 0)), (11, .int (bI (97 ≤ ch i1 ∧ ch i1 ≤ 100))), (10, .int (bI (48 ≤ ch i1 ∧ ch i1 ≤ 51))), (9, .int (bI (48 ≤ ch i1 ∧ ch i1 ≤ 53))), (8, .int (nI (ch i1) - nI 48)), (7, .int (nI (ch i1))), (0, .ref (ad 71)), (1, .int (nI 1)), (3, .int (x3)), (4, .int (x4)), (5, .int (x5))]) hx hb dX6_read_557 hl (k := 12) rfl (inc_up _ 1 (by decide)) (by decide) rfl (fun ls hl => ?_)
            refine lv_goto (tgt := 18) hx hb dX6_read_560 (by decide) ?_
            exact ih_18 (i1 + 1) 0 a1 b1 m1 (p1 + 1) w1 K1 r1 x3 x4 x5 (up2 I1 71 15 (nI (p1 + 1))) (by omega) (PX_g hX (by omega) (s9_0 (by omega)) (fun _ _ => rfl) (hN1) rfl) QX_0 _ _ hW _ (lv_sub hl [8, 9, 1, 10, 11, 12, 0] rfl)
  exact lp_18 (pn + 1) 0 0 0 0 0 0 w K ro (nI 0) (nI 0) (nI 0) (up2 I 71 15 (nI 0)) (by omega) (⟨rfl, by omega, by rw [up2_at, if_pos ⟨rfl, rfl⟩], (show NwI (up2 I 71 15 (nI 0) 72) w K ro from by rw [up2_ne (by decide)]; exact hN), fun a h1 _ => up2_ne h1, fun j hj => by rw [up2_at, if_neg (fun q9 => hj q9.2)]⟩) QX_0 _ _ hW _ (lv_sub hl [5, 6, 4, 3, 2, 1, 0] rfl)
set_option maxRecDepth 100000 in
set_option maxHeartbeats 4000000 in
theorem k_rfault (l : Launch) (G : Gx) (n : Nat) (ad : Nat → Nat) (sz : Nat) (I : Ic) (L : Lc) (R : Rc)  (w : Nat → Nat) (K : Nat) (ro : Nat → Nat) (hc : Nat) (hi : Nat → CM) (sv : Nat → Option CM) (pn : Nat) (ch : Nat → Nat) (hI0 : InvB n I R ((w, K, ro), hc, hi, sv, pn, ch)) : Met l yX6_fault (Cond.code yX6_fault cX6_fault 1 (some .int) :: GW) ({ frames := 6, cells := 0, slots := 0, locals := 216 } : Room) (qPre G n ad sz I L R [.ref (ad 71)]) (qI1 G (qA n ad sz) n ad R (fun z I1 L1 => RR n I L R (aFault ((w, K, ro), hc, hi, sv, pn, ch), ((w, K, ro), hc, hi, sv, pn, ch)) z I1 L1)) 0 0 (qA n ad sz) := by
  refine q_met (by decide) (Nat.le_of_ble_eq_true rfl) ?_
  intro p_ e_ s m_ below meth c_ hC hr hlk0 hin hsz hW ls hl
  subst hsz
  have hC : CallFix p_ m_ c_ cX6_fault 1 s ([.ref (ad 71)] : List Value).toArray GW "CoinRowsModel" := hC
  have hx := hC.1
  have hb := hC.2.1
  have hn : 83 ≤ n := hI0.1
  have hlk : LkOK n R := hI0.2.1
  have hN : NwI (I 72) w K ro := hI0.2.2.1
  have hH : HwB I hc hi := hI0.2.2.2.1
  have hSw : SwB I sv := hI0.2.2.2.2.1
  have hPd : PdB I pn ch := hI0.2.2.2.2.2
  have hh1 := hH.1
  have hh6 := hH.2.1
  have hp80 := hPd.2.1
  have hk6 : K ≤ 6 := hN.2.2.2.1
  have hw : Wok w := hN.2.2.2.2.1
  have hw3 : ∀ i, w i ≤ 3 := hw.1
  have hr4 : ∀ j, ro j < 4 := hN.2.2.2.2.2
  have hl : lv_has ls 1 [(0, .ref (ad 71))] := hl
  refine lv_aload_n hx hb dX6_fault_0 rfl (lv_at hl 0 rfl) ?_
  refine q_ic 0 hx hb dX6_fault_1 (by decide) ?_
  refine q_kI1 (q_rV (As := [.int (nI 0)]) (rest := []) (x := 71) hC hW mw_X6_read gw_732 (k_rreadN l G n ad s.heap.size I L R pn ch w K ro hn hlk hN hPd) (by omega) (ct_o6 kd_71) rfl ⟨rfl, rfl⟩ ⟨Nat.le_of_ble_eq_true rfl, Nat.le_of_ble_eq_true rfl⟩ ⟨(Nat.le_of_ble_eq_true rfl), (Nat.le_of_ble_eq_true rfl)⟩ hl.1 rfl rfl (Nat.le_of_ble_eq_true rfl) dX6_fault_2) hW (fun r_2 I_2 L_2 H locs hp hW => ?_)
  obtain ⟨hG_2, hg_2, rfl, hp⟩ := hp
  have hP_2 : PB n I L R ((w, K, ro), hc, hi, sv, pn, ch) I_2 L := PB_q hI0 (fun a ha => hG_2 a (by omega)) (fun j hj => hg_2 j (by omega)) (fun _ _ => rfl)
  have hN_2 : NwI (I_2 72) w K ro := by rw [hG_2 72 (by decide)]; exact hN
  rcases hp with ⟨i_2, hi_2, hF_2, rfl⟩ | ⟨σ_2, hO_2, rfl⟩
  ·
    exact q_iret1 hC hW hr hlk0 (RR_i (a' := (nI i_2, ((w, K, ro), hc, hi, sv, pn, ch))) (by simp only [aFault, sg0, flt_some hF_2]) ⟨rfl, hP_2⟩) dX6_fault_5
  ·
    exact q_iret1 hC hW hr hlk0 (RR_i (a' := (-6, ((w, K, ro), hc, hi, sv, pn, ch))) (by simp only [aFault, sg0, flt_none hO_2]) ⟨rfl, hP_2⟩) dX6_fault_5
set_option maxRecDepth 100000 in
set_option maxHeartbeats 4000000 in
theorem k_rload (l : Launch) (G : Gx) (n : Nat) (ad : Nat → Nat) (sz : Nat) (I : Ic) (L : Lc) (R : Rc)  (w : Nat → Nat) (K : Nat) (ro : Nat → Nat) (hc : Nat) (hi : Nat → CM) (sv : Nat → Option CM) (pn : Nat) (ch : Nat → Nat) (hI0 : InvB n I R ((w, K, ro), hc, hi, sv, pn, ch)) : Met l yX6_load (Cond.code yX6_load cX6_load 1 (some .int) :: GW) ({ frames := 6, cells := 0, slots := 0, locals := 216 } : Room) (qPre G n ad sz I L R [.ref (ad 71)]) (qI1 G (qA n ad sz) n ad R (fun z I1 L1 => RR n I L R (aLoad ((w, K, ro), hc, hi, sv, pn, ch)) z I1 L1)) 0 0 (qA n ad sz) := by
  refine q_met (by decide) (Nat.le_of_ble_eq_true rfl) ?_
  intro p_ e_ s m_ below meth c_ hC hr hlk0 hin hsz hW ls hl
  subst hsz
  have hC : CallFix p_ m_ c_ cX6_load 1 s ([.ref (ad 71)] : List Value).toArray GW "CoinRowsModel" := hC
  have hx := hC.1
  have hb := hC.2.1
  have hn : 83 ≤ n := hI0.1
  have hlk : LkOK n R := hI0.2.1
  have hN : NwI (I 72) w K ro := hI0.2.2.1
  have hH : HwB I hc hi := hI0.2.2.2.1
  have hSw : SwB I sv := hI0.2.2.2.2.1
  have hPd : PdB I pn ch := hI0.2.2.2.2.2
  have hh1 := hH.1
  have hh6 := hH.2.1
  have hp80 := hPd.2.1
  have hk6 : K ≤ 6 := hN.2.2.2.1
  have hw : Wok w := hN.2.2.2.2.1
  have hw3 : ∀ i, w i ≤ 3 := hw.1
  have hr4 : ∀ j, ro j < 4 := hN.2.2.2.2.2
  have hl : lv_has ls 1 [(0, .ref (ad 71))] := hl
  refine lv_aload_n hx hb dX6_load_0 rfl (lv_at hl 0 rfl) ?_
  refine q_ic 0 hx hb dX6_load_1 (by decide) ?_
  refine q_kI1 (q_rV (As := [.int (nI 0)]) (rest := []) (x := 71) hC hW mw_X6_read gw_732 (k_rreadN l G n ad s.heap.size I L R pn ch w K ro hn hlk hN hPd) (by omega) (ct_o6 kd_71) rfl ⟨rfl, rfl⟩ ⟨Nat.le_of_ble_eq_true rfl, Nat.le_of_ble_eq_true rfl⟩ ⟨(Nat.le_of_ble_eq_true rfl), (Nat.le_of_ble_eq_true rfl)⟩ hl.1 rfl rfl (Nat.le_of_ble_eq_true rfl) dX6_load_2) hW (fun r_2 I_2 L_2 H locs hp hW => ?_)
  obtain ⟨hG_2, hg_2, rfl, hp⟩ := hp
  have hP_2 : PB n I L R ((w, K, ro), hc, hi, sv, pn, ch) I_2 L := PB_q hI0 (fun a ha => hG_2 a (by omega)) (fun j hj => hg_2 j (by omega)) (fun _ _ => rfl)
  have hN_2 : NwI (I_2 72) w K ro := by rw [hG_2 72 (by decide)]; exact hN
  rcases hp with ⟨i_2, hi_2, hF_2, rfl⟩ | ⟨σ_2, hO_2, rfl⟩
  ·
    refine lv_bipush (v := -6) hx hb dX6_load_5 (by decide) ?_
    refine lv_icmp_eq (tgt := 13) hx hb dX6_load_7 (by decide) (fun c_7 => absurd c_7 (nI_n6 (by omega))) (fun c_7 => ?_)
    refine lv_bipush (v := -3) hx hb dX6_load_10 (by decide) ?_
    exact q_iret1 hC hW hr hlk0 (RR_i (a' := (-3, ((w, K, ro), hc, hi, sv, pn, ch))) (by simp only [aLoad, sg0, flt_some hF_2]) ⟨rfl, hP_2⟩) dX6_load_12
  ·
    refine lv_bipush (v := -6) hx hb dX6_load_5 (by decide) ?_
    refine lv_icmp_eq (tgt := 13) hx hb dX6_load_7 (by decide) (fun c_7 => ?_) (fun c_7 => absurd c_7 (by decide))
    have hI2 := hP_2.1
    refine lv_aload_n hx hb dX6_load_13 rfl (lv_at hl 0 rfl) ?_
    refine q_kV1 (q_rV (As := []) (rest := []) (x := 71) hC hW mw_X6_record gw_546 (k_record l G n ad H.size I_2 L R w K ro hc hi hn hlk hN_2 hI2.2.2.2.1) (by omega) (ct_o6 kd_71) rfl ⟨rfl, rfl⟩ ⟨Nat.le_of_ble_eq_true rfl, Nat.le_of_ble_eq_true rfl⟩ ⟨(Nat.le_of_ble_eq_true rfl), (Nat.le_of_ble_eq_true rfl)⟩ hl.1 rfl rfl (Nat.le_of_ble_eq_true rfl) dX6_load_14) hW (fun I_14 L_14 H locs hp hW => ?_)
    obtain ⟨hHr_14, hf_14, hj_14, rfl⟩ := hp
    have hN_14 : NwI (I_14 72) w K ro := by rw [hf_14 72 (by decide) (by decide)]; exact hN_2
    have hPd14 : PdB I_14 pn ch := PdB_fr hPd ((hj_14 6 (by decide)).trans (hg_2 6 (by decide))) ((hf_14 76 (by decide) (by decide)).trans (hG_2 76 (by decide)))
    refine lv_aload_n hx hb dX6_load_17 rfl (lv_at hl 0 rfl) ?_
    refine q_ic 1 hx hb dX6_load_18 (by decide) ?_
    refine q_kI1 (q_rV (As := [.int (nI 1)]) (rest := []) (x := 71) hC hW mw_X6_read gw_732 (k_rreadM l G n ad H.size I_14 L R pn ch w K ro hn hlk hN_14 hPd14) (by omega) (ct_o6 kd_71) rfl ⟨rfl, rfl⟩ ⟨Nat.le_of_ble_eq_true rfl, Nat.le_of_ble_eq_true rfl⟩ ⟨(Nat.le_of_ble_eq_true rfl), (Nat.le_of_ble_eq_true rfl)⟩ hl.1 rfl rfl (Nat.le_of_ble_eq_true rfl) dX6_load_19) hW (fun r_19 I_19 L_19 H locs hp hW => ?_)
    obtain ⟨hG_19, hg_19, rfl, hp⟩ := hp
    rcases hp with ⟨i_19, hi_19, hF_19, -⟩ | ⟨⟨q_19, a_19, b_19, m_19, w_19, K_19, r_19, p_19⟩, hO_19, h15_19, hNM_19⟩
    · exact absurd hO_2 (fun h => FL_OK hF_19 h)
    refine lv_pop hx hb dX6_load_22 rfl ?_
    refine lv_aload_n hx hb dX6_load_23 rfl (lv_at hl 0 rfl) ?_
    refine q_ic 0 hx hb dX6_load_24 (by decide) ?_
    refine p_6_6 (x := 71) (v := nI 0) hC hW (by omega) kd_71 gw_489 dX6_load_25 (fun H locs hW => ?_)
    refine lv_aload_n hx hb dX6_load_28 rfl (lv_at hl 0 rfl) ?_
    refine g_6_15 (x := 71) hC hW (by omega) kd_71 gw_498 dX6_load_29 ?_
    refine q_top (v2 := .int (nI (p_19 + 1))) (congrArg _ (by rw [up2_at, if_neg (by decide)]; exact h15_19)) ?_
    exact q_iret1 hC hW hr hlk0 (RR_i (a' := (nI (p_19 + 1), ((w_19, K_19, r_19), hcN hc, hiN hc hi (w, K, ro), sv, 0, ch))) (by simp only [aLoad, sg0, flt_none hO_19, hO_19.1]) ⟨rfl, PB_tr (PB_rec (m := (w_19, K_19, r_19)) hI2 hHr_14 hf_14 (by rw [up2_at, if_neg (by decide)]; exact hg_19 2 (by decide)) (by rw [up2_ne (by decide)]; exact hG_19 73 (by decide) (by decide)) (by rw [up2_ne (by decide)]; exact hG_19 74 (by decide) (by decide)) (by rw [up2_ne (by decide)]; exact hG_19 75 (by decide) (by decide)) (by rw [up2_ne (by decide)]; exact hNM_19) ⟨by rw [up2_at, if_pos ⟨rfl, rfl⟩], by omega, fun j hj => absurd hj (by omega), hPd.2.2.2⟩ (fun a ha => by rw [up2_ne (by omega)]; exact hG_19 a (by omega) (by omega)) (fun _ _ => rfl)) (fun a ha => ⟨hG_2 a (by omega), rfl⟩)⟩) dX6_load_32
