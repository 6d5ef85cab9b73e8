theorem div_ne {a : Nat} (h0 : 0 < a) (h : 2 * a < 2 ^ 63) : ¬ lN (2 * a) = 0 := fun q => by
  have h1 : lN (2 * a) = lN 0 := q
  have h2 := (pk_lEQ h (by decide)).mp h1
  omega
theorem mix0 {E v : Nat → Nat} {a z b : Nat} (h : gx E a z = 0) : mixA v (tg E v a z) a b = v := by
  funext j; unfold mixA tg; rw [if_pos h]; split <;> rfl
theorem cnt0 {E v : Nat → Nat} {a z : Nat} (h : gx E a z = 0) : nI (cntF v (tg E v a z) a z) = nI 0 := by
  have : ∀ m, cntF v (tg E v a z) a m = 0 := fun m => by
    induction m with
    | zero => rfl
    | succ m ih => rw [cntF_y (by unfold tg; rw [if_pos h]), ih]
  rw [this]
set_option maxRecDepth 100000 in
set_option maxHeartbeats 4000000 in
theorem k_group (l : Launch) (G : Gx) (n : Nat) (ad : Nat → Nat) (sz : Nat) (I : Ic) (L : Lc) (R : Rc) (v E : Nat → Nat) (a z : Nat) (hn : 71 ≤ n) (hlk : LkOK n R) (hE : ∀ j, j < 58 → L 52 j = lN (E j)) (hEb : ∀ j, E j ≤ 1317000000000000000) (hv : ∀ j, v j ≤ 3) (haz : a + z ≤ 58) : Met l yX3_improveGroup (Cond.code yX3_improveGroup cX3_improveGroup 9 (some .int) :: GW) ({ frames := 1, cells := 0, slots := 0, locals := 36 } : Room) (qPre G n ad sz (wI I v) L R [.ref (ad 51), .ref (ad 1), .int (nI (a)), .int (nI (z))]) (qI1 G (qA n ad sz) n ad R (fun y I1 L1 => y = nI (cntF v (tg E v a z) a z) ∧ I1 = wI I (mixA v (tg E v a z) a (a + z)) ∧ L = L1)) 0 0 (qA n ad sz) := by
  refine q_met (by decide) (Nat.le_of_ble_eq_true rfl) ?_
  intro p_ e_ s m_ below meth c_ hC hr hlk0 hin hsz hW ls hl
  subst hsz
  have hC : CallFix p_ m_ c_ cX3_improveGroup 9 s ([.ref (ad 51), .ref (ad 1), .int (nI (a)), .int (nI (z))] : List Value).toArray GW "CoinRows$Trainer" := hC
  have hx := hC.1
  have hb := hC.2.1
  have hl : lv_has ls 9 [(0, .ref (ad 51)), (1, .ref (ad 1)), (2, .int (nI (a))), (3, .int (nI (z)))] := hl
  refine q_lc 0 hx hb dX3_improveGroup_0 (by decide) ?_
  refine lv_lstore (lv' := [(4, .long (lN 0)), (0, .ref (ad 51)), (1, .ref (ad 1)), (2, .int (nI (a))), (3, .int (nI (z)))]) hx hb dX3_improveGroup_1 hl (by decide) rfl (fun ls hl => ?_)
  refine lv_iload_n hx hb dX3_improveGroup_3 rfl (lv_at hl 3 rfl) ?_
  refine lv_istore (lv' := [(6, .int (nI (a))), (4, .long (lN 0)), (0, .ref (ad 51)), (1, .ref (ad 1)), (2, .int (nI (a))), (3, .int (nI (z)))]) hx hb dX3_improveGroup_4 hl (by decide) rfl (fun ls hl => ?_)
  have lp_6 : ∀ (fu_6 : Nat) (i : Nat), z - i < fu_6 → (i ≤ z) → ∀ (H : Heap) (locs : List Loc), Wd G n ad (wI I v) L R (qA n ad s.heap.size) s.heap H locs s → ∀ ls : Array Slot, lv_has ls 9 [(0, .ref (ad 51)), (1, .ref (ad 1)), (2, .int (nI (a))), (3, .int (nI (z))), (4, .long (lN (gx E a i))), (6, .int (nI (a + i)))] → W p_ l e_ ({ frames := 1, cells := 0, slots := 0, locals := 36 } : Room) s m_ ([.ref (ad 51), .ref (ad 1), .int (nI (a)), .int (nI (z))] : List Value).toArray below meth c_ H locs 0 0 (MQ below (qI1 G (qA n ad s.heap.size) n ad R (fun y I1 L1 => y = nI (cntF v (tg E v a z) a z) ∧ I1 = wI I (mixA v (tg E v a z) a (a + z)) ∧ L = L1)) ([.ref (ad 51), .ref (ad 1), .int (nI (a)), .int (nI (z))] : List Value).toArray s 0 0 (qA n ad s.heap.size)) (F0 m_ 6 ls []) := by
    intro fu_6
    induction fu_6 with
    | zero =>
      intro i hm; exact absurd hm (Nat.not_lt_zero _)
    | succ fu_6 ih_6 =>
      intro i hm_6 hi H locs hW ls hl
      have hgl : gx E a i ≤ 1317000000000000000 := gx_le (fun q _ => hEb _)
      have hEi := hEb (a + i)
      refine lv_iload hx hb dX3_improveGroup_6 (lv_at hl 5 rfl) ?_
      refine lv_iload_n hx hb dX3_improveGroup_8 rfl (lv_at hl 2 rfl) ?_
      refine lv_iload_n hx hb dX3_improveGroup_9 rfl (lv_at hl 3 rfl) ?_
      refine q_iadd hx hb dX3_improveGroup_10 ?_
      refine q_cge (tgt := 34) hx hb dX3_improveGroup_11 (by decide) (by first | omega | exact Nat.lt_of_le_of_lt (hw3 _) (by decide)) (by first | omega | exact Nat.lt_of_le_of_lt (hw3 _) (by decide)) (fun c_11 => ?_) (fun c_11 => ?_)
      ·
        have ez : z = i := by omega
        subst ez
        refine lv_lload hx hb dX3_improveGroup_34 (lv_at hl 4 rfl) ?_
        refine q_lc 0 hx hb dX3_improveGroup_36 (by decide) ?_
        refine q_lcmp hx hb dX3_improveGroup_37 ?_
        refine q_lne (tgt := 43) hx hb dX3_improveGroup_38 (by decide) (by first | decide | omega | assumption) (by first | decide | omega | assumption) (fun c_38 => ?_) (fun c_38 => ?_)
        ·
          refine q_ic 0 hx hb dX3_improveGroup_43 (by decide) ?_
          refine lv_istore (lv' := [(6, .int (nI 0)), (0, .ref (ad 51)), (1, .ref (ad 1)), (2, .int (nI (a))), (3, .int (nI (z))), (4, .long (lN (gx E a z)))]) hx hb dX3_improveGroup_44 hl (by decide) rfl (fun ls hl => ?_)
          have hW := (show wI I v = wI I (mixA v (tg E v a z) a (a + 0)) from by rw [Nat.add_zero, mixA_0]) ▸ hW
          refine lv_iload_n hx hb dX3_improveGroup_46 rfl (lv_at hl 3 rfl) ?_
          refine lv_istore (lv' := [(7, .int (nI (a))), (6, .int (nI 0)), (0, .ref (ad 51)), (1, .ref (ad 1)), (2, .int (nI (a))), (3, .int (nI (z))), (4, .long (lN (gx E a z)))]) hx hb dX3_improveGroup_47 hl (by decide) rfl (fun ls hl => ?_)
          have lp_49 : ∀ (fu_49 : Nat) (j : Nat), z - j < fu_49 → (j ≤ z) → ∀ (H : Heap) (locs : List Loc), Wd G n ad (wI I (mixA v (tg E v a z) a (a + j))) L R (qA n ad s.heap.size) s.heap H locs s → ∀ ls : Array Slot, lv_has ls 9 [(0, .ref (ad 51)), (1, .ref (ad 1)), (2, .int (nI (a))), (3, .int (nI (z))), (4, .long (lN (gx E a z))), (6, .int (nI (cntF v (tg E v a z) a j))), (7, .int (nI (a + j)))] → W p_ l e_ ({ frames := 1, cells := 0, slots := 0, locals := 36 } : Room) s m_ ([.ref (ad 51), .ref (ad 1), .int (nI (a)), .int (nI (z))] : List Value).toArray below meth c_ H locs 0 0 (MQ below (qI1 G (qA n ad s.heap.size) n ad R (fun y I1 L1 => y = nI (cntF v (tg E v a z) a z) ∧ I1 = wI I (mixA v (tg E v a z) a (a + z)) ∧ L = L1)) ([.ref (ad 51), .ref (ad 1), .int (nI (a)), .int (nI (z))] : List Value).toArray s 0 0 (qA n ad s.heap.size)) (F0 m_ 49 ls []) := by
            intro fu_49
            induction fu_49 with
            | zero =>
              intro j hm; exact absurd hm (Nat.not_lt_zero _)
            | succ fu_49 ih_49 =>
              intro j hm_49 hj H locs hW ls hl
              have hcl := cntF_le v (tg E v a z) a j
              refine lv_iload hx hb dX3_improveGroup_49 (lv_at hl 6 rfl) ?_
              refine lv_iload_n hx hb dX3_improveGroup_51 rfl (lv_at hl 2 rfl) ?_
              refine lv_iload_n hx hb dX3_improveGroup_52 rfl (lv_at hl 3 rfl) ?_
              refine q_iadd hx hb dX3_improveGroup_53 ?_
              refine q_cge (tgt := 111) hx hb dX3_improveGroup_54 (by decide) (by first | omega | exact Nat.lt_of_le_of_lt (hw3 _) (by decide)) (by first | omega | exact Nat.lt_of_le_of_lt (hw3 _) (by decide)) (fun c_54 => ?_) (fun c_54 => ?_)
              ·
                refine lv_iload hx hb dX3_improveGroup_111 (lv_at hl 5 rfl) ?_
                have ej : z = j := by omega
                subst ej
                exact q_iret1 hC hW hr hlk0 ⟨rfl, rfl, rfl⟩ dX3_improveGroup_113
              ·
                refine lv_ldc2 (v := lN 6) hx hb hC.2.2.2.1 (hC.2.2.2.2 _ gw_421) dX3_improveGroup_57 ?_
                refine lv_aload_n hx hb dX3_improveGroup_60 rfl (lv_at hl 0 rfl) ?_
                refine g_3_0 (x := 51) (y := 52) hC hW (by omega) kd_51 gw_120 (hlk 51 0 52 (by omega) rfl) dX3_improveGroup_61 ?_
                refine lv_iload hx hb dX3_improveGroup_64 (lv_at hl 6 rfl) ?_
                refine q_lald (x := 52) (i := a + j) hC hW (by omega) kd_52 (by omega) dX3_improveGroup_66 ?_
                refine q_top (v2 := .long (lN (E (a + j)))) (congrArg _ (hE _ (by omega))) ?_
                refine q_lmul hx hb dX3_improveGroup_67 ?_
                refine lv_lload hx hb dX3_improveGroup_68 (lv_at hl 4 rfl) ?_
                refine q_ladd hx hb dX3_improveGroup_70 ?_
                refine lv_ldc2 (v := lN 2) hx hb hC.2.2.2.1 (hC.2.2.2.2 _ gw_422) dX3_improveGroup_71 ?_
                refine lv_lload hx hb dX3_improveGroup_74 (lv_at hl 4 rfl) ?_
                refine q_lmul hx hb dX3_improveGroup_76 ?_
                have hg0 : 0 < gx E a z := by omega
                have hEj := hEb (a + j)
                refine lv_ldiv hx hb dX3_improveGroup_77 (div_ne (by omega) (by omega)) ?_
                refine q_top (v2 := .long (lN (tg E v a z (a + j)))) (by rw [pk_lDiv (by omega) (by omega) (by omega)]; unfold tg tr1; rw [if_neg (by omega)]) ?_
                refine q_l2i hx hb dX3_improveGroup_78 ?_
                refine lv_istore (lv' := [(8, .int (nI (tg E v a z (a + j)))), (0, .ref (ad 51)), (1, .ref (ad 1)), (2, .int (nI (a))), (3, .int (nI (z))), (4, .long (lN (gx E a z))), (6, .int (nI (cntF v (tg E v a z) a j))), (7, .int (nI (a + j)))]) hx hb dX3_improveGroup_79 hl (by decide) rfl (fun ls hl => ?_)
                have ht3 : tg E v a z (a + j) ≤ 3 := tg_le (hv _) (by omega) (by omega)
                have hvj := hv (a + j)
                refine lv_iload hx hb dX3_improveGroup_81 (lv_at hl 0 rfl) ?_
                refine lv_aload_n hx hb dX3_improveGroup_83 rfl (lv_at hl 2 rfl) ?_
                refine g_0_0 (x := 1) (y := 2) hC hW (by omega) kd_1 gw_25 (hlk 1 0 2 (by omega) rfl) dX3_improveGroup_84 ?_
                refine lv_iload hx hb dX3_improveGroup_87 (lv_at hl 7 rfl) ?_
                refine q_iald (x := 2) (i := a + j) hC hW (by omega) kd_2 (by omega) dX3_improveGroup_89 ?_
                refine q_top (v2 := .int (nI (v (a + j)))) (congrArg _ (by rw [wI_at (by omega), mixA_at])) ?_
                refine q_ceq (tgt := 105) hx hb dX3_improveGroup_90 (by decide) (by first | omega | exact Nat.lt_of_le_of_lt (hw3 _) (by decide)) (by first | omega | exact Nat.lt_of_le_of_lt (hw3 _) (by decide)) (fun c_90 => ?_) (fun c_90 => ?_)
                ·
                  have hz : tg E v a z (a + j) = v (a + j) := c_90
                  rw [← mixA_n hz] at hW
                  have hl : lv_has ls 9 [(8, .int (nI (tg E v a z (a + j)))), (0, .ref (ad 51)), (1, .ref (ad 1)), (2, .int (nI (a))), (3, .int (nI (z))), (4, .long (lN (gx E a z))), (6, .int (nI (cntF v (tg E v a z) a (j + 1)))), (7, .int (nI (a + j)))] := by rw [cntF_y hz.symm]; exact hl
                  refine q_iinc (z2 := (a + j) + 1) (lv' := [(7, .int (nI ((a + j) + 1))), (8, .int (nI (tg E v a z (a + j)))), (0, .ref (ad 51)), (1, .ref (ad 1)), (2, .int (nI (a))), (3, .int (nI (z))), (4, .long (lN (gx E a z))), (6, .int (nI (cntF v (tg E v a z) a (j + 1))))]) hx hb dX3_improveGroup_105 hl (k := 7) rfl (inc_up _ 1 (by decide)) (by decide) rfl (fun ls hl => ?_)
                  refine lv_goto (tgt := 49) hx hb dX3_improveGroup_108 (by decide) ?_
                  exact ih_49 (j + 1) (by omega) (by omega) _ _ hW _ (lv_sub hl [2, 3, 4, 5, 6, 7, 0] rfl)
                ·
                  have hz : ¬ tg E v a z (a + j) = v (a + j) := c_90
                  refine lv_aload_n hx hb dX3_improveGroup_93 rfl (lv_at hl 2 rfl) ?_
                  refine g_0_0 (x := 1) (y := 2) hC hW (by omega) kd_1 gw_25 (hlk 1 0 2 (by omega) rfl) dX3_improveGroup_94 ?_
                  refine lv_iload hx hb dX3_improveGroup_97 (lv_at hl 7 rfl) ?_
                  refine lv_iload hx hb dX3_improveGroup_99 (lv_at hl 0 rfl) ?_
                  refine q_iast (x := 2) (i := a + j) (v := nI (tg E v a z (a + j))) hC hW (by omega) kd_2 (by omega) dX3_improveGroup_101 (fun H locs hW => ?_)
                  refine q_iinc (z2 := (cntF v (tg E v a z) a j) + 1) (lv' := [(6, .int (nI ((cntF v (tg E v a z) a j) + 1))), (8, .int (nI (tg E v a z (a + j)))), (0, .ref (ad 51)), (1, .ref (ad 1)), (2, .int (nI (a))), (3, .int (nI (z))), (4, .long (lN (gx E a z))), (7, .int (nI (a + j)))]) hx hb dX3_improveGroup_102 hl (k := 6) rfl (inc_up _ 1 (by decide)) (by decide) rfl (fun ls hl => ?_)
                  rw [wI_up (by omega), mixA_s] at hW
                  have hl : lv_has ls 9 [(6, .int (nI (cntF v (tg E v a z) a (j + 1)))), (8, .int (nI (tg E v a z (a + j)))), (0, .ref (ad 51)), (1, .ref (ad 1)), (2, .int (nI (a))), (3, .int (nI (z))), (4, .long (lN (gx E a z))), (7, .int (nI (a + j)))] := by rw [cntF_n (fun q9 => hz q9.symm)]; exact hl
                  refine q_iinc (z2 := (a + j) + 1) (lv' := [(7, .int (nI ((a + j) + 1))), (6, .int (nI (cntF v (tg E v a z) a (j + 1)))), (8, .int (nI (tg E v a z (a + j)))), (0, .ref (ad 51)), (1, .ref (ad 1)), (2, .int (nI (a))), (3, .int (nI (z))), (4, .long (lN (gx E a z)))]) hx hb dX3_improveGroup_105 hl (k := 7) rfl (inc_up _ 1 (by decide)) (by decide) rfl (fun ls hl => ?_)
                  refine lv_goto (tgt := 49) hx hb dX3_improveGroup_108 (by decide) ?_
                  exact ih_49 (j + 1) (by omega) (by omega) _ _ hW _ (lv_sub hl [3, 4, 5, 6, 7, 1, 0] rfl)
          exact lp_49 (z + 1) 0 (by omega) (by omega) _ _ hW _ (lv_sub hl [2, 3, 4, 5, 6, 1, 0] rfl)
        ·
          refine q_ic 0 hx hb dX3_improveGroup_41 (by decide) ?_
          exact q_iret1 hC hW hr hlk0 ⟨(cnt0 c_38).symm, (by rw [mix0 c_38]), rfl⟩ dX3_improveGroup_42
      ·
        refine lv_lload hx hb dX3_improveGroup_14 (lv_at hl 4 rfl) ?_
        refine lv_aload_n hx hb dX3_improveGroup_16 rfl (lv_at hl 0 rfl) ?_
        refine g_3_0 (x := 51) (y := 52) hC hW (by omega) kd_51 gw_120 (hlk 51 0 52 (by omega) rfl) dX3_improveGroup_17 ?_
        refine lv_iload hx hb dX3_improveGroup_20 (lv_at hl 5 rfl) ?_
        refine q_lald (x := 52) (i := a + i) hC hW (by omega) kd_52 (by omega) dX3_improveGroup_22 ?_
        refine q_top (v2 := .long (lN (E (a + i)))) (congrArg _ (hE _ (by omega))) ?_
        refine q_max hC hl.1 gw_420 (Nat.le_of_ble_eq_true rfl) (Nat.le_of_ble_eq_true rfl) (Nat.le_refl _) (Nat.le_refl _) dX3_improveGroup_23 ?_
        refine q_top (v2 := .long (lN (gx E a (i + 1)))) (by rw [lN_max (by omega) (by omega)]; rfl) ?_
        refine lv_lstore (lv' := [(4, .long (lN (gx E a (i + 1)))), (0, .ref (ad 51)), (1, .ref (ad 1)), (2, .int (nI (a))), (3, .int (nI (z))), (6, .int (nI (a + i)))]) hx hb dX3_improveGroup_26 hl (by decide) rfl (fun ls hl => ?_)
        refine q_iinc (z2 := (a + i) + 1) (lv' := [(6, .int (nI ((a + i) + 1))), (4, .long (lN (gx E a (i + 1)))), (0, .ref (ad 51)), (1, .ref (ad 1)), (2, .int (nI (a))), (3, .int (nI (z)))]) hx hb dX3_improveGroup_28 hl (k := 5) rfl (inc_up _ 1 (by decide)) (by decide) rfl (fun ls hl => ?_)
        refine lv_goto (tgt := 6) hx hb dX3_improveGroup_31 (by decide) ?_
        exact ih_6 (i + 1) (by omega) (by omega) _ _ hW _ (lv_sub hl [2, 3, 4, 5, 1, 0] rfl)
  exact lp_6 (z + 1) 0 (by omega) (by omega) _ _ hW _ (lv_sub hl [2, 3, 4, 5, 1, 0] rfl)
set_option maxRecDepth 100000 in
set_option maxHeartbeats 4000000 in
theorem k_improve (l : Launch) (G : Gx) (n : Nat) (ad : Nat → Nat) (sz : Nat) (I : Ic) (L : Lc) (R : Rc) (w : Nat → Nat) (K : Nat) (ro : Nat → Nat) (hn : 71 ≤ n) (hlk : LkOK n R) (hM : MdI I w K ro) (hMs : Meas w ro K I L) (hEb : ∀ j, exN w ro K j ≤ 1317000000000000000) : Met l yX3_improve (Cond.code yX3_improve cX3_improve 5 (some .int) :: GW) ({ frames := 3, cells := 0, slots := 0, locals := 108 } : Room) (qPre G n ad sz I L R [.ref (ad 51), .ref (ad 1), .ref (ad 8)]) (qI1 G (qA n ad sz) n ad R (fun y I1 L1 => y = nI (cntF w (tnew (exN w ro K) w) 0 58) ∧ I1 = wI I (mixA w (tnew (exN w ro K) w) 0 58) ∧ ∀ a, a < 52 ∨ 52 < a → L1 a = L a)) 0 0 (qA n ad sz) := by
  refine q_met (by decide) (Nat.le_of_ble_eq_true rfl) ?_
  intro p_ e_ s m_ below meth c_ hC hr hlk0 hin hsz hW ls hl
  subst hsz
  have hC : CallFix p_ m_ c_ cX3_improve 5 s ([.ref (ad 51), .ref (ad 1), .ref (ad 8)] : List Value).toArray GW "CoinRows$Trainer" := hC
  have hx := hC.1
  have hb := hC.2.1
  have hk6 : K ≤ 6 := hM.2.2.2.1
  have hw3 : ∀ i, w i ≤ 3 := hM.2.2.2.2.1.1
  have hr4 : ∀ j, ro j < 4 := hM.2.2.2.2.2
  have hl : lv_has ls 5 [(0, .ref (ad 51)), (1, .ref (ad 1)), (2, .ref (ad 8))] := hl
  refine q_ic 0 hx hb dX3_improve_0 (by decide) ?_
  refine lv_istore_n (lv' := [(3, .int (nI 0)), (0, .ref (ad 51)), (1, .ref (ad 1)), (2, .ref (ad 8))]) hx hb dX3_improve_1 rfl hl (by decide) rfl (fun ls hl => ?_)
  have lp_2 : ∀ (fu_2 : Nat) (f : Nat) (L1 : Lc), 7 - f < fu_2 → (f ≤ 7) → (∀ j, j < f * 6 → L1 52 j = lN (exN w ro K j)) → (∀ a, a < 52 ∨ 52 < a → L1 a = L a) → ∀ (H : Heap) (locs : List Loc), Wd G n ad I L1 R (qA n ad s.heap.size) s.heap H locs s → ∀ ls : Array Slot, lv_has ls 5 [(0, .ref (ad 51)), (1, .ref (ad 1)), (2, .ref (ad 8)), (3, .int (nI (f)))] → W p_ l e_ ({ frames := 3, cells := 0, slots := 0, locals := 108 } : Room) s m_ ([.ref (ad 51), .ref (ad 1), .ref (ad 8)] : List Value).toArray below meth c_ H locs 0 0 (MQ below (qI1 G (qA n ad s.heap.size) n ad R (fun y I1 L1 => y = nI (cntF w (tnew (exN w ro K) w) 0 58) ∧ I1 = wI I (mixA w (tnew (exN w ro K) w) 0 58) ∧ ∀ a, a < 52 ∨ 52 < a → L1 a = L a)) ([.ref (ad 51), .ref (ad 1), .ref (ad 8)] : List Value).toArray s 0 0 (qA n ad s.heap.size)) (F0 m_ 2 ls []) := by
    intro fu_2
    induction fu_2 with
    | zero =>
      intro f L1 hm; exact absurd hm (Nat.not_lt_zero _)
    | succ fu_2 ih_2 =>
      intro f L1 hm_2 hf hE1 hFr H locs hW ls hl
      refine lv_iload_n hx hb dX3_improve_2 rfl (lv_at hl 3 rfl) ?_
      refine q_bp 6 hx hb dX3_improve_3 (by decide) ?_
      refine q_cgt (tgt := 50) hx hb dX3_improve_5 (by decide) (by first | omega | exact Nat.lt_of_le_of_lt (hw3 _) (by decide)) (by first | omega | exact Nat.lt_of_le_of_lt (hw3 _) (by decide)) (fun c_5 => ?_) (fun c_5 => ?_)
      ·
        refine q_ic 0 hx hb dX3_improve_50 (by decide) ?_
        refine lv_istore_n (lv' := [(3, .int (nI 0)), (0, .ref (ad 51)), (1, .ref (ad 1)), (2, .ref (ad 8))]) hx hb dX3_improve_51 rfl hl (by decide) rfl (fun ls hl => ?_)
        have lp_52 : ∀ (fu_52 : Nat) (f : Nat) (L1 : Lc), 4 - f < fu_52 → (f ≤ 4) → (∀ j, j < 42 + f * 4 → L1 52 j = lN (exN w ro K j)) → (∀ a, a < 52 ∨ 52 < a → L1 a = L a) → ∀ (H : Heap) (locs : List Loc), Wd G n ad I L1 R (qA n ad s.heap.size) s.heap H locs s → ∀ ls : Array Slot, lv_has ls 5 [(0, .ref (ad 51)), (1, .ref (ad 1)), (2, .ref (ad 8)), (3, .int (nI (f)))] → W p_ l e_ ({ frames := 3, cells := 0, slots := 0, locals := 108 } : Room) s m_ ([.ref (ad 51), .ref (ad 1), .ref (ad 8)] : List Value).toArray below meth c_ H locs 0 0 (MQ below (qI1 G (qA n ad s.heap.size) n ad R (fun y I1 L1 => y = nI (cntF w (tnew (exN w ro K) w) 0 58) ∧ I1 = wI I (mixA w (tnew (exN w ro K) w) 0 58) ∧ ∀ a, a < 52 ∨ 52 < a → L1 a = L a)) ([.ref (ad 51), .ref (ad 1), .ref (ad 8)] : List Value).toArray s 0 0 (qA n ad s.heap.size)) (F0 m_ 52 ls []) := by
          intro fu_52
          induction fu_52 with
          | zero =>
            intro f L1 hm; exact absurd hm (Nat.not_lt_zero _)
          | succ fu_52 ih_52 =>
            intro f L1 hm_52 hf hE1 hFr H locs hW ls hl
            refine lv_iload_n hx hb dX3_improve_52 rfl (lv_at hl 3 rfl) ?_
            refine q_ic 4 hx hb dX3_improve_53 (by decide) ?_
            refine q_cge (tgt := 100) hx hb dX3_improve_54 (by decide) (by first | omega | exact Nat.lt_of_le_of_lt (hw3 _) (by decide)) (by first | omega | exact Nat.lt_of_le_of_lt (hw3 _) (by decide)) (fun c_54 => ?_) (fun c_54 => ?_)
            ·
              have hE : ∀ j, j < 58 → L1 52 j = lN (exN w ro K j) := fun j hj => hE1 j (by omega)
              refine q_ic 0 hx hb dX3_improve_100 (by decide) ?_
              refine lv_istore_n (lv' := [(3, .int (nI 0)), (0, .ref (ad 51)), (1, .ref (ad 1)), (2, .ref (ad 8))]) hx hb dX3_improve_101 rfl hl (by decide) rfl (fun ls hl => ?_)
              refine q_ic 0 hx hb dX3_improve_102 (by decide) ?_
              have hW := (show I = wI I (mixA w (tnew (exN w ro K) w) 0 (0 * 6)) from by rw [Nat.zero_mul, mixA_0, wI_self hM.1]) ▸ hW
              refine lv_istore (lv' := [(4, .int (nI 0)), (3, .int (nI 0)), (0, .ref (ad 51)), (1, .ref (ad 1)), (2, .ref (ad 8))]) hx hb dX3_improve_103 hl (by decide) rfl (fun ls hl => ?_)
              have lp_105 : ∀ (fu_105 : Nat) (f : Nat), 7 - f < fu_105 → (f ≤ 7) → ∀ (H : Heap) (locs : List Loc), Wd G n ad (wI I (mixA w (tnew (exN w ro K) w) 0 (f * 6))) L1 R (qA n ad s.heap.size) s.heap H locs s → ∀ ls : Array Slot, lv_has ls 5 [(0, .ref (ad 51)), (1, .ref (ad 1)), (2, .ref (ad 8)), (3, .int (nI (cntF w (tnew (exN w ro K) w) 0 (f * 6)))), (4, .int (nI (f)))] → W p_ l e_ ({ frames := 3, cells := 0, slots := 0, locals := 108 } : Room) s m_ ([.ref (ad 51), .ref (ad 1), .ref (ad 8)] : List Value).toArray below meth c_ H locs 0 0 (MQ below (qI1 G (qA n ad s.heap.size) n ad R (fun y I1 L1 => y = nI (cntF w (tnew (exN w ro K) w) 0 58) ∧ I1 = wI I (mixA w (tnew (exN w ro K) w) 0 58) ∧ ∀ a, a < 52 ∨ 52 < a → L1 a = L a)) ([.ref (ad 51), .ref (ad 1), .ref (ad 8)] : List Value).toArray s 0 0 (qA n ad s.heap.size)) (F0 m_ 105 ls []) := by
                intro fu_105
                induction fu_105 with
                | zero =>
                  intro f hm; exact absurd hm (Nat.not_lt_zero _)
                | succ fu_105 ih_105 =>
                  intro f hm_105 hf H locs hW ls hl
                  refine lv_iload hx hb dX3_improve_105 (lv_at hl 4 rfl) ?_
                  refine q_bp 6 hx hb dX3_improve_107 (by decide) ?_
                  refine q_cgt (tgt := 133) hx hb dX3_improve_109 (by decide) (by first | omega | exact Nat.lt_of_le_of_lt (hw3 _) (by decide)) (by first | omega | exact Nat.lt_of_le_of_lt (hw3 _) (by decide)) (fun c_109 => ?_) (fun c_109 => ?_)
                  ·
                    have e7 : f * 6 = 42 + 0 * 4 := by omega
                    rw [e7] at hW hl
                    refine q_ic 0 hx hb dX3_improve_133 (by decide) ?_
                    refine lv_istore (lv' := [(4, .int (nI 0)), (0, .ref (ad 51)), (1, .ref (ad 1)), (2, .ref (ad 8)), (3, .int (nI (cntF w (tnew (exN w ro K) w) 0 (42 + 0 * 4))))]) hx hb dX3_improve_134 hl (by decide) rfl (fun ls hl => ?_)
                    have lp_136 : ∀ (fu_136 : Nat) (f : Nat), 4 - f < fu_136 → (f ≤ 4) → ∀ (H : Heap) (locs : List Loc), Wd G n ad (wI I (mixA w (tnew (exN w ro K) w) 0 (42 + f * 4))) L1 R (qA n ad s.heap.size) s.heap H locs s → ∀ ls : Array Slot, lv_has ls 5 [(0, .ref (ad 51)), (1, .ref (ad 1)), (2, .ref (ad 8)), (3, .int (nI (cntF w (tnew (exN w ro K) w) 0 (42 + f * 4)))), (4, .int (nI (f)))] → W p_ l e_ ({ frames := 3, cells := 0, slots := 0, locals := 108 } : Room) s m_ ([.ref (ad 51), .ref (ad 1), .ref (ad 8)] : List Value).toArray below meth c_ H locs 0 0 (MQ below (qI1 G (qA n ad s.heap.size) n ad R (fun y I1 L1 => y = nI (cntF w (tnew (exN w ro K) w) 0 58) ∧ I1 = wI I (mixA w (tnew (exN w ro K) w) 0 58) ∧ ∀ a, a < 52 ∨ 52 < a → L1 a = L a)) ([.ref (ad 51), .ref (ad 1), .ref (ad 8)] : List Value).toArray s 0 0 (qA n ad s.heap.size)) (F0 m_ 136 ls []) := by
                      intro fu_136
                      induction fu_136 with
                      | zero =>
                        intro f hm; exact absurd hm (Nat.not_lt_zero _)
                      | succ fu_136 ih_136 =>
                        intro f hm_136 hf H locs hW ls hl
                        refine lv_iload hx hb dX3_improve_136 (lv_at hl 4 rfl) ?_
                        refine q_ic 4 hx hb dX3_improve_138 (by decide) ?_
                        refine q_cge (tgt := 164) hx hb dX3_improve_139 (by decide) (by first | omega | exact Nat.lt_of_le_of_lt (hw3 _) (by decide)) (by first | omega | exact Nat.lt_of_le_of_lt (hw3 _) (by decide)) (fun c_139 => ?_) (fun c_139 => ?_)
                        ·
                          refine lv_iload_n hx hb dX3_improve_164 rfl (lv_at hl 3 rfl) ?_
                          have e4 : 42 + f * 4 = 58 := by omega
                          exact q_iret1 hC hW hr hlk0 ⟨by rw [e4], by rw [e4], hFr⟩ dX3_improve_165
                        ·
                          refine lv_iload_n hx hb dX3_improve_142 rfl (lv_at hl 3 rfl) ?_
                          refine lv_aload_n hx hb dX3_improve_143 rfl (lv_at hl 0 rfl) ?_
                          refine lv_aload_n hx hb dX3_improve_144 rfl (lv_at hl 1 rfl) ?_
                          refine q_bp 42 hx hb dX3_improve_145 (by decide) ?_
                          refine lv_iload hx hb dX3_improve_147 (lv_at hl 4 rfl) ?_
                          refine q_ic 4 hx hb dX3_improve_149 (by decide) ?_
                          refine q_imul hx hb dX3_improve_150 ?_
                          refine q_iadd hx hb dX3_improve_151 ?_
                          refine q_ic 4 hx hb dX3_improve_152 (by decide) ?_
                          refine q_kI1 (q_rV (As := [.ref (ad 1), .int (nI (42 + (f * 4))), .int (nI 4)]) (rest := [.int (nI (cntF w (tnew (exN w ro K) w) 0 (42 + f * 4)))]) (x := 51) hC hW mw_X3_improveGroup gw_416 (k_group l G n ad H.size I L1 R (mixA w (tnew (exN w ro K) w) 0 (42 + f * 4)) (exN w ro K) _ _ hn hlk hE hEb (mix_le hw3 _) (by omega)) (by omega) (ct_o3 kd_51) rfl ⟨rfl, rfl⟩ ⟨Nat.le_of_ble_eq_true rfl, Nat.le_of_ble_eq_true rfl⟩ ⟨(Nat.le_of_ble_eq_true rfl), (Nat.le_of_ble_eq_true rfl)⟩ hl.1 rfl rfl (Nat.le_of_ble_eq_true rfl) dX3_improve_153) hW (fun r_153 I_153 L_153 H locs hp hW => ?_)
                          obtain ⟨rfl, rfl, rfl⟩ := hp
                          rw [grp_s (grp4 f (by omega))] at hW
                          refine q_top (v2 := .int (nI (cntF w (tnew (exN w ro K) w) (42 + f * 4) 4))) (by rw [grp_c (grp4 f (by omega))]) ?_
                          have hc1 := cntF_le w (tnew (exN w ro K) w) 0 (42 + f * 4)
                          have hc2 := cntF_le w (tnew (exN w ro K) w) (42 + f * 4) 4
                          refine q_iadd hx hb dX3_improve_156 ?_
                          refine lv_istore_n (lv' := [(3, .int (nI ((cntF w (tnew (exN w ro K) w) 0 (42 + f * 4)) + (cntF w (tnew (exN w ro K) w) (42 + f * 4) 4)))), (0, .ref (ad 51)), (1, .ref (ad 1)), (2, .ref (ad 8)), (4, .int (nI (f)))]) hx hb dX3_improve_157 rfl hl (by decide) rfl (fun ls hl => ?_)
                          have hl : lv_has ls 5 [(3, .int (nI (cntF w (tnew (exN w ro K) w) 0 (42 + (f + 1) * 4)))), (0, .ref (ad 51)), (1, .ref (ad 1)), (2, .ref (ad 8)), (4, .int (nI (f)))] := by rw [show 42 + (f + 1) * 4 = 42 + f * 4 + 4 by omega, show cntF w (tnew (exN w ro K) w) 0 (42 + f * 4 + 4) = cntF w (tnew (exN w ro K) w) 0 (42 + f * 4) + cntF w (tnew (exN w ro K) w) (42 + f * 4) 4 by rw [cntF_add, Nat.zero_add]]; exact hl
                          rw [show 42 + f * 4 + 4 = 42 + (f + 1) * 4 by omega] at hW
                          refine q_iinc (z2 := f + 1) (lv' := [(4, .int (nI (f + 1))), (3, .int (nI (cntF w (tnew (exN w ro K) w) 0 (42 + (f + 1) * 4)))), (0, .ref (ad 51)), (1, .ref (ad 1)), (2, .ref (ad 8))]) hx hb dX3_improve_158 hl (k := 4) rfl (inc_up _ 1 (by decide)) (by decide) rfl (fun ls hl => ?_)
                          refine lv_goto (tgt := 136) hx hb dX3_improve_161 (by decide) ?_
                          exact ih_136 (f + 1) (by omega) (by omega) _ _ hW _ (lv_sub hl [2, 3, 4, 1, 0] rfl)
                    exact lp_136 (4 + 1) 0 (by omega) (by omega) _ _ hW _ (lv_sub hl [1, 2, 3, 4, 0] rfl)
                  ·
                    refine lv_iload_n hx hb dX3_improve_112 rfl (lv_at hl 3 rfl) ?_
                    refine lv_aload_n hx hb dX3_improve_113 rfl (lv_at hl 0 rfl) ?_
                    refine lv_aload_n hx hb dX3_improve_114 rfl (lv_at hl 1 rfl) ?_
                    refine lv_iload hx hb dX3_improve_115 (lv_at hl 4 rfl) ?_
                    refine q_bp 6 hx hb dX3_improve_117 (by decide) ?_
                    refine q_imul hx hb dX3_improve_119 ?_
                    refine q_bp 6 hx hb dX3_improve_120 (by decide) ?_
                    refine q_kI1 (q_rV (As := [.ref (ad 1), .int (nI (f * 6)), .int (nI 6)]) (rest := [.int (nI (cntF w (tnew (exN w ro K) w) 0 (f * 6)))]) (x := 51) hC hW mw_X3_improveGroup gw_416 (k_group l G n ad H.size I L1 R (mixA w (tnew (exN w ro K) w) 0 (f * 6)) (exN w ro K) _ _ hn hlk hE hEb (mix_le hw3 _) (by omega)) (by omega) (ct_o3 kd_51) rfl ⟨rfl, rfl⟩ ⟨Nat.le_of_ble_eq_true rfl, Nat.le_of_ble_eq_true rfl⟩ ⟨(Nat.le_of_ble_eq_true rfl), (Nat.le_of_ble_eq_true rfl)⟩ hl.1 rfl rfl (Nat.le_of_ble_eq_true rfl) dX3_improve_122) hW (fun r_122 I_122 L_122 H locs hp hW => ?_)
                    obtain ⟨rfl, rfl, rfl⟩ := hp
                    rw [grp_s (grp6 f (by omega))] at hW
                    refine q_top (v2 := .int (nI (cntF w (tnew (exN w ro K) w) (f * 6) 6))) (by rw [grp_c (grp6 f (by omega))]) ?_
                    have hc1 := cntF_le w (tnew (exN w ro K) w) 0 (f * 6)
                    have hc2 := cntF_le w (tnew (exN w ro K) w) (f * 6) 6
                    refine q_iadd hx hb dX3_improve_125 ?_
                    refine lv_istore_n (lv' := [(3, .int (nI ((cntF w (tnew (exN w ro K) w) 0 (f * 6)) + (cntF w (tnew (exN w ro K) w) (f * 6) 6)))), (0, .ref (ad 51)), (1, .ref (ad 1)), (2, .ref (ad 8)), (4, .int (nI (f)))]) hx hb dX3_improve_126 rfl hl (by decide) rfl (fun ls hl => ?_)
                    have hl : lv_has ls 5 [(3, .int (nI (cntF w (tnew (exN w ro K) w) 0 ((f + 1) * 6)))), (0, .ref (ad 51)), (1, .ref (ad 1)), (2, .ref (ad 8)), (4, .int (nI (f)))] := by rw [show (f + 1) * 6 = f * 6 + 6 by omega, show cntF w (tnew (exN w ro K) w) 0 (f * 6 + 6) = cntF w (tnew (exN w ro K) w) 0 (f * 6) + cntF w (tnew (exN w ro K) w) (f * 6) 6 by rw [cntF_add, Nat.zero_add]]; exact hl
                    rw [show f * 6 + 6 = (f + 1) * 6 by omega] at hW
                    refine q_iinc (z2 := f + 1) (lv' := [(4, .int (nI (f + 1))), (3, .int (nI (cntF w (tnew (exN w ro K) w) 0 ((f + 1) * 6)))), (0, .ref (ad 51)), (1, .ref (ad 1)), (2, .ref (ad 8))]) hx hb dX3_improve_127 hl (k := 4) rfl (inc_up _ 1 (by decide)) (by decide) rfl (fun ls hl => ?_)
                    refine lv_goto (tgt := 105) hx hb dX3_improve_130 (by decide) ?_
                    exact ih_105 (f + 1) (by omega) (by omega) _ _ hW _ (lv_sub hl [2, 3, 4, 1, 0] rfl)
              exact lp_105 (7 + 1) 0 (by omega) (by omega) _ _ hW _ (lv_sub hl [2, 3, 4, 1, 0] rfl)
            ·
              refine q_ic 0 hx hb dX3_improve_57 (by decide) ?_
              refine lv_istore (lv' := [(4, .int (nI 0)), (0, .ref (ad 51)), (1, .ref (ad 1)), (2, .ref (ad 8)), (3, .int (nI (f)))]) hx hb dX3_improve_58 hl (by decide) rfl (fun ls hl => ?_)
              have lp_60 : ∀ (fu_60 : Nat) (t : Nat) (L2 : Lc), 4 - t < fu_60 → (t ≤ 4) → (∀ j, j < 42 + f * 4 + t → L2 52 j = lN (exN w ro K j)) → (∀ a, a < 52 ∨ 52 < a → L2 a = L a) → ∀ (H : Heap) (locs : List Loc), Wd G n ad I L2 R (qA n ad s.heap.size) s.heap H locs s → ∀ ls : Array Slot, lv_has ls 5 [(0, .ref (ad 51)), (1, .ref (ad 1)), (2, .ref (ad 8)), (3, .int (nI (f))), (4, .int (nI (t)))] → W p_ l e_ ({ frames := 3, cells := 0, slots := 0, locals := 108 } : Room) s m_ ([.ref (ad 51), .ref (ad 1), .ref (ad 8)] : List Value).toArray below meth c_ H locs 0 0 (MQ below (qI1 G (qA n ad s.heap.size) n ad R (fun y I1 L1 => y = nI (cntF w (tnew (exN w ro K) w) 0 58) ∧ I1 = wI I (mixA w (tnew (exN w ro K) w) 0 58) ∧ ∀ a, a < 52 ∨ 52 < a → L1 a = L a)) ([.ref (ad 51), .ref (ad 1), .ref (ad 8)] : List Value).toArray s 0 0 (qA n ad s.heap.size)) (F0 m_ 60 ls []) := by
                intro fu_60
                induction fu_60 with
                | zero =>
                  intro t L2 hm; exact absurd hm (Nat.not_lt_zero _)
                | succ fu_60 ih_60 =>
                  intro t L2 hm_60 ht hE2 hFr2 H locs hW ls hl
                  have hMs2 : Meas w ro K I L2 := Meas_lo hMs hk6 (fun _ _ => rfl) (fun a ha => hFr2 a (by omega))
                  refine lv_iload hx hb dX3_improve_60 (lv_at hl 4 rfl) ?_
                  refine q_ic 4 hx hb dX3_improve_62 (by decide) ?_
                  refine q_cge (tgt := 94) hx hb dX3_improve_63 (by decide) (by first | omega | exact Nat.lt_of_le_of_lt (hw3 _) (by decide)) (by first | omega | exact Nat.lt_of_le_of_lt (hw3 _) (by decide)) (fun c_63 => ?_) (fun c_63 => ?_)
                  ·
                    refine q_iinc (z2 := f + 1) (lv' := [(3, .int (nI (f + 1))), (0, .ref (ad 51)), (1, .ref (ad 1)), (2, .ref (ad 8)), (4, .int (nI (t)))]) hx hb dX3_improve_94 hl (k := 3) rfl (inc_up _ 1 (by decide)) (by decide) rfl (fun ls hl => ?_)
                    refine lv_goto (tgt := 52) hx hb dX3_improve_97 (by decide) ?_
                    exact ih_52 (f + 1) L2 (by omega) (by omega) (fun j hj => hE2 j (by omega)) hFr2 _ _ hW _ (lv_sub hl [1, 2, 3, 0] rfl)
                  ·
                    refine lv_aload_n hx hb dX3_improve_66 rfl (lv_at hl 0 rfl) ?_
                    refine g_3_0 (x := 51) (y := 52) hC hW (by omega) kd_51 gw_120 (hlk 51 0 52 (by omega) rfl) dX3_improve_67 ?_
                    refine q_bp 42 hx hb dX3_improve_70 (by decide) ?_
                    refine lv_iload_n hx hb dX3_improve_72 rfl (lv_at hl 3 rfl) ?_
                    refine q_ic 4 hx hb dX3_improve_73 (by decide) ?_
                    refine q_imul hx hb dX3_improve_74 ?_
                    refine q_iadd hx hb dX3_improve_75 ?_
                    refine lv_iload hx hb dX3_improve_76 (lv_at hl 4 rfl) ?_
                    refine q_iadd hx hb dX3_improve_78 ?_
                    refine lv_aload_n hx hb dX3_improve_79 rfl (lv_at hl 2 rfl) ?_
                    refine lv_aload_n hx hb dX3_improve_80 rfl (lv_at hl 1 rfl) ?_
                    refine lv_iload_n hx hb dX3_improve_81 rfl (lv_at hl 3 rfl) ?_
                    refine lv_iload hx hb dX3_improve_82 (lv_at hl 4 rfl) ?_
                    refine q_kL0 (q_rV (As := [.ref (ad 1), .int (nI (f)), .int (nI (t))]) (rest := [.int (nI ((42 + (f * 4)) + t)), .ref (ad 52)]) (x := 8) hC hW mw_X2_ofLetter gw_415 (k_ofLetter l G n ad H.size I L2 R _ _ w K ro hn hlk hM hMs2 (by omega) (by omega)) (by omega) (ct_o2 kd_8) rfl ⟨rfl, rfl⟩ ⟨Nat.le_of_ble_eq_true rfl, Nat.le_of_ble_eq_true rfl⟩ ⟨(Nat.le_of_ble_eq_true rfl), (Nat.le_of_ble_eq_true rfl)⟩ hl.1 rfl rfl (Nat.le_of_ble_eq_true rfl) dX3_improve_84) hW (fun r_84 H locs hp hW => ?_)
                    subst hp
                    refine q_last (x := 52) (i := (42 + (f * 4)) + t) (v := lN (leN w ro K f t K)) hC hW (by omega) kd_52 (by omega) dX3_improve_87 (fun H locs hW => ?_)
                    refine q_iinc (z2 := t + 1) (lv' := [(4, .int (nI (t + 1))), (0, .ref (ad 51)), (1, .ref (ad 1)), (2, .ref (ad 8)), (3, .int (nI (f)))]) hx hb dX3_improve_88 hl (k := 4) rfl (inc_up _ 1 (by decide)) (by decide) rfl (fun ls hl => ?_)
                    refine lv_goto (tgt := 60) hx hb dX3_improve_91 (by decide) ?_
                    exact ih_60 (t + 1) (up2 L2 52 ((42 + (f * 4)) + t) (lN (leN w ro K f t K))) (by omega) (by omega) (fun j hj => by rw [up2_at]; by_cases e9 : j = 42 + f * 4 + t; (rw [if_pos ⟨rfl, e9⟩, e9, exN_le (by omega) (by omega)]); rw [if_neg (fun q9 => e9 q9.2)]; exact hE2 j (by omega)) (fun a ha => by rw [up2_ne (by omega)]; exact hFr2 a ha) _ _ hW _ (lv_sub hl [1, 2, 3, 4, 0] rfl)
              exact lp_60 (4 + 1) 0 L1 (by omega) (by omega) (fun j hj => hE1 j (by omega)) hFr _ _ hW _ (lv_sub hl [1, 2, 3, 4, 0] rfl)
        exact lp_52 (4 + 1) 0 L1 (by omega) (by omega) (fun j hj => hE1 j (by omega)) hFr _ _ hW _ (lv_sub hl [1, 2, 3, 0] rfl)
      ·
        refine q_ic 0 hx hb dX3_improve_8 (by decide) ?_
        refine lv_istore (lv' := [(4, .int (nI 0)), (0, .ref (ad 51)), (1, .ref (ad 1)), (2, .ref (ad 8)), (3, .int (nI (f)))]) hx hb dX3_improve_9 hl (by decide) rfl (fun ls hl => ?_)
        have lp_11 : ∀ (fu_11 : Nat) (t : Nat) (L2 : Lc), 6 - t < fu_11 → (t ≤ 6) → (∀ j, j < f * 6 + t → L2 52 j = lN (exN w ro K j)) → (∀ a, a < 52 ∨ 52 < a → L2 a = L a) → ∀ (H : Heap) (locs : List Loc), Wd G n ad I L2 R (qA n ad s.heap.size) s.heap H locs s → ∀ ls : Array Slot, lv_has ls 5 [(0, .ref (ad 51)), (1, .ref (ad 1)), (2, .ref (ad 8)), (3, .int (nI (f))), (4, .int (nI (t)))] → W p_ l e_ ({ frames := 3, cells := 0, slots := 0, locals := 108 } : Room) s m_ ([.ref (ad 51), .ref (ad 1), .ref (ad 8)] : List Value).toArray below meth c_ H locs 0 0 (MQ below (qI1 G (qA n ad s.heap.size) n ad R (fun y I1 L1 => y = nI (cntF w (tnew (exN w ro K) w) 0 58) ∧ I1 = wI I (mixA w (tnew (exN w ro K) w) 0 58) ∧ ∀ a, a < 52 ∨ 52 < a → L1 a = L a)) ([.ref (ad 51), .ref (ad 1), .ref (ad 8)] : List Value).toArray s 0 0 (qA n ad s.heap.size)) (F0 m_ 11 ls []) := by
          intro fu_11
          induction fu_11 with
          | zero =>
            intro t L2 hm; exact absurd hm (Nat.not_lt_zero _)
          | succ fu_11 ih_11 =>
            intro t L2 hm_11 ht hE2 hFr2 H locs hW ls hl
            have hMs2 : Meas w ro K I L2 := Meas_lo hMs hk6 (fun _ _ => rfl) (fun a ha => hFr2 a (by omega))
            refine lv_iload hx hb dX3_improve_11 (lv_at hl 4 rfl) ?_
            refine q_bp 6 hx hb dX3_improve_13 (by decide) ?_
            refine q_cge (tgt := 44) hx hb dX3_improve_15 (by decide) (by first | omega | exact Nat.lt_of_le_of_lt (hw3 _) (by decide)) (by first | omega | exact Nat.lt_of_le_of_lt (hw3 _) (by decide)) (fun c_15 => ?_) (fun c_15 => ?_)
            ·
              refine q_iinc (z2 := f + 1) (lv' := [(3, .int (nI (f + 1))), (0, .ref (ad 51)), (1, .ref (ad 1)), (2, .ref (ad 8)), (4, .int (nI (t)))]) hx hb dX3_improve_44 hl (k := 3) rfl (inc_up _ 1 (by decide)) (by decide) rfl (fun ls hl => ?_)
              refine lv_goto (tgt := 2) hx hb dX3_improve_47 (by decide) ?_
              exact ih_2 (f + 1) L2 (by omega) (by omega) (fun j hj => hE2 j (by omega)) hFr2 _ _ hW _ (lv_sub hl [1, 2, 3, 0] rfl)
            ·
              refine lv_aload_n hx hb dX3_improve_18 rfl (lv_at hl 0 rfl) ?_
              refine g_3_0 (x := 51) (y := 52) hC hW (by omega) kd_51 gw_120 (hlk 51 0 52 (by omega) rfl) dX3_improve_19 ?_
              refine lv_iload_n hx hb dX3_improve_22 rfl (lv_at hl 3 rfl) ?_
              refine q_bp 6 hx hb dX3_improve_23 (by decide) ?_
              refine q_imul hx hb dX3_improve_25 ?_
              refine lv_iload hx hb dX3_improve_26 (lv_at hl 4 rfl) ?_
              refine q_iadd hx hb dX3_improve_28 ?_
              refine lv_aload_n hx hb dX3_improve_29 rfl (lv_at hl 2 rfl) ?_
              refine lv_aload_n hx hb dX3_improve_30 rfl (lv_at hl 1 rfl) ?_
              refine lv_iload_n hx hb dX3_improve_31 rfl (lv_at hl 3 rfl) ?_
              refine lv_iload hx hb dX3_improve_32 (lv_at hl 4 rfl) ?_
              refine q_kL0 (q_rV (As := [.ref (ad 1), .int (nI (f)), .int (nI (t))]) (rest := [.int (nI ((f * 6) + t)), .ref (ad 52)]) (x := 8) hC hW mw_X2_ofStep gw_414 (k_ofStep l G n ad H.size I L2 R _ _ w K ro hn hlk hM hMs2 (by omega) (by omega)) (by omega) (ct_o2 kd_8) rfl ⟨rfl, rfl⟩ ⟨Nat.le_of_ble_eq_true rfl, Nat.le_of_ble_eq_true rfl⟩ ⟨(Nat.le_of_ble_eq_true rfl), (Nat.le_of_ble_eq_true rfl)⟩ hl.1 rfl rfl (Nat.le_of_ble_eq_true rfl) dX3_improve_34) hW (fun r_34 H locs hp hW => ?_)
              subst hp
              refine q_last (x := 52) (i := (f * 6) + t) (v := lN (stN w ro K f t K)) hC hW (by omega) kd_52 (by omega) dX3_improve_37 (fun H locs hW => ?_)
              refine q_iinc (z2 := t + 1) (lv' := [(4, .int (nI (t + 1))), (0, .ref (ad 51)), (1, .ref (ad 1)), (2, .ref (ad 8)), (3, .int (nI (f)))]) hx hb dX3_improve_38 hl (k := 4) rfl (inc_up _ 1 (by decide)) (by decide) rfl (fun ls hl => ?_)
              refine lv_goto (tgt := 11) hx hb dX3_improve_41 (by decide) ?_
              exact ih_11 (t + 1) (up2 L2 52 ((f * 6) + t) (lN (stN w ro K f t K))) (by omega) (by omega) (fun j hj => by rw [up2_at]; by_cases e9 : j = f * 6 + t; (rw [if_pos ⟨rfl, e9⟩, e9, exN_st (by omega) (by omega)]); rw [if_neg (fun q9 => e9 q9.2)]; exact hE2 j (by omega)) (fun a ha => by rw [up2_ne (by omega)]; exact hFr2 a ha) _ _ hW _ (lv_sub hl [1, 2, 3, 4, 0] rfl)
        exact lp_11 (6 + 1) 0 L1 (by omega) (by omega) (fun j hj => hE1 j (by omega)) hFr _ _ hW _ (lv_sub hl [1, 2, 3, 4, 0] rfl)
  exact lp_2 (7 + 1) 0 L (by omega) (by omega) (fun j hj => absurd hj (by omega)) (fun _ _ => rfl) _ _ hW _ (lv_sub hl [1, 2, 3, 0] rfl)
