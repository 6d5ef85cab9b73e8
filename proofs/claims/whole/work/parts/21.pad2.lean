theorem x67 {X i : Nat} (h : X < 2 ^ 64) (hi : 0 < i) : X / 256 ^ i < 2 ^ 63 := by
  obtain ⟨j, rfl⟩ : ∃ j, i = j + 1 := ⟨i - 1, by omega⟩
  rw [div_s]
  have := div64 (b := 256 ^ j) h
  omega
set_option maxRecDepth 100000 in
set_option maxHeartbeats 4000000 in
theorem k_countSigns (l : Launch) (G : Gx) (n : Nat) (ad : Nat → Nat) (sz : Nat) (I : Ic) (L : Lc) (R : Rc) (X : Nat) (hX : X < 2 ^ 64) : Met l yX1_countSigns (Cond.code yX1_countSigns cX1_countSigns 5 (some .int) :: GW) ({ frames := 0, cells := 0, slots := 0, locals := 0 } : Room) (qPre G n ad sz I L R [.long (lN (X))]) (qI0 G (qA n ad sz) (n, ad, I, L, R) (fun z => (∃ k, CS X k ∧ z = nI k) ∨ ((∀ k, ¬ CS X k) ∧ z = -1))) 0 0 (qA n ad sz) := by
  refine q_met (by decide) (Nat.le_of_ble_eq_true rfl) ?_
  intro p_ e_ s m_ below meth c_ hC hr hlk0 hin hsz hW ls hl
  subst hsz
  have hC : CallFix p_ m_ c_ cX1_countSigns 5 s ([.long (lN (X))] : List Value).toArray GW "CoinRows$Pad" := hC
  have hx := hC.1
  have hb := hC.2.1
  have hl : lv_has ls 5 [(0, .long (lN (X)))] := hl
  have hl : lv_has ls 5 [(0, .long (lN (X / 256 ^ 0)))] := by rw [Nat.pow_zero, Nat.div_one]; exact hl
  refine lv_lload_n hx hb dX1_countSigns_0 rfl (lv_at hl 0 rfl) ?_
  refine lv_lstore_n (lv' := [(2, .long (lN (X / 256 ^ 0))), (0, .long (lN (X / 256 ^ 0)))]) hx hb dX1_countSigns_1 rfl hl (by decide) rfl (fun ls hl => ?_)
  refine q_ic 0 hx hb dX1_countSigns_2 (by decide) ?_
  refine lv_istore (lv' := [(4, .int (nI 0)), (2, .long (lN (X / 256 ^ 0))), (0, .long (lN (X / 256 ^ 0)))]) hx hb dX1_countSigns_3 hl (by decide) rfl (fun ls hl => ?_)
  have lp_5 : ∀ (fu_5 : Nat) (i : Nat), 8 - i < fu_5 → (i ≤ 8) → (∀ j, j < i → 33 ≤ byt X j ∧ byt X j ≤ 126) → ∀ (H : Heap) (locs : List Loc), Wd G n ad I L R (qA n ad s.heap.size) s.heap H locs s → ∀ ls : Array Slot, lv_has ls 5 [(2, .long (lN (X / 256 ^ i))), (4, .int (nI (i)))] → W p_ l e_ ({ frames := 0, cells := 0, slots := 0, locals := 0 } : Room) s m_ ([.long (lN (X))] : List Value).toArray below meth c_ H locs 0 0 (MQ below (qI0 G (qA n ad s.heap.size) (n, ad, I, L, R) (fun z => (∃ k, CS X k ∧ z = nI k) ∨ ((∀ k, ¬ CS X k) ∧ z = -1))) ([.long (lN (X))] : List Value).toArray s 0 0 (qA n ad s.heap.size)) (F0 m_ 5 ls []) := by
    intro fu_5
    induction fu_5 with
    | zero =>
      intro i hm; exact absurd hm (Nat.not_lt_zero _)
    | succ fu_5 ih_5 =>
      intro i hm_5 hi hg H locs hW ls hl
      have hg0 : ∀ j, j < i → byt X j ≠ 0 := fun j hj => by have h9 := hg j hj; omega
      refine lv_iload hx hb dX1_countSigns_5 (lv_at hl 1 rfl) ?_
      refine q_bp 8 hx hb dX1_countSigns_7 (by decide) ?_
      refine q_cge (tgt := 59) hx hb dX1_countSigns_9 (by decide) (by first | omega | exact Nat.lt_of_le_of_lt (hw3 _) (by decide)) (by first | omega | exact Nat.lt_of_le_of_lt (hw3 _) (by decide)) (fun c_9 => ?_) (fun c_9 => ?_)
      ·
        have e8 : i = 8 := by omega
        have hzi : byt X i = 0 := byt_0 (by rw [e8]; exact div8 hX) (Nat.le_refl i)
        refine lv_iload hx hb dX1_countSigns_59 (lv_at hl 1 rfl) ?_
        refine q_ile (tgt := 75) hx hb dX1_countSigns_61 (by decide) (by first | omega | exact Nat.lt_of_le_of_lt (hw3 _) (by decide)) (fun c_61 => ?_) (fun c_61 => ?_)
        ·
          refine lv_iconst (v := -1) hx hb dX1_countSigns_75 (by decide) ?_
          exact q_iret0 hC hW hr hlk0 (Or.inr ⟨CS_bad hg0 (by rw [hzi]; omega) (Or.inr (by omega)), rfl⟩) dX1_countSigns_76
        ·
          refine lv_lload_n hx hb dX1_countSigns_64 rfl (lv_at hl 0 rfl) ?_
          refine q_lc 0 hx hb dX1_countSigns_65 (by decide) ?_
          refine q_lcmp hx hb dX1_countSigns_66 ?_
          refine q_lne (tgt := 75) hx hb dX1_countSigns_67 (by decide) (x67 hX (by omega)) (by decide) (fun c_67 => ?_) (fun c_67 => ?_)
          ·
            refine lv_iconst (v := -1) hx hb dX1_countSigns_75 (by decide) ?_
            exact q_iret0 hC hW hr hlk0 (Or.inr ⟨CS_bad hg0 (by rw [hzi]; omega) (Or.inl c_67), rfl⟩) dX1_countSigns_76
          ·
            refine lv_iload hx hb dX1_countSigns_70 (lv_at hl 1 rfl) ?_
            refine lv_goto (tgt := 76) hx hb dX1_countSigns_72 (by decide) ?_
            exact q_iret0 hC hW hr hlk0 (Or.inl ⟨i, ⟨by omega, by omega, hg, by have h9 := c_67; first | exact h9 | omega⟩, rfl⟩) dX1_countSigns_76
      ·
        refine lv_lload_n hx hb dX1_countSigns_12 rfl (lv_at hl 0 rfl) ?_
        refine lv_ldc2 (v := lN 255) hx hb hC.2.2.2.1 (hC.2.2.2.2 _ gw_284) dX1_countSigns_13 ?_
        refine lv_land hx hb dX1_countSigns_16 ?_
        refine q_top (v2 := .long (lN (byt X i))) (by rw [lN_m255 (div64 hX)]; rfl) ?_
        refine q_lc 0 hx hb dX1_countSigns_17 (by decide) ?_
        refine q_lcmp hx hb dX1_countSigns_18 ?_
        refine q_leq (tgt := 59) hx hb dX1_countSigns_19 (by decide) (Nat.lt_trans (Nat.mod_lt _ (by decide)) (by decide)) (by decide) (fun c_19 => ?_) (fun c_19 => ?_)
        ·
          have hzi : byt X i = 0 := c_19
          refine lv_iload hx hb dX1_countSigns_59 (lv_at hl 1 rfl) ?_
          refine q_ile (tgt := 75) hx hb dX1_countSigns_61 (by decide) (by first | omega | exact Nat.lt_of_le_of_lt (hw3 _) (by decide)) (fun c_61 => ?_) (fun c_61 => ?_)
          ·
            refine lv_iconst (v := -1) hx hb dX1_countSigns_75 (by decide) ?_
            exact q_iret0 hC hW hr hlk0 (Or.inr ⟨CS_bad hg0 (by rw [hzi]; omega) (Or.inr (by omega)), rfl⟩) dX1_countSigns_76
          ·
            refine lv_lload_n hx hb dX1_countSigns_64 rfl (lv_at hl 0 rfl) ?_
            refine q_lc 0 hx hb dX1_countSigns_65 (by decide) ?_
            refine q_lcmp hx hb dX1_countSigns_66 ?_
            refine q_lne (tgt := 75) hx hb dX1_countSigns_67 (by decide) (x67 hX (by omega)) (by decide) (fun c_67 => ?_) (fun c_67 => ?_)
            ·
              refine lv_iconst (v := -1) hx hb dX1_countSigns_75 (by decide) ?_
              exact q_iret0 hC hW hr hlk0 (Or.inr ⟨CS_bad hg0 (by rw [hzi]; omega) (Or.inl c_67), rfl⟩) dX1_countSigns_76
            ·
              refine lv_iload hx hb dX1_countSigns_70 (lv_at hl 1 rfl) ?_
              refine lv_goto (tgt := 76) hx hb dX1_countSigns_72 (by decide) ?_
              exact q_iret0 hC hW hr hlk0 (Or.inl ⟨i, ⟨by omega, by omega, hg, by have h9 := c_67; first | exact h9 | omega⟩, rfl⟩) dX1_countSigns_76
        ·
          refine lv_lload_n hx hb dX1_countSigns_22 rfl (lv_at hl 0 rfl) ?_
          refine lv_ldc2 (v := lN 255) hx hb hC.2.2.2.1 (hC.2.2.2.2 _ gw_284) dX1_countSigns_23 ?_
          refine lv_land hx hb dX1_countSigns_26 ?_
          refine q_top (v2 := .long (lN (byt X i))) (by rw [lN_m255 (div64 hX)]; rfl) ?_
          refine lv_ldc2 (v := lN 33) hx hb hC.2.2.2.1 (hC.2.2.2.2 _ gw_285) dX1_countSigns_27 ?_
          refine q_lcmp hx hb dX1_countSigns_30 ?_
          refine q_llt (tgt := 46) hx hb dX1_countSigns_31 (by decide) (Nat.lt_trans (Nat.mod_lt _ (by decide)) (by decide)) (by decide) (fun c_31 => ?_) (fun c_31 => ?_)
          ·
            refine lv_iconst (v := -1) hx hb dX1_countSigns_46 (by decide) ?_
            exact q_iret0 hC hW hr hlk0 (Or.inr ⟨CS_bad hg0 (by omega) (Or.inl (byt_ne (by omega))), rfl⟩) dX1_countSigns_47
          ·
            refine lv_lload_n hx hb dX1_countSigns_34 rfl (lv_at hl 0 rfl) ?_
            refine lv_ldc2 (v := lN 255) hx hb hC.2.2.2.1 (hC.2.2.2.2 _ gw_284) dX1_countSigns_35 ?_
            refine lv_land hx hb dX1_countSigns_38 ?_
            refine q_top (v2 := .long (lN (byt X i))) (by rw [lN_m255 (div64 hX)]; rfl) ?_
            refine lv_ldc2 (v := lN 126) hx hb hC.2.2.2.1 (hC.2.2.2.2 _ gw_286) dX1_countSigns_39 ?_
            refine q_lcmp hx hb dX1_countSigns_42 ?_
            refine q_lle (tgt := 48) hx hb dX1_countSigns_43 (by decide) (Nat.lt_trans (Nat.mod_lt _ (by decide)) (by decide)) (by decide) (fun c_43 => ?_) (fun c_43 => ?_)
            ·
              refine lv_lload_n hx hb dX1_countSigns_48 rfl (lv_at hl 0 rfl) ?_
              refine q_bp 8 hx hb dX1_countSigns_49 (by decide) ?_
              refine lv_lushr (v := ((lN (X / 256 ^ i)).toUInt64 >>> ((nI 8).toInt64.toUInt64 &&& Int64.toUInt64 63)).toInt64) hx hb dX1_countSigns_51 rfl ?_
              refine q_top (v2 := .long (lN (X / 256 ^ (i + 1)))) (by rw [sh_8 hX]) ?_
              refine lv_lstore_n (lv' := [(2, .long (lN (X / 256 ^ (i + 1)))), (4, .int (nI (i)))]) hx hb dX1_countSigns_52 rfl hl (by decide) rfl (fun ls hl => ?_)
              refine q_iinc (z2 := i + 1) (lv' := [(4, .int (nI (i + 1))), (2, .long (lN (X / 256 ^ (i + 1))))]) hx hb dX1_countSigns_53 hl (k := 1) rfl (inc_up _ 1 (by decide)) (by decide) rfl (fun ls hl => ?_)
              refine lv_goto (tgt := 5) hx hb dX1_countSigns_56 (by decide) ?_
              exact ih_5 (i + 1) (by omega) (by omega) (fun j hj => by by_cases e9 : j = i; (subst e9; exact ⟨by omega, by omega⟩); exact hg j (by omega)) _ _ hW _ (lv_sub hl [1, 0] rfl)
            ·
              refine lv_iconst (v := -1) hx hb dX1_countSigns_46 (by decide) ?_
              exact q_iret0 hC hW hr hlk0 (Or.inr ⟨CS_bad hg0 (by omega) (Or.inl (byt_ne (by omega))), rfl⟩) dX1_countSigns_47
  exact lp_5 (8 + 1) 0 (by omega) (by omega) (fun j hj => absurd hj (by omega)) _ _ hW _ (lv_sub hl [1, 0] rfl)
set_option maxRecDepth 100000 in
set_option maxHeartbeats 4000000 in
theorem k_pappend (l : Launch) (G : Gx) (n : Nat) (ad : Nat → Nat) (sz : Nat) (I : Ic) (L : Lc) (R : Rc) (pn : Nat) (ch : Nat → Nat) (X k : Nat) (hn : 83 ≤ n) (hlk : LkOK n R) (hP : PadI I pn ch) (hX : X < 2 ^ 64) (hk : CS X k) (hpk : pn + k ≤ 80) : Met l yX1_append (Cond.code yX1_append cX1_append 5 none :: GW) ({ frames := 0, cells := 0, slots := 0, locals := 0 } : Room) (qPre G n ad sz I L R [.ref (ad 6), .long (lN (X)), .int (nI (k))]) (qV1 G (qA n ad sz) n ad R (fun I1 L1 => PadI I1 (pn + k) (chA ch pn X k) ∧ (∀ a, a ≠ 6 → a ≠ 7 → I1 a = I a) ∧ L = L1)) 0 0 (qA n ad sz) := by
  refine q_met (by decide) (Nat.le_of_ble_eq_true rfl) ?_
  intro p_ e_ s m_ below meth c_ hC hr hlk0 hin hsz hW ls hl
  subst hsz
  have hC : CallFix p_ m_ c_ cX1_append 5 s ([.ref (ad 6), .long (lN (X)), .int (nI (k))] : List Value).toArray GW "CoinRows$Pad" := hC
  have hx := hC.1
  have hb := hC.2.1
  have hp80 := hP.2.1
  have hch := hP.2.2.2
  have hk8 := hk.2.1
  have hk1 := hk.1
  have hl : lv_has ls 5 [(0, .ref (ad 6)), (1, .long (lN (X))), (3, .int (nI (k)))] := hl
  refine lv_iload_n hx hb dX1_append_0 rfl (lv_at hl 2 rfl) ?_
  refine q_ic 1 hx hb dX1_append_1 (by decide) ?_
  refine lv_isub hx hb dX1_append_2 ?_
  refine lv_istore (lv' := [(4, .int (nI k - nI 1)), (0, .ref (ad 6)), (1, .long (lN (X))), (3, .int (nI (k)))]) hx hb dX1_append_3 hl (by decide) rfl (fun ls hl => ?_)
  have lp_5 : ∀ (fu_5 : Nat) (d : Nat) (I1 : Ic), d < fu_5 → (d ≤ k) → (PadI I1 (pn + (k - d)) (chP ch pn X k d)) → (∀ a, a ≠ 6 → a ≠ 7 → I1 a = I a) → ∀ (H : Heap) (locs : List Loc), Wd G n ad I1 L R (qA n ad s.heap.size) s.heap H locs s → ∀ ls : Array Slot, lv_has ls 5 [(0, .ref (ad 6)), (1, .long (lN (X))), (3, .int (nI (k))), (4, .int (nI d - nI 1))] → W p_ l e_ ({ frames := 0, cells := 0, slots := 0, locals := 0 } : Room) s m_ ([.ref (ad 6), .long (lN (X)), .int (nI (k))] : List Value).toArray below meth c_ H locs 0 0 (MQ below (qV1 G (qA n ad s.heap.size) n ad R (fun I1 L1 => PadI I1 (pn + k) (chA ch pn X k) ∧ (∀ a, a ≠ 6 → a ≠ 7 → I1 a = I a) ∧ L = L1)) ([.ref (ad 6), .long (lN (X)), .int (nI (k))] : List Value).toArray s 0 0 (qA n ad s.heap.size)) (F0 m_ 5 ls []) := by
    intro fu_5
    induction fu_5 with
    | zero =>
      intro d I1 hm; exact absurd hm (Nat.not_lt_zero _)
    | succ fu_5 ih_5 =>
      intro d I1 hm_5 hd hP1 hF H locs hW ls hl
      rcases Nat.eq_zero_or_pos d with hd0 | hd0
      ·
        subst hd0
        have hl : lv_has ls 5 [(0, .ref (ad 6)), (1, .long (lN (X))), (3, .int (nI (k))), (4, .int (nI 0 - nI 1))] := hl
        have hl : lv_has ls 5 [(0, .ref (ad 6)), (1, .long (lN (X))), (3, .int (nI (k))), (4, .int (-1))] := by rw [show (-1 : Int32) = nI 0 - nI 1 by decide]; exact hl
        refine lv_iload hx hb dX1_append_5 (lv_at hl 3 rfl) ?_
        refine lv_if_lt (tgt := 57) hx hb dX1_append_7 (by decide) (fun c_7 => ?_) (fun c_7 => absurd c_7 (by decide))
        exact q_vret1 hC hW hr hlk0 ⟨(by rw [← chP_0]; exact hP1), hF, rfl⟩ dX1_append_57
      ·
        obtain ⟨v, rfl⟩ : ∃ v, d = v + 1 := ⟨d - 1, by omega⟩
        have hl : lv_has ls 5 [(0, .ref (ad 6)), (1, .long (lN (X))), (3, .int (nI (k))), (4, .int (nI (v + 1) - nI 1))] := hl
        have hl : lv_has ls 5 [(0, .ref (ad 6)), (1, .long (lN (X))), (3, .int (nI (k))), (4, .int (nI (v)))] := by rw [show nI v = nI (v + 1) - nI 1 by rw [pk_sub (by omega)]; rfl]; exact hl
        refine lv_iload hx hb dX1_append_5 (lv_at hl 3 rfl) ?_
        refine lv_if_lt (tgt := 57) hx hb dX1_append_7 (by decide) (fun c_7 => absurd c_7 (nI_pos (by omega))) (fun c_7 => ?_)
        refine lv_aload_n hx hb dX1_append_10 rfl (lv_at hl 0 rfl) ?_
        refine g_1_1 (x := 6) hC hW (by omega) kd_6 gw_53 dX1_append_11 ?_
        refine q_top (v2 := .int (nI (pn + (k - (v + 1))))) (congrArg _ hP1.1) ?_
        refine q_bp 80 hx hb dX1_append_14 (by decide) ?_
        refine q_cge (tgt := 57) hx hb dX1_append_16 (by decide) (by first | omega | exact Nat.lt_of_le_of_lt (hw3 _) (by decide)) (by first | omega | exact Nat.lt_of_le_of_lt (hw3 _) (by decide)) (fun c_16 => absurd c_16 (by omega)) (fun c_16 => ?_)
        refine lv_aload_n hx hb dX1_append_19 rfl (lv_at hl 0 rfl) ?_
        refine g_1_0 (x := 6) (y := 7) hC hW (by omega) kd_6 gw_52 (hlk 6 0 7 (by omega) rfl) dX1_append_20 ?_
        refine lv_aload_n hx hb dX1_append_23 rfl (lv_at hl 0 rfl) ?_
        refine g_1_1 (x := 6) hC hW (by omega) kd_6 gw_53 dX1_append_24 ?_
        refine q_top (v2 := .int (nI (pn + (k - (v + 1))))) (congrArg _ hP1.1) ?_
        refine lv_lload_n hx hb dX1_append_27 rfl (lv_at hl 1 rfl) ?_
        refine q_bp 8 hx hb dX1_append_28 (by decide) ?_
        refine lv_iload hx hb dX1_append_30 (lv_at hl 3 rfl) ?_
        refine q_imul hx hb dX1_append_32 ?_
        refine lv_lushr (v := ((lN X).toUInt64 >>> ((nI (8 * v)).toInt64.toUInt64 &&& Int64.toUInt64 63)).toInt64) hx hb dX1_append_33 rfl ?_
        refine q_top (v2 := .long (lN (X / 256 ^ v))) (by rw [sh8 hX (by omega)]) ?_
        refine lv_ldc2 (v := lN 255) hx hb hC.2.2.2.1 (hC.2.2.2.2 _ gw_284) dX1_append_34 ?_
        refine lv_land hx hb dX1_append_37 ?_
        refine q_top (v2 := .long (lN (byt X v))) (by rw [lN_m255 (div64 hX)]; rfl) ?_
        refine q_l2i hx hb dX1_append_38 ?_
        refine lv_i2c (v := ((nI (byt X v)).toUInt32 % 65536).toInt32) hx hb dX1_append_39 rfl ?_
        refine q_top (v2 := .int (nI (byt X v))) (by rw [byt_c (byt_256 X v)]) ?_
        refine q_cast (x := 7) (i := pn + (k - (v + 1))) (v := nI (byt X v)) hC hW (by omega) kd_7 (by omega) (byt_nar (byt_256 X v)) dX1_append_40 (fun H locs hW => ?_)
        refine lv_aload_n hx hb dX1_append_41 rfl (lv_at hl 0 rfl) ?_
        refine lv_dup hx hb dX1_append_42 rfl ?_
        refine g_1_1 (x := 6) hC hW (by omega) kd_6 gw_53 dX1_append_43 ?_
        refine q_top (v2 := .int (nI (pn + (k - (v + 1))))) (congrArg _ (by rw [up2_ne (by decide)]; exact hP1.1)) ?_
        refine q_ic 1 hx hb dX1_append_46 (by decide) ?_
        refine q_iadd hx hb dX1_append_47 ?_
        refine p_1_1 (x := 6) (v := nI ((pn + (k - (v + 1))) + 1)) hC hW (by omega) kd_6 gw_53 dX1_append_48 (fun H locs hW => ?_)
        refine lv_iinc (v := nI v - nI 1) (lv' := [(4, .int (nI v - nI 1)), (0, .ref (ad 6)), (1, .long (lN (X))), (3, .int (nI (k)))]) hx hb dX1_append_51 hl (k := 3) rfl (inc_m1 _) (by decide) rfl (fun ls hl => ?_)
        refine lv_goto (tgt := 5) hx hb dX1_append_54 (by decide) ?_
        exact ih_5 v (up2 (up2 I1 7 (pn + (k - (v + 1))) (nI (byt X v))) 6 1 (nI ((pn + (k - (v + 1))) + 1))) (by omega) (by omega) (PadI_s hk (by omega) hpk hP1) (fun a h6 h7 => by rw [up2_ne h6, up2_ne h7]; exact hF a h6 h7) _ _ hW _ (lv_sub hl [1, 2, 3, 0] rfl)
  exact lp_5 (k + 1) k I (by omega) (by omega) (by rw [chP_k, Nat.sub_self]; exact hP) (fun _ _ _ => rfl) _ _ hW _ (lv_sub hl [1, 2, 3, 0] rfl)
set_option maxRecDepth 100000 in
set_option maxHeartbeats 4000000 in
theorem k_readRowN (l : Launch) (G : Gx) (n : Nat) (ad : Nat → Nat) (sz : Nat) (I : Ic) (L : Lc) (R : Rc) (pn : Nat) (ch : Nat → Nat) (s0 : Sg) (I0 : Ic) (i a b m p : Nat) (w : Nat → Nat) (K : Nat) (ro : Nat → Nat) (hn : 83 ≤ n) (hlk : LkOK n R) (hE : PE false pn ch s0 I0 i (8, a, b, 0, w, 0, ro, p) I) : Met l yX1_readRow (Cond.code yX1_readRow cX1_readRow 3 (some .boolean) :: GW) ({ frames := 1, cells := 0, slots := 0, locals := 36 } : Room) (qPre G n ad sz I L R [.ref (ad 6), .null]) (qI1 G (qA n ad sz) n ad R (fun z I1 L1 => (z = nI 1 ∧ (∃ i1 q1 a1 b1 m1 p1 w1 K1 r1, PE false pn ch s0 I0 i1 (q1, a1, b1, m1, w1, K1, r1, p1) I1 ∧ 8 ≤ q1 ∧ q1 ≤ 9 ∧ i ≤ i1 ∧ (q1 = 8 → ¬ (i1 < pn ∧ 97 ≤ ch i1 ∧ ch i1 ≤ 100 ∧ m1 < 6)) ∧ p1 = p) ∧ I1 6 3 = I 6 3 ∧ L = L1))) 0 0 (qA n ad sz) := by
  refine q_met (by decide) (Nat.le_of_ble_eq_true rfl) ?_
  intro p_ e_ s m_ below meth c_ hC hr hlk0 hin hsz hW ls hl
  subst hsz
  have hC : CallFix p_ m_ c_ cX1_readRow 3 s ([.ref (ad 6), .null] : List Value).toArray GW "CoinRows$Pad" := hC
  have hx := hC.1
  have hb := hC.2.1
  have hP0 := hE.2.2.1
  have ha0 := hE.2.2.2.1
  have hip := hE.2.1
  have hp80 := hP0.2.1
  have hch := hP0.2.2.2
  have hl : lv_has ls 3 [(0, .ref (ad 6)), (1, .null)] := hl
  refine lv_aload_nN hx hb dX1_readRow_0 rfl (lv_at hl 1 rfl) ?_
  refine lv_ifnullN (tgt := 9) hx hb dX1_readRow_1 (by decide) ?_
  refine q_ic 0 hx hb dX1_readRow_9 (by decide) ?_
  refine lv_istore_n (lv' := [(2, .int (nI 0)), (0, .ref (ad 6)), (1, .null)]) hx hb dX1_readRow_10 rfl hl (by decide) rfl (fun ls hl => ?_)
  have lp_11 : ∀ (fu_11 : Nat) (t : Nat) (r1 : Nat → Nat) (I1 : Ic), 6 - t < fu_11 → (t ≤ 6) → (PE false pn ch s0 I0 (i + t) (8, a, b, t, w, t, r1, p) I1) → (I1 6 3 = I 6 3) → ∀ (H : Heap) (locs : List Loc), Wd G n ad I1 L R (qA n ad s.heap.size) s.heap H locs s → ∀ ls : Array Slot, lv_has ls 3 [(0, .ref (ad 6)), (1, .null), (2, .int (nI (t)))] → W p_ l e_ ({ frames := 1, cells := 0, slots := 0, locals := 36 } : Room) s m_ ([.ref (ad 6), .null] : List Value).toArray below meth c_ H locs 0 0 (MQ below (qI1 G (qA n ad s.heap.size) n ad R (fun z I1 L1 => (z = nI 1 ∧ (∃ i1 q1 a1 b1 m1 p1 w1 K1 r1, PE false pn ch s0 I0 i1 (q1, a1, b1, m1, w1, K1, r1, p1) I1 ∧ 8 ≤ q1 ∧ q1 ≤ 9 ∧ i ≤ i1 ∧ (q1 = 8 → ¬ (i1 < pn ∧ 97 ≤ ch i1 ∧ ch i1 ≤ 100 ∧ m1 < 6)) ∧ p1 = p) ∧ I1 6 3 = I 6 3 ∧ L = L1))) ([.ref (ad 6), .null] : List Value).toArray s 0 0 (qA n ad s.heap.size)) (F0 m_ 11 ls []) := by
    intro fu_11
    induction fu_11 with
    | zero =>
      intro t r1 I1 hm; exact absurd hm (Nat.not_lt_zero _)
    | succ fu_11 ih_11 =>
      intro t r1 I1 hm_11 ht hE1 h31 H locs hW ls hl
      have hP1 := hE1.2.2.1
      have ha1 := hE1.2.2.2.1
      have hip1 := hE1.2.1
      refine lv_iload_n hx hb dX1_readRow_11 rfl (lv_at hl 2 rfl) ?_
      refine q_bp 6 hx hb dX1_readRow_12 (by decide) ?_
      refine q_cge (tgt := 49) hx hb dX1_readRow_14 (by decide) (by first | omega | exact Nat.lt_of_le_of_lt (hw3 _) (by decide)) (by first | omega | exact Nat.lt_of_le_of_lt (hw3 _) (by decide)) (fun c_14 => ?_) (fun c_14 => ?_)
      ·
        refine q_ic 1 hx hb dX1_readRow_49 (by decide) ?_
        exact q_zret1 hC hW hr hlk0 rfl ⟨rfl, ⟨_, _, _, _, _, _, _, _, _, hE1, by decide, by decide, by omega, fun _ h9 => absurd h9.2.2.2 (by omega), rfl⟩, h31, rfl⟩ dX1_readRow_50
      ·
        refine lv_aload_n hx hb dX1_readRow_17 rfl (lv_at hl 0 rfl) ?_
        refine q_bp 97 hx hb dX1_readRow_18 (by decide) ?_
        refine q_bp 100 hx hb dX1_readRow_20 (by decide) ?_
        refine q_kI1 (q_rV (As := [.int (nI 97), .int (nI 100)]) (rest := []) (x := 6) hC hW mw_X1_accept gw_311 (k_accept l G n ad H.size I1 L R 97 100 pn ch (i + t) hn hlk hP1 ha1 (by omega) (by omega) (by omega)) (by omega) (ct_o1 kd_6) rfl ⟨rfl, rfl⟩ ⟨Nat.le_of_ble_eq_true rfl, Nat.le_of_ble_eq_true rfl⟩ ⟨Nat.le_of_ble_eq_true rfl, Nat.le_of_ble_eq_true rfl⟩ hl.1 rfl rfl (Nat.le_of_ble_eq_true rfl) dX1_readRow_22) hW (fun r_22 I_22 L_22 H locs hp hW => ?_)
        rcases hp with ⟨ha_22, hb_22, hc_22, rfl, rfl, rfl⟩ | ⟨hx_22, rfl, rfl, rfl⟩
        ·
          refine q_ieq (tgt := 49) hx hb dX1_readRow_25 (by decide) (by first | omega | exact Nat.lt_of_le_of_lt (hw3 _) (by decide)) (fun c_25 => absurd c_25 (by decide)) (fun c_25 => ?_)
          refine lv_aload_nN hx hb dX1_readRow_28 rfl (lv_at hl 1 rfl) ?_
          refine lv_ifnullN (tgt := 43) hx hb dX1_readRow_29 (by decide) ?_
          refine q_iinc (z2 := t + 1) (lv' := [(2, .int (nI (t + 1))), (0, .ref (ad 6)), (1, .null)]) hx hb dX1_readRow_43 hl (k := 2) rfl (inc_up _ 1 (by decide)) (by decide) rfl (fun ls hl => ?_)
          refine lv_goto (tgt := 11) hx hb dX1_readRow_46 (by decide) ?_
          exact ih_11 (t + 1) (upN r1 t (ch (i + t) - 97)) (up2 I1 6 2 (nI (i + t + 1))) (by omega) (by omega) (PE_rN hE1 ha_22 hb_22 hc_22 (by omega)) (by rw [up2_at, if_neg (by decide)]; exact h31) _ _ hW _ (lv_sub hl [1, 2, 0] rfl)
        ·
          refine q_ieq (tgt := 49) hx hb dX1_readRow_25 (by decide) (by first | omega | exact Nat.lt_of_le_of_lt (hw3 _) (by decide)) (fun c_25 => ?_) (fun c_25 => absurd c_25 (by decide))
          refine q_ic 1 hx hb dX1_readRow_49 (by decide) ?_
          exact q_zret1 hC hW hr hlk0 rfl ⟨rfl, ⟨_, _, _, _, _, _, _, _, _, hE1, by decide, by decide, by omega, fun _ h9 => absurd h9.2.2.2 (by omega), rfl⟩, h31, rfl⟩ dX1_readRow_50
  exact lp_11 (6 + 1) 0 ro I (by omega) (by omega) hE rfl _ _ hW _ (lv_sub hl [1, 2, 0] rfl)
set_option maxRecDepth 100000 in
set_option maxHeartbeats 4000000 in
theorem k_readPartN (l : Launch) (G : Gx) (n : Nat) (ad : Nat → Nat) (sz : Nat) (I : Ic) (L : Lc) (R : Rc) (pn : Nat) (ch : Nat → Nat) (s0 : Sg) (I0 : Ic) (i a b m p : Nat) (w : Nat → Nat) (K : Nat) (ro : Nat → Nat) (hn : 83 ≤ n) (hlk : LkOK n R) (hE : PE false pn ch s0 I0 i (0, a, b, m, w, K, ro, p) I) : Met l yX1_readPart (Cond.code yX1_readPart cX1_readPart 3 (some .boolean) :: GW) ({ frames := 3, cells := 0, slots := 0, locals := 108 } : Room) (qPre G n ad sz I L R [.ref (ad 6), .null]) (qI1 G (qA n ad sz) n ad R (fun z I1 L1 => (z = nI 1 ∧ (∃ i1 q1 a1 b1 m1 p1 w1 K1 r1, PE false pn ch s0 I0 i1 (q1, a1, b1, m1, w1, K1, r1, p1) I1 ∧ 8 ≤ q1 ∧ q1 ≤ 9 ∧ i < i1 ∧ (q1 = 8 → ¬ (i1 < pn ∧ 97 ≤ ch i1 ∧ ch i1 ≤ 100 ∧ m1 < 6)) ∧ p1 = p) ∧ I1 6 3 = I 6 3 ∧ L = L1) ∨ (z = nI 0 ∧ PFl false pn ch s0 I0 I1 ∧ I1 6 3 = I 6 3 ∧ L = L1))) 0 0 (qA n ad sz) := by
  refine q_met (by decide) (Nat.le_of_ble_eq_true rfl) ?_
  intro p_ e_ s m_ below meth c_ hC hr hlk0 hin hsz hW ls hl
  subst hsz
  have hC : CallFix p_ m_ c_ cX1_readPart 3 s ([.ref (ad 6), .null] : List Value).toArray GW "CoinRows$Pad" := hC
  have hx := hC.1
  have hb := hC.2.1
  have hP0 := hE.2.2.1
  have ha0 := hE.2.2.2.1
  have hip := hE.2.1
  have hp80 := hP0.2.1
  have hch := hP0.2.2.2
  have hci := hch i
  have hl : lv_has ls 3 [(0, .ref (ad 6)), (1, .null)] := hl
  refine lv_aload_n hx hb dX1_readPart_0 rfl (lv_at hl 0 rfl) ?_
  refine q_bp 64 hx hb dX1_readPart_1 (by decide) ?_
  refine q_bp 64 hx hb dX1_readPart_3 (by decide) ?_
  refine q_kI1 (q_rV (As := [.int (nI 64), .int (nI 64)]) (rest := []) (x := 6) hC hW mw_X1_accept gw_311 (k_accept l G n ad s.heap.size I L R 64 64 pn ch (i) hn hlk hP0 ha0 (by omega) (by omega) (by omega)) (by omega) (ct_o1 kd_6) rfl ⟨rfl, rfl⟩ ⟨Nat.le_of_ble_eq_true rfl, Nat.le_of_ble_eq_true rfl⟩ ⟨Nat.le_of_ble_eq_true rfl, Nat.le_of_ble_eq_true rfl⟩ hl.1 rfl rfl (Nat.le_of_ble_eq_true rfl) dX1_readPart_5) hW (fun r_5 I_5 L_5 H locs hp hW => ?_)
  rcases hp with ⟨ha_5, hb_5, hc_5, rfl, rfl, rfl⟩ | ⟨hx_5, rfl, rfl, rfl⟩
  ·
    refine q_ieq (tgt := 17) hx hb dX1_readPart_8 (by decide) (by first | omega | exact Nat.lt_of_le_of_lt (hw3 _) (by decide)) (fun c_8 => absurd c_8 (by decide)) (fun c_8 => ?_)
    have hE1 : PE false pn ch s0 I0 (i + 1) (1, a, b, m, w, K, ro, p) (up2 I 6 2 (nI (i + 1))) := PE_s hE (by omega) (s0_1 (by omega))
    refine lv_aload_n hx hb dX1_readPart_11 rfl (lv_at hl 0 rfl) ?_
    refine lv_aload_nN hx hb dX1_readPart_12 rfl (lv_at hl 1 rfl) ?_
    refine q_kI1 (q_rV (As := [.null]) (rest := []) (x := 6) hC hW mw_X1_readBegin gw_315 (k_readBeginN l G n ad H.size (up2 I 6 2 (nI (i + 1))) L R pn ch s0 I0 (i + 1) a b m p w K ro hn hlk hE1 ) (by omega) (ct_o1 kd_6) rfl ⟨rfl, rfl⟩ ⟨Nat.le_of_ble_eq_true rfl, Nat.le_of_ble_eq_true rfl⟩ ⟨Nat.le_of_ble_eq_true rfl, Nat.le_of_ble_eq_true rfl⟩ hl.1 rfl rfl (Nat.le_of_ble_eq_true rfl) dX1_readPart_13) hW (fun r_13 I_13 L_13 H locs hp hW => ?_)
    rcases hp with ⟨rfl, ⟨i_13, q_13, a_13, b_13, m_13, p_13, w_13, K_13, r_13, hT_13, hq_13, hr_13, hi_13, hs_13, he_13⟩, hU_13, rfl⟩ | ⟨rfl, hF_13, hU_13, rfl⟩
    ·
      exact q_zret1 hC hW hr hlk0 rfl (Or.inl ⟨rfl, ⟨_, _, _, _, _, _, _, _, _, hT_13, hq_13, hr_13, by omega, hs_13, he_13⟩, (by rw [hU_13]; rw [up2_at, if_neg (by decide)]), rfl⟩) dX1_readPart_16
    ·
      exact q_zret1 hC hW hr hlk0 rfl (Or.inr ⟨rfl, hF_13, (by rw [hU_13]; rw [up2_at, if_neg (by decide)]), rfl⟩) dX1_readPart_16
  ·
    refine q_ieq (tgt := 17) hx hb dX1_readPart_8 (by decide) (by first | omega | exact Nat.lt_of_le_of_lt (hw3 _) (by decide)) (fun c_8 => ?_) (fun c_8 => absurd c_8 (by decide))
    refine lv_aload_n hx hb dX1_readPart_17 rfl (lv_at hl 0 rfl) ?_
    refine q_bp 33 hx hb dX1_readPart_18 (by decide) ?_
    refine q_bp 33 hx hb dX1_readPart_20 (by decide) ?_
    refine q_kI1 (q_rV (As := [.int (nI 33), .int (nI 33)]) (rest := []) (x := 6) hC hW mw_X1_accept gw_311 (k_accept l G n ad H.size I L R 33 33 pn ch (i) hn hlk hP0 ha0 (by omega) (by omega) (by omega)) (by omega) (ct_o1 kd_6) rfl ⟨rfl, rfl⟩ ⟨Nat.le_of_ble_eq_true rfl, Nat.le_of_ble_eq_true rfl⟩ ⟨Nat.le_of_ble_eq_true rfl, Nat.le_of_ble_eq_true rfl⟩ hl.1 rfl rfl (Nat.le_of_ble_eq_true rfl) dX1_readPart_22) hW (fun r_22 I_22 L_22 H locs hp hW => ?_)
    rcases hp with ⟨ha_22, hb_22, hc_22, rfl, rfl, rfl⟩ | ⟨hx_22, rfl, rfl, rfl⟩
    ·
      refine q_ieq (tgt := 34) hx hb dX1_readPart_25 (by decide) (by first | omega | exact Nat.lt_of_le_of_lt (hw3 _) (by decide)) (fun c_25 => absurd c_25 (by decide)) (fun c_25 => ?_)
      refine lv_aload_n hx hb dX1_readPart_28 rfl (lv_at hl 0 rfl) ?_
      refine lv_aload_nN hx hb dX1_readPart_29 rfl (lv_at hl 1 rfl) ?_
      refine q_kI1 (q_rV (As := [.null]) (rest := []) (x := 6) hC hW mw_X1_readRow gw_327 (k_readRowN l G n ad H.size (up2 I 6 2 (nI (i + 1))) L R pn ch s0 I0 (i + 1) a b m p w K ro hn hlk (PE_v hE (by omega) (s0_8 (by omega)))) (by omega) (ct_o1 kd_6) rfl ⟨rfl, rfl⟩ ⟨Nat.le_of_ble_eq_true rfl, Nat.le_of_ble_eq_true rfl⟩ ⟨Nat.le_of_ble_eq_true rfl, Nat.le_of_ble_eq_true rfl⟩ hl.1 rfl rfl (Nat.le_of_ble_eq_true rfl) dX1_readPart_30) hW (fun r_30 I_30 L_30 H locs hp hW => ?_)
      obtain ⟨rfl, ⟨i_30, q_30, a_30, b_30, m_30, p_30, w_30, K_30, r_30, hT_30, hq_30, hr_30, hi_30, hs_30, he_30⟩, hU_30, rfl⟩ := hp
      exact q_zret1 hC hW hr hlk0 rfl (Or.inl ⟨rfl, ⟨_, _, _, _, _, _, _, _, _, hT_30, hq_30, hr_30, by omega, hs_30, he_30⟩, (by rw [hU_30]; rw [up2_at, if_neg (by decide)]), rfl⟩) dX1_readPart_33
    ·
      refine q_ieq (tgt := 34) hx hb dX1_readPart_25 (by decide) (by first | omega | exact Nat.lt_of_le_of_lt (hw3 _) (by decide)) (fun c_25 => ?_) (fun c_25 => absurd c_25 (by decide))
      refine lv_aload_n hx hb dX1_readPart_34 rfl (lv_at hl 0 rfl) ?_
      refine q_bp 48 hx hb dX1_readPart_35 (by decide) ?_
      refine q_bp 53 hx hb dX1_readPart_37 (by decide) ?_
      refine q_kI1 (q_rV (As := [.int (nI 48), .int (nI 53)]) (rest := []) (x := 6) hC hW mw_X1_accept gw_311 (k_accept l G n ad H.size I L R 48 53 pn ch (i) hn hlk hP0 ha0 (by omega) (by omega) (by omega)) (by omega) (ct_o1 kd_6) rfl ⟨rfl, rfl⟩ ⟨Nat.le_of_ble_eq_true rfl, Nat.le_of_ble_eq_true rfl⟩ ⟨Nat.le_of_ble_eq_true rfl, Nat.le_of_ble_eq_true rfl⟩ hl.1 rfl rfl (Nat.le_of_ble_eq_true rfl) dX1_readPart_39) hW (fun r_39 I_39 L_39 H locs hp hW => ?_)
      rcases hp with ⟨ha_39, hb_39, hc_39, rfl, rfl, rfl⟩ | ⟨hx_39, rfl, rfl, rfl⟩
      ·
        refine q_ine (tgt := 47) hx hb dX1_readPart_42 (by decide) (by first | omega | exact Nat.lt_of_le_of_lt (hw3 _) (by decide)) (fun c_42 => ?_) (fun c_42 => absurd c_42 (by decide))
        have hE1 : PE false pn ch s0 I0 (i + 1) (3, ch i - 48, b, m, w, K, ro, p) (up2 I 6 2 (nI (i + 1))) := PE_s hE (by omega) (s0_3 (by omega) (by omega))
        refine lv_aload_n hx hb dX1_readPart_47 rfl (lv_at hl 0 rfl) ?_
        refine q_kI0 (q_rV (As := []) (rest := []) (x := 6) hC hW mw_X1_latest gw_319 (k_latest l G n ad H.size (up2 I 6 2 (nI (i + 1))) L R pn ch i hn hlk (PadI_at hP0 2 (Or.inl rfl) _) (show up2 I 6 2 (nI (i + 1)) 6 2 = nI (i + 1) by rw [up2_at, if_pos ⟨rfl, rfl⟩]) (by omega)) (by omega) (ct_o1 kd_6) rfl ⟨rfl, rfl⟩ ⟨Nat.le_of_ble_eq_true rfl, Nat.le_of_ble_eq_true rfl⟩ ⟨Nat.le_of_ble_eq_true rfl, Nat.le_of_ble_eq_true rfl⟩ hl.1 rfl rfl (Nat.le_of_ble_eq_true rfl) dX1_readPart_48) hW (fun r_48 H locs hp hW => ?_)
        subst hp
        have hcl_48 := hch i
        refine q_bp 48 hx hb dX1_readPart_51 (by decide) ?_
        refine q_isub hx hb dX1_readPart_53 (by omega) ?_
        refine lv_istore_n (lv' := [(2, .int (nI ((ch i) - 48))), (0, .ref (ad 6)), (1, .null)]) hx hb dX1_readPart_54 rfl hl (by decide) rfl (fun ls hl => ?_)
        refine lv_aload_n hx hb dX1_readPart_55 rfl (lv_at hl 1 rfl) ?_
        refine q_bp 62 hx hb dX1_readPart_56 (by decide) ?_
        refine q_bp 62 hx hb dX1_readPart_58 (by decide) ?_
        refine q_kI1 (q_rV (As := [.int (nI 62), .int (nI 62)]) (rest := []) (x := 6) hC hW mw_X1_accept gw_311 (k_accept l G n ad H.size (up2 I 6 2 (nI (i + 1))) L R 62 62 pn ch (i + 1) hn hlk (PadI_at hP0 2 (Or.inl rfl) _) (show up2 I 6 2 (nI (i + 1)) 6 2 = nI (i + 1) by rw [up2_at, if_pos ⟨rfl, rfl⟩]) (by omega) (by omega) (by omega)) (by omega) (ct_o1 kd_6) rfl ⟨rfl, rfl⟩ ⟨Nat.le_of_ble_eq_true rfl, Nat.le_of_ble_eq_true rfl⟩ ⟨Nat.le_of_ble_eq_true rfl, Nat.le_of_ble_eq_true rfl⟩ hl.1 rfl rfl (Nat.le_of_ble_eq_true rfl) dX1_readPart_60) hW (fun r_60 I_60 L_60 H locs hp hW => ?_)
        rcases hp with ⟨ha_60, hb_60, hc_60, rfl, rfl, rfl⟩ | ⟨hx_60, rfl, rfl, rfl⟩
        ·
          refine q_ieq (tgt := 73) hx hb dX1_readPart_63 (by decide) (by first | omega | exact Nat.lt_of_le_of_lt (hw3 _) (by decide)) (fun c_63 => absurd c_63 (by decide)) (fun c_63 => ?_)
          have hE2 : PE false pn ch s0 I0 (i + 1 + 1) (4, ch i - 48, b, m, w, K, ro, p) (up2 (up2 I 6 2 (nI (i + 1))) 6 2 (nI (i + 1 + 1))) := PE_s hE1 (by omega) (s3_4 (by omega))
          refine lv_aload_n hx hb dX1_readPart_66 rfl (lv_at hl 1 rfl) ?_
          refine lv_aload_nN hx hb dX1_readPart_67 rfl (lv_at hl 2 rfl) ?_
          refine lv_iload_n hx hb dX1_readPart_68 rfl (lv_at hl 0 rfl) ?_
          refine q_kI1 (q_rV (As := [.null, .int (nI ((ch i) - 48))]) (rest := []) (x := 6) hC hW mw_X1_readStep gw_332 (k_readStepN l G n ad H.size (up2 (up2 I 6 2 (nI (i + 1))) 6 2 (nI (i + 1 + 1))) L R pn ch s0 I0 (i + 1 + 1) (ch i - 48) b m p w K ro hn hlk hE2 (by omega) ) (by omega) (ct_o1 kd_6) rfl ⟨rfl, rfl⟩ ⟨Nat.le_of_ble_eq_true rfl, Nat.le_of_ble_eq_true rfl⟩ ⟨Nat.le_of_ble_eq_true rfl, Nat.le_of_ble_eq_true rfl⟩ hl.1 rfl rfl (Nat.le_of_ble_eq_true rfl) dX1_readPart_69) hW (fun r_69 I_69 L_69 H locs hp hW => ?_)
          rcases hp with ⟨rfl, ⟨i_69, q_69, a_69, b_69, m_69, p_69, w_69, K_69, r_69, hT_69, hq_69, hr_69, hi_69, hs_69, he_69⟩, hU_69, rfl⟩ | ⟨rfl, hF_69, hU_69, rfl⟩
          ·
            exact q_zret1 hC hW hr hlk0 rfl (Or.inl ⟨rfl, ⟨_, _, _, _, _, _, _, _, _, hT_69, hq_69, hr_69, by omega, hs_69, he_69⟩, (by rw [hU_69]; rw [up2_at, if_neg (by decide), up2_at, if_neg (by decide)]), rfl⟩) dX1_readPart_72
          ·
            exact q_zret1 hC hW hr hlk0 rfl (Or.inr ⟨rfl, hF_69, (by rw [hU_69]; rw [up2_at, if_neg (by decide), up2_at, if_neg (by decide)]), rfl⟩) dX1_readPart_72
        ·
          refine q_ieq (tgt := 73) hx hb dX1_readPart_63 (by decide) (by first | omega | exact Nat.lt_of_le_of_lt (hw3 _) (by decide)) (fun c_63 => ?_) (fun c_63 => absurd c_63 (by decide))
          refine lv_iload_n hx hb dX1_readPart_73 rfl (lv_at hl 0 rfl) ?_
          refine q_ic 4 hx hb dX1_readPart_74 (by decide) ?_
          refine q_cge (tgt := 102) hx hb dX1_readPart_75 (by decide) (by first | omega | exact Nat.lt_of_le_of_lt (hw3 _) (by decide)) (by first | omega | exact Nat.lt_of_le_of_lt (hw3 _) (by decide)) (fun c_75 => ?_) (fun c_75 => ?_)
          ·
            refine q_ic 0 hx hb dX1_readPart_102 (by decide) ?_
            exact q_zret1 hC hW hr hlk0 rfl (Or.inr ⟨rfl, PE_f hE1 (by by_cases h9 : i + 1 < pn; (exact Or.inl ⟨h9, s3_n (by omega) (by omega)⟩); exact Or.inr ⟨by omega, (show 3 < 8 by decide)⟩), by rw [up2_at, if_neg (by decide)], rfl⟩) dX1_readPart_103
          ·
            refine lv_aload_n hx hb dX1_readPart_78 rfl (lv_at hl 1 rfl) ?_
            refine q_bp 61 hx hb dX1_readPart_79 (by decide) ?_
            refine q_bp 61 hx hb dX1_readPart_81 (by decide) ?_
            refine q_kI1 (q_rV (As := [.int (nI 61), .int (nI 61)]) (rest := []) (x := 6) hC hW mw_X1_accept gw_311 (k_accept l G n ad H.size (up2 I 6 2 (nI (i + 1))) L R 61 61 pn ch (i + 1) hn hlk (PadI_at hP0 2 (Or.inl rfl) _) (show up2 I 6 2 (nI (i + 1)) 6 2 = nI (i + 1) by rw [up2_at, if_pos ⟨rfl, rfl⟩]) (by omega) (by omega) (by omega)) (by omega) (ct_o1 kd_6) rfl ⟨rfl, rfl⟩ ⟨Nat.le_of_ble_eq_true rfl, Nat.le_of_ble_eq_true rfl⟩ ⟨Nat.le_of_ble_eq_true rfl, Nat.le_of_ble_eq_true rfl⟩ hl.1 rfl rfl (Nat.le_of_ble_eq_true rfl) dX1_readPart_83) hW (fun r_83 I_83 L_83 H locs hp hW => ?_)
            rcases hp with ⟨ha_83, hb_83, hc_83, rfl, rfl, rfl⟩ | ⟨hx_83, rfl, rfl, rfl⟩
            ·
              refine q_ieq (tgt := 102) hx hb dX1_readPart_86 (by decide) (by first | omega | exact Nat.lt_of_le_of_lt (hw3 _) (by decide)) (fun c_86 => absurd c_86 (by decide)) (fun c_86 => ?_)
              have hE2 : PE false pn ch s0 I0 (i + 1 + 1) (6, ch i - 48, b, m, w, K, ro, p) (up2 (up2 I 6 2 (nI (i + 1))) 6 2 (nI (i + 1 + 1))) := PE_s hE1 (by omega) (s3_6 (by omega) (by omega))
              refine lv_aload_n hx hb dX1_readPart_89 rfl (lv_at hl 1 rfl) ?_
              refine lv_aload_nN hx hb dX1_readPart_90 rfl (lv_at hl 2 rfl) ?_
              refine lv_iload_n hx hb dX1_readPart_91 rfl (lv_at hl 0 rfl) ?_
              refine q_kI1 (q_rV (As := [.null, .int (nI ((ch i) - 48))]) (rest := []) (x := 6) hC hW mw_X1_readLetter gw_337 (k_readLetterN l G n ad H.size (up2 (up2 I 6 2 (nI (i + 1))) 6 2 (nI (i + 1 + 1))) L R pn ch s0 I0 (i + 1 + 1) (ch i - 48) b m p w K ro hn hlk hE2 (by omega) ) (by omega) (ct_o1 kd_6) rfl ⟨rfl, rfl⟩ ⟨Nat.le_of_ble_eq_true rfl, Nat.le_of_ble_eq_true rfl⟩ ⟨Nat.le_of_ble_eq_true rfl, Nat.le_of_ble_eq_true rfl⟩ hl.1 rfl rfl (Nat.le_of_ble_eq_true rfl) dX1_readPart_92) hW (fun r_92 I_92 L_92 H locs hp hW => ?_)
              rcases hp with ⟨rfl, ⟨i_92, q_92, a_92, b_92, m_92, p_92, w_92, K_92, r_92, hT_92, hq_92, hr_92, hi_92, hs_92, he_92⟩, hU_92, rfl⟩ | ⟨rfl, hF_92, hU_92, rfl⟩
              ·
                refine q_ieq (tgt := 102) hx hb dX1_readPart_95 (by decide) (by first | omega | exact Nat.lt_of_le_of_lt (hw3 _) (by decide)) (fun c_95 => absurd c_95 (by decide)) (fun c_95 => ?_)
                refine q_ic 1 hx hb dX1_readPart_98 (by decide) ?_
                refine lv_goto (tgt := 103) hx hb dX1_readPart_99 (by decide) ?_
                exact q_zret1 hC hW hr hlk0 rfl (Or.inl ⟨rfl, ⟨_, _, _, _, _, _, _, _, _, hT_92, hq_92, hr_92, by omega, hs_92, he_92⟩, (by rw [hU_92]; rw [up2_at, if_neg (by decide), up2_at, if_neg (by decide)]), rfl⟩) dX1_readPart_103
              ·
                refine q_ieq (tgt := 102) hx hb dX1_readPart_95 (by decide) (by first | omega | exact Nat.lt_of_le_of_lt (hw3 _) (by decide)) (fun c_95 => ?_) (fun c_95 => absurd c_95 (by decide))
                refine q_ic 0 hx hb dX1_readPart_102 (by decide) ?_
                exact q_zret1 hC hW hr hlk0 rfl (Or.inr ⟨rfl, hF_92, (by rw [hU_92]; rw [up2_at, if_neg (by decide), up2_at, if_neg (by decide)]), rfl⟩) dX1_readPart_103
            ·
              refine q_ieq (tgt := 102) hx hb dX1_readPart_86 (by decide) (by first | omega | exact Nat.lt_of_le_of_lt (hw3 _) (by decide)) (fun c_86 => ?_) (fun c_86 => absurd c_86 (by decide))
              refine q_ic 0 hx hb dX1_readPart_102 (by decide) ?_
              exact q_zret1 hC hW hr hlk0 rfl (Or.inr ⟨rfl, PE_f hE1 (by by_cases h9 : i + 1 < pn; (exact Or.inl ⟨h9, s3_n (by omega) (by omega)⟩); exact Or.inr ⟨by omega, (show 3 < 8 by decide)⟩), by rw [up2_at, if_neg (by decide)], rfl⟩) dX1_readPart_103
      ·
        refine q_ine (tgt := 47) hx hb dX1_readPart_42 (by decide) (by first | omega | exact Nat.lt_of_le_of_lt (hw3 _) (by decide)) (fun c_42 => absurd c_42 (by decide)) (fun c_42 => ?_)
        refine q_ic 0 hx hb dX1_readPart_45 (by decide) ?_
        exact q_zret1 hC hW hr hlk0 rfl (Or.inr ⟨rfl, PE_f hE (by by_cases h9 : i < pn; (exact Or.inl ⟨h9, s0_n (by omega) (by omega) (by omega)⟩); exact Or.inr ⟨by omega, (show 0 < 8 by decide)⟩), rfl, rfl⟩) dX1_readPart_46
set_option maxRecDepth 100000 in
set_option maxHeartbeats 4000000 in
theorem k_readN (l : Launch) (G : Gx) (n : Nat) (ad : Nat → Nat) (sz : Nat) (I : Ic) (L : Lc) (R : Rc) (pn : Nat) (ch : Nat → Nat) (w : Nat → Nat) (K : Nat) (ro : Nat → Nat) (hn : 83 ≤ n) (hlk : LkOK n R) (hP : PadI I pn ch) : Met l yX1_read (Cond.code yX1_read cX1_read 2 (some .boolean) :: GW) ({ frames := 4, cells := 0, slots := 0, locals := 144 } : Room) (qPre G n ad sz I L R [.ref (ad 6), .null]) (qI1 G (qA n ad sz) n ad R (fun z I1 L1 => (z = nI 1 ∧ (∃ q1 a1 b1 m1 w1 K1 r1 p1, OKT pn ch (0, 0, 0, 0, w, K, ro, 0) (q1, a1, b1, m1, w1, K1, r1, p1) ∧ I1 6 3 = nI (p1 + 1) ∧ PadI I1 pn ch ∧ (I1 1 = I 1 ∧ I1 2 = I 2 ∧ I1 3 = I 3) ∧ ∀ a, a ≠ 1 → a ≠ 2 → a ≠ 3 → a ≠ 6 → I1 a = I a) ∧ L = L1) ∨ (z = nI 0 ∧ PFl false pn ch (0, 0, 0, 0, w, K, ro, 0) I I1 ∧ L = L1))) 0 0 (qA n ad sz) := by
  refine q_met (by decide) (Nat.le_of_ble_eq_true rfl) ?_
  intro p_ e_ s m_ below meth c_ hC hr hlk0 hin hsz hW ls hl
  subst hsz
  have hC : CallFix p_ m_ c_ cX1_read 2 s ([.ref (ad 6), .null] : List Value).toArray GW "CoinRows$Pad" := hC
  have hx := hC.1
  have hb := hC.2.1
  have hp80 := hP.2.1
  have hch := hP.2.2.2
  have hl : lv_has ls 2 [(0, .ref (ad 6)), (1, .null)] := hl
  refine lv_aload_n hx hb dX1_read_0 rfl (lv_at hl 0 rfl) ?_
  refine q_ic 0 hx hb dX1_read_1 (by decide) ?_
  refine p_1_2 (x := 6) (v := nI 0) hC hW (by omega) kd_6 gw_55 dX1_read_2 (fun H locs hW => ?_)
  refine lv_aload_n hx hb dX1_read_5 rfl (lv_at hl 0 rfl) ?_
  refine q_ic 0 hx hb dX1_read_6 (by decide) ?_
  refine p_1_3 (x := 6) (v := nI 0) hC hW (by omega) kd_6 gw_57 dX1_read_7 (fun H locs hW => ?_)
  have lp_10 : ∀ (fu_10 : Nat) (i : Nat) (a : Nat) (b : Nat) (m : Nat) (p : Nat) (w1 : Nat → Nat) (K1 : Nat) (r1 : Nat → Nat) (I1 : Ic), 81 - i < fu_10 → (PE false pn ch (0, 0, 0, 0, w, K, ro, 0) I i (0, a, b, m, w1, K1, r1, p) I1) → (I1 6 3 = nI p) → (2 * p ≤ i) → ∀ (H : Heap) (locs : List Loc), Wd G n ad I1 L R (qA n ad s.heap.size) s.heap H locs s → ∀ ls : Array Slot, lv_has ls 2 [(0, .ref (ad 6)), (1, .null)] → W p_ l e_ ({ frames := 4, cells := 0, slots := 0, locals := 144 } : Room) s m_ ([.ref (ad 6), .null] : List Value).toArray below meth c_ H locs 0 0 (MQ below (qI1 G (qA n ad s.heap.size) n ad R (fun z I1 L1 => (z = nI 1 ∧ (∃ q1 a1 b1 m1 w1 K1 r1 p1, OKT pn ch (0, 0, 0, 0, w, K, ro, 0) (q1, a1, b1, m1, w1, K1, r1, p1) ∧ I1 6 3 = nI (p1 + 1) ∧ PadI I1 pn ch ∧ (I1 1 = I 1 ∧ I1 2 = I 2 ∧ I1 3 = I 3) ∧ ∀ a, a ≠ 1 → a ≠ 2 → a ≠ 3 → a ≠ 6 → I1 a = I a) ∧ L = L1) ∨ (z = nI 0 ∧ PFl false pn ch (0, 0, 0, 0, w, K, ro, 0) I I1 ∧ L = L1))) ([.ref (ad 6), .null] : List Value).toArray s 0 0 (qA n ad s.heap.size)) (F0 m_ 10 ls []) := by
    intro fu_10
    induction fu_10 with
    | zero =>
      intro i a b m p w1 K1 r1 I1 hm; exact absurd hm (Nat.not_lt_zero _)
    | succ fu_10 ih_10 =>
      intro i a b m p w1 K1 r1 I1 hm_10 hE h31 hpi H locs hW ls hl
      have hi80 := hE.2.1
      refine lv_aload_n hx hb dX1_read_10 rfl (lv_at hl 0 rfl) ?_
      refine g_1_3 (x := 6) hC hW (by omega) kd_6 gw_57 dX1_read_11 ?_
      refine q_top (v2 := .int (nI (p))) (congrArg _ h31) ?_
      refine q_bp 80 hx hb dX1_read_14 (by decide) ?_
      refine q_cge (tgt := 65) hx hb dX1_read_16 (by decide) (by first | omega | exact Nat.lt_of_le_of_lt (hw3 _) (by decide)) (by first | omega | exact Nat.lt_of_le_of_lt (hw3 _) (by decide)) (fun c_16 => absurd c_16 (by omega)) (fun c_16 => ?_)
      refine lv_aload_n hx hb dX1_read_19 rfl (lv_at hl 0 rfl) ?_
      refine lv_aload_nN hx hb dX1_read_20 rfl (lv_at hl 1 rfl) ?_
      refine q_kI1 (q_rV (As := [.null]) (rest := []) (x := 6) hC hW mw_X1_readPart gw_307 (k_readPartN l G n ad H.size I1 L R pn ch (0, 0, 0, 0, w, K, ro, 0) I i a b m p w1 K1 r1 hn hlk hE) (by omega) (ct_o1 kd_6) rfl ⟨rfl, rfl⟩ ⟨Nat.le_of_ble_eq_true rfl, Nat.le_of_ble_eq_true rfl⟩ ⟨Nat.le_of_ble_eq_true rfl, Nat.le_of_ble_eq_true rfl⟩ hl.1 rfl rfl (Nat.le_of_ble_eq_true rfl) dX1_read_21) hW (fun r_21 I_21 L_21 H locs hp hW => ?_)
      rcases hp with ⟨rfl, ⟨i_21, q_21, a_21, b_21, m_21, p_21, w_21, K_21, r_21, hT_21, hq_21, hr_21, hi_21, hs_21, rfl⟩, hU_21, rfl⟩ | ⟨rfl, hF_21, hU_21, rfl⟩
      ·
        refine q_ine (tgt := 29) hx hb dX1_read_24 (by decide) (by first | omega | exact Nat.lt_of_le_of_lt (hw3 _) (by decide)) (fun c_24 => ?_) (fun c_24 => absurd c_24 (by decide))
        refine lv_aload_n hx hb dX1_read_29 rfl (lv_at hl 0 rfl) ?_
        refine lv_dup hx hb dX1_read_30 rfl ?_
        refine g_1_3 (x := 6) hC hW (by omega) kd_6 gw_57 dX1_read_31 ?_
        refine q_top (v2 := .int (nI (p_21))) (congrArg _ (hU_21.trans h31)) ?_
        refine q_ic 1 hx hb dX1_read_34 (by decide) ?_
        refine q_iadd hx hb dX1_read_35 ?_
        refine p_1_3 (x := 6) (v := nI (p_21 + 1)) hC hW (by omega) kd_6 gw_57 dX1_read_36 (fun H locs hW => ?_)
        have hP2 := (PE_p hT_21 (nI (p_21 + 1))).2.2.1
        have ha2 := (PE_p hT_21 (nI (p_21 + 1))).2.2.2.1
        have hi2 := hT_21.2.1
        refine lv_aload_n hx hb dX1_read_39 rfl (lv_at hl 0 rfl) ?_
        refine g_1_2 (x := 6) hC hW (by omega) kd_6 gw_55 dX1_read_40 ?_
        refine q_top (v2 := .int (nI (i_21))) (congrArg _ ha2) ?_
        refine lv_aload_n hx hb dX1_read_43 rfl (lv_at hl 0 rfl) ?_
        refine g_1_1 (x := 6) hC hW (by omega) kd_6 gw_53 dX1_read_44 ?_
        refine q_top (v2 := .int (nI (pn))) (congrArg _ hP2.1) ?_
        refine q_clt (tgt := 52) hx hb dX1_read_47 (by decide) (by first | omega | exact Nat.lt_of_le_of_lt (hw3 _) (by decide)) (by first | omega | exact Nat.lt_of_le_of_lt (hw3 _) (by decide)) (fun c_47 => ?_) (fun c_47 => ?_)
        ·
          refine lv_aload_n hx hb dX1_read_52 rfl (lv_at hl 0 rfl) ?_
          refine q_bp 59 hx hb dX1_read_53 (by decide) ?_
          refine q_bp 59 hx hb dX1_read_55 (by decide) ?_
          refine q_kI1 (q_rV (As := [.int (nI 59), .int (nI 59)]) (rest := []) (x := 6) hC hW mw_X1_accept gw_311 (k_accept l G n ad H.size (up2 I_21 6 3 (nI (p_21 + 1))) L R 59 59 pn ch (i_21) hn hlk hP2 ha2 (by omega) (by omega) (by omega)) (by omega) (ct_o1 kd_6) rfl ⟨rfl, rfl⟩ ⟨Nat.le_of_ble_eq_true rfl, Nat.le_of_ble_eq_true rfl⟩ ⟨Nat.le_of_ble_eq_true rfl, Nat.le_of_ble_eq_true rfl⟩ hl.1 rfl rfl (Nat.le_of_ble_eq_true rfl) dX1_read_57) hW (fun r_57 I_57 L_57 H locs hp hW => ?_)
          rcases hp with ⟨ha_57, hb_57, hc_57, rfl, rfl, rfl⟩ | ⟨hx_57, rfl, rfl, rfl⟩
          ·
            refine q_ine (tgt := 10) hx hb dX1_read_60 (by decide) (by first | omega | exact Nat.lt_of_le_of_lt (hw3 _) (by decide)) (fun c_60 => ?_) (fun c_60 => absurd c_60 (by decide))
            exact ih_10 (i_21 + 1) a_21 b_21 m_21 (p_21 + 1) w_21 K_21 r_21 (up2 (up2 I_21 6 3 (nI (p_21 + 1))) 6 2 (nI (i_21 + 1))) (by omega) (PE_s (PE_p hT_21 _) (by omega) (by have h45 : q_21 = 8 ∨ q_21 = 9 := (by omega); rcases h45 with rfl | rfl; (exact s8_0 (by omega)); exact s9_0 (by omega))) (by rw [up2_at, if_neg (by decide), up2_at, if_pos ⟨rfl, rfl⟩]) (by omega) _ _ hW _ (lv_sub hl [0, 1] rfl)
          ·
            refine q_ine (tgt := 10) hx hb dX1_read_60 (by decide) (by first | omega | exact Nat.lt_of_le_of_lt (hw3 _) (by decide)) (fun c_60 => absurd c_60 (by decide)) (fun c_60 => ?_)
            refine q_ic 0 hx hb dX1_read_63 (by decide) ?_
            exact q_zret1 hC hW hr hlk0 rfl (Or.inr ⟨rfl, PE_f (PE_p hT_21 _) (Or.inl ⟨by omega, (by have h45 : q_21 = 8 ∨ q_21 = 9 := (by omega); rcases h45 with rfl | rfl; (exact s8_n (fun h => hs_21 rfl ⟨by omega, h⟩) (by omega)); exact s9_n (by omega))⟩), rfl⟩) dX1_read_64
        ·
          refine q_ic 1 hx hb dX1_read_50 (by decide) ?_
          exact q_zret1 hC hW hr hlk0 rfl (Or.inl ⟨rfl, ⟨_, _, _, _, _, _, _, _, ⟨(by rw [show pn = i_21 by have h9 := hT_21.2.1; omega]; exact hT_21.1), hq_21⟩, (by rw [up2_at, if_pos ⟨rfl, rfl⟩]), (PadI_at hT_21.2.2.1 3 (Or.inr rfl) _), ⟨by rw [up2_ne (by decide)]; exact hT_21.2.2.2.2.1.1, by rw [up2_ne (by decide)]; exact hT_21.2.2.2.2.1.2.1, by rw [up2_ne (by decide)]; exact hT_21.2.2.2.2.1.2.2⟩, fun a h1 h2 h3 h6 => by rw [up2_ne h6]; exact hT_21.2.2.2.2.2 a h1 h2 h3 h6⟩, rfl⟩) dX1_read_51
      ·
        refine q_ine (tgt := 29) hx hb dX1_read_24 (by decide) (by first | omega | exact Nat.lt_of_le_of_lt (hw3 _) (by decide)) (fun c_24 => absurd c_24 (by decide)) (fun c_24 => ?_)
        refine q_ic 0 hx hb dX1_read_27 (by decide) ?_
        exact q_zret1 hC hW hr hlk0 rfl (Or.inr ⟨rfl, hF_21, rfl⟩) dX1_read_28
  exact lp_10 (81 + 1) 0 0 0 0 0 w K ro (up2 (up2 I 6 2 (nI 0)) 6 3 (nI 0)) (by omega) (⟨rfl, Nat.zero_le pn, PadI_at (PadI_at hP 2 (Or.inl rfl) _) 3 (Or.inr rfl) _, (by rw [up2_at, if_neg (by decide), up2_at, if_pos ⟨rfl, rfl⟩]), ⟨by rw [up2_ne (by decide), up2_ne (by decide)], by rw [up2_ne (by decide), up2_ne (by decide)], by rw [up2_ne (by decide), up2_ne (by decide)]⟩, fun a h1 h2 h3 h6 => by rw [up2_ne h6, up2_ne h6]⟩) (by rw [up2_at, if_pos ⟨rfl, rfl⟩]) (by omega) _ _ hW _ (lv_sub hl [0, 1] rfl)
set_option maxRecDepth 100000 in
set_option maxHeartbeats 4000000 in
theorem k_readRowM (l : Launch) (G : Gx) (n : Nat) (ad : Nat → Nat) (sz : Nat) (I : Ic) (L : Lc) (R : Rc) (pn : Nat) (ch : Nat → Nat) (s0 : Sg) (I0 : Ic) (i a b m p : Nat) (w : Nat → Nat) (K : Nat) (ro : Nat → Nat) (hn : 83 ≤ n) (hlk : LkOK n R) (hs : stT ch s0 i = some (8, a, b, 0, w, 0, ro, p)) (hip : i ≤ pn) (hP0 : PadI I pn ch) (ha0 : I 6 2 = nI i) (hMd : MdI I w K ro) (hfr : ∀ a, a ≠ 1 → a ≠ 2 → a ≠ 3 → a ≠ 6 → I a = I0 a) : Met l yX1_readRow (Cond.code yX1_readRow cX1_readRow 3 (some .boolean) :: GW) ({ frames := 1, cells := 0, slots := 0, locals := 36 } : Room) (qPre G n ad sz I L R [.ref (ad 6), .ref (ad 1)]) (qI1 G (qA n ad sz) n ad R (fun z I1 L1 => (z = nI 1 ∧ (∃ i1 q1 a1 b1 m1 p1 w1 K1 r1, PE true pn ch s0 I0 i1 (q1, a1, b1, m1, w1, K1, r1, p1) I1 ∧ 8 ≤ q1 ∧ q1 ≤ 9 ∧ i ≤ i1 ∧ (q1 = 8 → ¬ (i1 < pn ∧ 97 ≤ ch i1 ∧ ch i1 ≤ 100 ∧ m1 < 6)) ∧ p1 = p) ∧ I1 6 3 = I 6 3 ∧ L = L1))) 0 0 (qA n ad sz) := by
  refine q_met (by decide) (Nat.le_of_ble_eq_true rfl) ?_
  intro p_ e_ s m_ below meth c_ hC hr hlk0 hin hsz hW ls hl
  subst hsz
  have hC : CallFix p_ m_ c_ cX1_readRow 3 s ([.ref (ad 6), .ref (ad 1)] : List Value).toArray GW "CoinRows$Pad" := hC
  have hx := hC.1
  have hb := hC.2.1
  have hE := hs
  have hp80 := hP0.2.1
  have hch := hP0.2.2.2
  have hl : lv_has ls 3 [(0, .ref (ad 6)), (1, .ref (ad 1))] := hl
  refine lv_aload_n hx hb dX1_readRow_0 rfl (lv_at hl 1 rfl) ?_
  refine lv_ifnull hx hb dX1_readRow_1 ?_
  refine lv_aload_n hx hb dX1_readRow_4 rfl (lv_at hl 1 rfl) ?_
  refine q_ic 0 hx hb dX1_readRow_5 (by decide) ?_
  refine p_0_2 (x := 1) (v := nI 0) hC hW (by omega) kd_1 gw_36 dX1_readRow_6 (fun H locs hW => ?_)
  refine q_ic 0 hx hb dX1_readRow_9 (by decide) ?_
  refine lv_istore_n (lv' := [(2, .int (nI 0)), (0, .ref (ad 6)), (1, .ref (ad 1))]) hx hb dX1_readRow_10 rfl hl (by decide) rfl (fun ls hl => ?_)
  have lp_11 : ∀ (fu_11 : Nat) (t : Nat) (r1 : Nat → Nat) (I1 : Ic), 6 - t < fu_11 → (t ≤ 6) → (PE true pn ch s0 I0 (i + t) (8, a, b, t, w, t, r1, p) I1) → (I1 6 3 = I 6 3) → ∀ (H : Heap) (locs : List Loc), Wd G n ad I1 L R (qA n ad s.heap.size) s.heap H locs s → ∀ ls : Array Slot, lv_has ls 3 [(0, .ref (ad 6)), (1, .ref (ad 1)), (2, .int (nI (t)))] → W p_ l e_ ({ frames := 1, cells := 0, slots := 0, locals := 36 } : Room) s m_ ([.ref (ad 6), .ref (ad 1)] : List Value).toArray below meth c_ H locs 0 0 (MQ below (qI1 G (qA n ad s.heap.size) n ad R (fun z I1 L1 => (z = nI 1 ∧ (∃ i1 q1 a1 b1 m1 p1 w1 K1 r1, PE true pn ch s0 I0 i1 (q1, a1, b1, m1, w1, K1, r1, p1) I1 ∧ 8 ≤ q1 ∧ q1 ≤ 9 ∧ i ≤ i1 ∧ (q1 = 8 → ¬ (i1 < pn ∧ 97 ≤ ch i1 ∧ ch i1 ≤ 100 ∧ m1 < 6)) ∧ p1 = p) ∧ I1 6 3 = I 6 3 ∧ L = L1))) ([.ref (ad 6), .ref (ad 1)] : List Value).toArray s 0 0 (qA n ad s.heap.size)) (F0 m_ 11 ls []) := by
    intro fu_11
    induction fu_11 with
    | zero =>
      intro t r1 I1 hm; exact absurd hm (Nat.not_lt_zero _)
    | succ fu_11 ih_11 =>
      intro t r1 I1 hm_11 ht hE1 h31 H locs hW ls hl
      have hP1 := hE1.2.2.1
      have ha1 := hE1.2.2.2.1
      have hip1 := hE1.2.1
      have hMd1 : MdI I1 w t r1 := hE1.2.2.2.2.1
      refine lv_iload_n hx hb dX1_readRow_11 rfl (lv_at hl 2 rfl) ?_
      refine q_bp 6 hx hb dX1_readRow_12 (by decide) ?_
      refine q_cge (tgt := 49) hx hb dX1_readRow_14 (by decide) (by first | omega | exact Nat.lt_of_le_of_lt (hw3 _) (by decide)) (by first | omega | exact Nat.lt_of_le_of_lt (hw3 _) (by decide)) (fun c_14 => ?_) (fun c_14 => ?_)
      ·
        refine q_ic 1 hx hb dX1_readRow_49 (by decide) ?_
        exact q_zret1 hC hW hr hlk0 rfl ⟨rfl, ⟨_, _, _, _, _, _, _, _, _, hE1, by decide, by decide, by omega, fun _ h9 => absurd h9.2.2.2 (by omega), rfl⟩, h31, rfl⟩ dX1_readRow_50
      ·
        refine lv_aload_n hx hb dX1_readRow_17 rfl (lv_at hl 0 rfl) ?_
        refine q_bp 97 hx hb dX1_readRow_18 (by decide) ?_
        refine q_bp 100 hx hb dX1_readRow_20 (by decide) ?_
        refine q_kI1 (q_rV (As := [.int (nI 97), .int (nI 100)]) (rest := []) (x := 6) hC hW mw_X1_accept gw_311 (k_accept l G n ad H.size I1 L R 97 100 pn ch (i + t) hn hlk hP1 ha1 (by omega) (by omega) (by omega)) (by omega) (ct_o1 kd_6) rfl ⟨rfl, rfl⟩ ⟨Nat.le_of_ble_eq_true rfl, Nat.le_of_ble_eq_true rfl⟩ ⟨Nat.le_of_ble_eq_true rfl, Nat.le_of_ble_eq_true rfl⟩ hl.1 rfl rfl (Nat.le_of_ble_eq_true rfl) dX1_readRow_22) hW (fun r_22 I_22 L_22 H locs hp hW => ?_)
        rcases hp with ⟨ha_22, hb_22, hc_22, rfl, rfl, rfl⟩ | ⟨hx_22, rfl, rfl, rfl⟩
        ·
          refine q_ieq (tgt := 49) hx hb dX1_readRow_25 (by decide) (by first | omega | exact Nat.lt_of_le_of_lt (hw3 _) (by decide)) (fun c_25 => absurd c_25 (by decide)) (fun c_25 => ?_)
          refine lv_aload_n hx hb dX1_readRow_28 rfl (lv_at hl 1 rfl) ?_
          refine lv_ifnull hx hb dX1_readRow_29 ?_
          refine lv_aload_n hx hb dX1_readRow_32 rfl (lv_at hl 1 rfl) ?_
          refine lv_aload_n hx hb dX1_readRow_33 rfl (lv_at hl 0 rfl) ?_
          refine q_kI0 (q_rV (As := []) (rest := [.ref (ad 1)]) (x := 6) hC hW mw_X1_latest gw_319 (k_latest l G n ad H.size (up2 I1 6 2 (nI (i + t + 1))) L R pn ch (i + t) hn hlk (PadI_at hP1 2 (Or.inl rfl) _) (show up2 I1 6 2 (nI (i + t + 1)) 6 2 = nI (i + t + 1) by rw [up2_at, if_pos ⟨rfl, rfl⟩]) (by omega)) (by omega) (ct_o1 kd_6) rfl ⟨rfl, rfl⟩ ⟨Nat.le_of_ble_eq_true rfl, Nat.le_of_ble_eq_true rfl⟩ ⟨Nat.le_of_ble_eq_true rfl, Nat.le_of_ble_eq_true rfl⟩ hl.1 rfl rfl (Nat.le_of_ble_eq_true rfl) dX1_readRow_34) hW (fun r_34 H locs hp hW => ?_)
          subst hp
          have hcl_34 := hch (i + t)
          refine q_bp 97 hx hb dX1_readRow_37 (by decide) ?_
          refine q_isub hx hb dX1_readRow_39 (by omega) ?_
          refine q_kV1 (q_rV (As := [.int (nI ((ch (i + t)) - 97))]) (rest := []) (x := 1) hC hW mw_X0_append gw_331 (k_append l G n ad H.size (up2 I1 6 2 (nI (i + t + 1))) L R _ w t r1 hn hlk (MdI_lo hMd1 (fun a ha => up2_ne (by omega))) (by omega)) (by omega) (ct_o0 kd_1) rfl ⟨rfl, rfl⟩ ⟨Nat.le_of_ble_eq_true rfl, Nat.le_of_ble_eq_true rfl⟩ ⟨Nat.le_of_ble_eq_true rfl, Nat.le_of_ble_eq_true rfl⟩ hl.1 rfl rfl (Nat.le_of_ble_eq_true rfl) dX1_readRow_40) hW (fun I_40 L_40 H locs hp hW => ?_)
          obtain ⟨rfl, rfl⟩ := hp
          refine q_iinc (z2 := t + 1) (lv' := [(2, .int (nI (t + 1))), (0, .ref (ad 6)), (1, .ref (ad 1))]) hx hb dX1_readRow_43 hl (k := 2) rfl (inc_up _ 1 (by decide)) (by decide) rfl (fun ls hl => ?_)
          refine lv_goto (tgt := 11) hx hb dX1_readRow_46 (by decide) ?_
          exact ih_11 (t + 1) (upN r1 t (ch (i + t) - 97)) (up2 (up2 (up2 I1 6 2 (nI (i + t + 1))) 3 t (nI (ch (i + t) - 97))) 1 2 (nI (t + 1))) (by omega) (by omega) (PE_r hE1 ha_22 hb_22 hc_22 (by omega)) (by rw [up2_ne (by decide), up2_ne (by decide), up2_at, if_neg (by decide)]; exact h31) _ _ hW _ (lv_sub hl [1, 2, 0] rfl)
        ·
          refine q_ieq (tgt := 49) hx hb dX1_readRow_25 (by decide) (by first | omega | exact Nat.lt_of_le_of_lt (hw3 _) (by decide)) (fun c_25 => ?_) (fun c_25 => absurd c_25 (by decide))
          refine q_ic 1 hx hb dX1_readRow_49 (by decide) ?_
          exact q_zret1 hC hW hr hlk0 rfl ⟨rfl, ⟨_, _, _, _, _, _, _, _, _, hE1, by decide, by decide, by omega, fun _ h9 => absurd h9.2.2.2 (by omega), rfl⟩, h31, rfl⟩ dX1_readRow_50
  exact lp_11 (6 + 1) 0 ro (up2 I 1 2 (nI 0)) (by omega) (by omega) (PE_0 hs hip hP0 ha0 hMd hfr) (by rw [up2_ne (by decide)]) _ _ hW _ (lv_sub hl [1, 2, 0] rfl)
set_option maxRecDepth 100000 in
set_option maxHeartbeats 4000000 in
theorem k_readPartM (l : Launch) (G : Gx) (n : Nat) (ad : Nat → Nat) (sz : Nat) (I : Ic) (L : Lc) (R : Rc) (pn : Nat) (ch : Nat → Nat) (s0 : Sg) (I0 : Ic) (i a b m p : Nat) (w : Nat → Nat) (K : Nat) (ro : Nat → Nat) (hn : 83 ≤ n) (hlk : LkOK n R) (hE : PE true pn ch s0 I0 i (0, a, b, m, w, K, ro, p) I) : Met l yX1_readPart (Cond.code yX1_readPart cX1_readPart 3 (some .boolean) :: GW) ({ frames := 3, cells := 0, slots := 0, locals := 108 } : Room) (qPre G n ad sz I L R [.ref (ad 6), .ref (ad 1)]) (qI1 G (qA n ad sz) n ad R (fun z I1 L1 => (z = nI 1 ∧ (∃ i1 q1 a1 b1 m1 p1 w1 K1 r1, PE true pn ch s0 I0 i1 (q1, a1, b1, m1, w1, K1, r1, p1) I1 ∧ 8 ≤ q1 ∧ q1 ≤ 9 ∧ i < i1 ∧ (q1 = 8 → ¬ (i1 < pn ∧ 97 ≤ ch i1 ∧ ch i1 ≤ 100 ∧ m1 < 6)) ∧ p1 = p) ∧ I1 6 3 = I 6 3 ∧ L = L1) ∨ (z = nI 0 ∧ PFl true pn ch s0 I0 I1 ∧ I1 6 3 = I 6 3 ∧ L = L1))) 0 0 (qA n ad sz) := by
  refine q_met (by decide) (Nat.le_of_ble_eq_true rfl) ?_
  intro p_ e_ s m_ below meth c_ hC hr hlk0 hin hsz hW ls hl
  subst hsz
  have hC : CallFix p_ m_ c_ cX1_readPart 3 s ([.ref (ad 6), .ref (ad 1)] : List Value).toArray GW "CoinRows$Pad" := hC
  have hx := hC.1
  have hb := hC.2.1
  have hP0 := hE.2.2.1
  have ha0 := hE.2.2.2.1
  have hip := hE.2.1
  have hp80 := hP0.2.1
  have hch := hP0.2.2.2
  have hci := hch i
  have hMd : MdI I w K ro := hE.2.2.2.2.1
  have hWo : Wok w := hMd.2.2.2.2.1
  have hl : lv_has ls 3 [(0, .ref (ad 6)), (1, .ref (ad 1))] := hl
  refine lv_aload_n hx hb dX1_readPart_0 rfl (lv_at hl 0 rfl) ?_
  refine q_bp 64 hx hb dX1_readPart_1 (by decide) ?_
  refine q_bp 64 hx hb dX1_readPart_3 (by decide) ?_
  refine q_kI1 (q_rV (As := [.int (nI 64), .int (nI 64)]) (rest := []) (x := 6) hC hW mw_X1_accept gw_311 (k_accept l G n ad s.heap.size I L R 64 64 pn ch (i) hn hlk hP0 ha0 (by omega) (by omega) (by omega)) (by omega) (ct_o1 kd_6) rfl ⟨rfl, rfl⟩ ⟨Nat.le_of_ble_eq_true rfl, Nat.le_of_ble_eq_true rfl⟩ ⟨Nat.le_of_ble_eq_true rfl, Nat.le_of_ble_eq_true rfl⟩ hl.1 rfl rfl (Nat.le_of_ble_eq_true rfl) dX1_readPart_5) hW (fun r_5 I_5 L_5 H locs hp hW => ?_)
  rcases hp with ⟨ha_5, hb_5, hc_5, rfl, rfl, rfl⟩ | ⟨hx_5, rfl, rfl, rfl⟩
  ·
    refine q_ieq (tgt := 17) hx hb dX1_readPart_8 (by decide) (by first | omega | exact Nat.lt_of_le_of_lt (hw3 _) (by decide)) (fun c_8 => absurd c_8 (by decide)) (fun c_8 => ?_)
    have hE1 : PE true pn ch s0 I0 (i + 1) (1, a, b, m, w, K, ro, p) (up2 I 6 2 (nI (i + 1))) := PE_s hE (by omega) (s0_1 (by omega))
    refine lv_aload_n hx hb dX1_readPart_11 rfl (lv_at hl 0 rfl) ?_
    refine lv_aload_n hx hb dX1_readPart_12 rfl (lv_at hl 1 rfl) ?_
    refine q_kI1 (q_rV (As := [.ref (ad 1)]) (rest := []) (x := 6) hC hW mw_X1_readBegin gw_315 (k_readBeginM l G n ad H.size (up2 I 6 2 (nI (i + 1))) L R pn ch s0 I0 (i + 1) a b m p w K ro hn hlk hE1 hWo) (by omega) (ct_o1 kd_6) rfl ⟨rfl, rfl⟩ ⟨Nat.le_of_ble_eq_true rfl, Nat.le_of_ble_eq_true rfl⟩ ⟨Nat.le_of_ble_eq_true rfl, Nat.le_of_ble_eq_true rfl⟩ hl.1 rfl rfl (Nat.le_of_ble_eq_true rfl) dX1_readPart_13) hW (fun r_13 I_13 L_13 H locs hp hW => ?_)
    rcases hp with ⟨rfl, ⟨i_13, q_13, a_13, b_13, m_13, p_13, w_13, K_13, r_13, hT_13, hq_13, hr_13, hi_13, hs_13, he_13⟩, hU_13, rfl⟩ | ⟨rfl, hF_13, hU_13, rfl⟩
    ·
      exact q_zret1 hC hW hr hlk0 rfl (Or.inl ⟨rfl, ⟨_, _, _, _, _, _, _, _, _, hT_13, hq_13, hr_13, by omega, hs_13, he_13⟩, (by rw [hU_13]; rw [up2_at, if_neg (by decide)]), rfl⟩) dX1_readPart_16
    ·
      exact q_zret1 hC hW hr hlk0 rfl (Or.inr ⟨rfl, hF_13, (by rw [hU_13]; rw [up2_at, if_neg (by decide)]), rfl⟩) dX1_readPart_16
  ·
    refine q_ieq (tgt := 17) hx hb dX1_readPart_8 (by decide) (by first | omega | exact Nat.lt_of_le_of_lt (hw3 _) (by decide)) (fun c_8 => ?_) (fun c_8 => absurd c_8 (by decide))
    refine lv_aload_n hx hb dX1_readPart_17 rfl (lv_at hl 0 rfl) ?_
    refine q_bp 33 hx hb dX1_readPart_18 (by decide) ?_
    refine q_bp 33 hx hb dX1_readPart_20 (by decide) ?_
    refine q_kI1 (q_rV (As := [.int (nI 33), .int (nI 33)]) (rest := []) (x := 6) hC hW mw_X1_accept gw_311 (k_accept l G n ad H.size I L R 33 33 pn ch (i) hn hlk hP0 ha0 (by omega) (by omega) (by omega)) (by omega) (ct_o1 kd_6) rfl ⟨rfl, rfl⟩ ⟨Nat.le_of_ble_eq_true rfl, Nat.le_of_ble_eq_true rfl⟩ ⟨Nat.le_of_ble_eq_true rfl, Nat.le_of_ble_eq_true rfl⟩ hl.1 rfl rfl (Nat.le_of_ble_eq_true rfl) dX1_readPart_22) hW (fun r_22 I_22 L_22 H locs hp hW => ?_)
    rcases hp with ⟨ha_22, hb_22, hc_22, rfl, rfl, rfl⟩ | ⟨hx_22, rfl, rfl, rfl⟩
    ·
      refine q_ieq (tgt := 34) hx hb dX1_readPart_25 (by decide) (by first | omega | exact Nat.lt_of_le_of_lt (hw3 _) (by decide)) (fun c_25 => absurd c_25 (by decide)) (fun c_25 => ?_)
      refine lv_aload_n hx hb dX1_readPart_28 rfl (lv_at hl 0 rfl) ?_
      refine lv_aload_n hx hb dX1_readPart_29 rfl (lv_at hl 1 rfl) ?_
      refine q_kI1 (q_rV (As := [.ref (ad 1)]) (rest := []) (x := 6) hC hW mw_X1_readRow gw_327 (k_readRowM l G n ad H.size (up2 I 6 2 (nI (i + 1))) L R pn ch s0 I0 (i + 1) a b m p w K ro hn hlk (by rw [stT_s hE.1]; exact s0_8 (by omega)) (by omega) (PadI_at hP0 2 (Or.inl rfl) _) (by rw [up2_at, if_pos ⟨rfl, rfl⟩]) (MdI_lo hMd (fun a ha => up2_ne (by omega))) (fun a h1 h2 h3 h6 => by rw [up2_ne h6]; exact hE.2.2.2.2.2 a h1 h2 h3 h6)) (by omega) (ct_o1 kd_6) rfl ⟨rfl, rfl⟩ ⟨Nat.le_of_ble_eq_true rfl, Nat.le_of_ble_eq_true rfl⟩ ⟨Nat.le_of_ble_eq_true rfl, Nat.le_of_ble_eq_true rfl⟩ hl.1 rfl rfl (Nat.le_of_ble_eq_true rfl) dX1_readPart_30) hW (fun r_30 I_30 L_30 H locs hp hW => ?_)
      obtain ⟨rfl, ⟨i_30, q_30, a_30, b_30, m_30, p_30, w_30, K_30, r_30, hT_30, hq_30, hr_30, hi_30, hs_30, he_30⟩, hU_30, rfl⟩ := hp
      exact q_zret1 hC hW hr hlk0 rfl (Or.inl ⟨rfl, ⟨_, _, _, _, _, _, _, _, _, hT_30, hq_30, hr_30, by omega, hs_30, he_30⟩, (by rw [hU_30]; rw [up2_at, if_neg (by decide)]), rfl⟩) dX1_readPart_33
    ·
      refine q_ieq (tgt := 34) hx hb dX1_readPart_25 (by decide) (by first | omega | exact Nat.lt_of_le_of_lt (hw3 _) (by decide)) (fun c_25 => ?_) (fun c_25 => absurd c_25 (by decide))
      refine lv_aload_n hx hb dX1_readPart_34 rfl (lv_at hl 0 rfl) ?_
      refine q_bp 48 hx hb dX1_readPart_35 (by decide) ?_
      refine q_bp 53 hx hb dX1_readPart_37 (by decide) ?_
      refine q_kI1 (q_rV (As := [.int (nI 48), .int (nI 53)]) (rest := []) (x := 6) hC hW mw_X1_accept gw_311 (k_accept l G n ad H.size I L R 48 53 pn ch (i) hn hlk hP0 ha0 (by omega) (by omega) (by omega)) (by omega) (ct_o1 kd_6) rfl ⟨rfl, rfl⟩ ⟨Nat.le_of_ble_eq_true rfl, Nat.le_of_ble_eq_true rfl⟩ ⟨Nat.le_of_ble_eq_true rfl, Nat.le_of_ble_eq_true rfl⟩ hl.1 rfl rfl (Nat.le_of_ble_eq_true rfl) dX1_readPart_39) hW (fun r_39 I_39 L_39 H locs hp hW => ?_)
      rcases hp with ⟨ha_39, hb_39, hc_39, rfl, rfl, rfl⟩ | ⟨hx_39, rfl, rfl, rfl⟩
      ·
        refine q_ine (tgt := 47) hx hb dX1_readPart_42 (by decide) (by first | omega | exact Nat.lt_of_le_of_lt (hw3 _) (by decide)) (fun c_42 => ?_) (fun c_42 => absurd c_42 (by decide))
        have hE1 : PE true pn ch s0 I0 (i + 1) (3, ch i - 48, b, m, w, K, ro, p) (up2 I 6 2 (nI (i + 1))) := PE_s hE (by omega) (s0_3 (by omega) (by omega))
        refine lv_aload_n hx hb dX1_readPart_47 rfl (lv_at hl 0 rfl) ?_
        refine q_kI0 (q_rV (As := []) (rest := []) (x := 6) hC hW mw_X1_latest gw_319 (k_latest l G n ad H.size (up2 I 6 2 (nI (i + 1))) L R pn ch i hn hlk (PadI_at hP0 2 (Or.inl rfl) _) (show up2 I 6 2 (nI (i + 1)) 6 2 = nI (i + 1) by rw [up2_at, if_pos ⟨rfl, rfl⟩]) (by omega)) (by omega) (ct_o1 kd_6) rfl ⟨rfl, rfl⟩ ⟨Nat.le_of_ble_eq_true rfl, Nat.le_of_ble_eq_true rfl⟩ ⟨Nat.le_of_ble_eq_true rfl, Nat.le_of_ble_eq_true rfl⟩ hl.1 rfl rfl (Nat.le_of_ble_eq_true rfl) dX1_readPart_48) hW (fun r_48 H locs hp hW => ?_)
        subst hp
        have hcl_48 := hch i
        refine q_bp 48 hx hb dX1_readPart_51 (by decide) ?_
        refine q_isub hx hb dX1_readPart_53 (by omega) ?_
        refine lv_istore_n (lv' := [(2, .int (nI ((ch i) - 48))), (0, .ref (ad 6)), (1, .ref (ad 1))]) hx hb dX1_readPart_54 rfl hl (by decide) rfl (fun ls hl => ?_)
        refine lv_aload_n hx hb dX1_readPart_55 rfl (lv_at hl 1 rfl) ?_
        refine q_bp 62 hx hb dX1_readPart_56 (by decide) ?_
        refine q_bp 62 hx hb dX1_readPart_58 (by decide) ?_
        refine q_kI1 (q_rV (As := [.int (nI 62), .int (nI 62)]) (rest := []) (x := 6) hC hW mw_X1_accept gw_311 (k_accept l G n ad H.size (up2 I 6 2 (nI (i + 1))) L R 62 62 pn ch (i + 1) hn hlk (PadI_at hP0 2 (Or.inl rfl) _) (show up2 I 6 2 (nI (i + 1)) 6 2 = nI (i + 1) by rw [up2_at, if_pos ⟨rfl, rfl⟩]) (by omega) (by omega) (by omega)) (by omega) (ct_o1 kd_6) rfl ⟨rfl, rfl⟩ ⟨Nat.le_of_ble_eq_true rfl, Nat.le_of_ble_eq_true rfl⟩ ⟨Nat.le_of_ble_eq_true rfl, Nat.le_of_ble_eq_true rfl⟩ hl.1 rfl rfl (Nat.le_of_ble_eq_true rfl) dX1_readPart_60) hW (fun r_60 I_60 L_60 H locs hp hW => ?_)
        rcases hp with ⟨ha_60, hb_60, hc_60, rfl, rfl, rfl⟩ | ⟨hx_60, rfl, rfl, rfl⟩
        ·
          refine q_ieq (tgt := 73) hx hb dX1_readPart_63 (by decide) (by first | omega | exact Nat.lt_of_le_of_lt (hw3 _) (by decide)) (fun c_63 => absurd c_63 (by decide)) (fun c_63 => ?_)
          have hE2 : PE true pn ch s0 I0 (i + 1 + 1) (4, ch i - 48, b, m, w, K, ro, p) (up2 (up2 I 6 2 (nI (i + 1))) 6 2 (nI (i + 1 + 1))) := PE_s hE1 (by omega) (s3_4 (by omega))
          refine lv_aload_n hx hb dX1_readPart_66 rfl (lv_at hl 1 rfl) ?_
          refine lv_aload_n hx hb dX1_readPart_67 rfl (lv_at hl 2 rfl) ?_
          refine lv_iload_n hx hb dX1_readPart_68 rfl (lv_at hl 0 rfl) ?_
          refine q_kI1 (q_rV (As := [.ref (ad 1), .int (nI ((ch i) - 48))]) (rest := []) (x := 6) hC hW mw_X1_readStep gw_332 (k_readStepM l G n ad H.size (up2 (up2 I 6 2 (nI (i + 1))) 6 2 (nI (i + 1 + 1))) L R pn ch s0 I0 (i + 1 + 1) (ch i - 48) b m p w K ro hn hlk hE2 (by omega) hWo) (by omega) (ct_o1 kd_6) rfl ⟨rfl, rfl⟩ ⟨Nat.le_of_ble_eq_true rfl, Nat.le_of_ble_eq_true rfl⟩ ⟨Nat.le_of_ble_eq_true rfl, Nat.le_of_ble_eq_true rfl⟩ hl.1 rfl rfl (Nat.le_of_ble_eq_true rfl) dX1_readPart_69) hW (fun r_69 I_69 L_69 H locs hp hW => ?_)
          rcases hp with ⟨rfl, ⟨i_69, q_69, a_69, b_69, m_69, p_69, w_69, K_69, r_69, hT_69, hq_69, hr_69, hi_69, hs_69, he_69⟩, hU_69, rfl⟩ | ⟨rfl, hF_69, hU_69, rfl⟩
          ·
            exact q_zret1 hC hW hr hlk0 rfl (Or.inl ⟨rfl, ⟨_, _, _, _, _, _, _, _, _, hT_69, hq_69, hr_69, by omega, hs_69, he_69⟩, (by rw [hU_69]; rw [up2_at, if_neg (by decide), up2_at, if_neg (by decide)]), rfl⟩) dX1_readPart_72
          ·
            exact q_zret1 hC hW hr hlk0 rfl (Or.inr ⟨rfl, hF_69, (by rw [hU_69]; rw [up2_at, if_neg (by decide), up2_at, if_neg (by decide)]), rfl⟩) dX1_readPart_72
        ·
          refine q_ieq (tgt := 73) hx hb dX1_readPart_63 (by decide) (by first | omega | exact Nat.lt_of_le_of_lt (hw3 _) (by decide)) (fun c_63 => ?_) (fun c_63 => absurd c_63 (by decide))
          refine lv_iload_n hx hb dX1_readPart_73 rfl (lv_at hl 0 rfl) ?_
          refine q_ic 4 hx hb dX1_readPart_74 (by decide) ?_
          refine q_cge (tgt := 102) hx hb dX1_readPart_75 (by decide) (by first | omega | exact Nat.lt_of_le_of_lt (hw3 _) (by decide)) (by first | omega | exact Nat.lt_of_le_of_lt (hw3 _) (by decide)) (fun c_75 => ?_) (fun c_75 => ?_)
          ·
            refine q_ic 0 hx hb dX1_readPart_102 (by decide) ?_
            exact q_zret1 hC hW hr hlk0 rfl (Or.inr ⟨rfl, PE_f hE1 (by by_cases h9 : i + 1 < pn; (exact Or.inl ⟨h9, s3_n (by omega) (by omega)⟩); exact Or.inr ⟨by omega, (show 3 < 8 by decide)⟩), by rw [up2_at, if_neg (by decide)], rfl⟩) dX1_readPart_103
          ·
            refine lv_aload_n hx hb dX1_readPart_78 rfl (lv_at hl 1 rfl) ?_
            refine q_bp 61 hx hb dX1_readPart_79 (by decide) ?_
            refine q_bp 61 hx hb dX1_readPart_81 (by decide) ?_
            refine q_kI1 (q_rV (As := [.int (nI 61), .int (nI 61)]) (rest := []) (x := 6) hC hW mw_X1_accept gw_311 (k_accept l G n ad H.size (up2 I 6 2 (nI (i + 1))) L R 61 61 pn ch (i + 1) hn hlk (PadI_at hP0 2 (Or.inl rfl) _) (show up2 I 6 2 (nI (i + 1)) 6 2 = nI (i + 1) by rw [up2_at, if_pos ⟨rfl, rfl⟩]) (by omega) (by omega) (by omega)) (by omega) (ct_o1 kd_6) rfl ⟨rfl, rfl⟩ ⟨Nat.le_of_ble_eq_true rfl, Nat.le_of_ble_eq_true rfl⟩ ⟨Nat.le_of_ble_eq_true rfl, Nat.le_of_ble_eq_true rfl⟩ hl.1 rfl rfl (Nat.le_of_ble_eq_true rfl) dX1_readPart_83) hW (fun r_83 I_83 L_83 H locs hp hW => ?_)
            rcases hp with ⟨ha_83, hb_83, hc_83, rfl, rfl, rfl⟩ | ⟨hx_83, rfl, rfl, rfl⟩
            ·
              refine q_ieq (tgt := 102) hx hb dX1_readPart_86 (by decide) (by first | omega | exact Nat.lt_of_le_of_lt (hw3 _) (by decide)) (fun c_86 => absurd c_86 (by decide)) (fun c_86 => ?_)
              have hE2 : PE true pn ch s0 I0 (i + 1 + 1) (6, ch i - 48, b, m, w, K, ro, p) (up2 (up2 I 6 2 (nI (i + 1))) 6 2 (nI (i + 1 + 1))) := PE_s hE1 (by omega) (s3_6 (by omega) (by omega))
              refine lv_aload_n hx hb dX1_readPart_89 rfl (lv_at hl 1 rfl) ?_
              refine lv_aload_n hx hb dX1_readPart_90 rfl (lv_at hl 2 rfl) ?_
              refine lv_iload_n hx hb dX1_readPart_91 rfl (lv_at hl 0 rfl) ?_
              refine q_kI1 (q_rV (As := [.ref (ad 1), .int (nI ((ch i) - 48))]) (rest := []) (x := 6) hC hW mw_X1_readLetter gw_337 (k_readLetterM l G n ad H.size (up2 (up2 I 6 2 (nI (i + 1))) 6 2 (nI (i + 1 + 1))) L R pn ch s0 I0 (i + 1 + 1) (ch i - 48) b m p w K ro hn hlk hE2 (by omega) hWo) (by omega) (ct_o1 kd_6) rfl ⟨rfl, rfl⟩ ⟨Nat.le_of_ble_eq_true rfl, Nat.le_of_ble_eq_true rfl⟩ ⟨Nat.le_of_ble_eq_true rfl, Nat.le_of_ble_eq_true rfl⟩ hl.1 rfl rfl (Nat.le_of_ble_eq_true rfl) dX1_readPart_92) hW (fun r_92 I_92 L_92 H locs hp hW => ?_)
              rcases hp with ⟨rfl, ⟨i_92, q_92, a_92, b_92, m_92, p_92, w_92, K_92, r_92, hT_92, hq_92, hr_92, hi_92, hs_92, he_92⟩, hU_92, rfl⟩ | ⟨rfl, hF_92, hU_92, rfl⟩
              ·
                refine q_ieq (tgt := 102) hx hb dX1_readPart_95 (by decide) (by first | omega | exact Nat.lt_of_le_of_lt (hw3 _) (by decide)) (fun c_95 => absurd c_95 (by decide)) (fun c_95 => ?_)
                refine q_ic 1 hx hb dX1_readPart_98 (by decide) ?_
                refine lv_goto (tgt := 103) hx hb dX1_readPart_99 (by decide) ?_
                exact q_zret1 hC hW hr hlk0 rfl (Or.inl ⟨rfl, ⟨_, _, _, _, _, _, _, _, _, hT_92, hq_92, hr_92, by omega, hs_92, he_92⟩, (by rw [hU_92]; rw [up2_at, if_neg (by decide), up2_at, if_neg (by decide)]), rfl⟩) dX1_readPart_103
              ·
                refine q_ieq (tgt := 102) hx hb dX1_readPart_95 (by decide) (by first | omega | exact Nat.lt_of_le_of_lt (hw3 _) (by decide)) (fun c_95 => ?_) (fun c_95 => absurd c_95 (by decide))
                refine q_ic 0 hx hb dX1_readPart_102 (by decide) ?_
                exact q_zret1 hC hW hr hlk0 rfl (Or.inr ⟨rfl, hF_92, (by rw [hU_92]; rw [up2_at, if_neg (by decide), up2_at, if_neg (by decide)]), rfl⟩) dX1_readPart_103
            ·
              refine q_ieq (tgt := 102) hx hb dX1_readPart_86 (by decide) (by first | omega | exact Nat.lt_of_le_of_lt (hw3 _) (by decide)) (fun c_86 => ?_) (fun c_86 => absurd c_86 (by decide))
              refine q_ic 0 hx hb dX1_readPart_102 (by decide) ?_
              exact q_zret1 hC hW hr hlk0 rfl (Or.inr ⟨rfl, PE_f hE1 (by by_cases h9 : i + 1 < pn; (exact Or.inl ⟨h9, s3_n (by omega) (by omega)⟩); exact Or.inr ⟨by omega, (show 3 < 8 by decide)⟩), by rw [up2_at, if_neg (by decide)], rfl⟩) dX1_readPart_103
      ·
        refine q_ine (tgt := 47) hx hb dX1_readPart_42 (by decide) (by first | omega | exact Nat.lt_of_le_of_lt (hw3 _) (by decide)) (fun c_42 => absurd c_42 (by decide)) (fun c_42 => ?_)
        refine q_ic 0 hx hb dX1_readPart_45 (by decide) ?_
        exact q_zret1 hC hW hr hlk0 rfl (Or.inr ⟨rfl, PE_f hE (by by_cases h9 : i < pn; (exact Or.inl ⟨h9, s0_n (by omega) (by omega) (by omega)⟩); exact Or.inr ⟨by omega, (show 0 < 8 by decide)⟩), rfl, rfl⟩) dX1_readPart_46
set_option maxRecDepth 100000 in
set_option maxHeartbeats 4000000 in
theorem k_readM (l : Launch) (G : Gx) (n : Nat) (ad : Nat → Nat) (sz : Nat) (I : Ic) (L : Lc) (R : Rc) (pn : Nat) (ch : Nat → Nat) (w : Nat → Nat) (K : Nat) (ro : Nat → Nat) (hn : 83 ≤ n) (hlk : LkOK n R) (hP : PadI I pn ch) (hM : MdI I w K ro) : Met l yX1_read (Cond.code yX1_read cX1_read 2 (some .boolean) :: GW) ({ frames := 4, cells := 0, slots := 0, locals := 144 } : Room) (qPre G n ad sz I L R [.ref (ad 6), .ref (ad 1)]) (qI1 G (qA n ad sz) n ad R (fun z I1 L1 => (z = nI 1 ∧ (∃ q1 a1 b1 m1 w1 K1 r1 p1, OKT pn ch (0, 0, 0, 0, w, K, ro, 0) (q1, a1, b1, m1, w1, K1, r1, p1) ∧ I1 6 3 = nI (p1 + 1) ∧ PadI I1 pn ch ∧ MdI I1 w1 K1 r1 ∧ ∀ a, a ≠ 1 → a ≠ 2 → a ≠ 3 → a ≠ 6 → I1 a = I a) ∧ L = L1) ∨ (z = nI 0 ∧ PFl true pn ch (0, 0, 0, 0, w, K, ro, 0) I I1 ∧ L = L1))) 0 0 (qA n ad sz) := by
  refine q_met (by decide) (Nat.le_of_ble_eq_true rfl) ?_
  intro p_ e_ s m_ below meth c_ hC hr hlk0 hin hsz hW ls hl
  subst hsz
  have hC : CallFix p_ m_ c_ cX1_read 2 s ([.ref (ad 6), .ref (ad 1)] : List Value).toArray GW "CoinRows$Pad" := hC
  have hx := hC.1
  have hb := hC.2.1
  have hp80 := hP.2.1
  have hch := hP.2.2.2
  have hl : lv_has ls 2 [(0, .ref (ad 6)), (1, .ref (ad 1))] := hl
  refine lv_aload_n hx hb dX1_read_0 rfl (lv_at hl 0 rfl) ?_
  refine q_ic 0 hx hb dX1_read_1 (by decide) ?_
  refine p_1_2 (x := 6) (v := nI 0) hC hW (by omega) kd_6 gw_55 dX1_read_2 (fun H locs hW => ?_)
  refine lv_aload_n hx hb dX1_read_5 rfl (lv_at hl 0 rfl) ?_
  refine q_ic 0 hx hb dX1_read_6 (by decide) ?_
  refine p_1_3 (x := 6) (v := nI 0) hC hW (by omega) kd_6 gw_57 dX1_read_7 (fun H locs hW => ?_)
  have lp_10 : ∀ (fu_10 : Nat) (i : Nat) (a : Nat) (b : Nat) (m : Nat) (p : Nat) (w1 : Nat → Nat) (K1 : Nat) (r1 : Nat → Nat) (I1 : Ic), 81 - i < fu_10 → (PE true pn ch (0, 0, 0, 0, w, K, ro, 0) I i (0, a, b, m, w1, K1, r1, p) I1) → (I1 6 3 = nI p) → (2 * p ≤ i) → ∀ (H : Heap) (locs : List Loc), Wd G n ad I1 L R (qA n ad s.heap.size) s.heap H locs s → ∀ ls : Array Slot, lv_has ls 2 [(0, .ref (ad 6)), (1, .ref (ad 1))] → W p_ l e_ ({ frames := 4, cells := 0, slots := 0, locals := 144 } : Room) s m_ ([.ref (ad 6), .ref (ad 1)] : List Value).toArray below meth c_ H locs 0 0 (MQ below (qI1 G (qA n ad s.heap.size) n ad R (fun z I1 L1 => (z = nI 1 ∧ (∃ q1 a1 b1 m1 w1 K1 r1 p1, OKT pn ch (0, 0, 0, 0, w, K, ro, 0) (q1, a1, b1, m1, w1, K1, r1, p1) ∧ I1 6 3 = nI (p1 + 1) ∧ PadI I1 pn ch ∧ MdI I1 w1 K1 r1 ∧ ∀ a, a ≠ 1 → a ≠ 2 → a ≠ 3 → a ≠ 6 → I1 a = I a) ∧ L = L1) ∨ (z = nI 0 ∧ PFl true pn ch (0, 0, 0, 0, w, K, ro, 0) I I1 ∧ L = L1))) ([.ref (ad 6), .ref (ad 1)] : List Value).toArray s 0 0 (qA n ad s.heap.size)) (F0 m_ 10 ls []) := by
    intro fu_10
    induction fu_10 with
    | zero =>
      intro i a b m p w1 K1 r1 I1 hm; exact absurd hm (Nat.not_lt_zero _)
    | succ fu_10 ih_10 =>
      intro i a b m p w1 K1 r1 I1 hm_10 hE h31 hpi H locs hW ls hl
      have hi80 := hE.2.1
      refine lv_aload_n hx hb dX1_read_10 rfl (lv_at hl 0 rfl) ?_
      refine g_1_3 (x := 6) hC hW (by omega) kd_6 gw_57 dX1_read_11 ?_
      refine q_top (v2 := .int (nI (p))) (congrArg _ h31) ?_
      refine q_bp 80 hx hb dX1_read_14 (by decide) ?_
      refine q_cge (tgt := 65) hx hb dX1_read_16 (by decide) (by first | omega | exact Nat.lt_of_le_of_lt (hw3 _) (by decide)) (by first | omega | exact Nat.lt_of_le_of_lt (hw3 _) (by decide)) (fun c_16 => absurd c_16 (by omega)) (fun c_16 => ?_)
      refine lv_aload_n hx hb dX1_read_19 rfl (lv_at hl 0 rfl) ?_
      refine lv_aload_n hx hb dX1_read_20 rfl (lv_at hl 1 rfl) ?_
      refine q_kI1 (q_rV (As := [.ref (ad 1)]) (rest := []) (x := 6) hC hW mw_X1_readPart gw_307 (k_readPartM l G n ad H.size I1 L R pn ch (0, 0, 0, 0, w, K, ro, 0) I i a b m p w1 K1 r1 hn hlk hE) (by omega) (ct_o1 kd_6) rfl ⟨rfl, rfl⟩ ⟨Nat.le_of_ble_eq_true rfl, Nat.le_of_ble_eq_true rfl⟩ ⟨Nat.le_of_ble_eq_true rfl, Nat.le_of_ble_eq_true rfl⟩ hl.1 rfl rfl (Nat.le_of_ble_eq_true rfl) dX1_read_21) hW (fun r_21 I_21 L_21 H locs hp hW => ?_)
      rcases hp with ⟨rfl, ⟨i_21, q_21, a_21, b_21, m_21, p_21, w_21, K_21, r_21, hT_21, hq_21, hr_21, hi_21, hs_21, rfl⟩, hU_21, rfl⟩ | ⟨rfl, hF_21, hU_21, rfl⟩
      ·
        refine q_ine (tgt := 29) hx hb dX1_read_24 (by decide) (by first | omega | exact Nat.lt_of_le_of_lt (hw3 _) (by decide)) (fun c_24 => ?_) (fun c_24 => absurd c_24 (by decide))
        refine lv_aload_n hx hb dX1_read_29 rfl (lv_at hl 0 rfl) ?_
        refine lv_dup hx hb dX1_read_30 rfl ?_
        refine g_1_3 (x := 6) hC hW (by omega) kd_6 gw_57 dX1_read_31 ?_
        refine q_top (v2 := .int (nI (p_21))) (congrArg _ (hU_21.trans h31)) ?_
        refine q_ic 1 hx hb dX1_read_34 (by decide) ?_
        refine q_iadd hx hb dX1_read_35 ?_
        refine p_1_3 (x := 6) (v := nI (p_21 + 1)) hC hW (by omega) kd_6 gw_57 dX1_read_36 (fun H locs hW => ?_)
        have hP2 := (PE_p hT_21 (nI (p_21 + 1))).2.2.1
        have ha2 := (PE_p hT_21 (nI (p_21 + 1))).2.2.2.1
        have hi2 := hT_21.2.1
        refine lv_aload_n hx hb dX1_read_39 rfl (lv_at hl 0 rfl) ?_
        refine g_1_2 (x := 6) hC hW (by omega) kd_6 gw_55 dX1_read_40 ?_
        refine q_top (v2 := .int (nI (i_21))) (congrArg _ ha2) ?_
        refine lv_aload_n hx hb dX1_read_43 rfl (lv_at hl 0 rfl) ?_
        refine g_1_1 (x := 6) hC hW (by omega) kd_6 gw_53 dX1_read_44 ?_
        refine q_top (v2 := .int (nI (pn))) (congrArg _ hP2.1) ?_
        refine q_clt (tgt := 52) hx hb dX1_read_47 (by decide) (by first | omega | exact Nat.lt_of_le_of_lt (hw3 _) (by decide)) (by first | omega | exact Nat.lt_of_le_of_lt (hw3 _) (by decide)) (fun c_47 => ?_) (fun c_47 => ?_)
        ·
          refine lv_aload_n hx hb dX1_read_52 rfl (lv_at hl 0 rfl) ?_
          refine q_bp 59 hx hb dX1_read_53 (by decide) ?_
          refine q_bp 59 hx hb dX1_read_55 (by decide) ?_
          refine q_kI1 (q_rV (As := [.int (nI 59), .int (nI 59)]) (rest := []) (x := 6) hC hW mw_X1_accept gw_311 (k_accept l G n ad H.size (up2 I_21 6 3 (nI (p_21 + 1))) L R 59 59 pn ch (i_21) hn hlk hP2 ha2 (by omega) (by omega) (by omega)) (by omega) (ct_o1 kd_6) rfl ⟨rfl, rfl⟩ ⟨Nat.le_of_ble_eq_true rfl, Nat.le_of_ble_eq_true rfl⟩ ⟨Nat.le_of_ble_eq_true rfl, Nat.le_of_ble_eq_true rfl⟩ hl.1 rfl rfl (Nat.le_of_ble_eq_true rfl) dX1_read_57) hW (fun r_57 I_57 L_57 H locs hp hW => ?_)
          rcases hp with ⟨ha_57, hb_57, hc_57, rfl, rfl, rfl⟩ | ⟨hx_57, rfl, rfl, rfl⟩
          ·
            refine q_ine (tgt := 10) hx hb dX1_read_60 (by decide) (by first | omega | exact Nat.lt_of_le_of_lt (hw3 _) (by decide)) (fun c_60 => ?_) (fun c_60 => absurd c_60 (by decide))
            exact ih_10 (i_21 + 1) a_21 b_21 m_21 (p_21 + 1) w_21 K_21 r_21 (up2 (up2 I_21 6 3 (nI (p_21 + 1))) 6 2 (nI (i_21 + 1))) (by omega) (PE_s (PE_p hT_21 _) (by omega) (by have h45 : q_21 = 8 ∨ q_21 = 9 := (by omega); rcases h45 with rfl | rfl; (exact s8_0 (by omega)); exact s9_0 (by omega))) (by rw [up2_at, if_neg (by decide), up2_at, if_pos ⟨rfl, rfl⟩]) (by omega) _ _ hW _ (lv_sub hl [0, 1] rfl)
          ·
            refine q_ine (tgt := 10) hx hb dX1_read_60 (by decide) (by first | omega | exact Nat.lt_of_le_of_lt (hw3 _) (by decide)) (fun c_60 => absurd c_60 (by decide)) (fun c_60 => ?_)
            refine q_ic 0 hx hb dX1_read_63 (by decide) ?_
            exact q_zret1 hC hW hr hlk0 rfl (Or.inr ⟨rfl, PE_f (PE_p hT_21 _) (Or.inl ⟨by omega, (by have h45 : q_21 = 8 ∨ q_21 = 9 := (by omega); rcases h45 with rfl | rfl; (exact s8_n (fun h => hs_21 rfl ⟨by omega, h⟩) (by omega)); exact s9_n (by omega))⟩), rfl⟩) dX1_read_64
        ·
          refine q_ic 1 hx hb dX1_read_50 (by decide) ?_
          exact q_zret1 hC hW hr hlk0 rfl (Or.inl ⟨rfl, ⟨_, _, _, _, _, _, _, _, ⟨(by rw [show pn = i_21 by have h9 := hT_21.2.1; omega]; exact hT_21.1), hq_21⟩, (by rw [up2_at, if_pos ⟨rfl, rfl⟩]), (PadI_at hT_21.2.2.1 3 (Or.inr rfl) _), MdI_lo hT_21.2.2.2.2.1 (fun a ha => up2_ne (by omega)), fun a h1 h2 h3 h6 => by rw [up2_ne h6]; exact hT_21.2.2.2.2.2 a h1 h2 h3 h6⟩, rfl⟩) dX1_read_51
      ·
        refine q_ine (tgt := 29) hx hb dX1_read_24 (by decide) (by first | omega | exact Nat.lt_of_le_of_lt (hw3 _) (by decide)) (fun c_24 => absurd c_24 (by decide)) (fun c_24 => ?_)
        refine q_ic 0 hx hb dX1_read_27 (by decide) ?_
        exact q_zret1 hC hW hr hlk0 rfl (Or.inr ⟨rfl, hF_21, rfl⟩) dX1_read_28
  exact lp_10 (81 + 1) 0 0 0 0 0 w K ro (up2 (up2 I 6 2 (nI 0)) 6 3 (nI 0)) (by omega) (⟨rfl, Nat.zero_le pn, PadI_at (PadI_at hP 2 (Or.inl rfl) _) 3 (Or.inr rfl) _, (by rw [up2_at, if_neg (by decide), up2_at, if_pos ⟨rfl, rfl⟩]), MdI_lo hM (fun a ha => by rw [up2_ne (by omega), up2_ne (by omega)]), fun a h1 h2 h3 h6 => by rw [up2_ne h6, up2_ne h6]⟩) (by rw [up2_at, if_pos ⟨rfl, rfl⟩]) (by omega) _ _ hW _ (lv_sub hl [0, 1] rfl)
