def cg (g : Nat → Nat) : Nat → Nat
  | 0 => 0
  | k + 1 => if g k = 0 then cg g k else cg g k + 1
theorem cg_W (w : Nat → Nat) : ∀ k, cntW w k = cg w k
  | 0 => rfl
  | k + 1 => by unfold cntW cg; rw [cg_W w k]
theorem cg_c {g h : Nat → Nat} : ∀ {k : Nat}, (∀ i, i < k → g i = h i) → cg g k = cg h k
  | 0, _ => rfl
  | k + 1, e => by unfold cg; rw [cg_c (fun i hi => e i (by omega)), e k (by omega)]
theorem cg_a (g : Nat → Nat) (a : Nat) : ∀ b, cg g (a + b) = cg g a + cg (fun i => g (a + i)) b
  | 0 => rfl
  | b + 1 => by
    show (if g (a + b) = 0 then cg g (a + b) else cg g (a + b) + 1) = cg g a + (if g (a + b) = 0 then cg (fun i => g (a + i)) b else cg (fun i => g (a + i)) b + 1)
    rw [cg_a g a b]
    split <;> omega
theorem cg_le (g : Nat → Nat) : ∀ k, cg g k ≤ k
  | 0 => Nat.le_refl 0
  | k + 1 => by
    have := cg_le g k
    unfold cg
    split <;> omega
theorem cg_58 (w : Nat → Nat) : cg (rwt w) 58 = cntW w 58 := by
  rw [cg_W]
  have a1 := cg_a (rwt w) 6 36
  have a2 := cg_a (rwt w) 42 16
  have b1 := cg_a w 36 6
  have b2 := cg_a w 42 16
  have e1 : cg (rwt w) 6 = cg (fun i => w (36 + i)) 6 := cg_c (fun i hi => by unfold rwt; rw [if_pos hi])
  have e2 : cg (fun i => rwt w (6 + i)) 36 = cg w 36 := cg_c (fun i hi => by
    show rwt w (6 + i) = w i
    unfold rwt
    rw [if_neg (by omega), if_pos (by omega)]
    congr 1
    omega)
  have e3 : cg (fun i => rwt w (42 + i)) 16 = cg (fun i => w (42 + i)) 16 := cg_c (fun i hi => by
    show rwt w (42 + i) = w (42 + i)
    unfold rwt
    rw [if_neg (by omega), if_neg (by omega)])
  have h1 : cg (rwt w) 58 = cg (rwt w) (42 + 16) := rfl
  have h2 : cg (rwt w) 42 = cg (rwt w) (6 + 36) := rfl
  have h3 : cg w 58 = cg w (42 + 16) := rfl
  have h4 : cg w 42 = cg w (36 + 6) := rfl
  omega

set_option maxRecDepth 100000 in
set_option maxHeartbeats 4000000 in
theorem k_rundo (l : Launch) (G : Gx) (n : Nat) (ad : Nat → Nat) (sz : Nat) (I : Ic) (L : Lc) (R : Rc)  (w : Nat → Nat) (K : Nat) (ro : Nat → Nat) (hc : Nat) (hi : Nat → CM) (sv : Nat → Option CM) (pn : Nat) (ch : Nat → Nat) (hI0 : InvB n I R ((w, K, ro), hc, hi, sv, pn, ch)) : Met l yX6_undo (Cond.code yX6_undo cX6_undo 2 (some .int) :: GW) ({ frames := 6, cells := 0, slots := 0, locals := 216 } : Room) (qPre G n ad sz I L R [.ref (ad 71)]) (qI1 G (qA n ad sz) n ad R (fun z I1 L1 => RR n I L R (aUndo ((w, K, ro), hc, hi, sv, pn, ch)) z I1 L1)) 0 0 (qA n ad sz) := by
  refine q_met (by decide) (Nat.le_of_ble_eq_true rfl) ?_
  intro p_ e_ s m_ below meth c_ hC hr hlk0 hin hsz hW ls hl
  subst hsz
  have hC : CallFix p_ m_ c_ cX6_undo 2 s ([.ref (ad 71)] : List Value).toArray GW "CoinRowsModel" := hC
  have hx := hC.1
  have hb := hC.2.1
  have hn : 83 ≤ n := hI0.1
  have hlk : LkOK n R := hI0.2.1
  have hN : NwI (I 72) w K ro := hI0.2.2.1
  have hH : HwB I hc hi := hI0.2.2.2.1
  have hSw : SwB I sv := hI0.2.2.2.2.1
  have hPd : PdB I pn ch := hI0.2.2.2.2.2
  have hh1 := hH.1
  have hh6 := hH.2.1
  have hp80 := hPd.2.1
  have hk6 : K ≤ 6 := hN.2.2.2.1
  have hw : Wok w := hN.2.2.2.2.1
  have hw3 : ∀ i, w i ≤ 3 := hw.1
  have hr4 : ∀ j, ro j < 4 := hN.2.2.2.2.2
  have hl : lv_has ls 2 [(0, .ref (ad 71))] := hl
  refine lv_aload_n hx hb dX6_undo_0 rfl (lv_at hl 0 rfl) ?_
  refine g_6_2 (x := 71) hC hW (by omega) kd_71 gw_485 dX6_undo_1 ?_
  refine q_top (v2 := .int (nI (hc))) (congrArg _ hh1) ?_
  refine q_ine (tgt := 10) hx hb dX6_undo_4 (by decide) (by first | omega | exact Nat.lt_of_le_of_lt (hw3 _) (by decide)) (fun c_4 => ?_) (fun c_4 => ?_)
  ·
    refine lv_aload_n hx hb dX6_undo_10 rfl (lv_at hl 0 rfl) ?_
    refine lv_dup hx hb dX6_undo_11 rfl ?_
    refine g_6_2 (x := 71) hC hW (by omega) kd_71 gw_485 dX6_undo_12 ?_
    refine q_top (v2 := .int (nI (hc))) (congrArg _ hh1) ?_
    refine q_ic 1 hx hb dX6_undo_15 (by decide) ?_
    refine q_isub hx hb dX6_undo_16 (by omega) ?_
    refine p_6_2 (x := 71) (v := nI (hc - 1)) hC hW (by omega) kd_71 gw_485 dX6_undo_17 (fun H locs hW => ?_)
    refine q_ic 0 hx hb dX6_undo_20 (by decide) ?_
    refine lv_istore_n (lv' := [(1, .int (nI 0)), (0, .ref (ad 71))]) hx hb dX6_undo_21 rfl hl (by decide) rfl (fun ls hl => ?_)
    have lp_22 : ∀ (fu_22 : Nat) (k1 : Nat) (I1 : Ic), 70 - k1 < fu_22 → (k1 ≤ 70) → (∀ q, I1 72 q = if q < k1 then I 73 (70 * (hc - 1) + q) else I 72 q) → (∀ a, a ≠ 72 → I1 a = (up2 I 71 2 (nI (hc - 1))) a) → ∀ (H : Heap) (locs : List Loc), Wd G n ad I1 L R (qA n ad s.heap.size) s.heap H locs s → ∀ ls : Array Slot, lv_has ls 2 [(0, .ref (ad 71)), (1, .int (nI (k1)))] → W p_ l e_ ({ frames := 6, cells := 0, slots := 0, locals := 216 } : Room) s m_ ([.ref (ad 71)] : List Value).toArray below meth c_ H locs 0 0 (MQ below (qI1 G (qA n ad s.heap.size) n ad R (fun z I1 L1 => RR n I L R (aUndo ((w, K, ro), hc, hi, sv, pn, ch)) z I1 L1)) ([.ref (ad 71)] : List Value).toArray s 0 0 (qA n ad s.heap.size)) (F0 m_ 22 ls []) := by
      intro fu_22
      induction fu_22 with
      | zero =>
        intro k1 I1 hm; exact absurd hm (Nat.not_lt_zero _)
      | succ fu_22 ih_22 =>
        intro k1 I1 hm_22 hk70 hJ hJ2 H locs hW ls hl
        refine lv_iload_n hx hb dX6_undo_22 rfl (lv_at hl 1 rfl) ?_
        refine q_bp 70 hx hb dX6_undo_23 (by decide) ?_
        refine q_cge (tgt := 54) hx hb dX6_undo_25 (by decide) (by first | omega | exact Nat.lt_of_le_of_lt (hw3 _) (by decide)) (by first | omega | exact Nat.lt_of_le_of_lt (hw3 _) (by decide)) (fun c_25 => ?_) (fun c_25 => ?_)
        ·
          refine lv_aload_n hx hb dX6_undo_54 rfl (lv_at hl 0 rfl) ?_
          refine g_6_2 (x := 71) hC hW (by omega) kd_71 gw_485 dX6_undo_55 ?_
          refine q_top (v2 := .int (nI (hc - 1))) (congrArg _ (by rw [hJ2 71 (by decide), up2_at, if_pos ⟨rfl, rfl⟩])) ?_
          have e70 : k1 = 70 := by omega
          subst e70
          have hh3 := hH.2.2
          exact q_iret1 hC hW hr hlk0 (RR_i (a' := (nI (hc - 1), (hi (hc - 1), hc - 1, hi, sv, pn, ch))) (by simp only [aUndo, if_neg (show ¬ hc = 0 from c_4)]) ⟨rfl, ⟨⟨hn, hlk, (show NwA (I1 72) (hi (hc - 1)) from NwI_c (hh3 (hc - 1) (by omega)) (fun k hk => by rw [hJ, if_pos hk])), (show HwB I1 (hc - 1) hi from ⟨by rw [hJ2 71 (by decide), up2_at, if_pos ⟨rfl, rfl⟩], by omega, fun i hlt => by rw [hJ2 73 (by decide), up2_ne (by decide)]; exact hh3 i (by omega)⟩), (show SwB I1 sv from SwB_fr hSw (by rw [hJ2 74 (by decide), up2_ne (by decide)]) (by rw [hJ2 75 (by decide), up2_ne (by decide)])), (show PdB I1 pn ch from PdB_fr hPd (by rw [hJ2 71 (by decide), up2_nr2 (by decide)]) (by rw [hJ2 76 (by decide), up2_ne (by decide)]))⟩, fun a ha => ⟨by rw [hJ2 a (by omega), up2_ne (by omega)], rfl⟩⟩⟩) dX6_undo_58
        ·
          refine lv_aload_n hx hb dX6_undo_28 rfl (lv_at hl 0 rfl) ?_
          refine g_6_0 (x := 71) (y := 72) hC hW (by omega) kd_71 gw_483 (hlk 71 0 72 (by omega) rfl) dX6_undo_29 ?_
          refine lv_iload_n hx hb dX6_undo_32 rfl (lv_at hl 1 rfl) ?_
          refine lv_aload_n hx hb dX6_undo_33 rfl (lv_at hl 0 rfl) ?_
          refine g_6_1 (x := 71) (y := 73) hC hW (by omega) kd_71 gw_484 (hlk 71 1 73 (by omega) rfl) dX6_undo_34 ?_
          refine lv_aload_n hx hb dX6_undo_37 rfl (lv_at hl 0 rfl) ?_
          refine g_6_2 (x := 71) hC hW (by omega) kd_71 gw_485 dX6_undo_38 ?_
          refine q_top (v2 := .int (nI (hc - 1))) (congrArg _ (by rw [hJ2 71 (by decide), up2_at, if_pos ⟨rfl, rfl⟩])) ?_
          refine q_bp 70 hx hb dX6_undo_41 (by decide) ?_
          refine q_imul hx hb dX6_undo_43 ?_
          refine lv_iload_n hx hb dX6_undo_44 rfl (lv_at hl 1 rfl) ?_
          refine q_iadd hx hb dX6_undo_45 ?_
          refine q_iald (x := 73) (i := ((hc - 1) * 70) + k1) hC hW (by omega) kd_73 (by omega) dX6_undo_46 ?_
          refine q_top (v2 := .int (I 73 (((hc - 1) * 70) + k1))) (congrArg _ (by rw [hJ2 73 (by decide), up2_ne (by decide)])) ?_
          refine q_iast (x := 72) (i := k1) (v := I 73 (((hc - 1) * 70) + k1)) hC hW (by omega) kd_72 (by omega) dX6_undo_47 (fun H locs hW => ?_)
          refine q_iinc (z2 := k1 + 1) (lv' := [(1, .int (nI (k1 + 1))), (0, .ref (ad 71))]) hx hb dX6_undo_48 hl (k := 1) rfl (inc_up _ 1 (by decide)) (by decide) rfl (fun ls hl => ?_)
          refine lv_goto (tgt := 22) hx hb dX6_undo_51 (by decide) ?_
          exact ih_22 (k1 + 1) (up2 I1 72 k1 (I 73 (((hc - 1) * 70) + k1))) (by omega) (by omega) (fun q => by rw [u2q]; by_cases e : q = k1; (rw [if_pos e, if_pos (by omega), e]; congr 1; omega); rw [if_neg e, hJ]; by_cases e2 : q < k1; (rw [if_pos e2, if_pos (by omega)]); rw [if_neg e2, if_neg (by omega)]) (fun a ha => by rw [up2_ne ha]; exact hJ2 a ha) _ _ hW _ (lv_sub hl [1, 0] rfl)
    exact lp_22 (70 + 1) 0 (up2 I 71 2 (nI (hc - 1))) (by omega) (by omega) (fun q => by rw [if_neg (by omega), up2_ne (by decide)]) (fun _ _ => rfl) _ _ hW _ (lv_sub hl [1, 0] rfl)
  ·
    refine lv_bipush (v := -5) hx hb dX6_undo_7 (by decide) ?_
    exact q_iret1 hC hW hr hlk0 (RR_i (a' := (-5, ((w, K, ro), hc, hi, sv, pn, ch))) (by simp only [aUndo, if_pos (show hc = 0 from c_4)]) ⟨rfl, PB_0 hI0⟩) dX6_undo_9
set_option maxRecDepth 100000 in
set_option maxHeartbeats 4000000 in
theorem k_rcount (l : Launch) (G : Gx) (n : Nat) (ad : Nat → Nat) (sz : Nat) (I : Ic) (L : Lc) (R : Rc) (what : Int32) (w : Nat → Nat) (K : Nat) (ro : Nat → Nat) (hc : Nat) (hi : Nat → CM) (sv : Nat → Option CM) (pn : Nat) (ch : Nat → Nat) (hI0 : InvB n I R ((w, K, ro), hc, hi, sv, pn, ch)) : Met l yX6_count (Cond.code yX6_count cX6_count 4 (some .int) :: GW) ({ frames := 6, cells := 0, slots := 0, locals := 216 } : Room) (qPre G n ad sz I L R [.ref (ad 71), .int (what)]) (qI1 G (qA n ad sz) n ad R (fun z I1 L1 => RR n I L R (aCount ((w, K, ro), hc, hi, sv, pn, ch) what, ((w, K, ro), hc, hi, sv, pn, ch)) z I1 L1)) 0 0 (qA n ad sz) := by
  refine q_met (by decide) (Nat.le_of_ble_eq_true rfl) ?_
  intro p_ e_ s m_ below meth c_ hC hr hlk0 hin hsz hW ls hl
  subst hsz
  have hC : CallFix p_ m_ c_ cX6_count 4 s ([.ref (ad 71), .int (what)] : List Value).toArray GW "CoinRowsModel" := hC
  have hx := hC.1
  have hb := hC.2.1
  have hn : 83 ≤ n := hI0.1
  have hlk : LkOK n R := hI0.2.1
  have hN : NwI (I 72) w K ro := hI0.2.2.1
  have hH : HwB I hc hi := hI0.2.2.2.1
  have hSw : SwB I sv := hI0.2.2.2.2.1
  have hPd : PdB I pn ch := hI0.2.2.2.2.2
  have hh1 := hH.1
  have hh6 := hH.2.1
  have hp80 := hPd.2.1
  have hk6 : K ≤ 6 := hN.2.2.2.1
  have hw : Wok w := hN.2.2.2.2.1
  have hw3 : ∀ i, w i ≤ 3 := hw.1
  have hr4 : ∀ j, ro j < 4 := hN.2.2.2.2.2
  have hrw : ∀ k, rwt w k ≤ 3 := fun k => by unfold rwt; split; (exact hw3 _); split <;> exact hw3 _
  have hl : lv_has ls 4 [(0, .ref (ad 71)), (1, .int (what))] := hl
  refine q_ic 0 hx hb dX6_count_0 (by decide) ?_
  refine lv_istore_n (lv' := [(2, .int (nI 0)), (0, .ref (ad 71)), (1, .int (what))]) hx hb dX6_count_1 rfl hl (by decide) rfl (fun ls hl => ?_)
  refine q_ic 0 hx hb dX6_count_2 (by decide) ?_
  refine lv_istore_n (lv' := [(3, .int (nI 0)), (2, .int (nI 0)), (0, .ref (ad 71)), (1, .int (what))]) hx hb dX6_count_3 rfl hl (by decide) rfl (fun ls hl => ?_)
  have lp_4 : ∀ (fu_4 : Nat) (k1 : Nat), 58 - k1 < fu_4 → (k1 ≤ 58) → ∀ (H : Heap) (locs : List Loc), Wd G n ad I L R (qA n ad s.heap.size) s.heap H locs s → ∀ ls : Array Slot, lv_has ls 4 [(0, .ref (ad 71)), (1, .int (what)), (2, .int (nI (cg (rwt w) k1))), (3, .int (nI (k1)))] → W p_ l e_ ({ frames := 6, cells := 0, slots := 0, locals := 216 } : Room) s m_ ([.ref (ad 71), .int (what)] : List Value).toArray below meth c_ H locs 0 0 (MQ below (qI1 G (qA n ad s.heap.size) n ad R (fun z I1 L1 => RR n I L R (aCount ((w, K, ro), hc, hi, sv, pn, ch) what, ((w, K, ro), hc, hi, sv, pn, ch)) z I1 L1)) ([.ref (ad 71), .int (what)] : List Value).toArray s 0 0 (qA n ad s.heap.size)) (F0 m_ 4 ls []) := by
    intro fu_4
    induction fu_4 with
    | zero =>
      intro k1 hm; exact absurd hm (Nat.not_lt_zero _)
    | succ fu_4 ih_4 =>
      intro k1 hm_4 hk58 H locs hW ls hl
      have hr1 := hrw k1
      refine lv_iload_n hx hb dX6_count_4 rfl (lv_at hl 3 rfl) ?_
      refine q_bp 58 hx hb dX6_count_5 (by decide) ?_
      refine q_cge (tgt := 33) hx hb dX6_count_7 (by decide) (by first | omega | exact Nat.lt_of_le_of_lt (hw3 _) (by decide)) (by first | omega | exact Nat.lt_of_le_of_lt (hw3 _) (by decide)) (fun c_7 => ?_) (fun c_7 => ?_)
      ·
        have e58 : k1 = 58 := by omega
        subst e58
        have hl : lv_has ls 4 [(0, .ref (ad 71)), (1, .int (what)), (2, .int (nI (cntW w 58))), (3, .int (nI 58))] := by rw [show cntW w 58 = cg (rwt w) 58 from (cg_58 w).symm]; exact hl
        refine lv_iload_n hx hb dX6_count_33 rfl (lv_at hl 1 rfl) ?_
        by_cases hsw_ : what.toInt < 0 ∨ 2 < what.toInt
        ·
          have hv_ : rng what 3 = none := rng_none.mpr (by omega)
          refine lv_tableOut (tgt := 75) hx hb dX6_count_34 hsw_ (by decide) ?_
          refine lv_iload_n hx hb dX6_count_75 rfl (lv_at hl 1 rfl) ?_
          refine q_ic 3 hx hb dX6_count_76 (by decide) ?_
          refine lv_icmp_ne (tgt := 87) hx hb dX6_count_77 (by decide) (fun c_77 => ?_) (fun c_77 => ?_)
          ·
            have hv4 : rng what 4 = none := rng_none.mpr (by have h8 := rng_none.mp hv_; have h9 : what.toInt ≠ 3 := fun q => c_77 (Int32.toInt_inj.mp (by rw [q]; decide)); omega)
            refine lv_bipush (v := -2) hx hb dX6_count_87 (by decide) ?_
            exact q_iret1 hC hW hr hlk0 (RR_i (a' := (-2, ((w, K, ro), hc, hi, sv, pn, ch))) (by simp only [aCount, hv4]) ⟨rfl, PB_0 hI0⟩) dX6_count_89
          ·
            have hw9 : what = nI 3 := c_77
            subst hw9
            refine lv_aload_n hx hb dX6_count_80 rfl (lv_at hl 0 rfl) ?_
            refine g_6_2 (x := 71) hC hW (by omega) kd_71 gw_485 dX6_count_81 ?_
            refine q_top (v2 := .int (nI (hc))) (congrArg _ hh1) ?_
            refine lv_goto (tgt := 89) hx hb dX6_count_84 (by decide) ?_
            exact q_iret1 hC hW hr hlk0 (RR_i (a' := (nI hc, ((w, K, ro), hc, hi, sv, pn, ch))) (by simp only [aCount, rng_nI (show 3 < 4 by decide) (by decide)]) ⟨rfl, PB_0 hI0⟩) dX6_count_89
        ·
          obtain ⟨u_, hu_, rfl⟩ := rng_ex (N := 3) (x := what) (by decide) (by omega) (by omega)
          have hu9 : u_ = 0 ∨ u_ = 1 ∨ u_ = 2 := by omega
          rcases hu9 with rfl | rfl | rfl
          ·
            refine lv_tableIn (off := 26) (tgt := 60) hx hb dX6_count_34 (by decide) (by decide) rfl (by decide) ?_
            refine lv_aload_n hx hb dX6_count_60 rfl (lv_at hl 0 rfl) ?_
            refine g_6_0 (x := 71) (y := 72) hC hW (by omega) kd_71 gw_483 (hlk 71 0 72 (by omega) rfl) dX6_count_61 ?_
            refine q_bp 58 hx hb dX6_count_64 (by decide) ?_
            refine q_iald (x := 72) (i := 58) hC hW (by omega) kd_72 (by omega) dX6_count_66 ?_
            refine q_top (v2 := .int (nI (K))) (congrArg _ hN.2.1) ?_
            exact q_iret1 hC hW hr hlk0 (RR_i (a' := (nI (K), ((w, K, ro), hc, hi, sv, pn, ch))) (by simp only [aCount, rng_nI (show 0 < 4 by decide) (by decide)]) ⟨rfl, PB_0 hI0⟩) dX6_count_67
          ·
            refine lv_tableIn (off := 34) (tgt := 68) hx hb dX6_count_34 (by decide) (by decide) rfl (by decide) ?_
            refine lv_iload_n hx hb dX6_count_68 rfl (lv_at hl 2 rfl) ?_
            exact q_iret1 hC hW hr hlk0 (RR_i (a' := (nI (cntW w 58), ((w, K, ro), hc, hi, sv, pn, ch))) (by simp only [aCount, rng_nI (show 1 < 4 by decide) (by decide)]) ⟨rfl, PB_0 hI0⟩) dX6_count_69
          ·
            refine lv_tableIn (off := 36) (tgt := 70) hx hb dX6_count_34 (by decide) (by decide) rfl (by decide) ?_
            refine lv_aload_n hx hb dX6_count_70 rfl (lv_at hl 0 rfl) ?_
            refine g_6_6 (x := 71) hC hW (by omega) kd_71 gw_489 dX6_count_71 ?_
            refine q_top (v2 := .int (nI (pn))) (congrArg _ hPd.1) ?_
            exact q_iret1 hC hW hr hlk0 (RR_i (a' := (nI (pn), ((w, K, ro), hc, hi, sv, pn, ch))) (by simp only [aCount, rng_nI (show 2 < 4 by decide) (by decide)]) ⟨rfl, PB_0 hI0⟩) dX6_count_74
      ·
        refine lv_iload_n hx hb dX6_count_10 rfl (lv_at hl 2 rfl) ?_
        refine lv_aload_n hx hb dX6_count_11 rfl (lv_at hl 0 rfl) ?_
        refine g_6_0 (x := 71) (y := 72) hC hW (by omega) kd_71 gw_483 (hlk 71 0 72 (by omega) rfl) dX6_count_12 ?_
        refine lv_iload_n hx hb dX6_count_15 rfl (lv_at hl 3 rfl) ?_
        refine q_iald (x := 72) (i := k1) hC hW (by omega) kd_72 (by omega) dX6_count_16 ?_
        refine q_top (v2 := .int (nI (rwt w k1))) (congrArg _ (hN.1 _ (by omega))) ?_
        refine q_ieq (tgt := 24) hx hb dX6_count_17 (by decide) (by first | omega | exact Nat.lt_of_le_of_lt (hw3 _) (by decide)) (fun c_17 => ?_) (fun c_17 => ?_)
        ·
          refine q_ic 0 hx hb dX6_count_24 (by decide) ?_
          refine q_iadd hx hb dX6_count_25 ?_
          refine q_top (v2 := .int (nI (cg (rwt w) (k1 + 1)))) (by show Value.int (nI _) = Value.int (nI (if rwt w k1 = 0 then cg (rwt w) k1 else cg (rwt w) k1 + 1)); rw [Nat.add_zero, if_pos (show rwt w k1 = 0 from c_17)]) ?_
          refine lv_istore_n (lv' := [(2, .int (nI (cg (rwt w) (k1 + 1)))), (0, .ref (ad 71)), (1, .int (what)), (3, .int (nI (k1)))]) hx hb dX6_count_26 rfl hl (by decide) rfl (fun ls hl => ?_)
          refine q_iinc (z2 := k1 + 1) (lv' := [(3, .int (nI (k1 + 1))), (2, .int (nI (cg (rwt w) (k1 + 1)))), (0, .ref (ad 71)), (1, .int (what))]) hx hb dX6_count_27 hl (k := 3) rfl (inc_up _ 1 (by decide)) (by decide) rfl (fun ls hl => ?_)
          refine lv_goto (tgt := 4) hx hb dX6_count_30 (by decide) ?_
          exact ih_4 (k1 + 1) (by omega) (by omega) _ _ hW _ (lv_sub hl [2, 3, 1, 0] rfl)
        ·
          refine q_ic 1 hx hb dX6_count_20 (by decide) ?_
          refine lv_goto (tgt := 25) hx hb dX6_count_21 (by decide) ?_
          refine q_iadd hx hb dX6_count_25 ?_
          refine q_top (v2 := .int (nI (cg (rwt w) (k1 + 1)))) (by show Value.int (nI _) = Value.int (nI (if rwt w k1 = 0 then cg (rwt w) k1 else cg (rwt w) k1 + 1)); rw [if_neg (show ¬ rwt w k1 = 0 from c_17)]) ?_
          refine lv_istore_n (lv' := [(2, .int (nI (cg (rwt w) (k1 + 1)))), (0, .ref (ad 71)), (1, .int (what)), (3, .int (nI (k1)))]) hx hb dX6_count_26 rfl hl (by decide) rfl (fun ls hl => ?_)
          refine q_iinc (z2 := k1 + 1) (lv' := [(3, .int (nI (k1 + 1))), (2, .int (nI (cg (rwt w) (k1 + 1)))), (0, .ref (ad 71)), (1, .int (what))]) hx hb dX6_count_27 hl (k := 3) rfl (inc_up _ 1 (by decide)) (by decide) rfl (fun ls hl => ?_)
          refine lv_goto (tgt := 4) hx hb dX6_count_30 (by decide) ?_
          exact ih_4 (k1 + 1) (by omega) (by omega) _ _ hW _ (lv_sub hl [2, 3, 1, 0] rfl)
  exact lp_4 (58 + 1) 0 (by omega) (by omega) _ _ hW _ (lv_sub hl [2, 3, 1, 0] rfl)
