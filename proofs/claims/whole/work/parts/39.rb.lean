/-- what is laid behind a coin, so many letters being told -/
def Bq (w r : Nat → Nat) (K : Nat) (I : Ic) (L : Lc) (d t : Nat) : Prop := L 78 (7 * t + d) = lN (Sx' w K r (K - d) t) ∧ L 80 (7 * t + d) = lN (Mx' w K r (K - d) t) ∧ I 79 (7 * t + d) = nI (Cx' w K r (K - d) t)
theorem nx_ne {w r : Nat → Nat} (hw : Wok w) {K d f t : Nat} (hK : K ≤ 6) (hd : d ≤ K) (ht : t < 6) (h : 0 < mv w K r f t d) : 7 * t + nx t d ≠ 7 * f + d ∧ nx t d ≤ 6 := by
  by_cases h4 : t < 4
  · have hdK : d < K := by
      refine Classical.byContradiction fun q => ?_
      have : mv w K r f t d = 0 := by unfold mv; rw [if_neg (by omega), if_neg q]
      omega
    have e : nx t d = d + 1 := if_pos h4
    rw [e]
    omega
  · have e : nx t d = d := if_neg h4
    rw [e]
    refine ⟨fun q => ?_, by omega⟩
    have : t = f := by omega
    subst this
    have h45 : t = 4 ∨ t = 5 := by omega
    rcases h45 with rfl | rfl
    · rw [mv_44 hw] at h; omega
    · rw [mv_55 hw] at h; omega
theorem fold_0 {op : Nat → Nat → Nat → Nat} {m v : Nat → Nat} : ∀ {N : Nat}, (∀ i, i < N → 0 < m i → op 0 (m i) (v i) = 0) → foldT op 0 m v N = 0
  | 0, _ => rfl
  | N + 1, h => by
    unfold foldT
    rw [fold_0 (fun i hi => h i (by omega))]
    by_cases e : 0 < m N
    · rw [if_pos e]; exact h N (by omega) e
    · rw [if_neg e]
theorem f_end {w r : Nat → Nat} (hw : Wok w) {K d f : Nat} (hd : d ≤ K) (hf : f < 6) (h : ¬ (f < 4 ∧ d = K)) : Sx' w K r (K - d) f = fS w r K d f 6 ∧ Mx' w K r (K - d) f = fM w r K d f 6 ∧ Cx' w K r (K - d) f = fC w r K d f 6 := by
  by_cases e : d < K
  · exact ⟨Sx_f hw K d f e, Mx_f hw K d f e, Cx_f hw K d f e⟩
  · have ed : d = K := by omega
    subst ed
    have z : ∀ {op : Nat → Nat → Nat → Nat} (t : Nat), 4 ≤ t → t < 6 → Ax op 0 1 w d r (d - d) t = 0 := fun t h4 h6 => by rw [Ax0, if_neg (by omega)]
    have m0 : ∀ t, t < 4 → mv w d r f t d = 0 := fun t ht => by unfold mv; rw [if_neg (by omega), if_neg (by omega)]
    have n4 : ∀ t, 4 ≤ t → nx t d = d := fun t ht => if_neg (by omega)
    refine ⟨?_, ?_, ?_⟩
    · refine (z (op := opS) f (by omega) hf).trans (fold_0 (fun i hi hp => ?_)).symm
      by_cases h4 : i < 4
      · rw [m0 i h4] at hp; omega
      · have e9 := z (op := opS) i (by omega) hi
        rw [n4 i (by omega)]
        show opS 0 _ (Ax opS 0 1 w d r (d - d) i) = 0
        rw [e9]; unfold opS; simp
    · refine (z (op := opM) f (by omega) hf).trans (fold_0 (fun i hi hp => ?_)).symm
      by_cases h4 : i < 4
      · rw [m0 i h4] at hp; omega
      · have e9 := z (op := opM) i (by omega) hi
        rw [n4 i (by omega)]
        show opM 0 _ (Ax opM 0 1 w d r (d - d) i) = 0
        rw [e9]; unfold opM; simp
    · refine (z (op := opC) f (by omega) hf).trans (fold_0 (fun i hi hp => ?_)).symm
      by_cases h4 : i < 4
      · rw [m0 i h4] at hp; omega
      · have e9 := z (op := opC) i (by omega) hi
        rw [n4 i (by omega)]
        show opC 0 _ (Ax opC 0 1 w d r (d - d) i) = 0
        rw [e9]; unfold opC; simp
theorem upc {L : Lc} {a : Nat} {x y x' y' : Int64} : up2 (up2 (up2 (up2 L 78 a x) 80 a y) 78 a x') 80 a y' = up2 (up2 L 78 a x') 80 a y' := by
  funext b k
  simp only [up2_at]
  by_cases h1 : b = 80 ∧ k = a
  · simp [h1]
  · by_cases h2 : b = 78 ∧ k = a
    · simp [h2]
    · simp [h1, h2]
theorem f_one {w r : Nat → Nat} {K f : Nat} (h : f < 4) : Sx' w K r (K - K) f = 1 ∧ Mx' w K r (K - K) f = 1 ∧ Cx' w K r (K - K) f = 1 := by
  have z : ∀ {op : Nat → Nat → Nat → Nat}, Ax op 0 1 w K r (K - K) f = 1 := fun {op} => by rw [Ax0, if_pos (Or.inl h)]
  exact ⟨z, z, z⟩

set_option maxRecDepth 100000 in
set_option maxHeartbeats 4000000 in
theorem k_layOf (l : Launch) (G : Gx) (n : Nat) (ad : Nat → Nat) (sz : Nat) (I : Ic) (L : Lc) (R : Rc) (w : Nat → Nat) (K : Nat) (ro : Nat → Nat) (hn : 83 ≤ n) (hlk : LkOK n R) (hN : NwI (I 72) w K ro) (f d : Nat) (hf : f < 6) (hdK : d ≤ K) (hRd : ∀ t, t < 6 → 0 < mv w K ro f t d → Bq w ro K I L (nx t d) t)  : Met l yX6_layBehindOf (Cond.code yX6_layBehindOf cX6_layBehindOf 8 none :: GW) ({ frames := 2, cells := 0, slots := 0, locals := 72 } : Room) (qPre G n ad sz I L R [.ref (ad 71), .int (nI (f)), .int (nI (d))]) (qV1 G (qA n ad sz) n ad R (fun I1 L1 => L1 = up2 (up2 L 78 (7 * f + d) (lN (Sx' w K ro (K - d) f))) 80 (7 * f + d) (lN (Mx' w K ro (K - d) f)) ∧ I1 = up2 I 79 (7 * f + d) (nI (Cx' w K ro (K - d) f)))) 0 0 (qA n ad sz) := by
  refine q_met (by decide) (Nat.le_of_ble_eq_true rfl) ?_
  intro p_ e_ s m_ below meth c_ hC hr hlk0 hin hsz hW ls hl
  subst hsz
  have hC : CallFix p_ m_ c_ cX6_layBehindOf 8 s ([.ref (ad 71), .int (nI (f)), .int (nI (d))] : List Value).toArray GW "CoinRowsModel" := hC
  have hx := hC.1
  have hb := hC.2.1
  have hk6 : K ≤ 6 := hN.2.2.2.1
  have hw : Wok w := hN.2.2.2.2.1
  have hw3 : ∀ i, w i ≤ 3 := hw.1
  have hr4 : ∀ j, ro j < 4 := hN.2.2.2.2.2
  have hl : lv_has ls 8 [(0, .ref (ad 71)), (1, .int (nI (f))), (2, .int (nI (d)))] := hl
  refine q_bp 7 hx hb dX6_layBehindOf_0 (by decide) ?_
  refine lv_iload_n hx hb dX6_layBehindOf_2 rfl (lv_at hl 1 rfl) ?_
  refine q_imul hx hb dX6_layBehindOf_3 ?_
  refine lv_iload_n hx hb dX6_layBehindOf_4 rfl (lv_at hl 2 rfl) ?_
  refine q_iadd hx hb dX6_layBehindOf_5 ?_
  refine lv_istore_n (lv' := [(3, .int (nI ((7 * f) + d))), (0, .ref (ad 71)), (1, .int (nI (f))), (2, .int (nI (d)))]) hx hb dX6_layBehindOf_6 rfl hl (by decide) rfl (fun ls hl => ?_)
  refine lv_iload_n hx hb dX6_layBehindOf_7 rfl (lv_at hl 2 rfl) ?_
  refine q_ic 4 hx hb dX6_layBehindOf_8 (by decide) ?_
  refine q_cge (tgt := 27) hx hb dX6_layBehindOf_9 (by decide) (by first | omega | exact Nat.lt_of_le_of_lt (hw3 _) (by decide)) (by first | omega | exact Nat.lt_of_le_of_lt (hw3 _) (by decide)) (fun c_9 => ?_) (fun c_9 => ?_)
  ·
    refine q_ic 0 hx hb dX6_layBehindOf_27 (by decide) ?_
    refine lv_istore (lv' := [(4, .int (nI 0)), (3, .int (nI ((7 * f) + d))), (0, .ref (ad 71)), (1, .int (nI (f))), (2, .int (nI (d)))]) hx hb dX6_layBehindOf_28 hl (by decide) rfl (fun ls hl => ?_)
    refine lv_aload_n hx hb dX6_layBehindOf_30 rfl (lv_at hl 2 rfl) ?_
    refine g_6_8 (x := 71) (y := 78) hC hW (by omega) kd_71 gw_491 (hlk 71 8 78 (by omega) rfl) dX6_layBehindOf_31 ?_
    refine lv_iload_n hx hb dX6_layBehindOf_34 rfl (lv_at hl 1 rfl) ?_
    refine lv_iload hx hb dX6_layBehindOf_35 (lv_at hl 0 rfl) ?_
    refine q_ieq (tgt := 44) hx hb dX6_layBehindOf_37 (by decide) (by first | omega | exact Nat.lt_of_le_of_lt (hw3 _) (by decide)) (fun c_37 => ?_) (fun c_37 => absurd c_37 (by decide))
    refine q_lc 0 hx hb dX6_layBehindOf_44 (by decide) ?_
    refine q_last (x := 78) (i := (7 * f) + d) (v := lN 0) hC hW (by omega) kd_78 (by omega) dX6_layBehindOf_45 (fun H locs hW => ?_)
    refine lv_aload_n hx hb dX6_layBehindOf_46 rfl (lv_at hl 2 rfl) ?_
    refine g_6_9 (x := 71) (y := 79) hC hW (by omega) kd_71 gw_492 (hlk 71 9 79 (by omega) rfl) dX6_layBehindOf_47 ?_
    refine lv_iload_n hx hb dX6_layBehindOf_50 rfl (lv_at hl 1 rfl) ?_
    refine lv_iload hx hb dX6_layBehindOf_51 (lv_at hl 0 rfl) ?_
    refine q_ieq (tgt := 60) hx hb dX6_layBehindOf_53 (by decide) (by first | omega | exact Nat.lt_of_le_of_lt (hw3 _) (by decide)) (fun c_53 => ?_) (fun c_53 => absurd c_53 (by decide))
    refine q_ic 0 hx hb dX6_layBehindOf_60 (by decide) ?_
    refine q_iast (x := 79) (i := (7 * f) + d) (v := nI 0) hC hW (by omega) kd_79 (by omega) dX6_layBehindOf_61 (fun H locs hW => ?_)
    refine lv_aload_n hx hb dX6_layBehindOf_62 rfl (lv_at hl 2 rfl) ?_
    refine g_6_10 (x := 71) (y := 80) hC hW (by omega) kd_71 gw_493 (hlk 71 10 80 (by omega) rfl) dX6_layBehindOf_63 ?_
    refine lv_iload_n hx hb dX6_layBehindOf_66 rfl (lv_at hl 1 rfl) ?_
    refine lv_iload hx hb dX6_layBehindOf_67 (lv_at hl 0 rfl) ?_
    refine q_ieq (tgt := 76) hx hb dX6_layBehindOf_69 (by decide) (by first | omega | exact Nat.lt_of_le_of_lt (hw3 _) (by decide)) (fun c_69 => ?_) (fun c_69 => absurd c_69 (by decide))
    refine q_lc 0 hx hb dX6_layBehindOf_76 (by decide) ?_
    refine q_last (x := 80) (i := (7 * f) + d) (v := lN 0) hC hW (by omega) kd_80 (by omega) dX6_layBehindOf_77 (fun H locs hW => ?_)
    refine q_ic 0 hx hb dX6_layBehindOf_78 (by decide) ?_
    refine lv_istore (lv' := [(5, .int (nI 0)), (4, .int (nI 0)), (3, .int (nI ((7 * f) + d))), (0, .ref (ad 71)), (1, .int (nI (f))), (2, .int (nI (d)))]) hx hb dX6_layBehindOf_79 hl (by decide) rfl (fun ls hl => ?_)
    have lp_81 : ∀ (fu_81 : Nat) (t1 : Nat), 6 - t1 < fu_81 → (t1 ≤ 6) → ∀ (H : Heap) (locs : List Loc), Wd G n ad (up2 I 79 (7 * f + d) (nI (fC w ro K d f t1))) (up2 (up2 L 78 (7 * f + d) (lN (fS w ro K d f t1))) 80 (7 * f + d) (lN (fM w ro K d f t1))) R (qA n ad s.heap.size) s.heap H locs s → ∀ ls : Array Slot, lv_has ls 8 [(0, .ref (ad 71)), (1, .int (nI (f))), (2, .int (nI (d))), (3, .int (nI (7 * f + d))), (4, .int (nI 0)), (5, .int (nI (t1)))] → W p_ l e_ ({ frames := 2, cells := 0, slots := 0, locals := 72 } : Room) s m_ ([.ref (ad 71), .int (nI (f)), .int (nI (d))] : List Value).toArray below meth c_ H locs 0 0 (MQ below (qV1 G (qA n ad s.heap.size) n ad R (fun I1 L1 => L1 = up2 (up2 L 78 (7 * f + d) (lN (Sx' w K ro (K - d) f))) 80 (7 * f + d) (lN (Mx' w K ro (K - d) f)) ∧ I1 = up2 I 79 (7 * f + d) (nI (Cx' w K ro (K - d) f)))) ([.ref (ad 71), .int (nI (f)), .int (nI (d))] : List Value).toArray s 0 0 (qA n ad s.heap.size)) (F0 m_ 81 ls []) := by
      intro fu_81
      induction fu_81 with
      | zero =>
        intro t1 hm; exact absurd hm (Nat.not_lt_zero _)
      | succ fu_81 ih_81 =>
        intro t1 hm_81 ht6 H locs hW ls hl
        have hN1 : NwI ((up2 I 79 (7 * f + d) (nI (fC w ro K d f t1))) 72) w K ro := by rw [up2_ne (by decide)]; exact hN
        refine lv_iload hx hb dX6_layBehindOf_81 (lv_at hl 5 rfl) ?_
        refine q_bp 6 hx hb dX6_layBehindOf_83 (by decide) ?_
        refine q_cge (tgt := 217) hx hb dX6_layBehindOf_85 (by decide) (by first | omega | exact Nat.lt_of_le_of_lt (hw3 _) (by decide)) (by first | omega | exact Nat.lt_of_le_of_lt (hw3 _) (by decide)) (fun c_85 => ?_) (fun c_85 => ?_)
        ·
          have hfe := f_end (r := ro) hw hdK hf (by omega)
          have h6 : t1 = 6 := by omega
          subst h6
          exact q_vret1 hC hW hr hlk0 ⟨by rw [hfe.1, hfe.2.1], by rw [hfe.2.2]⟩ dX6_layBehindOf_217
        ·
          refine lv_iload hx hb dX6_layBehindOf_88 (lv_at hl 4 rfl) ?_
          refine q_ine (tgt := 217) hx hb dX6_layBehindOf_90 (by decide) (by first | omega | exact Nat.lt_of_le_of_lt (hw3 _) (by decide)) (fun c_90 => absurd c_90 (by decide)) (fun c_90 => ?_)
          refine lv_aload_n hx hb dX6_layBehindOf_93 rfl (lv_at hl 0 rfl) ?_
          refine lv_aload_n hx hb dX6_layBehindOf_94 rfl (lv_at hl 0 rfl) ?_
          refine lv_iload_n hx hb dX6_layBehindOf_95 rfl (lv_at hl 1 rfl) ?_
          refine lv_iload hx hb dX6_layBehindOf_96 (lv_at hl 5 rfl) ?_
          refine q_kI0 (q_rV (As := [.int (nI (f)), .int (nI (t1))]) (rest := [.ref (ad 71)]) (x := 71) hC hW mw_X6_step gw_586 (k_step l G n ad H.size (up2 I 79 (7 * f + d) (nI (fC w ro K d f t1))) (up2 (up2 L 78 (7 * f + d) (lN (fS w ro K d f t1))) 80 (7 * f + d) (lN (fM w ro K d f t1))) R _ _ (by omega) (by omega) w K ro hn hlk hN1) (by omega) (ct_o6 kd_71) rfl ⟨rfl, rfl⟩ ⟨Nat.le_of_ble_eq_true rfl, Nat.le_of_ble_eq_true rfl⟩ ⟨(Nat.le_of_ble_eq_true rfl), (Nat.le_of_ble_eq_true rfl)⟩ hl.1 rfl rfl (Nat.le_of_ble_eq_true rfl) dX6_layBehindOf_98) hW (fun r_98 H locs hp hW => ?_)
          subst hp
          refine lv_iload hx hb dX6_layBehindOf_101 (lv_at hl 5 rfl) ?_
          refine lv_iload_n hx hb dX6_layBehindOf_103 rfl (lv_at hl 2 rfl) ?_
          refine q_kI0 (q_rV (As := [.int (nI (w (f * 6 + t1))), .int (nI (t1)), .int (nI (d))]) (rest := []) (x := 71) hC hW mw_X6_going gw_590 (k_going l G n ad H.size (up2 I 79 (7 * f + d) (nI (fC w ro K d f t1))) (up2 (up2 L 78 (7 * f + d) (lN (fS w ro K d f t1))) 80 (7 * f + d) (lN (fM w ro K d f t1))) R _ _ _ (hw3 _) (by omega) (by omega) w K ro hn hlk hN1) (by omega) (ct_o6 kd_71) rfl ⟨rfl, rfl⟩ ⟨Nat.le_of_ble_eq_true rfl, Nat.le_of_ble_eq_true rfl⟩ ⟨(Nat.le_of_ble_eq_true rfl), (Nat.le_of_ble_eq_true rfl)⟩ hl.1 rfl rfl (Nat.le_of_ble_eq_true rfl) dX6_layBehindOf_104) hW (fun r_104 H locs hp hW => ?_)
          subst hp
          refine q_top (v2 := .int (nI (mv w K ro f t1 d))) rfl ?_
          have hm9 := mv_le hw K ro f t1 d
          refine lv_istore (lv' := [(6, .int (nI (mv w K ro f t1 d))), (0, .ref (ad 71)), (1, .int (nI (f))), (2, .int (nI (d))), (3, .int (nI (7 * f + d))), (4, .int (nI 0)), (5, .int (nI (t1)))]) hx hb dX6_layBehindOf_107 hl (by decide) rfl (fun ls hl => ?_)
          refine q_bp 7 hx hb dX6_layBehindOf_109 (by decide) ?_
          refine lv_iload hx hb dX6_layBehindOf_111 (lv_at hl 6 rfl) ?_
          refine q_imul hx hb dX6_layBehindOf_113 ?_
          refine lv_iload hx hb dX6_layBehindOf_114 (lv_at hl 6 rfl) ?_
          refine lv_iload_n hx hb dX6_layBehindOf_116 rfl (lv_at hl 3 rfl) ?_
          refine q_kI0 (q_rS (As := [.int (nI (t1)), .int (nI (d))]) (rest := [.int (nI (7 * t1))]) hC hW mw_X6_toldThen gw_598 (k_toldThen l G n ad H.size (up2 I 79 (7 * f + d) (nI (fC w ro K d f t1))) (up2 (up2 L 78 (7 * f + d) (lN (fS w ro K d f t1))) 80 (7 * f + d) (lN (fM w ro K d f t1))) R _ _ (by omega) (by omega)) ⟨rfl, rfl⟩ ⟨Nat.le_of_ble_eq_true rfl, Nat.le_of_ble_eq_true rfl⟩ ⟨(Nat.le_of_ble_eq_true rfl), (Nat.le_of_ble_eq_true rfl)⟩ hl.1 rfl rfl (Nat.le_of_ble_eq_true rfl) dX6_layBehindOf_117) hW (fun r_117 H locs hp hW => ?_)
          subst hp
          refine q_iadd hx hb dX6_layBehindOf_120 ?_
          refine lv_istore (lv' := [(7, .int (nI ((7 * t1) + (nx t1 d)))), (6, .int (nI (mv w K ro f t1 d))), (0, .ref (ad 71)), (1, .int (nI (f))), (2, .int (nI (d))), (3, .int (nI (7 * f + d))), (4, .int (nI 0)), (5, .int (nI (t1)))]) hx hb dX6_layBehindOf_121 hl (by decide) rfl (fun ls hl => ?_)
          refine lv_iload hx hb dX6_layBehindOf_123 (lv_at hl 1 rfl) ?_
          refine q_ile (tgt := 211) hx hb dX6_layBehindOf_125 (by decide) (by first | omega | exact Nat.lt_of_le_of_lt (hw3 _) (by decide)) (fun c_125 => ?_) (fun c_125 => ?_)
          ·
            have hz1 : mv w K ro f t1 d = 0 := by omega
            refine q_iinc (z2 := t1 + 1) (lv' := [(5, .int (nI (t1 + 1))), (7, .int (nI ((7 * t1) + (nx t1 d)))), (6, .int (nI (mv w K ro f t1 d))), (0, .ref (ad 71)), (1, .int (nI (f))), (2, .int (nI (d))), (3, .int (nI (7 * f + d))), (4, .int (nI 0))]) hx hb dX6_layBehindOf_211 hl (k := 7) rfl (inc_up _ 1 (by decide)) (by decide) rfl (fun ls hl => ?_)
            refine lv_goto (tgt := 81) hx hb dX6_layBehindOf_214 (by decide) ?_
            exact ih_81 (t1 + 1) (by omega) (by omega) _ _ (by rw [fS_n hz1, fM_n hz1, fC_n hz1]; exact hW) _ (lv_sub hl [3, 4, 5, 6, 7, 0] rfl)
          ·
            have hp1 : 0 < mv w K ro f t1 d := by omega
            have hne := nx_ne hw hk6 hdK (by omega) hp1
            refine lv_aload_n hx hb dX6_layBehindOf_128 rfl (lv_at hl 2 rfl) ?_
            refine g_6_8 (x := 71) (y := 78) hC hW (by omega) kd_71 gw_491 (hlk 71 8 78 (by omega) rfl) dX6_layBehindOf_129 ?_
            refine lv_iload_n hx hb dX6_layBehindOf_132 rfl (lv_at hl 5 rfl) ?_
            refine lv_dup2_11 hx hb dX6_layBehindOf_133 rfl rfl ?_
            refine q_lald (x := 78) (i := 7 * f + d) hC hW (by omega) kd_78 (by omega) dX6_layBehindOf_134 ?_
            refine q_top (v2 := .long (lN (fS w ro K d f t1))) (congrArg _ (by rw [up2_ne (by decide), up2_at, if_pos ⟨rfl, rfl⟩])) ?_
            refine lv_iload hx hb dX6_layBehindOf_135 (lv_at hl 1 rfl) ?_
            refine q_i2l hx hb dX6_layBehindOf_137 (by first | omega | exact Nat.lt_of_le_of_lt (hw3 _) (by decide)) ?_
            refine lv_aload_n hx hb dX6_layBehindOf_138 rfl (lv_at hl 2 rfl) ?_
            refine g_6_8 (x := 71) (y := 78) hC hW (by omega) kd_71 gw_491 (hlk 71 8 78 (by omega) rfl) dX6_layBehindOf_139 ?_
            refine lv_iload hx hb dX6_layBehindOf_142 (lv_at hl 0 rfl) ?_
            refine q_lald (x := 78) (i := (7 * t1) + (nx t1 d)) hC hW (by omega) kd_78 (by omega) dX6_layBehindOf_144 ?_
            refine q_top (v2 := .long (lN (Sx' w K ro (K - nx t1 d) t1))) (congrArg _ (by rw [up2_ne (by decide), up2_at, if_neg (fun q => hne.1 q.2)]; exact (hRd t1 (by omega) hp1).1)) ?_
            refine q_lmul hx hb dX6_layBehindOf_145 ?_
            refine q_ladd hx hb dX6_layBehindOf_146 ?_
            refine q_top (v2 := .long (lN (fS w ro K d f (t1 + 1)))) (by rw [fS_p hp1]) ?_
            refine q_last (x := 78) (i := 7 * f + d) (v := lN (fS w ro K d f (t1 + 1))) hC hW (by omega) kd_78 (by omega) dX6_layBehindOf_147 (fun H locs hW => ?_)
            refine lv_aload_n hx hb dX6_layBehindOf_148 rfl (lv_at hl 2 rfl) ?_
            refine g_6_9 (x := 71) (y := 79) hC hW (by omega) kd_71 gw_492 (hlk 71 9 79 (by omega) rfl) dX6_layBehindOf_149 ?_
            refine lv_iload_n hx hb dX6_layBehindOf_152 rfl (lv_at hl 5 rfl) ?_
            refine lv_dup2_11 hx hb dX6_layBehindOf_153 rfl rfl ?_
            refine q_iald (x := 79) (i := 7 * f + d) hC hW (by omega) kd_79 (by omega) dX6_layBehindOf_154 ?_
            refine q_top (v2 := .int (nI (fC w ro K d f t1))) (congrArg _ (by rw [up2_at, if_pos ⟨rfl, rfl⟩])) ?_
            refine lv_aload_n hx hb dX6_layBehindOf_155 rfl (lv_at hl 2 rfl) ?_
            refine g_6_9 (x := 71) (y := 79) hC hW (by omega) kd_71 gw_492 (hlk 71 9 79 (by omega) rfl) dX6_layBehindOf_156 ?_
            refine lv_iload hx hb dX6_layBehindOf_159 (lv_at hl 0 rfl) ?_
            refine q_iald (x := 79) (i := (7 * t1) + (nx t1 d)) hC hW (by omega) kd_79 (by omega) dX6_layBehindOf_161 ?_
            refine q_top (v2 := .int (nI (Cx' w K ro (K - nx t1 d) t1))) (congrArg _ (by rw [up2_at, if_neg (fun q => hne.1 q.2)]; exact (hRd t1 (by omega) hp1).2.2)) ?_
            refine q_iadd hx hb dX6_layBehindOf_162 ?_
            refine q_top (v2 := .int (nI (fC w ro K d f (t1 + 1)))) (by rw [fC_p hp1]) ?_
            refine q_iast (x := 79) (i := 7 * f + d) (v := nI (fC w ro K d f (t1 + 1))) hC hW (by omega) kd_79 (by omega) dX6_layBehindOf_163 (fun H locs hW => ?_)
            refine lv_aload_n hx hb dX6_layBehindOf_164 rfl (lv_at hl 2 rfl) ?_
            refine g_6_10 (x := 71) (y := 80) hC hW (by omega) kd_71 gw_493 (hlk 71 10 80 (by omega) rfl) dX6_layBehindOf_165 ?_
            refine lv_iload_n hx hb dX6_layBehindOf_168 rfl (lv_at hl 5 rfl) ?_
            refine lv_iload hx hb dX6_layBehindOf_169 (lv_at hl 1 rfl) ?_
            refine q_i2l hx hb dX6_layBehindOf_171 (by first | omega | exact Nat.lt_of_le_of_lt (hw3 _) (by decide)) ?_
            refine lv_aload_n hx hb dX6_layBehindOf_172 rfl (lv_at hl 2 rfl) ?_
            refine g_6_10 (x := 71) (y := 80) hC hW (by omega) kd_71 gw_493 (hlk 71 10 80 (by omega) rfl) dX6_layBehindOf_173 ?_
            refine lv_iload hx hb dX6_layBehindOf_176 (lv_at hl 0 rfl) ?_
            refine q_lald (x := 80) (i := (7 * t1) + (nx t1 d)) hC hW (by omega) kd_80 (by omega) dX6_layBehindOf_178 ?_
            refine q_top (v2 := .long (lN (Mx' w K ro (K - nx t1 d) t1))) (congrArg _ (by rw [up2_ne (by decide), up2_at, if_neg (fun q => hne.1 q.2), up2_ne (by decide)]; exact (hRd t1 (by omega) hp1).2.1)) ?_
            refine q_lmul hx hb dX6_layBehindOf_179 ?_
            refine lv_aload_n hx hb dX6_layBehindOf_180 rfl (lv_at hl 2 rfl) ?_
            refine g_6_10 (x := 71) (y := 80) hC hW (by omega) kd_71 gw_493 (hlk 71 10 80 (by omega) rfl) dX6_layBehindOf_181 ?_
            refine lv_iload_n hx hb dX6_layBehindOf_184 rfl (lv_at hl 5 rfl) ?_
            refine q_lald (x := 80) (i := 7 * f + d) hC hW (by omega) kd_80 (by omega) dX6_layBehindOf_185 ?_
            refine q_top (v2 := .long (lN (fM w ro K d f t1))) (congrArg _ (by rw [up2_ne (by decide), up2_at, if_pos ⟨rfl, rfl⟩])) ?_
            refine q_lcmp hx hb dX6_layBehindOf_186 ?_
            refine q_lle (tgt := 204) hx hb dX6_layBehindOf_187 (by decide) (mM_lt hw K d f t1 hk6) (fM_lt hw K d f t1 hk6) (fun c_187 => ?_) (fun c_187 => ?_)
            ·
              refine lv_aload_n hx hb dX6_layBehindOf_204 rfl (lv_at hl 2 rfl) ?_
              refine g_6_10 (x := 71) (y := 80) hC hW (by omega) kd_71 gw_493 (hlk 71 10 80 (by omega) rfl) dX6_layBehindOf_205 ?_
              refine lv_iload_n hx hb dX6_layBehindOf_208 rfl (lv_at hl 5 rfl) ?_
              refine q_lald (x := 80) (i := 7 * f + d) hC hW (by omega) kd_80 (by omega) dX6_layBehindOf_209 ?_
              refine q_top (v2 := .long (lN (fM w ro K d f t1))) (congrArg _ (by rw [up2_ne (by decide), up2_at, if_pos ⟨rfl, rfl⟩])) ?_
              refine q_top (v2 := .long (lN (fM w ro K d f (t1 + 1)))) (by rw [fM_p hp1, Nat.max_eq_left c_187]) ?_
              refine q_last (x := 80) (i := 7 * f + d) (v := lN (fM w ro K d f (t1 + 1))) hC hW (by omega) kd_80 (by omega) dX6_layBehindOf_210 (fun H locs hW => ?_)
              rw [upc, up2_up2] at hW
              refine q_iinc (z2 := t1 + 1) (lv' := [(5, .int (nI (t1 + 1))), (7, .int (nI ((7 * t1) + (nx t1 d)))), (6, .int (nI (mv w K ro f t1 d))), (0, .ref (ad 71)), (1, .int (nI (f))), (2, .int (nI (d))), (3, .int (nI (7 * f + d))), (4, .int (nI 0))]) hx hb dX6_layBehindOf_211 hl (k := 7) rfl (inc_up _ 1 (by decide)) (by decide) rfl (fun ls hl => ?_)
              refine lv_goto (tgt := 81) hx hb dX6_layBehindOf_214 (by decide) ?_
              exact ih_81 (t1 + 1) (by omega) (by omega) _ _ hW _ (lv_sub hl [3, 4, 5, 6, 7, 0] rfl)
            ·
              refine lv_iload hx hb dX6_layBehindOf_190 (lv_at hl 1 rfl) ?_
              refine q_i2l hx hb dX6_layBehindOf_192 (by first | omega | exact Nat.lt_of_le_of_lt (hw3 _) (by decide)) ?_
              refine lv_aload_n hx hb dX6_layBehindOf_193 rfl (lv_at hl 2 rfl) ?_
              refine g_6_10 (x := 71) (y := 80) hC hW (by omega) kd_71 gw_493 (hlk 71 10 80 (by omega) rfl) dX6_layBehindOf_194 ?_
              refine lv_iload hx hb dX6_layBehindOf_197 (lv_at hl 0 rfl) ?_
              refine q_lald (x := 80) (i := (7 * t1) + (nx t1 d)) hC hW (by omega) kd_80 (by omega) dX6_layBehindOf_199 ?_
              refine q_top (v2 := .long (lN (Mx' w K ro (K - nx t1 d) t1))) (congrArg _ (by rw [up2_ne (by decide), up2_at, if_neg (fun q => hne.1 q.2), up2_ne (by decide)]; exact (hRd t1 (by omega) hp1).2.1)) ?_
              refine q_lmul hx hb dX6_layBehindOf_200 ?_
              refine lv_goto (tgt := 210) hx hb dX6_layBehindOf_201 (by decide) ?_
              refine q_top (v2 := .long (lN (fM w ro K d f (t1 + 1)))) (by rw [fM_p hp1, Nat.max_eq_right (Nat.le_of_lt c_187)]) ?_
              refine q_last (x := 80) (i := 7 * f + d) (v := lN (fM w ro K d f (t1 + 1))) hC hW (by omega) kd_80 (by omega) dX6_layBehindOf_210 (fun H locs hW => ?_)
              rw [upc, up2_up2] at hW
              refine q_iinc (z2 := t1 + 1) (lv' := [(5, .int (nI (t1 + 1))), (7, .int (nI ((7 * t1) + (nx t1 d)))), (6, .int (nI (mv w K ro f t1 d))), (0, .ref (ad 71)), (1, .int (nI (f))), (2, .int (nI (d))), (3, .int (nI (7 * f + d))), (4, .int (nI 0))]) hx hb dX6_layBehindOf_211 hl (k := 7) rfl (inc_up _ 1 (by decide)) (by decide) rfl (fun ls hl => ?_)
              refine lv_goto (tgt := 81) hx hb dX6_layBehindOf_214 (by decide) ?_
              exact ih_81 (t1 + 1) (by omega) (by omega) _ _ hW _ (lv_sub hl [3, 4, 5, 6, 7, 0] rfl)
    exact lp_81 (6 + 1) 0 (by omega) (by omega) _ _ hW _ (lv_sub hl [3, 4, 5, 2, 1, 0] rfl)
  ·
    refine lv_iload_n hx hb dX6_layBehindOf_12 rfl (lv_at hl 3 rfl) ?_
    refine lv_aload_n hx hb dX6_layBehindOf_13 rfl (lv_at hl 1 rfl) ?_
    refine g_6_0 (x := 71) (y := 72) hC hW (by omega) kd_71 gw_483 (hlk 71 0 72 (by omega) rfl) dX6_layBehindOf_14 ?_
    refine q_bp 58 hx hb dX6_layBehindOf_17 (by decide) ?_
    refine q_iald (x := 72) (i := 58) hC hW (by omega) kd_72 (by omega) dX6_layBehindOf_19 ?_
    refine q_top (v2 := .int (nI (K))) (congrArg _ hN.2.1) ?_
    refine q_cne (tgt := 27) hx hb dX6_layBehindOf_20 (by decide) (by first | omega | exact Nat.lt_of_le_of_lt (hw3 _) (by decide)) (by first | omega | exact Nat.lt_of_le_of_lt (hw3 _) (by decide)) (fun c_20 => ?_) (fun c_20 => ?_)
    ·
      refine q_ic 0 hx hb dX6_layBehindOf_27 (by decide) ?_
      refine lv_istore (lv' := [(4, .int (nI 0)), (3, .int (nI ((7 * f) + d))), (0, .ref (ad 71)), (1, .int (nI (f))), (2, .int (nI (d)))]) hx hb dX6_layBehindOf_28 hl (by decide) rfl (fun ls hl => ?_)
      refine lv_aload_n hx hb dX6_layBehindOf_30 rfl (lv_at hl 2 rfl) ?_
      refine g_6_8 (x := 71) (y := 78) hC hW (by omega) kd_71 gw_491 (hlk 71 8 78 (by omega) rfl) dX6_layBehindOf_31 ?_
      refine lv_iload_n hx hb dX6_layBehindOf_34 rfl (lv_at hl 1 rfl) ?_
      refine lv_iload hx hb dX6_layBehindOf_35 (lv_at hl 0 rfl) ?_
      refine q_ieq (tgt := 44) hx hb dX6_layBehindOf_37 (by decide) (by first | omega | exact Nat.lt_of_le_of_lt (hw3 _) (by decide)) (fun c_37 => ?_) (fun c_37 => absurd c_37 (by decide))
      refine q_lc 0 hx hb dX6_layBehindOf_44 (by decide) ?_
      refine q_last (x := 78) (i := (7 * f) + d) (v := lN 0) hC hW (by omega) kd_78 (by omega) dX6_layBehindOf_45 (fun H locs hW => ?_)
      refine lv_aload_n hx hb dX6_layBehindOf_46 rfl (lv_at hl 2 rfl) ?_
      refine g_6_9 (x := 71) (y := 79) hC hW (by omega) kd_71 gw_492 (hlk 71 9 79 (by omega) rfl) dX6_layBehindOf_47 ?_
      refine lv_iload_n hx hb dX6_layBehindOf_50 rfl (lv_at hl 1 rfl) ?_
      refine lv_iload hx hb dX6_layBehindOf_51 (lv_at hl 0 rfl) ?_
      refine q_ieq (tgt := 60) hx hb dX6_layBehindOf_53 (by decide) (by first | omega | exact Nat.lt_of_le_of_lt (hw3 _) (by decide)) (fun c_53 => ?_) (fun c_53 => absurd c_53 (by decide))
      refine q_ic 0 hx hb dX6_layBehindOf_60 (by decide) ?_
      refine q_iast (x := 79) (i := (7 * f) + d) (v := nI 0) hC hW (by omega) kd_79 (by omega) dX6_layBehindOf_61 (fun H locs hW => ?_)
      refine lv_aload_n hx hb dX6_layBehindOf_62 rfl (lv_at hl 2 rfl) ?_
      refine g_6_10 (x := 71) (y := 80) hC hW (by omega) kd_71 gw_493 (hlk 71 10 80 (by omega) rfl) dX6_layBehindOf_63 ?_
      refine lv_iload_n hx hb dX6_layBehindOf_66 rfl (lv_at hl 1 rfl) ?_
      refine lv_iload hx hb dX6_layBehindOf_67 (lv_at hl 0 rfl) ?_
      refine q_ieq (tgt := 76) hx hb dX6_layBehindOf_69 (by decide) (by first | omega | exact Nat.lt_of_le_of_lt (hw3 _) (by decide)) (fun c_69 => ?_) (fun c_69 => absurd c_69 (by decide))
      refine q_lc 0 hx hb dX6_layBehindOf_76 (by decide) ?_
      refine q_last (x := 80) (i := (7 * f) + d) (v := lN 0) hC hW (by omega) kd_80 (by omega) dX6_layBehindOf_77 (fun H locs hW => ?_)
      refine q_ic 0 hx hb dX6_layBehindOf_78 (by decide) ?_
      refine lv_istore (lv' := [(5, .int (nI 0)), (4, .int (nI 0)), (3, .int (nI ((7 * f) + d))), (0, .ref (ad 71)), (1, .int (nI (f))), (2, .int (nI (d)))]) hx hb dX6_layBehindOf_79 hl (by decide) rfl (fun ls hl => ?_)
      have lp_81 : ∀ (fu_81 : Nat) (t1 : Nat), 6 - t1 < fu_81 → (t1 ≤ 6) → ∀ (H : Heap) (locs : List Loc), Wd G n ad (up2 I 79 (7 * f + d) (nI (fC w ro K d f t1))) (up2 (up2 L 78 (7 * f + d) (lN (fS w ro K d f t1))) 80 (7 * f + d) (lN (fM w ro K d f t1))) R (qA n ad s.heap.size) s.heap H locs s → ∀ ls : Array Slot, lv_has ls 8 [(0, .ref (ad 71)), (1, .int (nI (f))), (2, .int (nI (d))), (3, .int (nI (7 * f + d))), (4, .int (nI 0)), (5, .int (nI (t1)))] → W p_ l e_ ({ frames := 2, cells := 0, slots := 0, locals := 72 } : Room) s m_ ([.ref (ad 71), .int (nI (f)), .int (nI (d))] : List Value).toArray below meth c_ H locs 0 0 (MQ below (qV1 G (qA n ad s.heap.size) n ad R (fun I1 L1 => L1 = up2 (up2 L 78 (7 * f + d) (lN (Sx' w K ro (K - d) f))) 80 (7 * f + d) (lN (Mx' w K ro (K - d) f)) ∧ I1 = up2 I 79 (7 * f + d) (nI (Cx' w K ro (K - d) f)))) ([.ref (ad 71), .int (nI (f)), .int (nI (d))] : List Value).toArray s 0 0 (qA n ad s.heap.size)) (F0 m_ 81 ls []) := by
        intro fu_81
        induction fu_81 with
        | zero =>
          intro t1 hm; exact absurd hm (Nat.not_lt_zero _)
        | succ fu_81 ih_81 =>
          intro t1 hm_81 ht6 H locs hW ls hl
          have hN1 : NwI ((up2 I 79 (7 * f + d) (nI (fC w ro K d f t1))) 72) w K ro := by rw [up2_ne (by decide)]; exact hN
          refine lv_iload hx hb dX6_layBehindOf_81 (lv_at hl 5 rfl) ?_
          refine q_bp 6 hx hb dX6_layBehindOf_83 (by decide) ?_
          refine q_cge (tgt := 217) hx hb dX6_layBehindOf_85 (by decide) (by first | omega | exact Nat.lt_of_le_of_lt (hw3 _) (by decide)) (by first | omega | exact Nat.lt_of_le_of_lt (hw3 _) (by decide)) (fun c_85 => ?_) (fun c_85 => ?_)
          ·
            have hfe := f_end (r := ro) hw hdK hf (by omega)
            have h6 : t1 = 6 := by omega
            subst h6
            exact q_vret1 hC hW hr hlk0 ⟨by rw [hfe.1, hfe.2.1], by rw [hfe.2.2]⟩ dX6_layBehindOf_217
          ·
            refine lv_iload hx hb dX6_layBehindOf_88 (lv_at hl 4 rfl) ?_
            refine q_ine (tgt := 217) hx hb dX6_layBehindOf_90 (by decide) (by first | omega | exact Nat.lt_of_le_of_lt (hw3 _) (by decide)) (fun c_90 => absurd c_90 (by decide)) (fun c_90 => ?_)
            refine lv_aload_n hx hb dX6_layBehindOf_93 rfl (lv_at hl 0 rfl) ?_
            refine lv_aload_n hx hb dX6_layBehindOf_94 rfl (lv_at hl 0 rfl) ?_
            refine lv_iload_n hx hb dX6_layBehindOf_95 rfl (lv_at hl 1 rfl) ?_
            refine lv_iload hx hb dX6_layBehindOf_96 (lv_at hl 5 rfl) ?_
            refine q_kI0 (q_rV (As := [.int (nI (f)), .int (nI (t1))]) (rest := [.ref (ad 71)]) (x := 71) hC hW mw_X6_step gw_586 (k_step l G n ad H.size (up2 I 79 (7 * f + d) (nI (fC w ro K d f t1))) (up2 (up2 L 78 (7 * f + d) (lN (fS w ro K d f t1))) 80 (7 * f + d) (lN (fM w ro K d f t1))) R _ _ (by omega) (by omega) w K ro hn hlk hN1) (by omega) (ct_o6 kd_71) rfl ⟨rfl, rfl⟩ ⟨Nat.le_of_ble_eq_true rfl, Nat.le_of_ble_eq_true rfl⟩ ⟨(Nat.le_of_ble_eq_true rfl), (Nat.le_of_ble_eq_true rfl)⟩ hl.1 rfl rfl (Nat.le_of_ble_eq_true rfl) dX6_layBehindOf_98) hW (fun r_98 H locs hp hW => ?_)
            subst hp
            refine lv_iload hx hb dX6_layBehindOf_101 (lv_at hl 5 rfl) ?_
            refine lv_iload_n hx hb dX6_layBehindOf_103 rfl (lv_at hl 2 rfl) ?_
            refine q_kI0 (q_rV (As := [.int (nI (w (f * 6 + t1))), .int (nI (t1)), .int (nI (d))]) (rest := []) (x := 71) hC hW mw_X6_going gw_590 (k_going l G n ad H.size (up2 I 79 (7 * f + d) (nI (fC w ro K d f t1))) (up2 (up2 L 78 (7 * f + d) (lN (fS w ro K d f t1))) 80 (7 * f + d) (lN (fM w ro K d f t1))) R _ _ _ (hw3 _) (by omega) (by omega) w K ro hn hlk hN1) (by omega) (ct_o6 kd_71) rfl ⟨rfl, rfl⟩ ⟨Nat.le_of_ble_eq_true rfl, Nat.le_of_ble_eq_true rfl⟩ ⟨(Nat.le_of_ble_eq_true rfl), (Nat.le_of_ble_eq_true rfl)⟩ hl.1 rfl rfl (Nat.le_of_ble_eq_true rfl) dX6_layBehindOf_104) hW (fun r_104 H locs hp hW => ?_)
            subst hp
            refine q_top (v2 := .int (nI (mv w K ro f t1 d))) rfl ?_
            have hm9 := mv_le hw K ro f t1 d
            refine lv_istore (lv' := [(6, .int (nI (mv w K ro f t1 d))), (0, .ref (ad 71)), (1, .int (nI (f))), (2, .int (nI (d))), (3, .int (nI (7 * f + d))), (4, .int (nI 0)), (5, .int (nI (t1)))]) hx hb dX6_layBehindOf_107 hl (by decide) rfl (fun ls hl => ?_)
            refine q_bp 7 hx hb dX6_layBehindOf_109 (by decide) ?_
            refine lv_iload hx hb dX6_layBehindOf_111 (lv_at hl 6 rfl) ?_
            refine q_imul hx hb dX6_layBehindOf_113 ?_
            refine lv_iload hx hb dX6_layBehindOf_114 (lv_at hl 6 rfl) ?_
            refine lv_iload_n hx hb dX6_layBehindOf_116 rfl (lv_at hl 3 rfl) ?_
            refine q_kI0 (q_rS (As := [.int (nI (t1)), .int (nI (d))]) (rest := [.int (nI (7 * t1))]) hC hW mw_X6_toldThen gw_598 (k_toldThen l G n ad H.size (up2 I 79 (7 * f + d) (nI (fC w ro K d f t1))) (up2 (up2 L 78 (7 * f + d) (lN (fS w ro K d f t1))) 80 (7 * f + d) (lN (fM w ro K d f t1))) R _ _ (by omega) (by omega)) ⟨rfl, rfl⟩ ⟨Nat.le_of_ble_eq_true rfl, Nat.le_of_ble_eq_true rfl⟩ ⟨(Nat.le_of_ble_eq_true rfl), (Nat.le_of_ble_eq_true rfl)⟩ hl.1 rfl rfl (Nat.le_of_ble_eq_true rfl) dX6_layBehindOf_117) hW (fun r_117 H locs hp hW => ?_)
            subst hp
            refine q_iadd hx hb dX6_layBehindOf_120 ?_
            refine lv_istore (lv' := [(7, .int (nI ((7 * t1) + (nx t1 d)))), (6, .int (nI (mv w K ro f t1 d))), (0, .ref (ad 71)), (1, .int (nI (f))), (2, .int (nI (d))), (3, .int (nI (7 * f + d))), (4, .int (nI 0)), (5, .int (nI (t1)))]) hx hb dX6_layBehindOf_121 hl (by decide) rfl (fun ls hl => ?_)
            refine lv_iload hx hb dX6_layBehindOf_123 (lv_at hl 1 rfl) ?_
            refine q_ile (tgt := 211) hx hb dX6_layBehindOf_125 (by decide) (by first | omega | exact Nat.lt_of_le_of_lt (hw3 _) (by decide)) (fun c_125 => ?_) (fun c_125 => ?_)
            ·
              have hz1 : mv w K ro f t1 d = 0 := by omega
              refine q_iinc (z2 := t1 + 1) (lv' := [(5, .int (nI (t1 + 1))), (7, .int (nI ((7 * t1) + (nx t1 d)))), (6, .int (nI (mv w K ro f t1 d))), (0, .ref (ad 71)), (1, .int (nI (f))), (2, .int (nI (d))), (3, .int (nI (7 * f + d))), (4, .int (nI 0))]) hx hb dX6_layBehindOf_211 hl (k := 7) rfl (inc_up _ 1 (by decide)) (by decide) rfl (fun ls hl => ?_)
              refine lv_goto (tgt := 81) hx hb dX6_layBehindOf_214 (by decide) ?_
              exact ih_81 (t1 + 1) (by omega) (by omega) _ _ (by rw [fS_n hz1, fM_n hz1, fC_n hz1]; exact hW) _ (lv_sub hl [3, 4, 5, 6, 7, 0] rfl)
            ·
              have hp1 : 0 < mv w K ro f t1 d := by omega
              have hne := nx_ne hw hk6 hdK (by omega) hp1
              refine lv_aload_n hx hb dX6_layBehindOf_128 rfl (lv_at hl 2 rfl) ?_
              refine g_6_8 (x := 71) (y := 78) hC hW (by omega) kd_71 gw_491 (hlk 71 8 78 (by omega) rfl) dX6_layBehindOf_129 ?_
              refine lv_iload_n hx hb dX6_layBehindOf_132 rfl (lv_at hl 5 rfl) ?_
              refine lv_dup2_11 hx hb dX6_layBehindOf_133 rfl rfl ?_
              refine q_lald (x := 78) (i := 7 * f + d) hC hW (by omega) kd_78 (by omega) dX6_layBehindOf_134 ?_
              refine q_top (v2 := .long (lN (fS w ro K d f t1))) (congrArg _ (by rw [up2_ne (by decide), up2_at, if_pos ⟨rfl, rfl⟩])) ?_
              refine lv_iload hx hb dX6_layBehindOf_135 (lv_at hl 1 rfl) ?_
              refine q_i2l hx hb dX6_layBehindOf_137 (by first | omega | exact Nat.lt_of_le_of_lt (hw3 _) (by decide)) ?_
              refine lv_aload_n hx hb dX6_layBehindOf_138 rfl (lv_at hl 2 rfl) ?_
              refine g_6_8 (x := 71) (y := 78) hC hW (by omega) kd_71 gw_491 (hlk 71 8 78 (by omega) rfl) dX6_layBehindOf_139 ?_
              refine lv_iload hx hb dX6_layBehindOf_142 (lv_at hl 0 rfl) ?_
              refine q_lald (x := 78) (i := (7 * t1) + (nx t1 d)) hC hW (by omega) kd_78 (by omega) dX6_layBehindOf_144 ?_
              refine q_top (v2 := .long (lN (Sx' w K ro (K - nx t1 d) t1))) (congrArg _ (by rw [up2_ne (by decide), up2_at, if_neg (fun q => hne.1 q.2)]; exact (hRd t1 (by omega) hp1).1)) ?_
              refine q_lmul hx hb dX6_layBehindOf_145 ?_
              refine q_ladd hx hb dX6_layBehindOf_146 ?_
              refine q_top (v2 := .long (lN (fS w ro K d f (t1 + 1)))) (by rw [fS_p hp1]) ?_
              refine q_last (x := 78) (i := 7 * f + d) (v := lN (fS w ro K d f (t1 + 1))) hC hW (by omega) kd_78 (by omega) dX6_layBehindOf_147 (fun H locs hW => ?_)
              refine lv_aload_n hx hb dX6_layBehindOf_148 rfl (lv_at hl 2 rfl) ?_
              refine g_6_9 (x := 71) (y := 79) hC hW (by omega) kd_71 gw_492 (hlk 71 9 79 (by omega) rfl) dX6_layBehindOf_149 ?_
              refine lv_iload_n hx hb dX6_layBehindOf_152 rfl (lv_at hl 5 rfl) ?_
              refine lv_dup2_11 hx hb dX6_layBehindOf_153 rfl rfl ?_
              refine q_iald (x := 79) (i := 7 * f + d) hC hW (by omega) kd_79 (by omega) dX6_layBehindOf_154 ?_
              refine q_top (v2 := .int (nI (fC w ro K d f t1))) (congrArg _ (by rw [up2_at, if_pos ⟨rfl, rfl⟩])) ?_
              refine lv_aload_n hx hb dX6_layBehindOf_155 rfl (lv_at hl 2 rfl) ?_
              refine g_6_9 (x := 71) (y := 79) hC hW (by omega) kd_71 gw_492 (hlk 71 9 79 (by omega) rfl) dX6_layBehindOf_156 ?_
              refine lv_iload hx hb dX6_layBehindOf_159 (lv_at hl 0 rfl) ?_
              refine q_iald (x := 79) (i := (7 * t1) + (nx t1 d)) hC hW (by omega) kd_79 (by omega) dX6_layBehindOf_161 ?_
              refine q_top (v2 := .int (nI (Cx' w K ro (K - nx t1 d) t1))) (congrArg _ (by rw [up2_at, if_neg (fun q => hne.1 q.2)]; exact (hRd t1 (by omega) hp1).2.2)) ?_
              refine q_iadd hx hb dX6_layBehindOf_162 ?_
              refine q_top (v2 := .int (nI (fC w ro K d f (t1 + 1)))) (by rw [fC_p hp1]) ?_
              refine q_iast (x := 79) (i := 7 * f + d) (v := nI (fC w ro K d f (t1 + 1))) hC hW (by omega) kd_79 (by omega) dX6_layBehindOf_163 (fun H locs hW => ?_)
              refine lv_aload_n hx hb dX6_layBehindOf_164 rfl (lv_at hl 2 rfl) ?_
              refine g_6_10 (x := 71) (y := 80) hC hW (by omega) kd_71 gw_493 (hlk 71 10 80 (by omega) rfl) dX6_layBehindOf_165 ?_
              refine lv_iload_n hx hb dX6_layBehindOf_168 rfl (lv_at hl 5 rfl) ?_
              refine lv_iload hx hb dX6_layBehindOf_169 (lv_at hl 1 rfl) ?_
              refine q_i2l hx hb dX6_layBehindOf_171 (by first | omega | exact Nat.lt_of_le_of_lt (hw3 _) (by decide)) ?_
              refine lv_aload_n hx hb dX6_layBehindOf_172 rfl (lv_at hl 2 rfl) ?_
              refine g_6_10 (x := 71) (y := 80) hC hW (by omega) kd_71 gw_493 (hlk 71 10 80 (by omega) rfl) dX6_layBehindOf_173 ?_
              refine lv_iload hx hb dX6_layBehindOf_176 (lv_at hl 0 rfl) ?_
              refine q_lald (x := 80) (i := (7 * t1) + (nx t1 d)) hC hW (by omega) kd_80 (by omega) dX6_layBehindOf_178 ?_
              refine q_top (v2 := .long (lN (Mx' w K ro (K - nx t1 d) t1))) (congrArg _ (by rw [up2_ne (by decide), up2_at, if_neg (fun q => hne.1 q.2), up2_ne (by decide)]; exact (hRd t1 (by omega) hp1).2.1)) ?_
              refine q_lmul hx hb dX6_layBehindOf_179 ?_
              refine lv_aload_n hx hb dX6_layBehindOf_180 rfl (lv_at hl 2 rfl) ?_
              refine g_6_10 (x := 71) (y := 80) hC hW (by omega) kd_71 gw_493 (hlk 71 10 80 (by omega) rfl) dX6_layBehindOf_181 ?_
              refine lv_iload_n hx hb dX6_layBehindOf_184 rfl (lv_at hl 5 rfl) ?_
              refine q_lald (x := 80) (i := 7 * f + d) hC hW (by omega) kd_80 (by omega) dX6_layBehindOf_185 ?_
              refine q_top (v2 := .long (lN (fM w ro K d f t1))) (congrArg _ (by rw [up2_ne (by decide), up2_at, if_pos ⟨rfl, rfl⟩])) ?_
              refine q_lcmp hx hb dX6_layBehindOf_186 ?_
              refine q_lle (tgt := 204) hx hb dX6_layBehindOf_187 (by decide) (mM_lt hw K d f t1 hk6) (fM_lt hw K d f t1 hk6) (fun c_187 => ?_) (fun c_187 => ?_)
              ·
                refine lv_aload_n hx hb dX6_layBehindOf_204 rfl (lv_at hl 2 rfl) ?_
                refine g_6_10 (x := 71) (y := 80) hC hW (by omega) kd_71 gw_493 (hlk 71 10 80 (by omega) rfl) dX6_layBehindOf_205 ?_
                refine lv_iload_n hx hb dX6_layBehindOf_208 rfl (lv_at hl 5 rfl) ?_
                refine q_lald (x := 80) (i := 7 * f + d) hC hW (by omega) kd_80 (by omega) dX6_layBehindOf_209 ?_
                refine q_top (v2 := .long (lN (fM w ro K d f t1))) (congrArg _ (by rw [up2_ne (by decide), up2_at, if_pos ⟨rfl, rfl⟩])) ?_
                refine q_top (v2 := .long (lN (fM w ro K d f (t1 + 1)))) (by rw [fM_p hp1, Nat.max_eq_left c_187]) ?_
                refine q_last (x := 80) (i := 7 * f + d) (v := lN (fM w ro K d f (t1 + 1))) hC hW (by omega) kd_80 (by omega) dX6_layBehindOf_210 (fun H locs hW => ?_)
                rw [upc, up2_up2] at hW
                refine q_iinc (z2 := t1 + 1) (lv' := [(5, .int (nI (t1 + 1))), (7, .int (nI ((7 * t1) + (nx t1 d)))), (6, .int (nI (mv w K ro f t1 d))), (0, .ref (ad 71)), (1, .int (nI (f))), (2, .int (nI (d))), (3, .int (nI (7 * f + d))), (4, .int (nI 0))]) hx hb dX6_layBehindOf_211 hl (k := 7) rfl (inc_up _ 1 (by decide)) (by decide) rfl (fun ls hl => ?_)
                refine lv_goto (tgt := 81) hx hb dX6_layBehindOf_214 (by decide) ?_
                exact ih_81 (t1 + 1) (by omega) (by omega) _ _ hW _ (lv_sub hl [3, 4, 5, 6, 7, 0] rfl)
              ·
                refine lv_iload hx hb dX6_layBehindOf_190 (lv_at hl 1 rfl) ?_
                refine q_i2l hx hb dX6_layBehindOf_192 (by first | omega | exact Nat.lt_of_le_of_lt (hw3 _) (by decide)) ?_
                refine lv_aload_n hx hb dX6_layBehindOf_193 rfl (lv_at hl 2 rfl) ?_
                refine g_6_10 (x := 71) (y := 80) hC hW (by omega) kd_71 gw_493 (hlk 71 10 80 (by omega) rfl) dX6_layBehindOf_194 ?_
                refine lv_iload hx hb dX6_layBehindOf_197 (lv_at hl 0 rfl) ?_
                refine q_lald (x := 80) (i := (7 * t1) + (nx t1 d)) hC hW (by omega) kd_80 (by omega) dX6_layBehindOf_199 ?_
                refine q_top (v2 := .long (lN (Mx' w K ro (K - nx t1 d) t1))) (congrArg _ (by rw [up2_ne (by decide), up2_at, if_neg (fun q => hne.1 q.2), up2_ne (by decide)]; exact (hRd t1 (by omega) hp1).2.1)) ?_
                refine q_lmul hx hb dX6_layBehindOf_200 ?_
                refine lv_goto (tgt := 210) hx hb dX6_layBehindOf_201 (by decide) ?_
                refine q_top (v2 := .long (lN (fM w ro K d f (t1 + 1)))) (by rw [fM_p hp1, Nat.max_eq_right (Nat.le_of_lt c_187)]) ?_
                refine q_last (x := 80) (i := 7 * f + d) (v := lN (fM w ro K d f (t1 + 1))) hC hW (by omega) kd_80 (by omega) dX6_layBehindOf_210 (fun H locs hW => ?_)
                rw [upc, up2_up2] at hW
                refine q_iinc (z2 := t1 + 1) (lv' := [(5, .int (nI (t1 + 1))), (7, .int (nI ((7 * t1) + (nx t1 d)))), (6, .int (nI (mv w K ro f t1 d))), (0, .ref (ad 71)), (1, .int (nI (f))), (2, .int (nI (d))), (3, .int (nI (7 * f + d))), (4, .int (nI 0))]) hx hb dX6_layBehindOf_211 hl (k := 7) rfl (inc_up _ 1 (by decide)) (by decide) rfl (fun ls hl => ?_)
                refine lv_goto (tgt := 81) hx hb dX6_layBehindOf_214 (by decide) ?_
                exact ih_81 (t1 + 1) (by omega) (by omega) _ _ hW _ (lv_sub hl [3, 4, 5, 6, 7, 0] rfl)
      exact lp_81 (6 + 1) 0 (by omega) (by omega) _ _ hW _ (lv_sub hl [3, 4, 5, 2, 1, 0] rfl)
    ·
      refine q_ic 1 hx hb dX6_layBehindOf_23 (by decide) ?_
      refine lv_goto (tgt := 28) hx hb dX6_layBehindOf_24 (by decide) ?_
      refine lv_istore (lv' := [(4, .int (nI 1)), (3, .int (nI ((7 * f) + d))), (0, .ref (ad 71)), (1, .int (nI (f))), (2, .int (nI (d)))]) hx hb dX6_layBehindOf_28 hl (by decide) rfl (fun ls hl => ?_)
      refine lv_aload_n hx hb dX6_layBehindOf_30 rfl (lv_at hl 2 rfl) ?_
      refine g_6_8 (x := 71) (y := 78) hC hW (by omega) kd_71 gw_491 (hlk 71 8 78 (by omega) rfl) dX6_layBehindOf_31 ?_
      refine lv_iload_n hx hb dX6_layBehindOf_34 rfl (lv_at hl 1 rfl) ?_
      refine lv_iload hx hb dX6_layBehindOf_35 (lv_at hl 0 rfl) ?_
      refine q_ieq (tgt := 44) hx hb dX6_layBehindOf_37 (by decide) (by first | omega | exact Nat.lt_of_le_of_lt (hw3 _) (by decide)) (fun c_37 => absurd c_37 (by decide)) (fun c_37 => ?_)
      refine q_lc 1 hx hb dX6_layBehindOf_40 (by decide) ?_
      refine lv_goto (tgt := 45) hx hb dX6_layBehindOf_41 (by decide) ?_
      refine q_last (x := 78) (i := (7 * f) + d) (v := lN 1) hC hW (by omega) kd_78 (by omega) dX6_layBehindOf_45 (fun H locs hW => ?_)
      refine lv_aload_n hx hb dX6_layBehindOf_46 rfl (lv_at hl 2 rfl) ?_
      refine g_6_9 (x := 71) (y := 79) hC hW (by omega) kd_71 gw_492 (hlk 71 9 79 (by omega) rfl) dX6_layBehindOf_47 ?_
      refine lv_iload_n hx hb dX6_layBehindOf_50 rfl (lv_at hl 1 rfl) ?_
      refine lv_iload hx hb dX6_layBehindOf_51 (lv_at hl 0 rfl) ?_
      refine q_ieq (tgt := 60) hx hb dX6_layBehindOf_53 (by decide) (by first | omega | exact Nat.lt_of_le_of_lt (hw3 _) (by decide)) (fun c_53 => absurd c_53 (by decide)) (fun c_53 => ?_)
      refine q_ic 1 hx hb dX6_layBehindOf_56 (by decide) ?_
      refine lv_goto (tgt := 61) hx hb dX6_layBehindOf_57 (by decide) ?_
      refine q_iast (x := 79) (i := (7 * f) + d) (v := nI 1) hC hW (by omega) kd_79 (by omega) dX6_layBehindOf_61 (fun H locs hW => ?_)
      refine lv_aload_n hx hb dX6_layBehindOf_62 rfl (lv_at hl 2 rfl) ?_
      refine g_6_10 (x := 71) (y := 80) hC hW (by omega) kd_71 gw_493 (hlk 71 10 80 (by omega) rfl) dX6_layBehindOf_63 ?_
      refine lv_iload_n hx hb dX6_layBehindOf_66 rfl (lv_at hl 1 rfl) ?_
      refine lv_iload hx hb dX6_layBehindOf_67 (lv_at hl 0 rfl) ?_
      refine q_ieq (tgt := 76) hx hb dX6_layBehindOf_69 (by decide) (by first | omega | exact Nat.lt_of_le_of_lt (hw3 _) (by decide)) (fun c_69 => absurd c_69 (by decide)) (fun c_69 => ?_)
      refine q_lc 1 hx hb dX6_layBehindOf_72 (by decide) ?_
      refine lv_goto (tgt := 77) hx hb dX6_layBehindOf_73 (by decide) ?_
      refine q_last (x := 80) (i := (7 * f) + d) (v := lN 1) hC hW (by omega) kd_80 (by omega) dX6_layBehindOf_77 (fun H locs hW => ?_)
      refine q_ic 0 hx hb dX6_layBehindOf_78 (by decide) ?_
      refine lv_istore (lv' := [(5, .int (nI 0)), (4, .int (nI 1)), (3, .int (nI ((7 * f) + d))), (0, .ref (ad 71)), (1, .int (nI (f))), (2, .int (nI (d)))]) hx hb dX6_layBehindOf_79 hl (by decide) rfl (fun ls hl => ?_)
      refine lv_iload hx hb dX6_layBehindOf_81 (lv_at hl 0 rfl) ?_
      refine q_bp 6 hx hb dX6_layBehindOf_83 (by decide) ?_
      refine q_cge (tgt := 217) hx hb dX6_layBehindOf_85 (by decide) (by first | omega | exact Nat.lt_of_le_of_lt (hw3 _) (by decide)) (by first | omega | exact Nat.lt_of_le_of_lt (hw3 _) (by decide)) (fun c_85 => absurd c_85 (by decide)) (fun c_85 => ?_)
      refine lv_iload hx hb dX6_layBehindOf_88 (lv_at hl 1 rfl) ?_
      refine q_ine (tgt := 217) hx hb dX6_layBehindOf_90 (by decide) (by first | omega | exact Nat.lt_of_le_of_lt (hw3 _) (by decide)) (fun c_90 => ?_) (fun c_90 => absurd c_90 (by decide))
      have ho := f_one (w := w) (r := ro) (K := K) (f := f) (by omega)
      have eKd : K - d = K - K := by omega
      exact q_vret1 hC hW hr hlk0 ⟨by rw [eKd, ho.1, ho.2.1], by rw [eKd, ho.2.2]⟩ dX6_layBehindOf_217
