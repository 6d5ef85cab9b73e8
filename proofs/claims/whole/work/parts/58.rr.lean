theorem N_p {g g' : Nat → Int32} {w : Nat → Nat} {K : Nat} {ro : Nat → Nat} {p t : Nat} (h : NwI g w K ro) (hp : p < K) (ht : t < 4) (hq : g' (60 + p) = nI t) (hg : ∀ j, j ≠ 60 + p → g' j = g j) : NwI g' w K (upN ro p t) := by
  have hK := h.2.2.2.1
  refine ⟨fun k hk => by rw [hg k (by omega)]; exact h.1 k hk, by rw [hg 58 (by omega)]; exact h.2.1, fun j hj => ?_, hK, h.2.2.2.2.1, fun j => ?_⟩
  · unfold upN
    by_cases e : j = p
    · rw [if_pos e, e]; exact hq
    · rw [if_neg e, hg (60 + j) (by omega)]; exact h.2.2.1 j hj
  · unfold upN
    split
    · exact ht
    · exact h.2.2.2.2.2 j
theorem N_n {g g' : Nat → Int32} {w : Nat → Nat} {K : Nat} {ro : Nat → Nat} {t : Nat} (h : NwI g w K ro) (hK : K < 6) (ht : t < 4) (h58 : g' 58 = nI (K + 1)) (hq : g' (60 + K) = nI t) (hg : ∀ j, j ≠ 58 → j ≠ 60 + K → g' j = g j) : NwI g' w (K + 1) (upN ro K t) := by
  refine ⟨fun k hk => by rw [hg k (by omega) (by omega)]; exact h.1 k hk, h58, fun j hj => ?_, by omega, h.2.2.2.2.1, fun j => ?_⟩
  · unfold upN
    by_cases e : j = K
    · rw [if_pos e, e]; exact hq
    · rw [if_neg e, hg (60 + j) (by omega) (by omega)]; exact h.2.2.1 j (by omega)
  · unfold upN
    split
    · exact ht
    · exact h.2.2.2.2.2 j
def bsI (g : Nat → Nat) (t : Nat) : Int32 := if (mostN g t).2 = 0 then -6 else nI (mostN g t).1
theorem bsI_y {g : Nat → Nat} {t : Nat} (h : (mostN g t).2 < g t) : bsI g (t + 1) = nI t := by
  unfold bsI
  rw [mostN_y h, if_neg (show ¬ g t = 0 by omega)]
theorem bsI_n {g : Nat → Nat} {t : Nat} (h : ¬ (mostN g t).2 < g t) : bsI g (t + 1) = bsI g t := by
  unfold bsI
  rw [mostN_n h]
def pl6 (o : Option (Nat × Nat)) : Int32 := match o with
  | some q => nI q.1
  | none => -6
def pl7 (o : Option (Nat × Nat)) : Int32 := match o with
  | some q => nI q.2
  | none => -6

set_option maxRecDepth 100000 in
set_option maxHeartbeats 4000000 in
theorem k_rnext (l : Launch) (G : Gx) (n : Nat) (ad : Nat → Nat) (sz : Nat) (I : Ic) (L : Lc) (R : Rc) (what : Int32) (w : Nat → Nat) (K : Nat) (ro : Nat → Nat) (hc : Nat) (hi : Nat → CM) (sv : Nat → Option CM) (pn : Nat) (ch : Nat → Nat) (hI0 : InvB n I R ((w, K, ro), hc, hi, sv, pn, ch)) : Met l yX6_next (Cond.code yX6_next cX6_next 10 (some .long) :: GW) ({ frames := 6, cells := 0, slots := 0, locals := 216 } : Room) (qPre G n ad sz I L R [.ref (ad 71), .int (what)]) (qL1 G (qA n ad sz) n ad R (fun z I1 L1 => RRl n I L R (aNext (w, K, ro) what, ((w, K, ro), hc, hi, sv, pn, ch)) z I1 L1)) 0 0 (qA n ad sz) := by
  refine q_met (by decide) (Nat.le_of_ble_eq_true rfl) ?_
  intro p_ e_ s m_ below meth c_ hC hr hlk0 hin hsz hW ls hl
  subst hsz
  have hC : CallFix p_ m_ c_ cX6_next 10 s ([.ref (ad 71), .int (what)] : List Value).toArray GW "CoinRowsModel" := hC
  have hx := hC.1
  have hb := hC.2.1
  have hn : 83 ≤ n := hI0.1
  have hlk : LkOK n R := hI0.2.1
  have hN : NwI (I 72) w K ro := hI0.2.2.1
  have hH : HwB I hc hi := hI0.2.2.2.1
  have hSw : SwB I sv := hI0.2.2.2.2.1
  have hPd : PdB I pn ch := hI0.2.2.2.2.2
  have hh1 := hH.1
  have hh6 := hH.2.1
  have hp80 := hPd.2.1
  have hk6 : K ≤ 6 := hN.2.2.2.1
  have hw : Wok w := hN.2.2.2.2.1
  have hw3 : ∀ i, w i ≤ 3 := hw.1
  have hr4 : ∀ j, ro j < 4 := hN.2.2.2.2.2
  have hl : lv_has ls 10 [(0, .ref (ad 71)), (1, .int (what))] := hl
  refine lv_iload_n hx hb dX6_next_0 rfl (lv_at hl 1 rfl) ?_
  refine q_ic 0 hx hb dX6_next_1 (by decide) ?_
  refine q_ic 1 hx hb dX6_next_2 (by decide) ?_
  refine q_kI0 (q_rS (As := [.int (what), .int (nI 0), .int (nI 1)]) (rest := []) hC hW mw_X6_in gw_537 (k_in l G n ad s.heap.size I L R _ _ _) ⟨rfl, rfl⟩ ⟨Nat.le_of_ble_eq_true rfl, Nat.le_of_ble_eq_true rfl⟩ ⟨(Nat.le_of_ble_eq_true rfl), (Nat.le_of_ble_eq_true rfl)⟩ hl.1 rfl rfl (Nat.le_of_ble_eq_true rfl) dX6_next_3) hW (fun r_3 H locs hp hW => ?_)
  rw [show (nI 0).toInt = 0 by decide, (show (nI 1).toInt = 1 by decide)] at hp
  rcases hp with ⟨rfl, hx_3, hy_3⟩ | ⟨rfl, hx_3⟩
  ·
    obtain ⟨k_3, hk_3, rfl⟩ := rng_ex2 (N := 2) (x := what) (by omega) (by omega) (by omega)
    refine q_ine (tgt := 13) hx hb dX6_next_6 (by decide) (by first | omega | exact Nat.lt_of_le_of_lt (hw3 _) (by decide)) (fun c_6 => ?_) (fun c_6 => absurd c_6 (by decide))
    refine lv_aload_n hx hb dX6_next_13 rfl (lv_at hl 0 rfl) ?_
    refine g_6_0 (x := 71) (y := 72) hC hW (by omega) kd_71 gw_483 (hlk 71 0 72 (by omega) rfl) dX6_next_14 ?_
    refine q_bp 58 hx hb dX6_next_17 (by decide) ?_
    refine q_iald (x := 72) (i := 58) hC hW (by omega) kd_72 (by omega) dX6_next_19 ?_
    refine q_top (v2 := .int (nI (K))) (congrArg _ hN.2.1) ?_
    refine q_bp 6 hx hb dX6_next_20 (by decide) ?_
    refine q_cne (tgt := 29) hx hb dX6_next_22 (by decide) (by first | omega | exact Nat.lt_of_le_of_lt (hw3 _) (by decide)) (by first | omega | exact Nat.lt_of_le_of_lt (hw3 _) (by decide)) (fun c_22 => ?_) (fun c_22 => ?_)
    ·
      have hK6 : K < 6 := by omega
      have hne : ∀ t, (fun t => neN w ro K t 4) t ≤ 36520347436056576 := fun t => by show neN w ro K t 4 ≤ _; rw [neN_eq hw]; exact Sx_b hw (K + 1) (K + 1) 6 (by omega)
      refine q_bp 60 hx hb dX6_next_29 (by decide) ?_
      refine lv_aload_n hx hb dX6_next_31 rfl (lv_at hl 0 rfl) ?_
      refine g_6_0 (x := 71) (y := 72) hC hW (by omega) kd_71 gw_483 (hlk 71 0 72 (by omega) rfl) dX6_next_32 ?_
      refine q_bp 58 hx hb dX6_next_35 (by decide) ?_
      refine q_iald (x := 72) (i := 58) hC hW (by omega) kd_72 (by omega) dX6_next_37 ?_
      refine q_top (v2 := .int (nI (K))) (congrArg _ hN.2.1) ?_
      refine q_iadd hx hb dX6_next_38 ?_
      refine lv_istore_n (lv' := [(2, .int (nI (60 + K))), (0, .ref (ad 71)), (1, .int (nI (k_3)))]) hx hb dX6_next_39 rfl hl (by decide) rfl (fun ls hl => ?_)
      refine lv_aload_n hx hb dX6_next_40 rfl (lv_at hl 1 rfl) ?_
      refine g_6_0 (x := 71) (y := 72) hC hW (by omega) kd_71 gw_483 (hlk 71 0 72 (by omega) rfl) dX6_next_41 ?_
      refine lv_iload_n hx hb dX6_next_44 rfl (lv_at hl 0 rfl) ?_
      refine q_iald (x := 72) (i := 60 + K) hC hW (by omega) kd_72 (by omega) dX6_next_45 ?_
      refine q_top (v2 := .int (I 72 (60 + K))) (congrArg _ rfl) ?_
      refine lv_istore_n (lv' := [(3, .int (I 72 (60 + K))), (2, .int (nI (60 + K))), (0, .ref (ad 71)), (1, .int (nI (k_3)))]) hx hb dX6_next_46 rfl hl (by decide) rfl (fun ls hl => ?_)
      refine lv_bipush (v := -6) hx hb dX6_next_47 (by decide) ?_
      refine lv_istore (lv' := [(4, .int (-6)), (3, .int (I 72 (60 + K))), (2, .int (nI (60 + K))), (0, .ref (ad 71)), (1, .int (nI (k_3)))]) hx hb dX6_next_49 hl (by decide) rfl (fun ls hl => ?_)
      refine q_lc 0 hx hb dX6_next_51 (by decide) ?_
      refine lv_lstore (lv' := [(5, .long (lN 0)), (4, .int (-6)), (3, .int (I 72 (60 + K))), (2, .int (nI (60 + K))), (0, .ref (ad 71)), (1, .int (nI (k_3)))]) hx hb dX6_next_52 hl (by decide) rfl (fun ls hl => ?_)
      refine lv_aload_n hx hb dX6_next_54 rfl (lv_at hl 4 rfl) ?_
      refine g_6_0 (x := 71) (y := 72) hC hW (by omega) kd_71 gw_483 (hlk 71 0 72 (by omega) rfl) dX6_next_55 ?_
      refine q_bp 58 hx hb dX6_next_58 (by decide) ?_
      refine lv_dup2_11 hx hb dX6_next_60 rfl rfl ?_
      refine q_iald (x := 72) (i := 58) hC hW (by omega) kd_72 (by omega) dX6_next_61 ?_
      refine q_top (v2 := .int (nI (K))) (congrArg _ hN.2.1) ?_
      refine q_ic 1 hx hb dX6_next_62 (by decide) ?_
      refine q_iadd hx hb dX6_next_63 ?_
      refine q_iast (x := 72) (i := 58) (v := nI (K + 1)) hC hW (by omega) kd_72 (by omega) dX6_next_64 (fun H locs hW => ?_)
      refine q_ic 0 hx hb dX6_next_65 (by decide) ?_
      refine lv_istore (lv' := [(7, .int (nI 0)), (5, .long (lN 0)), (4, .int (-6)), (3, .int (I 72 (60 + K))), (2, .int (nI (60 + K))), (0, .ref (ad 71)), (1, .int (nI (k_3)))]) hx hb dX6_next_66 hl (by decide) rfl (fun ls hl => ?_)
      have lp_68 : ∀ (fu_68 : Nat) (t1 : Nat) (I1 : Ic) (L1 : Lc), 4 - t1 < fu_68 → (t1 ≤ 4) → (I1 72 58 = nI (K + 1)) → (∀ j, j ≠ 58 → j ≠ 60 + K → I1 72 j = I 72 j) → (∀ a, a ≠ 72 → a ≠ 79 → I1 a = I a) → (∀ a, a ≠ 78 → a ≠ 80 → L1 a = L a) → ∀ (H : Heap) (locs : List Loc), Wd G n ad I1 L1 R (qA n ad s.heap.size) s.heap H locs s → ∀ ls : Array Slot, lv_has ls 10 [(0, .ref (ad 71)), (1, .int (nI (k_3))), (2, .int (nI (60 + K))), (3, .int (I 72 (60 + K))), (4, .int (bsI (fun t => neN w ro K t 4) t1)), (5, .long (lN ((mostN (fun t => neN w ro K t 4) t1).2))), (7, .int (nI (t1)))] → W p_ l e_ ({ frames := 6, cells := 0, slots := 0, locals := 216 } : Room) s m_ ([.ref (ad 71), .int (nI (k_3))] : List Value).toArray below meth c_ H locs 0 0 (MQ below (qL1 G (qA n ad s.heap.size) n ad R (fun z I1 L1 => RRl n I L R (aNext (w, K, ro) (nI k_3), ((w, K, ro), hc, hi, sv, pn, ch)) z I1 L1)) ([.ref (ad 71), .int (nI (k_3))] : List Value).toArray s 0 0 (qA n ad s.heap.size)) (F0 m_ 68 ls []) := by
        intro fu_68
        induction fu_68 with
        | zero =>
          intro t1 I1 L1 hm; exact absurd hm (Nat.not_lt_zero _)
        | succ fu_68 ih_68 =>
          intro t1 I1 L1 hm_68 ht4 h58 h72 hfr hLf H locs hW ls hl
          refine lv_iload hx hb dX6_next_68 (lv_at hl 6 rfl) ?_
          refine q_ic 4 hx hb dX6_next_70 (by decide) ?_
          refine q_cge (tgt := 128) hx hb dX6_next_71 (by decide) (by first | omega | exact Nat.lt_of_le_of_lt (hw3 _) (by decide)) (by first | omega | exact Nat.lt_of_le_of_lt (hw3 _) (by decide)) (fun c_71 => ?_) (fun c_71 => ?_)
          ·
            have e4 : t1 = 4 := by omega
            subst e4
            have hml := mostN_le (g := (fun t => neN w ro K t 4)) hne 4
            by_cases hz4 : (mostN (fun t => neN w ro K t 4) 4).2 = 0
            ·
              rw [show bsI (fun t => neN w ro K t 4) 4 = -6 from if_pos hz4] at hl
              refine lv_aload_n hx hb dX6_next_128 rfl (lv_at hl 0 rfl) ?_
              refine g_6_0 (x := 71) (y := 72) hC hW (by omega) kd_71 gw_483 (hlk 71 0 72 (by omega) rfl) dX6_next_129 ?_
              refine q_bp 58 hx hb dX6_next_132 (by decide) ?_
              refine lv_dup2_11 hx hb dX6_next_134 rfl rfl ?_
              refine q_iald (x := 72) (i := 58) hC hW (by omega) kd_72 (by omega) dX6_next_135 ?_
              refine q_top (v2 := .int (nI (K + 1))) (congrArg _ h58) ?_
              refine q_ic 1 hx hb dX6_next_136 (by decide) ?_
              refine q_isub hx hb dX6_next_137 (by omega) ?_
              refine q_iast (x := 72) (i := 58) (v := nI ((K + 1) - 1)) hC hW (by omega) kd_72 (by omega) dX6_next_138 (fun H locs hW => ?_)
              refine lv_aload_n hx hb dX6_next_139 rfl (lv_at hl 0 rfl) ?_
              refine g_6_0 (x := 71) (y := 72) hC hW (by omega) kd_71 gw_483 (hlk 71 0 72 (by omega) rfl) dX6_next_140 ?_
              refine lv_iload_n hx hb dX6_next_143 rfl (lv_at hl 2 rfl) ?_
              refine lv_iload_n hx hb dX6_next_144 rfl (lv_at hl 3 rfl) ?_
              refine q_iast (x := 72) (i := 60 + K) (v := I 72 (60 + K)) hC hW (by omega) kd_72 (by omega) dX6_next_145 (fun H locs hW => ?_)
              refine lv_iload hx hb dX6_next_146 (lv_at hl 4 rfl) ?_
              refine lv_if_ge (tgt := 157) hx hb dX6_next_148 (by decide) (fun c_148 => absurd c_148 (by decide)) (fun c_148 => ?_)
              refine lv_ldc2 (v := -6) hx hb hC.2.2.2.1 (hC.2.2.2.2 _ gw_710) dX6_next_151 ?_
              refine lv_goto (tgt := 169) hx hb dX6_next_154 (by decide) ?_
              have h72e : up2 (up2 I1 72 58 (nI (K + 1 - 1))) 72 (60 + K) (I 72 (60 + K)) 72 = I 72 := by
                funext j
                rw [up2_at]
                by_cases e1 : j = 60 + K
                · rw [if_pos ⟨rfl, e1⟩, e1]
                · rw [if_neg (fun q => e1 q.2), up2_at]
                  by_cases e2 : j = 58
                  · rw [if_pos ⟨rfl, e2⟩, e2, hN.2.1, Nat.add_sub_cancel]
                  · rw [if_neg (fun q => e2 q.2)]; exact h72 j e2 e1
              exact q_lret1 hC hW hr hlk0 (RR_l (a' := (-6, ((w, K, ro), hc, hi, sv, pn, ch))) (by simp only [aNext, rng_nI hk_3 (by decide), if_neg (show ¬ K = 6 by omega), if_pos (show (mostN (fun t => neN w ro K t 4) 4).2 = 0 from hz4)]) ⟨rfl, PB_q hI0 (fun a ha => by by_cases e9 : a = 72; (rw [e9]; exact h72e); rw [up2_ne e9, up2_ne e9]; exact hfr a e9 (by omega)) (fun j _ => by rw [up2_ne (by decide), up2_ne (by decide), hfr 71 (by decide) (by decide)]) (fun a ha => hLf a (by omega) (by omega))⟩) dX6_next_169
            ·
              rw [show bsI (fun t => neN w ro K t 4) 4 = nI (mostN (fun t => neN w ro K t 4) 4).1 from if_neg hz4] at hl
              refine lv_aload_n hx hb dX6_next_128 rfl (lv_at hl 0 rfl) ?_
              refine g_6_0 (x := 71) (y := 72) hC hW (by omega) kd_71 gw_483 (hlk 71 0 72 (by omega) rfl) dX6_next_129 ?_
              refine q_bp 58 hx hb dX6_next_132 (by decide) ?_
              refine lv_dup2_11 hx hb dX6_next_134 rfl rfl ?_
              refine q_iald (x := 72) (i := 58) hC hW (by omega) kd_72 (by omega) dX6_next_135 ?_
              refine q_top (v2 := .int (nI (K + 1))) (congrArg _ h58) ?_
              refine q_ic 1 hx hb dX6_next_136 (by decide) ?_
              refine q_isub hx hb dX6_next_137 (by omega) ?_
              refine q_iast (x := 72) (i := 58) (v := nI ((K + 1) - 1)) hC hW (by omega) kd_72 (by omega) dX6_next_138 (fun H locs hW => ?_)
              refine lv_aload_n hx hb dX6_next_139 rfl (lv_at hl 0 rfl) ?_
              refine g_6_0 (x := 71) (y := 72) hC hW (by omega) kd_71 gw_483 (hlk 71 0 72 (by omega) rfl) dX6_next_140 ?_
              refine lv_iload_n hx hb dX6_next_143 rfl (lv_at hl 2 rfl) ?_
              refine lv_iload_n hx hb dX6_next_144 rfl (lv_at hl 3 rfl) ?_
              refine q_iast (x := 72) (i := 60 + K) (v := I 72 (60 + K)) hC hW (by omega) kd_72 (by omega) dX6_next_145 (fun H locs hW => ?_)
              refine lv_iload hx hb dX6_next_146 (lv_at hl 4 rfl) ?_
              refine lv_if_ge (tgt := 157) hx hb dX6_next_148 (by decide) (fun c_148 => ?_) (fun c_148 => absurd (Int32.not_lt.mp (nI_pos (by omega))) c_148)
              refine lv_iload_n hx hb dX6_next_157 rfl (lv_at hl 1 rfl) ?_
              refine q_ine (tgt := 167) hx hb dX6_next_158 (by decide) (by first | omega | exact Nat.lt_of_le_of_lt (hw3 _) (by decide)) (fun c_158 => ?_) (fun c_158 => ?_)
              ·
                refine lv_lload hx hb dX6_next_167 (lv_at hl 5 rfl) ?_
                have h72e : up2 (up2 I1 72 58 (nI (K + 1 - 1))) 72 (60 + K) (I 72 (60 + K)) 72 = I 72 := by
                  funext j
                  rw [up2_at]
                  by_cases e1 : j = 60 + K
                  · rw [if_pos ⟨rfl, e1⟩, e1]
                  · rw [if_neg (fun q => e1 q.2), up2_at]
                    by_cases e2 : j = 58
                    · rw [if_pos ⟨rfl, e2⟩, e2, hN.2.1, Nat.add_sub_cancel]
                    · rw [if_neg (fun q => e2 q.2)]; exact h72 j e2 e1
                exact q_lret1 hC hW hr hlk0 (RR_l (a' := (lN (mostN (fun t => neN w ro K t 4) 4).2, ((w, K, ro), hc, hi, sv, pn, ch))) (by simp only [aNext, rng_nI hk_3 (by decide), if_neg (show ¬ K = 6 by omega), if_neg (show ¬ (mostN (fun t => neN w ro K t 4) 4).2 = 0 from hz4), if_neg (show ¬ k_3 = 0 from c_158)]) ⟨rfl, PB_q hI0 (fun a ha => by by_cases e9 : a = 72; (rw [e9]; exact h72e); rw [up2_ne e9, up2_ne e9]; exact hfr a e9 (by omega)) (fun j _ => by rw [up2_ne (by decide), up2_ne (by decide), hfr 71 (by decide) (by decide)]) (fun a ha => hLf a (by omega) (by omega))⟩) dX6_next_169
              ·
                refine lv_iload hx hb dX6_next_161 (lv_at hl 4 rfl) ?_
                refine q_i2l hx hb dX6_next_163 (by first | omega | exact Nat.lt_of_le_of_lt (hw3 _) (by decide)) ?_
                refine lv_goto (tgt := 169) hx hb dX6_next_164 (by decide) ?_
                have h72e : up2 (up2 I1 72 58 (nI (K + 1 - 1))) 72 (60 + K) (I 72 (60 + K)) 72 = I 72 := by
                  funext j
                  rw [up2_at]
                  by_cases e1 : j = 60 + K
                  · rw [if_pos ⟨rfl, e1⟩, e1]
                  · rw [if_neg (fun q => e1 q.2), up2_at]
                    by_cases e2 : j = 58
                    · rw [if_pos ⟨rfl, e2⟩, e2, hN.2.1, Nat.add_sub_cancel]
                    · rw [if_neg (fun q => e2 q.2)]; exact h72 j e2 e1
                exact q_lret1 hC hW hr hlk0 (RR_l (a' := (lN (mostN (fun t => neN w ro K t 4) 4).1, ((w, K, ro), hc, hi, sv, pn, ch))) (by simp only [aNext, rng_nI hk_3 (by decide), if_neg (show ¬ K = 6 by omega), if_neg (show ¬ (mostN (fun t => neN w ro K t 4) 4).2 = 0 from hz4), if_pos (show k_3 = 0 from c_158)]) ⟨rfl, PB_q hI0 (fun a ha => by by_cases e9 : a = 72; (rw [e9]; exact h72e); rw [up2_ne e9, up2_ne e9]; exact hfr a e9 (by omega)) (fun j _ => by rw [up2_ne (by decide), up2_ne (by decide), hfr 71 (by decide) (by decide)]) (fun a ha => hLf a (by omega) (by omega))⟩) dX6_next_169
          ·
            refine lv_aload_n hx hb dX6_next_74 rfl (lv_at hl 0 rfl) ?_
            refine g_6_0 (x := 71) (y := 72) hC hW (by omega) kd_71 gw_483 (hlk 71 0 72 (by omega) rfl) dX6_next_75 ?_
            refine lv_iload_n hx hb dX6_next_78 rfl (lv_at hl 2 rfl) ?_
            refine lv_iload hx hb dX6_next_79 (lv_at hl 6 rfl) ?_
            refine q_iast (x := 72) (i := 60 + K) (v := nI t1) hC hW (by omega) kd_72 (by omega) dX6_next_81 (fun H locs hW => ?_)
            have hNl : NwI (up2 I1 72 (60 + K) (nI t1) 72) w (K + 1) (upN ro K t1) := N_n hN hK6 (by omega) (by rw [up2_at, if_neg (by omega)]; exact h58) (by rw [up2_at, if_pos ⟨rfl, rfl⟩]) (fun j h1 h2 => by rw [up2_at, if_neg (fun q => h2 q.2)]; exact h72 j h1 h2)
            have hml := mostN_le (g := (fun t => neN w ro K t 4)) hne t1
            have hnt : neN w ro K t1 4 ≤ 36520347436056576 := hne t1
            refine lv_aload_n hx hb dX6_next_82 rfl (lv_at hl 0 rfl) ?_
            refine q_kL1 (q_rV (As := []) (rest := []) (x := 71) hC hW mw_X6_totalNow gw_574 (k_totalNow l G n ad H.size (up2 I1 72 (60 + K) (nI t1)) L1 R w (K + 1) (upN ro K t1) hn hlk hNl) (by omega) (ct_o6 kd_71) rfl ⟨rfl, rfl⟩ ⟨Nat.le_of_ble_eq_true rfl, Nat.le_of_ble_eq_true rfl⟩ ⟨(Nat.le_of_ble_eq_true rfl), (Nat.le_of_ble_eq_true rfl)⟩ hl.1 rfl rfl (Nat.le_of_ble_eq_true rfl) dX6_next_83) hW (fun r_83 I_83 L_83 H locs hp hW => ?_)
            obtain ⟨rfl, -, hFr_83⟩ := hp
            refine q_top (v2 := .long (lN (neN w ro K t1 4))) (by rw [neN_eq hw]) ?_
            refine lv_lstore (lv' := [(8, .long (lN (neN w ro K t1 4))), (0, .ref (ad 71)), (1, .int (nI (k_3))), (2, .int (nI (60 + K))), (3, .int (I 72 (60 + K))), (4, .int (bsI (fun t => neN w ro K t 4) t1)), (5, .long (lN ((mostN (fun t => neN w ro K t 4) t1).2))), (7, .int (nI (t1)))]) hx hb dX6_next_86 hl (by decide) rfl (fun ls hl => ?_)
            refine lv_lload hx hb dX6_next_88 (lv_at hl 0 rfl) ?_
            refine lv_lload hx hb dX6_next_90 (lv_at hl 6 rfl) ?_
            refine q_lcmp hx hb dX6_next_92 ?_
            refine q_lle (tgt := 101) hx hb dX6_next_93 (by decide) (Nat.lt_of_le_of_lt hnt (by decide)) (Nat.lt_of_le_of_lt hml.1 (by decide)) (fun c_93 => ?_) (fun c_93 => ?_)
            ·
              refine lv_iload hx hb dX6_next_101 (lv_at hl 5 rfl) ?_
              refine q_top (v2 := .int (bsI (fun t => neN w ro K t 4) (t1 + 1))) (congrArg Value.int (bsI_n (g := (fun t => neN w ro K t 4)) (by omega)).symm) ?_
              refine lv_istore (lv' := [(4, .int (bsI (fun t => neN w ro K t 4) (t1 + 1))), (8, .long (lN (neN w ro K t1 4))), (0, .ref (ad 71)), (1, .int (nI (k_3))), (2, .int (nI (60 + K))), (3, .int (I 72 (60 + K))), (5, .long (lN ((mostN (fun t => neN w ro K t 4) t1).2))), (7, .int (nI (t1)))]) hx hb dX6_next_103 hl (by decide) rfl (fun ls hl => ?_)
              refine lv_lload hx hb dX6_next_105 (lv_at hl 1 rfl) ?_
              refine lv_lload hx hb dX6_next_107 (lv_at hl 6 rfl) ?_
              refine q_lcmp hx hb dX6_next_109 ?_
              refine q_lle (tgt := 118) hx hb dX6_next_110 (by decide) (Nat.lt_of_le_of_lt hnt (by decide)) (Nat.lt_of_le_of_lt hml.1 (by decide)) (fun c_110 => ?_) (fun c_110 => absurd c_110 (by omega))
              refine lv_lload hx hb dX6_next_118 (lv_at hl 6 rfl) ?_
              refine q_top (v2 := .long (lN ((mostN (fun t => neN w ro K t 4) (t1 + 1)).2))) (congrArg (fun z => Value.long (lN z)) (congrArg Prod.snd (mostN_n (g := (fun t => neN w ro K t 4)) (by omega))).symm) ?_
              refine lv_lstore (lv' := [(5, .long (lN ((mostN (fun t => neN w ro K t 4) (t1 + 1)).2))), (4, .int (bsI (fun t => neN w ro K t 4) (t1 + 1))), (8, .long (lN (neN w ro K t1 4))), (0, .ref (ad 71)), (1, .int (nI (k_3))), (2, .int (nI (60 + K))), (3, .int (I 72 (60 + K))), (7, .int (nI (t1)))]) hx hb dX6_next_120 hl (by decide) rfl (fun ls hl => ?_)
              refine q_iinc (z2 := t1 + 1) (lv' := [(7, .int (nI (t1 + 1))), (5, .long (lN ((mostN (fun t => neN w ro K t 4) (t1 + 1)).2))), (4, .int (bsI (fun t => neN w ro K t 4) (t1 + 1))), (8, .long (lN (neN w ro K t1 4))), (0, .ref (ad 71)), (1, .int (nI (k_3))), (2, .int (nI (60 + K))), (3, .int (I 72 (60 + K)))]) hx hb dX6_next_122 hl (k := 7) rfl (inc_up _ 1 (by decide)) (by decide) rfl (fun ls hl => ?_)
              refine lv_goto (tgt := 68) hx hb dX6_next_125 (by decide) ?_
              exact ih_68 (t1 + 1) I_83 L_83 (by omega) (by omega) (by rw [hFr_83.1 72 (by decide), up2_at, if_neg (by omega)]; exact h58) (fun j h1 h2 => by rw [hFr_83.1 72 (by decide), up2_at, if_neg (fun q => h2 q.2)]; exact h72 j h1 h2) (fun a h1 h2 => by rw [hFr_83.1 a h2, up2_ne h1]; exact hfr a h1 h2) (fun a h1 h2 => (hFr_83.2 a h1 h2).trans (hLf a h1 h2)) _ _ hW _ (lv_sub hl [4, 5, 6, 7, 2, 1, 0] rfl)
            ·
              refine lv_iload hx hb dX6_next_96 (lv_at hl 7 rfl) ?_
              refine lv_goto (tgt := 103) hx hb dX6_next_98 (by decide) ?_
              refine q_top (v2 := .int (bsI (fun t => neN w ro K t 4) (t1 + 1))) (congrArg Value.int (bsI_y (g := (fun t => neN w ro K t 4)) (by omega)).symm) ?_
              refine lv_istore (lv' := [(4, .int (bsI (fun t => neN w ro K t 4) (t1 + 1))), (8, .long (lN (neN w ro K t1 4))), (0, .ref (ad 71)), (1, .int (nI (k_3))), (2, .int (nI (60 + K))), (3, .int (I 72 (60 + K))), (5, .long (lN ((mostN (fun t => neN w ro K t 4) t1).2))), (7, .int (nI (t1)))]) hx hb dX6_next_103 hl (by decide) rfl (fun ls hl => ?_)
              refine lv_lload hx hb dX6_next_105 (lv_at hl 1 rfl) ?_
              refine lv_lload hx hb dX6_next_107 (lv_at hl 6 rfl) ?_
              refine q_lcmp hx hb dX6_next_109 ?_
              refine q_lle (tgt := 118) hx hb dX6_next_110 (by decide) (Nat.lt_of_le_of_lt hnt (by decide)) (Nat.lt_of_le_of_lt hml.1 (by decide)) (fun c_110 => absurd c_110 (by omega)) (fun c_110 => ?_)
              refine lv_lload hx hb dX6_next_113 (lv_at hl 1 rfl) ?_
              refine lv_goto (tgt := 120) hx hb dX6_next_115 (by decide) ?_
              refine q_top (v2 := .long (lN ((mostN (fun t => neN w ro K t 4) (t1 + 1)).2))) (congrArg (fun z => Value.long (lN z)) (congrArg Prod.snd (mostN_y (g := (fun t => neN w ro K t 4)) (by omega))).symm) ?_
              refine lv_lstore (lv' := [(5, .long (lN ((mostN (fun t => neN w ro K t 4) (t1 + 1)).2))), (4, .int (bsI (fun t => neN w ro K t 4) (t1 + 1))), (8, .long (lN (neN w ro K t1 4))), (0, .ref (ad 71)), (1, .int (nI (k_3))), (2, .int (nI (60 + K))), (3, .int (I 72 (60 + K))), (7, .int (nI (t1)))]) hx hb dX6_next_120 hl (by decide) rfl (fun ls hl => ?_)
              refine q_iinc (z2 := t1 + 1) (lv' := [(7, .int (nI (t1 + 1))), (5, .long (lN ((mostN (fun t => neN w ro K t 4) (t1 + 1)).2))), (4, .int (bsI (fun t => neN w ro K t 4) (t1 + 1))), (8, .long (lN (neN w ro K t1 4))), (0, .ref (ad 71)), (1, .int (nI (k_3))), (2, .int (nI (60 + K))), (3, .int (I 72 (60 + K)))]) hx hb dX6_next_122 hl (k := 7) rfl (inc_up _ 1 (by decide)) (by decide) rfl (fun ls hl => ?_)
              refine lv_goto (tgt := 68) hx hb dX6_next_125 (by decide) ?_
              exact ih_68 (t1 + 1) I_83 L_83 (by omega) (by omega) (by rw [hFr_83.1 72 (by decide), up2_at, if_neg (by omega)]; exact h58) (fun j h1 h2 => by rw [hFr_83.1 72 (by decide), up2_at, if_neg (fun q => h2 q.2)]; exact h72 j h1 h2) (fun a h1 h2 => by rw [hFr_83.1 a h2, up2_ne h1]; exact hfr a h1 h2) (fun a h1 h2 => (hFr_83.2 a h1 h2).trans (hLf a h1 h2)) _ _ hW _ (lv_sub hl [4, 5, 6, 7, 2, 1, 0] rfl)
      exact lp_68 (4 + 1) 0 (up2 I 72 58 (nI (K + 1))) L (by omega) (by omega) (by rw [up2_at, if_pos ⟨rfl, rfl⟩]) (fun j h1 _ => by rw [up2_at, if_neg (fun q => h1 q.2)]) (fun a h1 _ => up2_ne h1) (fun _ _ _ => rfl) _ _ hW _ (lv_sub hl [5, 6, 4, 3, 2, 1, 0] rfl)
    ·
      refine lv_ldc2 (v := -5) hx hb hC.2.2.2.1 (hC.2.2.2.2 _ gw_659) dX6_next_25 ?_
      exact q_lret1 hC hW hr hlk0 (RR_l (a' := (-5, ((w, K, ro), hc, hi, sv, pn, ch))) (by simp only [aNext, rng_nI hk_3 (by decide), if_pos (show K = 6 by omega)]) ⟨rfl, PB_0 hI0⟩) dX6_next_28
  ·
    have hk_3 : rng what 2 = none := rng_none.mpr (by omega)
    refine q_ine (tgt := 13) hx hb dX6_next_6 (by decide) (by first | omega | exact Nat.lt_of_le_of_lt (hw3 _) (by decide)) (fun c_6 => absurd c_6 (by decide)) (fun c_6 => ?_)
    refine lv_ldc2 (v := -2) hx hb hC.2.2.2.1 (hC.2.2.2.2 _ gw_658) dX6_next_9 ?_
    exact q_lret1 hC hW hr hlk0 (RR_l (a' := (-2, ((w, K, ro), hc, hi, sv, pn, ch))) (by simp only [aNext, hk_3]) ⟨rfl, PB_0 hI0⟩) dX6_next_12
set_option maxRecDepth 100000 in
set_option maxHeartbeats 4000000 in
theorem k_rslip (l : Launch) (G : Gx) (n : Nat) (ad : Nat → Nat) (sz : Nat) (I : Ic) (L : Lc) (R : Rc) (what : Int32) (w : Nat → Nat) (K : Nat) (ro : Nat → Nat) (hc : Nat) (hi : Nat → CM) (sv : Nat → Option CM) (pn : Nat) (ch : Nat → Nat) (hI0 : InvB n I R ((w, K, ro), hc, hi, sv, pn, ch)) : Met l yX6_slip (Cond.code yX6_slip cX6_slip 11 (some .long) :: GW) ({ frames := 6, cells := 0, slots := 0, locals := 216 } : Room) (qPre G n ad sz I L R [.ref (ad 71), .int (what)]) (qL1 G (qA n ad sz) n ad R (fun z I1 L1 => RRl n I L R (aSlip (w, K, ro) what, ((w, K, ro), hc, hi, sv, pn, ch)) z I1 L1)) 0 0 (qA n ad sz) := by
  refine q_met (by decide) (Nat.le_of_ble_eq_true rfl) ?_
  intro p_ e_ s m_ below meth c_ hC hr hlk0 hin hsz hW ls hl
  subst hsz
  have hC : CallFix p_ m_ c_ cX6_slip 11 s ([.ref (ad 71), .int (what)] : List Value).toArray GW "CoinRowsModel" := hC
  have hx := hC.1
  have hb := hC.2.1
  have hn : 83 ≤ n := hI0.1
  have hlk : LkOK n R := hI0.2.1
  have hN : NwI (I 72) w K ro := hI0.2.2.1
  have hH : HwB I hc hi := hI0.2.2.2.1
  have hSw : SwB I sv := hI0.2.2.2.2.1
  have hPd : PdB I pn ch := hI0.2.2.2.2.2
  have hh1 := hH.1
  have hh6 := hH.2.1
  have hp80 := hPd.2.1
  have hk6 : K ≤ 6 := hN.2.2.2.1
  have hw : Wok w := hN.2.2.2.2.1
  have hw3 : ∀ i, w i ≤ 3 := hw.1
  have hr4 : ∀ j, ro j < 4 := hN.2.2.2.2.2
  have hl : lv_has ls 11 [(0, .ref (ad 71)), (1, .int (what))] := hl
  refine lv_iload_n hx hb dX6_slip_0 rfl (lv_at hl 1 rfl) ?_
  refine q_ic 0 hx hb dX6_slip_1 (by decide) ?_
  refine q_ic 2 hx hb dX6_slip_2 (by decide) ?_
  refine q_kI0 (q_rS (As := [.int (what), .int (nI 0), .int (nI 2)]) (rest := []) hC hW mw_X6_in gw_537 (k_in l G n ad s.heap.size I L R _ _ _) ⟨rfl, rfl⟩ ⟨Nat.le_of_ble_eq_true rfl, Nat.le_of_ble_eq_true rfl⟩ ⟨(Nat.le_of_ble_eq_true rfl), (Nat.le_of_ble_eq_true rfl)⟩ hl.1 rfl rfl (Nat.le_of_ble_eq_true rfl) dX6_slip_3) hW (fun r_3 H locs hp hW => ?_)
  rw [show (nI 0).toInt = 0 by decide, (show (nI 2).toInt = 2 by decide)] at hp
  rcases hp with ⟨rfl, hx_3, hy_3⟩ | ⟨rfl, hx_3⟩
  ·
    obtain ⟨k_3, hk_3, rfl⟩ := rng_ex2 (N := 3) (x := what) (by omega) (by omega) (by omega)
    refine q_ine (tgt := 13) hx hb dX6_slip_6 (by decide) (by first | omega | exact Nat.lt_of_le_of_lt (hw3 _) (by decide)) (fun c_6 => ?_) (fun c_6 => absurd c_6 (by decide))
    refine lv_aload_n hx hb dX6_slip_13 rfl (lv_at hl 0 rfl) ?_
    refine q_kL1 (q_rV (As := []) (rest := []) (x := 71) hC hW mw_X6_totalNow gw_574 (k_totalNow l G n ad H.size I L R w K ro hn hlk hN) (by omega) (ct_o6 kd_71) rfl ⟨rfl, rfl⟩ ⟨Nat.le_of_ble_eq_true rfl, Nat.le_of_ble_eq_true rfl⟩ ⟨(Nat.le_of_ble_eq_true rfl), (Nat.le_of_ble_eq_true rfl)⟩ hl.1 rfl rfl (Nat.le_of_ble_eq_true rfl) dX6_slip_14) hW (fun r_14 I_14 L_14 H locs hp hW => ?_)
    obtain ⟨rfl, -, hFr_14⟩ := hp
    refine q_top (v2 := .long (lN (Sx' w K ro K 6))) (rfl) ?_
    have hzB : (Sx' w K ro K 6) ≤ 36520347436056576 := Sx_b hw K K 6 hk6
    have hgB : ∀ p t, p < K → t < 4 → (fun p t => chN w ro K p t 4) p t ≤ 36520347436056576 := fun p t hp ht => by show chN w ro K p t 4 ≤ _; rw [chN_eq hw hp]; exact Sx_b hw K K 6 hk6
    refine lv_lstore_n (lv' := [(2, .long (lN (Sx' w K ro K 6))), (0, .ref (ad 71)), (1, .int (nI (k_3)))]) hx hb dX6_slip_17 rfl hl (by decide) rfl (fun ls hl => ?_)
    refine lv_bipush (v := -6) hx hb dX6_slip_18 (by decide) ?_
    refine lv_istore (lv' := [(4, .int (-6)), (2, .long (lN (Sx' w K ro K 6))), (0, .ref (ad 71)), (1, .int (nI (k_3)))]) hx hb dX6_slip_20 hl (by decide) rfl (fun ls hl => ?_)
    refine lv_bipush (v := -6) hx hb dX6_slip_22 (by decide) ?_
    refine lv_istore (lv' := [(5, .int (-6)), (4, .int (-6)), (2, .long (lN (Sx' w K ro K 6))), (0, .ref (ad 71)), (1, .int (nI (k_3)))]) hx hb dX6_slip_24 hl (by decide) rfl (fun ls hl => ?_)
    refine q_ic 0 hx hb dX6_slip_26 (by decide) ?_
    refine lv_istore (lv' := [(6, .int (nI 0)), (5, .int (-6)), (4, .int (-6)), (2, .long (lN (Sx' w K ro K 6))), (0, .ref (ad 71)), (1, .int (nI (k_3)))]) hx hb dX6_slip_27 hl (by decide) rfl (fun ls hl => ?_)
    have lp_29 : ∀ (fu_29 : Nat) (p1 : Nat) (I1 : Ic) (L1 : Lc), K - p1 < fu_29 → (p1 ≤ K) → (∀ j, I1 72 j = I 72 j) → (∀ a, a ≠ 72 → a ≠ 79 → I1 a = I a) → (∀ a, a ≠ 78 → a ≠ 80 → L1 a = L a) → ∀ (H : Heap) (locs : List Loc), Wd G n ad I1 L1 R (qA n ad s.heap.size) s.heap H locs s → ∀ ls : Array Slot, lv_has ls 11 [(0, .ref (ad 71)), (1, .int (nI (k_3))), (2, .long (lN ((slN (fun p t => chN w ro K p t 4) (Sx' w K ro K 6) (4 * p1)).2))), (4, .int (pl6 (slN (fun p t => chN w ro K p t 4) (Sx' w K ro K 6) (4 * p1)).1)), (5, .int (pl7 (slN (fun p t => chN w ro K p t 4) (Sx' w K ro K 6) (4 * p1)).1)), (6, .int (nI (p1)))] → W p_ l e_ ({ frames := 6, cells := 0, slots := 0, locals := 216 } : Room) s m_ ([.ref (ad 71), .int (nI (k_3))] : List Value).toArray below meth c_ H locs 0 0 (MQ below (qL1 G (qA n ad s.heap.size) n ad R (fun z I1 L1 => RRl n I L R (aSlip (w, K, ro) (nI k_3), ((w, K, ro), hc, hi, sv, pn, ch)) z I1 L1)) ([.ref (ad 71), .int (nI (k_3))] : List Value).toArray s 0 0 (qA n ad s.heap.size)) (F0 m_ 29 ls []) := by
      intro fu_29
      induction fu_29 with
      | zero =>
        intro p1 I1 L1 hm; exact absurd hm (Nat.not_lt_zero _)
      | succ fu_29 ih_29 =>
        intro p1 I1 L1 hm_29 hpK h72 hfr hLf H locs hW ls hl
        refine lv_iload hx hb dX6_slip_29 (lv_at hl 5 rfl) ?_
        refine lv_aload_n hx hb dX6_slip_31 rfl (lv_at hl 0 rfl) ?_
        refine g_6_0 (x := 71) (y := 72) hC hW (by omega) kd_71 gw_483 (hlk 71 0 72 (by omega) rfl) dX6_slip_32 ?_
        refine q_bp 58 hx hb dX6_slip_35 (by decide) ?_
        refine q_iald (x := 72) (i := 58) hC hW (by omega) kd_72 (by omega) dX6_slip_37 ?_
        refine q_top (v2 := .int (nI (K))) (congrArg _ ((h72 58).trans hN.2.1)) ?_
        refine q_cge (tgt := 122) hx hb dX6_slip_38 (by decide) (by first | omega | exact Nat.lt_of_le_of_lt (hw3 _) (by decide)) (by first | omega | exact Nat.lt_of_le_of_lt (hw3 _) (by decide)) (fun c_38 => ?_) (fun c_38 => ?_)
        ·
          have heK : (slN (fun p t => chN w ro K p t 4) (Sx' w K ro K 6) (4 * p1)) = (slN (fun p t => chN w ro K p t 4) (Sx' w K ro K 6) (4 * K)) := by rw [show p1 = K by omega]
          rw [heK] at hl
          have hsle := slN_le (g := (fun p t => chN w ro K p t 4)) hzB hgB (4 * K) (Nat.le_refl _)
          rcases hsl : (slN (fun p t => chN w ro K p t 4) (Sx' w K ro K 6) (4 * K)).1 with _ | q_
          ·
            rw [hsl] at hl
            have hl : lv_has ls 11 [(0, .ref (ad 71)), (1, .int (nI (k_3))), (2, .long (lN ((slN (fun p t => chN w ro K p t 4) (Sx' w K ro K 6) (4 * K)).2))), (4, .int (-6)), (5, .int (-6)), (6, .int (nI (p1)))] := hl
            refine lv_iload hx hb dX6_slip_122 (lv_at hl 3 rfl) ?_
            refine lv_if_ge (tgt := 133) hx hb dX6_slip_124 (by decide) (fun c_124 => absurd c_124 (by decide)) (fun c_124 => ?_)
            refine lv_ldc2 (v := -6) hx hb hC.2.2.2.1 (hC.2.2.2.2 _ gw_710) dX6_slip_127 ?_
            refine lv_goto (tgt := 155) hx hb dX6_slip_130 (by decide) ?_
            exact q_lret1 hC hW hr hlk0 (RR_l (a' := (-6, ((w, K, ro), hc, hi, sv, pn, ch))) (by simp only [aSlip, rng_nI hk_3 (by decide), slM, aTot, hsl]) ⟨rfl, PB_q hI0 (fun a ha => by by_cases e9 : a = 72; (rw [e9]; funext j; exact h72 j); exact hfr a e9 (by omega)) (fun j _ => by rw [hfr 71 (by decide) (by decide)]) (fun a ha => hLf a (by omega) (by omega))⟩) dX6_slip_155
          ·
            rw [hsl] at hl
            have hl : lv_has ls 11 [(0, .ref (ad 71)), (1, .int (nI (k_3))), (2, .long (lN ((slN (fun p t => chN w ro K p t 4) (Sx' w K ro K 6) (4 * K)).2))), (4, .int (nI (q_.1))), (5, .int (nI (q_.2))), (6, .int (nI (p1)))] := hl
            have hq := hsle.2 q_ hsl
            have hq1 := hq.1
            have hq2 := hq.2
            refine lv_iload hx hb dX6_slip_122 (lv_at hl 3 rfl) ?_
            refine lv_if_ge (tgt := 133) hx hb dX6_slip_124 (by decide) (fun c_124 => ?_) (fun c_124 => absurd (Int32.not_lt.mp (nI_pos (by omega))) c_124)
            refine lv_iload_n hx hb dX6_slip_133 rfl (lv_at hl 1 rfl) ?_
            refine q_ine (tgt := 143) hx hb dX6_slip_134 (by decide) (by first | omega | exact Nat.lt_of_le_of_lt (hw3 _) (by decide)) (fun c_134 => ?_) (fun c_134 => ?_)
            ·
              refine lv_iload_n hx hb dX6_slip_143 rfl (lv_at hl 1 rfl) ?_
              refine q_ic 1 hx hb dX6_slip_144 (by decide) ?_
              refine q_cne (tgt := 154) hx hb dX6_slip_145 (by decide) (by first | omega | exact Nat.lt_of_le_of_lt (hw3 _) (by decide)) (by first | omega | exact Nat.lt_of_le_of_lt (hw3 _) (by decide)) (fun c_145 => ?_) (fun c_145 => ?_)
              ·
                refine lv_lload_n hx hb dX6_slip_154 rfl (lv_at hl 2 rfl) ?_
                exact q_lret1 hC hW hr hlk0 (RR_l (a' := (lN (slN (fun p t => chN w ro K p t 4) (Sx' w K ro K 6) (4 * K)).2, ((w, K, ro), hc, hi, sv, pn, ch))) (by simp only [aSlip, rng_nI hk_3 (by decide), slM, aTot, hsl, if_neg (show ¬ k_3 = 0 from c_134), if_neg (show ¬ k_3 = 1 by omega)]) ⟨rfl, PB_q hI0 (fun a ha => by by_cases e9 : a = 72; (rw [e9]; funext j; exact h72 j); exact hfr a e9 (by omega)) (fun j _ => by rw [hfr 71 (by decide) (by decide)]) (fun a ha => hLf a (by omega) (by omega))⟩) dX6_slip_155
              ·
                refine lv_iload hx hb dX6_slip_148 (lv_at hl 4 rfl) ?_
                refine q_i2l hx hb dX6_slip_150 (by first | omega | exact Nat.lt_of_le_of_lt (hw3 _) (by decide)) ?_
                refine lv_goto (tgt := 155) hx hb dX6_slip_151 (by decide) ?_
                exact q_lret1 hC hW hr hlk0 (RR_l (a' := (lN q_.2, ((w, K, ro), hc, hi, sv, pn, ch))) (by simp only [aSlip, rng_nI hk_3 (by decide), slM, aTot, hsl, if_neg (show ¬ k_3 = 0 from c_134), if_pos (show k_3 = 1 by omega)]) ⟨rfl, PB_q hI0 (fun a ha => by by_cases e9 : a = 72; (rw [e9]; funext j; exact h72 j); exact hfr a e9 (by omega)) (fun j _ => by rw [hfr 71 (by decide) (by decide)]) (fun a ha => hLf a (by omega) (by omega))⟩) dX6_slip_155
            ·
              refine lv_iload hx hb dX6_slip_137 (lv_at hl 3 rfl) ?_
              refine q_i2l hx hb dX6_slip_139 (by first | omega | exact Nat.lt_of_le_of_lt (hw3 _) (by decide)) ?_
              refine lv_goto (tgt := 155) hx hb dX6_slip_140 (by decide) ?_
              exact q_lret1 hC hW hr hlk0 (RR_l (a' := (lN q_.1, ((w, K, ro), hc, hi, sv, pn, ch))) (by simp only [aSlip, rng_nI hk_3 (by decide), slM, aTot, hsl, if_pos (show k_3 = 0 from c_134)]) ⟨rfl, PB_q hI0 (fun a ha => by by_cases e9 : a = 72; (rw [e9]; funext j; exact h72 j); exact hfr a e9 (by omega)) (fun j _ => by rw [hfr 71 (by decide) (by decide)]) (fun a ha => hLf a (by omega) (by omega))⟩) dX6_slip_155
        ·
          refine lv_aload_n hx hb dX6_slip_41 rfl (lv_at hl 0 rfl) ?_
          refine g_6_0 (x := 71) (y := 72) hC hW (by omega) kd_71 gw_483 (hlk 71 0 72 (by omega) rfl) dX6_slip_42 ?_
          refine q_bp 60 hx hb dX6_slip_45 (by decide) ?_
          refine lv_iload hx hb dX6_slip_47 (lv_at hl 5 rfl) ?_
          refine q_iadd hx hb dX6_slip_49 ?_
          refine q_iald (x := 72) (i := 60 + p1) hC hW (by omega) kd_72 (by omega) dX6_slip_50 ?_
          refine q_top (v2 := .int (nI (ro p1))) (congrArg _ ((h72 (60 + p1)).trans (hN.2.2.1 p1 (by omega)))) ?_
          refine lv_istore (lv' := [(7, .int (nI (ro p1))), (0, .ref (ad 71)), (1, .int (nI (k_3))), (2, .long (lN ((slN (fun p t => chN w ro K p t 4) (Sx' w K ro K 6) (4 * p1)).2))), (4, .int (pl6 (slN (fun p t => chN w ro K p t 4) (Sx' w K ro K 6) (4 * p1)).1)), (5, .int (pl7 (slN (fun p t => chN w ro K p t 4) (Sx' w K ro K 6) (4 * p1)).1)), (6, .int (nI (p1)))]) hx hb dX6_slip_51 hl (by decide) rfl (fun ls hl => ?_)
          refine q_ic 0 hx hb dX6_slip_53 (by decide) ?_
          refine lv_istore (lv' := [(8, .int (nI 0)), (7, .int (nI (ro p1))), (0, .ref (ad 71)), (1, .int (nI (k_3))), (2, .long (lN ((slN (fun p t => chN w ro K p t 4) (Sx' w K ro K 6) (4 * p1)).2))), (4, .int (pl6 (slN (fun p t => chN w ro K p t 4) (Sx' w K ro K 6) (4 * p1)).1)), (5, .int (pl7 (slN (fun p t => chN w ro K p t 4) (Sx' w K ro K 6) (4 * p1)).1)), (6, .int (nI (p1)))]) hx hb dX6_slip_54 hl (by decide) rfl (fun ls hl => ?_)
          have lp_56 : ∀ (fu_56 : Nat) (t1 : Nat) (I2 : Ic) (L2 : Lc), 4 - t1 < fu_56 → (t1 ≤ 4) → (∀ j, j ≠ 60 + p1 → I2 72 j = I 72 j) → (∀ a, a ≠ 72 → a ≠ 79 → I2 a = I a) → (∀ a, a ≠ 78 → a ≠ 80 → L2 a = L a) → ∀ (H : Heap) (locs : List Loc), Wd G n ad I2 L2 R (qA n ad s.heap.size) s.heap H locs s → ∀ ls : Array Slot, lv_has ls 11 [(0, .ref (ad 71)), (1, .int (nI (k_3))), (2, .long (lN ((slN (fun p t => chN w ro K p t 4) (Sx' w K ro K 6) (4 * p1 + t1)).2))), (4, .int (pl6 (slN (fun p t => chN w ro K p t 4) (Sx' w K ro K 6) (4 * p1 + t1)).1)), (5, .int (pl7 (slN (fun p t => chN w ro K p t 4) (Sx' w K ro K 6) (4 * p1 + t1)).1)), (6, .int (nI (p1))), (7, .int (nI (ro p1))), (8, .int (nI (t1)))] → W p_ l e_ ({ frames := 6, cells := 0, slots := 0, locals := 216 } : Room) s m_ ([.ref (ad 71), .int (nI (k_3))] : List Value).toArray below meth c_ H locs 0 0 (MQ below (qL1 G (qA n ad s.heap.size) n ad R (fun z I1 L1 => RRl n I L R (aSlip (w, K, ro) (nI k_3), ((w, K, ro), hc, hi, sv, pn, ch)) z I1 L1)) ([.ref (ad 71), .int (nI (k_3))] : List Value).toArray s 0 0 (qA n ad s.heap.size)) (F0 m_ 56 ls []) := by
            intro fu_56
            induction fu_56 with
            | zero =>
              intro t1 I2 L2 hm; exact absurd hm (Nat.not_lt_zero _)
            | succ fu_56 ih_56 =>
              intro t1 I2 L2 hm_56 ht4 hi72 hfr2 hLf2 H locs hW ls hl
              refine lv_iload hx hb dX6_slip_56 (lv_at hl 7 rfl) ?_
              refine q_ic 4 hx hb dX6_slip_58 (by decide) ?_
              refine q_cge (tgt := 104) hx hb dX6_slip_59 (by decide) (by first | omega | exact Nat.lt_of_le_of_lt (hw3 _) (by decide)) (by first | omega | exact Nat.lt_of_le_of_lt (hw3 _) (by decide)) (fun c_59 => ?_) (fun c_59 => ?_)
              ·
                have e4 : t1 = 4 := by omega
                subst e4
                have he4 : (slN (fun p t => chN w ro K p t 4) (Sx' w K ro K 6) (4 * p1 + 4)) = (slN (fun p t => chN w ro K p t 4) (Sx' w K ro K 6) (4 * (p1 + 1))) := by rw [show 4 * (p1 + 1) = 4 * p1 + 4 by omega]
                rw [he4] at hl
                refine lv_aload_n hx hb dX6_slip_104 rfl (lv_at hl 0 rfl) ?_
                refine g_6_0 (x := 71) (y := 72) hC hW (by omega) kd_71 gw_483 (hlk 71 0 72 (by omega) rfl) dX6_slip_105 ?_
                refine q_bp 60 hx hb dX6_slip_108 (by decide) ?_
                refine lv_iload hx hb dX6_slip_110 (lv_at hl 5 rfl) ?_
                refine q_iadd hx hb dX6_slip_112 ?_
                refine lv_iload hx hb dX6_slip_113 (lv_at hl 6 rfl) ?_
                refine q_iast (x := 72) (i := 60 + p1) (v := nI (ro p1)) hC hW (by omega) kd_72 (by omega) dX6_slip_115 (fun H locs hW => ?_)
                refine q_iinc (z2 := p1 + 1) (lv' := [(6, .int (nI (p1 + 1))), (0, .ref (ad 71)), (1, .int (nI (k_3))), (2, .long (lN ((slN (fun p t => chN w ro K p t 4) (Sx' w K ro K 6) (4 * (p1 + 1))).2))), (4, .int (pl6 (slN (fun p t => chN w ro K p t 4) (Sx' w K ro K 6) (4 * (p1 + 1))).1)), (5, .int (pl7 (slN (fun p t => chN w ro K p t 4) (Sx' w K ro K 6) (4 * (p1 + 1))).1)), (7, .int (nI (ro p1))), (8, .int (nI 4))]) hx hb dX6_slip_116 hl (k := 5) rfl (inc_up _ 1 (by decide)) (by decide) rfl (fun ls hl => ?_)
                refine lv_goto (tgt := 29) hx hb dX6_slip_119 (by decide) ?_
                exact ih_29 (p1 + 1) (up2 I2 72 (60 + p1) (nI (ro p1))) L2 (by omega) (by omega) (fun j => by rw [up2_at]; by_cases e : j = 60 + p1; (rw [if_pos ⟨rfl, e⟩, e]; exact (hN.2.2.1 p1 (by omega)).symm); rw [if_neg (fun q => e q.2)]; exact hi72 j e) (fun a h1 h2 => by rw [up2_ne h1]; exact hfr2 a h1 h2) hLf2 _ _ hW _ (lv_sub hl [1, 2, 3, 4, 5, 0] rfl)
              ·
                refine lv_aload_n hx hb dX6_slip_62 rfl (lv_at hl 0 rfl) ?_
                refine g_6_0 (x := 71) (y := 72) hC hW (by omega) kd_71 gw_483 (hlk 71 0 72 (by omega) rfl) dX6_slip_63 ?_
                refine q_bp 60 hx hb dX6_slip_66 (by decide) ?_
                refine lv_iload hx hb dX6_slip_68 (lv_at hl 5 rfl) ?_
                refine q_iadd hx hb dX6_slip_70 ?_
                refine lv_iload hx hb dX6_slip_71 (lv_at hl 7 rfl) ?_
                refine q_iast (x := 72) (i := 60 + p1) (v := nI t1) hC hW (by omega) kd_72 (by omega) dX6_slip_73 (fun H locs hW => ?_)
                have hNl : NwI (up2 I2 72 (60 + p1) (nI t1) 72) w K (upN ro p1 t1) := N_p hN (by omega) (by omega) (by rw [up2_at, if_pos ⟨rfl, rfl⟩]) (fun j h => by rw [up2_at, if_neg (fun q => h q.2)]; exact hi72 j h)
                have hml := (slN_le (g := (fun p t => chN w ro K p t 4)) hzB hgB (4 * p1 + t1) (by omega)).1
                have hnt : chN w ro K p1 t1 4 ≤ 36520347436056576 := hgB p1 t1 (by omega) (by omega)
                refine lv_aload_n hx hb dX6_slip_74 rfl (lv_at hl 0 rfl) ?_
                refine q_kL1 (q_rV (As := []) (rest := []) (x := 71) hC hW mw_X6_totalNow gw_574 (k_totalNow l G n ad H.size (up2 I2 72 (60 + p1) (nI t1)) L2 R w K (upN ro p1 t1) hn hlk hNl) (by omega) (ct_o6 kd_71) rfl ⟨rfl, rfl⟩ ⟨Nat.le_of_ble_eq_true rfl, Nat.le_of_ble_eq_true rfl⟩ ⟨(Nat.le_of_ble_eq_true rfl), (Nat.le_of_ble_eq_true rfl)⟩ hl.1 rfl rfl (Nat.le_of_ble_eq_true rfl) dX6_slip_75) hW (fun r_75 I_75 L_75 H locs hp hW => ?_)
                obtain ⟨rfl, -, hFr_75⟩ := hp
                refine q_top (v2 := .long (lN (chN w ro K p1 t1 4))) (by rw [chN_eq hw (show p1 < K by omega)]) ?_
                refine lv_lstore (lv' := [(9, .long (lN (chN w ro K p1 t1 4))), (0, .ref (ad 71)), (1, .int (nI (k_3))), (2, .long (lN ((slN (fun p t => chN w ro K p t 4) (Sx' w K ro K 6) (4 * p1 + t1)).2))), (4, .int (pl6 (slN (fun p t => chN w ro K p t 4) (Sx' w K ro K 6) (4 * p1 + t1)).1)), (5, .int (pl7 (slN (fun p t => chN w ro K p t 4) (Sx' w K ro K 6) (4 * p1 + t1)).1)), (6, .int (nI (p1))), (7, .int (nI (ro p1))), (8, .int (nI (t1)))]) hx hb dX6_slip_78 hl (by decide) rfl (fun ls hl => ?_)
                refine lv_lload hx hb dX6_slip_80 (lv_at hl 0 rfl) ?_
                refine lv_lload_n hx hb dX6_slip_82 rfl (lv_at hl 3 rfl) ?_
                refine q_lcmp hx hb dX6_slip_83 ?_
                refine q_lle (tgt := 98) hx hb dX6_slip_84 (by decide) (Nat.lt_of_le_of_lt hnt (by decide)) (Nat.lt_of_le_of_lt hml (by decide)) (fun c_84 => ?_) (fun c_84 => ?_)
                ·
                  have hse := slN_n (g := (fun p t => chN w ro K p t 4)) (z := (Sx' w K ro K 6)) (p := p1) (t := t1) (by omega) (show ¬ (slN (fun p t => chN w ro K p t 4) (Sx' w K ro K 6) (4 * p1 + t1)).2 < chN w ro K p1 t1 4 by omega)
                  have hl : lv_has ls 11 [(9, .long (lN (chN w ro K p1 t1 4))), (0, .ref (ad 71)), (1, .int (nI (k_3))), (2, .long (lN ((slN (fun p t => chN w ro K p t 4) (Sx' w K ro K 6) (4 * p1 + t1 + 1)).2))), (4, .int (pl6 (slN (fun p t => chN w ro K p t 4) (Sx' w K ro K 6) (4 * p1 + t1 + 1)).1)), (5, .int (pl7 (slN (fun p t => chN w ro K p t 4) (Sx' w K ro K 6) (4 * p1 + t1 + 1)).1)), (6, .int (nI (p1))), (7, .int (nI (ro p1))), (8, .int (nI (t1)))] := by rw [show pl6 (slN (fun p t => chN w ro K p t 4) (Sx' w K ro K 6) (4 * p1 + t1 + 1)).1 = pl6 (slN (fun p t => chN w ro K p t 4) (Sx' w K ro K 6) (4 * p1 + t1)).1 from congrArg (fun z => pl6 z.1) hse, show pl7 (slN (fun p t => chN w ro K p t 4) (Sx' w K ro K 6) (4 * p1 + t1 + 1)).1 = pl7 (slN (fun p t => chN w ro K p t 4) (Sx' w K ro K 6) (4 * p1 + t1)).1 from congrArg (fun z => pl7 z.1) hse, show (slN (fun p t => chN w ro K p t 4) (Sx' w K ro K 6) (4 * p1 + t1 + 1)).2 = (slN (fun p t => chN w ro K p t 4) (Sx' w K ro K 6) (4 * p1 + t1)).2 from congrArg Prod.snd hse]; exact hl
                  refine q_iinc (z2 := t1 + 1) (lv' := [(8, .int (nI (t1 + 1))), (9, .long (lN (chN w ro K p1 t1 4))), (0, .ref (ad 71)), (1, .int (nI (k_3))), (2, .long (lN ((slN (fun p t => chN w ro K p t 4) (Sx' w K ro K 6) (4 * p1 + t1 + 1)).2))), (4, .int (pl6 (slN (fun p t => chN w ro K p t 4) (Sx' w K ro K 6) (4 * p1 + t1 + 1)).1)), (5, .int (pl7 (slN (fun p t => chN w ro K p t 4) (Sx' w K ro K 6) (4 * p1 + t1 + 1)).1)), (6, .int (nI (p1))), (7, .int (nI (ro p1)))]) hx hb dX6_slip_98 hl (k := 8) rfl (inc_up _ 1 (by decide)) (by decide) rfl (fun ls hl => ?_)
                  refine lv_goto (tgt := 56) hx hb dX6_slip_101 (by decide) ?_
                  exact ih_56 (t1 + 1) I_75 L_75 (by omega) (by omega) (fun j h => by rw [hFr_75.1 72 (by decide), up2_at, if_neg (fun q => h q.2)]; exact hi72 j h) (fun a h1 h2 => by rw [hFr_75.1 a h2, up2_ne h1]; exact hfr2 a h1 h2) (fun a h1 h2 => (hFr_75.2 a h1 h2).trans (hLf2 a h1 h2)) _ _ hW _ (lv_sub hl [2, 3, 4, 5, 6, 7, 8, 0] rfl)
                ·
                  refine lv_iload hx hb dX6_slip_87 (lv_at hl 6 rfl) ?_
                  refine lv_istore (lv' := [(4, .int (nI (p1))), (9, .long (lN (chN w ro K p1 t1 4))), (0, .ref (ad 71)), (1, .int (nI (k_3))), (2, .long (lN ((slN (fun p t => chN w ro K p t 4) (Sx' w K ro K 6) (4 * p1 + t1)).2))), (5, .int (pl7 (slN (fun p t => chN w ro K p t 4) (Sx' w K ro K 6) (4 * p1 + t1)).1)), (6, .int (nI (p1))), (7, .int (nI (ro p1))), (8, .int (nI (t1)))]) hx hb dX6_slip_89 hl (by decide) rfl (fun ls hl => ?_)
                  refine lv_iload hx hb dX6_slip_91 (lv_at hl 8 rfl) ?_
                  refine lv_istore (lv' := [(5, .int (nI (t1))), (4, .int (nI (p1))), (9, .long (lN (chN w ro K p1 t1 4))), (0, .ref (ad 71)), (1, .int (nI (k_3))), (2, .long (lN ((slN (fun p t => chN w ro K p t 4) (Sx' w K ro K 6) (4 * p1 + t1)).2))), (6, .int (nI (p1))), (7, .int (nI (ro p1))), (8, .int (nI (t1)))]) hx hb dX6_slip_93 hl (by decide) rfl (fun ls hl => ?_)
                  refine lv_lload hx hb dX6_slip_95 (lv_at hl 2 rfl) ?_
                  refine lv_lstore_n (lv' := [(2, .long (lN (chN w ro K p1 t1 4))), (5, .int (nI (t1))), (4, .int (nI (p1))), (9, .long (lN (chN w ro K p1 t1 4))), (0, .ref (ad 71)), (1, .int (nI (k_3))), (6, .int (nI (p1))), (7, .int (nI (ro p1))), (8, .int (nI (t1)))]) hx hb dX6_slip_97 rfl hl (by decide) rfl (fun ls hl => ?_)
                  have hse := slN_y (g := (fun p t => chN w ro K p t 4)) (z := (Sx' w K ro K 6)) (p := p1) (t := t1) (by omega) (show (slN (fun p t => chN w ro K p t 4) (Sx' w K ro K 6) (4 * p1 + t1)).2 < chN w ro K p1 t1 4 by omega)
                  have hl : lv_has ls 11 [(2, .long (lN ((slN (fun p t => chN w ro K p t 4) (Sx' w K ro K 6) (4 * p1 + t1 + 1)).2))), (5, .int (pl7 (slN (fun p t => chN w ro K p t 4) (Sx' w K ro K 6) (4 * p1 + t1 + 1)).1)), (4, .int (pl6 (slN (fun p t => chN w ro K p t 4) (Sx' w K ro K 6) (4 * p1 + t1 + 1)).1)), (9, .long (lN (chN w ro K p1 t1 4))), (0, .ref (ad 71)), (1, .int (nI (k_3))), (6, .int (nI (p1))), (7, .int (nI (ro p1))), (8, .int (nI (t1)))] := by rw [show pl6 (slN (fun p t => chN w ro K p t 4) (Sx' w K ro K 6) (4 * p1 + t1 + 1)).1 = nI p1 from congrArg (fun z => pl6 z.1) hse, show pl7 (slN (fun p t => chN w ro K p t 4) (Sx' w K ro K 6) (4 * p1 + t1 + 1)).1 = nI t1 from congrArg (fun z => pl7 z.1) hse, show (slN (fun p t => chN w ro K p t 4) (Sx' w K ro K 6) (4 * p1 + t1 + 1)).2 = chN w ro K p1 t1 4 from congrArg Prod.snd hse]; exact hl
                  refine q_iinc (z2 := t1 + 1) (lv' := [(8, .int (nI (t1 + 1))), (2, .long (lN ((slN (fun p t => chN w ro K p t 4) (Sx' w K ro K 6) (4 * p1 + t1 + 1)).2))), (5, .int (pl7 (slN (fun p t => chN w ro K p t 4) (Sx' w K ro K 6) (4 * p1 + t1 + 1)).1)), (4, .int (pl6 (slN (fun p t => chN w ro K p t 4) (Sx' w K ro K 6) (4 * p1 + t1 + 1)).1)), (9, .long (lN (chN w ro K p1 t1 4))), (0, .ref (ad 71)), (1, .int (nI (k_3))), (6, .int (nI (p1))), (7, .int (nI (ro p1)))]) hx hb dX6_slip_98 hl (k := 8) rfl (inc_up _ 1 (by decide)) (by decide) rfl (fun ls hl => ?_)
                  refine lv_goto (tgt := 56) hx hb dX6_slip_101 (by decide) ?_
                  exact ih_56 (t1 + 1) I_75 L_75 (by omega) (by omega) (fun j h => by rw [hFr_75.1 72 (by decide), up2_at, if_neg (fun q => h q.2)]; exact hi72 j h) (fun a h1 h2 => by rw [hFr_75.1 a h2, up2_ne h1]; exact hfr2 a h1 h2) (fun a h1 h2 => (hFr_75.2 a h1 h2).trans (hLf2 a h1 h2)) _ _ hW _ (lv_sub hl [5, 6, 1, 3, 2, 7, 8, 0] rfl)
          exact lp_56 (4 + 1) 0 I1 L1 (by omega) (by omega) (fun j _ => h72 j) hfr hLf _ _ hW _ (lv_sub hl [2, 3, 4, 5, 6, 7, 1, 0] rfl)
    exact lp_29 (K + 1) 0 I_14 L_14 (by omega) (by omega) (fun j => by rw [hFr_14.1 72 (by decide)]) (fun a _ h => hFr_14.1 a h) hFr_14.2 _ _ hW _ (lv_sub hl [4, 5, 3, 2, 1, 0] rfl)
  ·
    have hk_3 : rng what 3 = none := rng_none.mpr (by omega)
    refine q_ine (tgt := 13) hx hb dX6_slip_6 (by decide) (by first | omega | exact Nat.lt_of_le_of_lt (hw3 _) (by decide)) (fun c_6 => absurd c_6 (by decide)) (fun c_6 => ?_)
    refine lv_ldc2 (v := -2) hx hb hC.2.2.2.1 (hC.2.2.2.2 _ gw_658) dX6_slip_9 ?_
    exact q_lret1 hC hW hr hlk0 (RR_l (a' := (-2, ((w, K, ro), hc, hi, sv, pn, ch))) (by simp only [aSlip, hk_3]) ⟨rfl, PB_0 hI0⟩) dX6_slip_12
