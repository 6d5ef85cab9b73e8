def Pc (c t : Nat) : Prop := (t = 5 ∧ 1 ≤ c) ∨ (t = 4 ∧ 2 ≤ c) ∨ (t < 4 ∧ t + 3 ≤ c)
/-- laid: all with more than v told, and c coins with v told -/
def BhS (w r : Nat → Nat) (K : Nat) (I : Ic) (L : Lc) (v c : Nat) : Prop := (∀ d t, v < d → d ≤ K → t < 6 → Bq w r K I L d t) ∧ ∀ t, Pc c t → Bq w r K I L v t
def BhI (w r : Nat → Nat) (K : Nat) (I : Ic) (L : Lc) (e : Nat) : Prop := ∀ d t, e ≤ d → d ≤ K → t < 6 → Bq w r K I L d t
theorem BhS_0 {w r : Nat → Nat} {K : Nat} {I : Ic} {L : Lc} {v : Nat} (h : BhI w r K I L (v + 1)) : BhS w r K I L v 0 := ⟨fun d t h1 h2 h3 => h d t (by omega) h2 h3, fun t ht => by unfold Pc at ht; omega⟩
theorem BhS_6 {w r : Nat → Nat} {K : Nat} {I : Ic} {L : Lc} {v c : Nat} (h : BhS w r K I L v c) (hc : c = 6) : BhI w r K I L v := fun d t h1 h2 h3 => by
  by_cases e : d = v
  · subst e; exact h.2 t (by unfold Pc; omega)
  · exact h.1 d t (by omega) h2 h3
theorem BhS_rd {w r : Nat → Nat} {K : Nat} {I : Ic} {L : Lc} {v c f : Nat} (hw : Wok w) (h : BhS w r K I L v c) (hv : v ≤ K) (hf : (f = 5 ∧ c = 0) ∨ (f = 4 ∧ c = 1) ∨ (f < 4 ∧ c = f + 2)) : ∀ t, t < 6 → 0 < mv w K r f t v → Bq w r K I L (nx t v) t := fun t ht hp => by
  by_cases h4 : t < 4
  · have e : nx t v = v + 1 := if_pos h4
    have hvK : v < K := by
      refine Classical.byContradiction fun q => ?_
      have : mv w K r f t v = 0 := by unfold mv; rw [if_neg (by omega), if_neg q]
      omega
    rw [e]
    exact h.1 (v + 1) t (by omega) (by omega) ht
  · have e : nx t v = v := if_neg h4
    rw [e]
    refine h.2 t ?_
    have h45 : t = 4 ∨ t = 5 := by omega
    unfold Pc
    rcases hf with ⟨rfl, rfl⟩ | ⟨rfl, rfl⟩ | ⟨hf, rfl⟩
    · rcases h45 with rfl | rfl
      · rw [mv_54 hw] at hp; omega
      · rw [mv_55 hw] at hp; omega
    · rcases h45 with rfl | rfl
      · rw [mv_44 hw] at hp; omega
      · omega
    · omega
theorem BhS_s {w r : Nat → Nat} {K : Nat} {I : Ic} {L : Lc} {v c f : Nat} (h : BhS w r K I L v c) (hv : v ≤ K) (hK : K ≤ 6) (hf : (f = 5 ∧ c = 0) ∨ (f = 4 ∧ c = 1) ∨ (f < 4 ∧ c = f + 2)) : BhS w r K (up2 I 79 (7 * f + v) (nI (Cx' w K r (K - v) f))) (up2 (up2 L 78 (7 * f + v) (lN (Sx' w K r (K - v) f))) 80 (7 * f + v) (lN (Mx' w K r (K - v) f))) v (c + 1) := by
  have keep : ∀ d t, d ≤ K → t < 6 → ¬ (t = f ∧ d = v) → Bq w r K I L d t → Bq w r K (up2 I 79 (7 * f + v) (nI (Cx' w K r (K - v) f))) (up2 (up2 L 78 (7 * f + v) (lN (Sx' w K r (K - v) f))) 80 (7 * f + v) (lN (Mx' w K r (K - v) f))) d t := fun d t hd ht hne hb => by
    have hi : ¬ 7 * t + d = 7 * f + v := fun q => hne (by omega)
    refine ⟨?_, ?_, ?_⟩
    · rw [up2_ne (by decide), up2_at, if_neg (fun q => hi q.2)]; exact hb.1
    · rw [up2_at, if_neg (fun q => hi q.2), up2_ne (by decide)]; exact hb.2.1
    · rw [up2_at, if_neg (fun q => hi q.2)]; exact hb.2.2
  refine ⟨fun d t h1 h2 h3 => keep d t h2 h3 (by omega) (h.1 d t h1 h2 h3), fun t ht => ?_⟩
  by_cases e : t = f
  · subst e
    refine ⟨?_, ?_, ?_⟩
    · rw [up2_ne (by decide), up2_at, if_pos ⟨rfl, rfl⟩]
    · rw [up2_at, if_pos ⟨rfl, rfl⟩]
    · rw [up2_at, if_pos ⟨rfl, rfl⟩]
  · have hp : Pc c t := by unfold Pc at ht ⊢; omega
    exact keep v t hv (by unfold Pc at ht; omega) (fun q => e q.1) (h.2 t hp)
def FrBh (I0 I : Ic) (L0 L : Lc) : Prop := (∀ a, a ≠ 79 → I a = I0 a) ∧ ∀ a, a ≠ 78 → a ≠ 80 → L a = L0 a
theorem FrBh_s {I0 I : Ic} {L0 L : Lc} (h : FrBh I0 I L0 L) {i : Nat} {x : Int32} {y z : Int64} : FrBh I0 (up2 I 79 i x) L0 (up2 (up2 L 78 i y) 80 i z) :=
  ⟨fun a ha => by rw [up2_ne ha]; exact h.1 a ha, fun a h1 h2 => by rw [up2_ne h2, up2_ne h1]; exact h.2 a h1 h2⟩

set_option maxRecDepth 100000 in
set_option maxHeartbeats 4000000 in
theorem k_layBh (l : Launch) (G : Gx) (n : Nat) (ad : Nat → Nat) (sz : Nat) (I : Ic) (L : Lc) (R : Rc)  (w : Nat → Nat) (K : Nat) (ro : Nat → Nat) (hn : 83 ≤ n) (hlk : LkOK n R) (hN : NwI (I 72) w K ro) : Met l yX6_layBehind (Cond.code yX6_layBehind cX6_layBehind 3 none :: GW) ({ frames := 3, cells := 0, slots := 0, locals := 108 } : Room) (qPre G n ad sz I L R [.ref (ad 71)]) (qV1 G (qA n ad sz) n ad R (fun I1 L1 => BhI w ro K I1 L1 0 ∧ FrBh I I1 L L1)) 0 0 (qA n ad sz) := by
  refine q_met (by decide) (Nat.le_of_ble_eq_true rfl) ?_
  intro p_ e_ s m_ below meth c_ hC hr hlk0 hin hsz hW ls hl
  subst hsz
  have hC : CallFix p_ m_ c_ cX6_layBehind 3 s ([.ref (ad 71)] : List Value).toArray GW "CoinRowsModel" := hC
  have hx := hC.1
  have hb := hC.2.1
  have hk6 : K ≤ 6 := hN.2.2.2.1
  have hw : Wok w := hN.2.2.2.2.1
  have hw3 : ∀ i, w i ≤ 3 := hw.1
  have hr4 : ∀ j, ro j < 4 := hN.2.2.2.2.2
  have hl : lv_has ls 3 [(0, .ref (ad 71))] := hl
  refine lv_aload_n hx hb dX6_layBehind_0 rfl (lv_at hl 0 rfl) ?_
  refine g_6_0 (x := 71) (y := 72) hC hW (by omega) kd_71 gw_483 (hlk 71 0 72 (by omega) rfl) dX6_layBehind_1 ?_
  refine q_bp 58 hx hb dX6_layBehind_4 (by decide) ?_
  refine q_iald (x := 72) (i := 58) hC hW (by omega) kd_72 (by omega) dX6_layBehind_6 ?_
  refine q_top (v2 := .int (nI (K))) (congrArg _ hN.2.1) ?_
  refine lv_istore_n (lv' := [(1, .int (nI (K))), (0, .ref (ad 71))]) hx hb dX6_layBehind_7 rfl hl (by decide) rfl (fun ls hl => ?_)
  have hl : lv_has ls 3 [(1, .int (nI (K + 1) - nI 1)), (0, .ref (ad 71))] := by rw [show nI (K + 1) - nI 1 = nI K by rw [pk_sub (by omega)]; rfl]; exact hl
  have lp_8 : ∀ (fu_8 : Nat) (e1 : Nat) (I1 : Ic) (L1 : Lc), e1 < fu_8 → (e1 ≤ K + 1) → (BhI w ro K I1 L1 e1) → (FrBh I I1 L L1) → ∀ (H : Heap) (locs : List Loc), Wd G n ad I1 L1 R (qA n ad s.heap.size) s.heap H locs s → ∀ ls : Array Slot, lv_has ls 3 [(0, .ref (ad 71)), (1, .int (nI e1 - nI 1))] → W p_ l e_ ({ frames := 3, cells := 0, slots := 0, locals := 108 } : Room) s m_ ([.ref (ad 71)] : List Value).toArray below meth c_ H locs 0 0 (MQ below (qV1 G (qA n ad s.heap.size) n ad R (fun I1 L1 => BhI w ro K I1 L1 0 ∧ FrBh I I1 L L1)) ([.ref (ad 71)] : List Value).toArray s 0 0 (qA n ad s.heap.size)) (F0 m_ 8 ls []) := by
    intro fu_8
    induction fu_8 with
    | zero =>
      intro e1 I1 L1 hm; exact absurd hm (Nat.not_lt_zero _)
    | succ fu_8 ih_8 =>
      intro e1 I1 L1 hm_8 heK hB hFr H locs hW ls hl
      have hN1 : NwI (I1 72) w K ro := by rw [hFr.1 72 (by decide)]; exact hN
      rcases Nat.eq_zero_or_pos e1 with he0 | he0
      ·
        subst he0
        have hl : lv_has ls 3 [(0, .ref (ad 71)), (1, .int (nI 0 - nI 1))] := hl
        have hl : lv_has ls 3 [(0, .ref (ad 71)), (1, .int (-1))] := by rw [show (-1 : Int32) = nI 0 - nI 1 by decide]; exact hl
        refine lv_iload_n hx hb dX6_layBehind_8 rfl (lv_at hl 1 rfl) ?_
        refine lv_if_lt (tgt := 49) hx hb dX6_layBehind_9 (by decide) (fun c_9 => ?_) (fun c_9 => absurd c_9 (by decide))
        exact q_vret1 hC hW hr hlk0 ⟨hB, hFr⟩ dX6_layBehind_49
      ·
        obtain ⟨v, rfl⟩ : ∃ v, e1 = v + 1 := ⟨e1 - 1, by omega⟩
        have hl : lv_has ls 3 [(0, .ref (ad 71)), (1, .int (nI (v + 1) - nI 1))] := hl
        have hl : lv_has ls 3 [(0, .ref (ad 71)), (1, .int (nI (v)))] := by rw [show nI v = nI (v + 1) - nI 1 by rw [pk_sub (by omega)]; rfl]; exact hl
        have hS0 := BhS_0 hB
        refine lv_iload_n hx hb dX6_layBehind_8 rfl (lv_at hl 1 rfl) ?_
        refine lv_if_lt (tgt := 49) hx hb dX6_layBehind_9 (by decide) (fun c_9 => absurd c_9 (nI_pos (by omega))) (fun c_9 => ?_)
        refine lv_aload_n hx hb dX6_layBehind_12 rfl (lv_at hl 0 rfl) ?_
        refine q_ic 5 hx hb dX6_layBehind_13 (by decide) ?_
        refine lv_iload_n hx hb dX6_layBehind_14 rfl (lv_at hl 1 rfl) ?_
        refine q_kV1 (q_rV (As := [.int (nI 5), .int (nI (v))]) (rest := []) (x := 71) hC hW mw_X6_layBehindOf gw_582 (k_layOf l G n ad H.size I1 L1 R w K ro hn hlk hN1 5 v (by omega) (by omega) (BhS_rd hw hS0 (by omega) (Or.inl ⟨rfl, rfl⟩))) (by omega) (ct_o6 kd_71) rfl ⟨rfl, rfl⟩ ⟨Nat.le_of_ble_eq_true rfl, Nat.le_of_ble_eq_true rfl⟩ ⟨(Nat.le_of_ble_eq_true rfl), (Nat.le_of_ble_eq_true rfl)⟩ hl.1 rfl rfl (Nat.le_of_ble_eq_true rfl) dX6_layBehind_15) hW (fun I_15 L_15 H locs hp hW => ?_)
        obtain ⟨rfl, rfl⟩ := hp
        have hS15 := BhS_s (f := 5) hS0 (by omega : v ≤ K) hk6 (Or.inl ⟨rfl, rfl⟩)
        have hFr15 := FrBh_s (i := (7 * 5 + v)) (x := nI (Cx' w K ro (K - v) 5)) (y := lN (Sx' w K ro (K - v) 5)) (z := lN (Mx' w K ro (K - v) 5)) hFr
        have hN15 : NwI ((up2 I1 79 (7 * 5 + v) (nI (Cx' w K ro (K - v) 5))) 72) w K ro := by rw [hFr15.1 72 (by decide)]; exact hN
        refine lv_aload_n hx hb dX6_layBehind_18 rfl (lv_at hl 0 rfl) ?_
        refine q_ic 4 hx hb dX6_layBehind_19 (by decide) ?_
        refine lv_iload_n hx hb dX6_layBehind_20 rfl (lv_at hl 1 rfl) ?_
        refine q_kV1 (q_rV (As := [.int (nI 4), .int (nI (v))]) (rest := []) (x := 71) hC hW mw_X6_layBehindOf gw_582 (k_layOf l G n ad H.size (up2 I1 79 (7 * 5 + v) (nI (Cx' w K ro (K - v) 5))) (up2 (up2 L1 78 (7 * 5 + v) (lN (Sx' w K ro (K - v) 5))) 80 (7 * 5 + v) (lN (Mx' w K ro (K - v) 5))) R w K ro hn hlk hN15 4 v (by omega) (by omega) (BhS_rd hw hS15 (by omega) (Or.inr (Or.inl ⟨rfl, rfl⟩)))) (by omega) (ct_o6 kd_71) rfl ⟨rfl, rfl⟩ ⟨Nat.le_of_ble_eq_true rfl, Nat.le_of_ble_eq_true rfl⟩ ⟨(Nat.le_of_ble_eq_true rfl), (Nat.le_of_ble_eq_true rfl)⟩ hl.1 rfl rfl (Nat.le_of_ble_eq_true rfl) dX6_layBehind_21) hW (fun I_21 L_21 H locs hp hW => ?_)
        obtain ⟨rfl, rfl⟩ := hp
        have hS21 := BhS_s (f := 4) hS15 (by omega : v ≤ K) hk6 (Or.inr (Or.inl ⟨rfl, rfl⟩))
        have hFr21 := FrBh_s (i := (7 * 4 + v)) (x := nI (Cx' w K ro (K - v) 4)) (y := lN (Sx' w K ro (K - v) 4)) (z := lN (Mx' w K ro (K - v) 4)) hFr15
        have hN21 : NwI ((up2 (up2 I1 79 (7 * 5 + v) (nI (Cx' w K ro (K - v) 5))) 79 (7 * 4 + v) (nI (Cx' w K ro (K - v) 4))) 72) w K ro := by rw [hFr21.1 72 (by decide)]; exact hN
        refine q_ic 0 hx hb dX6_layBehind_24 (by decide) ?_
        refine lv_istore_n (lv' := [(2, .int (nI 0)), (0, .ref (ad 71)), (1, .int (nI (v)))]) hx hb dX6_layBehind_25 rfl hl (by decide) rfl (fun ls hl => ?_)
        have lp_26 : ∀ (fu_26 : Nat) (c1 : Nat) (I2 : Ic) (L2 : Lc), 4 - c1 < fu_26 → (c1 ≤ 4) → (BhS w ro K I2 L2 v (c1 + 2)) → (FrBh I I2 L L2) → ∀ (H : Heap) (locs : List Loc), Wd G n ad I2 L2 R (qA n ad s.heap.size) s.heap H locs s → ∀ ls : Array Slot, lv_has ls 3 [(0, .ref (ad 71)), (1, .int (nI (v))), (2, .int (nI (c1)))] → W p_ l e_ ({ frames := 3, cells := 0, slots := 0, locals := 108 } : Room) s m_ ([.ref (ad 71)] : List Value).toArray below meth c_ H locs 0 0 (MQ below (qV1 G (qA n ad s.heap.size) n ad R (fun I1 L1 => BhI w ro K I1 L1 0 ∧ FrBh I I1 L L1)) ([.ref (ad 71)] : List Value).toArray s 0 0 (qA n ad s.heap.size)) (F0 m_ 26 ls []) := by
          intro fu_26
          induction fu_26 with
          | zero =>
            intro c1 I2 L2 hm; exact absurd hm (Nat.not_lt_zero _)
          | succ fu_26 ih_26 =>
            intro c1 I2 L2 hm_26 hc4 hS2 hFr2 H locs hW ls hl
            have hN2 : NwI (I2 72) w K ro := by rw [hFr2.1 72 (by decide)]; exact hN
            refine lv_iload_n hx hb dX6_layBehind_26 rfl (lv_at hl 2 rfl) ?_
            refine q_ic 4 hx hb dX6_layBehind_27 (by decide) ?_
            refine q_cge (tgt := 43) hx hb dX6_layBehind_28 (by decide) (by first | omega | exact Nat.lt_of_le_of_lt (hw3 _) (by decide)) (by first | omega | exact Nat.lt_of_le_of_lt (hw3 _) (by decide)) (fun c_28 => ?_) (fun c_28 => ?_)
            ·
              refine lv_iinc (v := nI v - nI 1) (lv' := [(1, .int (nI v - nI 1)), (0, .ref (ad 71)), (2, .int (nI (c1)))]) hx hb dX6_layBehind_43 hl (k := 1) rfl (inc_m1 _) (by decide) rfl (fun ls hl => ?_)
              refine lv_goto (tgt := 8) hx hb dX6_layBehind_46 (by decide) ?_
              exact ih_8 v I2 L2 (by omega) (by omega) (BhS_6 hS2 (by omega)) hFr2 _ _ hW _ (lv_sub hl [1, 0] rfl)
            ·
              refine lv_aload_n hx hb dX6_layBehind_31 rfl (lv_at hl 0 rfl) ?_
              refine lv_iload_n hx hb dX6_layBehind_32 rfl (lv_at hl 2 rfl) ?_
              refine lv_iload_n hx hb dX6_layBehind_33 rfl (lv_at hl 1 rfl) ?_
              refine q_kV1 (q_rV (As := [.int (nI (c1)), .int (nI (v))]) (rest := []) (x := 71) hC hW mw_X6_layBehindOf gw_582 (k_layOf l G n ad H.size I2 L2 R w K ro hn hlk hN2 c1 v (by omega) (by omega) (BhS_rd hw hS2 (by omega) (Or.inr (Or.inr ⟨by omega, rfl⟩)))) (by omega) (ct_o6 kd_71) rfl ⟨rfl, rfl⟩ ⟨Nat.le_of_ble_eq_true rfl, Nat.le_of_ble_eq_true rfl⟩ ⟨(Nat.le_of_ble_eq_true rfl), (Nat.le_of_ble_eq_true rfl)⟩ hl.1 rfl rfl (Nat.le_of_ble_eq_true rfl) dX6_layBehind_34) hW (fun I_34 L_34 H locs hp hW => ?_)
              obtain ⟨rfl, rfl⟩ := hp
              have hS34 := BhS_s (f := c1) hS2 (by omega : v ≤ K) hk6 (Or.inr (Or.inr ⟨by omega, rfl⟩))
              have hFr34 := FrBh_s (i := (7 * c1 + v)) (x := nI (Cx' w K ro (K - v) c1)) (y := lN (Sx' w K ro (K - v) c1)) (z := lN (Mx' w K ro (K - v) c1)) hFr2
              have hN34 : NwI ((up2 I2 79 (7 * c1 + v) (nI (Cx' w K ro (K - v) c1))) 72) w K ro := by rw [hFr34.1 72 (by decide)]; exact hN
              refine q_iinc (z2 := c1 + 1) (lv' := [(2, .int (nI (c1 + 1))), (0, .ref (ad 71)), (1, .int (nI (v)))]) hx hb dX6_layBehind_37 hl (k := 2) rfl (inc_up _ 1 (by decide)) (by decide) rfl (fun ls hl => ?_)
              refine lv_goto (tgt := 26) hx hb dX6_layBehind_40 (by decide) ?_
              exact ih_26 (c1 + 1) (up2 I2 79 (7 * c1 + v) (nI (Cx' w K ro (K - v) c1))) (up2 (up2 L2 78 (7 * c1 + v) (lN (Sx' w K ro (K - v) c1))) 80 (7 * c1 + v) (lN (Mx' w K ro (K - v) c1))) (by omega) (by omega) hS34 hFr34 _ _ hW _ (lv_sub hl [1, 2, 0] rfl)
        exact lp_26 (4 + 1) 0 (up2 (up2 I1 79 (7 * 5 + v) (nI (Cx' w K ro (K - v) 5))) 79 (7 * 4 + v) (nI (Cx' w K ro (K - v) 4))) (up2 (up2 (up2 (up2 L1 78 (7 * 5 + v) (lN (Sx' w K ro (K - v) 5))) 80 (7 * 5 + v) (lN (Mx' w K ro (K - v) 5))) 78 (7 * 4 + v) (lN (Sx' w K ro (K - v) 4))) 80 (7 * 4 + v) (lN (Mx' w K ro (K - v) 4))) (by omega) (by omega) hS21 hFr21 _ _ hW _ (lv_sub hl [1, 2, 0] rfl)
  exact lp_8 (K + 1 + 1) (K + 1) I L (by omega) (by omega) (fun d t h1 h2 => absurd h1 (by omega)) (⟨fun _ _ => rfl, fun _ _ _ => rfl⟩) _ _ hW _ (lv_sub hl [1, 0] rfl)
