/-- the model's history -/
def HwB (I : Ic) (hc : Nat) (hi : Nat → CM) : Prop := I 71 2 = nI hc ∧ hc ≤ 6 ∧ ∀ i, i < hc → NwA (fun k => I 73 (70 * i + k)) (hi i)
theorem NwI_c {g g' : Nat → Int32} {w : Nat → Nat} {K : Nat} {ro : Nat → Nat} (h : NwI g w K ro) (hg : ∀ k, k < 70 → g' k = g k) : NwI g' w K ro :=
  ⟨fun i hi => by rw [hg i (by omega)]; exact h.1 i hi, by rw [hg 58 (by decide)]; exact h.2.1, fun j hj => by have := h.2.2.2.1; rw [hg (60 + j) (by omega)]; exact h.2.2.1 j hj, h.2.2.2⟩
theorem HwB_add {I I1 : Ic} {u : Nat} {hs : Nat → CM} {m : CM} (hu : u < 6) (h1 : ∀ i, i < u → NwA (fun k => I 73 (70 * i + k)) (hs i)) (hm : NwA (I 72) m) (h73 : ∀ q, I1 73 q = if 70 * u ≤ q ∧ q < 70 * u + 70 then I 72 (q - 70 * u) else I 73 q) (h71 : I1 71 2 = nI (u + 1)) : HwB I1 (u + 1) (fun i => if i = u then m else hs i) := by
  refine ⟨h71, by omega, fun i hlt => ?_⟩
  show NwA _ (if i = u then m else hs i)
  by_cases e : i = u
  · rw [if_pos e]
    refine NwI_c hm (fun k hk => ?_)
    show I1 73 (70 * i + k) = _
    rw [h73, if_pos (by omega)]
    congr 1
    omega
  · rw [if_neg e]
    refine NwI_c (h1 i (by omega)) (fun k hk => ?_)
    show I1 73 (70 * i + k) = _
    rw [h73, if_neg (by omega)]

set_option maxRecDepth 100000 in
set_option maxHeartbeats 4000000 in
theorem k_record (l : Launch) (G : Gx) (n : Nat) (ad : Nat → Nat) (sz : Nat) (I : Ic) (L : Lc) (R : Rc)  (w : Nat → Nat) (K : Nat) (ro : Nat → Nat) (hc : Nat) (hi : Nat → CM) (hn : 83 ≤ n) (hlk : LkOK n R) (hN : NwI (I 72) w K ro) (hH : HwB I hc hi) : Met l yX6_record (Cond.code yX6_record cX6_record 2 none :: GW) ({ frames := 0, cells := 0, slots := 0, locals := 0 } : Room) (qPre G n ad sz I L R [.ref (ad 71)]) (qV1 G (qA n ad sz) n ad R (fun I1 L1 => HwB I1 (hcN hc) (hiN hc hi (w, K, ro)) ∧ (∀ a, a ≠ 71 → a ≠ 73 → I1 a = I a) ∧ (∀ j, j ≠ 2 → I1 71 j = I 71 j) ∧ L = L1)) 0 0 (qA n ad sz) := by
  refine q_met (by decide) (Nat.le_of_ble_eq_true rfl) ?_
  intro p_ e_ s m_ below meth c_ hC hr hlk0 hin hsz hW ls hl
  subst hsz
  have hC : CallFix p_ m_ c_ cX6_record 2 s ([.ref (ad 71)] : List Value).toArray GW "CoinRowsModel" := hC
  have hx := hC.1
  have hb := hC.2.1
  have hk6 : K ≤ 6 := hN.2.2.2.1
  have hw : Wok w := hN.2.2.2.2.1
  have hw3 : ∀ i, w i ≤ 3 := hw.1
  have hr4 : ∀ j, ro j < 4 := hN.2.2.2.2.2
  obtain ⟨hh1, hh6, hh3⟩ := hH
  have hl : lv_has ls 2 [(0, .ref (ad 71))] := hl
  refine lv_aload_n hx hb dX6_record_0 rfl (lv_at hl 0 rfl) ?_
  refine g_6_2 (x := 71) hC hW (by omega) kd_71 gw_485 dX6_record_1 ?_
  refine q_top (v2 := .int (nI (hc))) (congrArg _ hh1) ?_
  refine q_bp 6 hx hb dX6_record_4 (by decide) ?_
  refine q_cne (tgt := 44) hx hb dX6_record_6 (by decide) (by first | omega | exact Nat.lt_of_le_of_lt (hw3 _) (by decide)) (by first | omega | exact Nat.lt_of_le_of_lt (hw3 _) (by decide)) (fun c_6 => ?_) (fun c_6 => ?_)
  ·
    obtain ⟨Ib, hIb⟩ : ∃ Ib : Ic, Ib = I := ⟨_, rfl⟩
    rw [← hIb] at hW
    obtain ⟨u1, hs, hu6, hb0, hb1, hcu, hcs⟩ : ∃ (u1 : Nat) (hs : Nat → CM), u1 < 6 ∧ Ib 71 2 = nI u1 ∧ (∀ i, i < u1 → NwA (fun k => Ib 73 (70 * i + k)) (hs i)) ∧ hcN hc = u1 + 1 ∧ hiN hc hi (w, K, ro) = (fun i => if i = u1 then (w, K, ro) else hs i) := ⟨hc, hi, by omega, by rw [hIb]; exact hh1, by rw [hIb]; exact hh3, by unfold hcN; rw [if_neg (by omega)], by unfold hiN; rw [if_neg (by omega)]⟩
    have hb72 : ∀ a, a ≠ 71 → a ≠ 73 → Ib a = I a := fun a _ _ => by rw [hIb]
    have hb71 : ∀ j, j ≠ 2 → Ib 71 j = I 71 j := fun j _ => by rw [hIb]
    refine q_ic 0 hx hb dX6_record_44 (by decide) ?_
    refine lv_istore_n (lv' := [(1, .int (nI 0)), (0, .ref (ad 71))]) hx hb dX6_record_45 rfl hl (by decide) rfl (fun ls hl => ?_)
    have lp_46 : ∀ (fu_46 : Nat) (k2 : Nat) (I2 : Ic), 70 - k2 < fu_46 → (k2 ≤ 70) → (∀ q, I2 73 q = if 70 * u1 ≤ q ∧ q < 70 * u1 + k2 then I 72 (q - 70 * u1) else Ib 73 q) → (∀ a, a ≠ 73 → I2 a = Ib a) → ∀ (H : Heap) (locs : List Loc), Wd G n ad I2 L R (qA n ad s.heap.size) s.heap H locs s → ∀ ls : Array Slot, lv_has ls 2 [(0, .ref (ad 71)), (1, .int (nI (k2)))] → W p_ l e_ ({ frames := 0, cells := 0, slots := 0, locals := 0 } : Room) s m_ ([.ref (ad 71)] : List Value).toArray below meth c_ H locs 0 0 (MQ below (qV1 G (qA n ad s.heap.size) n ad R (fun I1 L1 => HwB I1 (hcN hc) (hiN hc hi (w, K, ro)) ∧ (∀ a, a ≠ 71 → a ≠ 73 → I1 a = I a) ∧ (∀ j, j ≠ 2 → I1 71 j = I 71 j) ∧ L = L1)) ([.ref (ad 71)] : List Value).toArray s 0 0 (qA n ad s.heap.size)) (F0 m_ 46 ls []) := by
      intro fu_46
      induction fu_46 with
      | zero =>
        intro k2 I2 hm; exact absurd hm (Nat.not_lt_zero _)
      | succ fu_46 ih_46 =>
        intro k2 I2 hm_46 hk70 hJ hJ2 H locs hW ls hl
        refine lv_iload_n hx hb dX6_record_46 rfl (lv_at hl 1 rfl) ?_
        refine q_bp 70 hx hb dX6_record_47 (by decide) ?_
        refine q_cge (tgt := 78) hx hb dX6_record_49 (by decide) (by first | omega | exact Nat.lt_of_le_of_lt (hw3 _) (by decide)) (by first | omega | exact Nat.lt_of_le_of_lt (hw3 _) (by decide)) (fun c_49 => ?_) (fun c_49 => ?_)
        ·
          refine lv_aload_n hx hb dX6_record_78 rfl (lv_at hl 0 rfl) ?_
          refine lv_dup hx hb dX6_record_79 rfl ?_
          refine g_6_2 (x := 71) hC hW (by omega) kd_71 gw_485 dX6_record_80 ?_
          refine q_top (v2 := .int (nI (u1))) (congrArg _ ((hJ2 71 (by decide) ▸ hb0 : I2 71 2 = nI u1))) ?_
          refine q_ic 1 hx hb dX6_record_83 (by decide) ?_
          refine q_iadd hx hb dX6_record_84 ?_
          refine p_6_2 (x := 71) (v := nI (u1 + 1)) hC hW (by omega) kd_71 gw_485 dX6_record_85 (fun H locs hW => ?_)
          have e70 : k2 = 70 := by omega
          subst e70
          exact q_vret1 hC hW hr hlk0 (by refine ⟨?_, fun a h1 h3 => by rw [up2_ne h1, hJ2 a h3]; exact hb72 a h1 h3, fun j hj => by rw [up2_at, if_neg (fun q => hj q.2), hJ2 71 (by decide)]; exact hb71 j hj, rfl⟩; rw [hcu, hcs]; exact HwB_add (I := Ib) hu6 hb1 (by rw [hb72 72 (by decide) (by decide)]; exact hN) (fun q => by rw [up2_ne (by decide), hJ q, hb72 72 (by decide) (by decide)]) (by rw [up2_at, if_pos ⟨rfl, rfl⟩])) dX6_record_88
        ·
          refine lv_aload_n hx hb dX6_record_52 rfl (lv_at hl 0 rfl) ?_
          refine g_6_1 (x := 71) (y := 73) hC hW (by omega) kd_71 gw_484 (hlk 71 1 73 (by omega) rfl) dX6_record_53 ?_
          refine lv_aload_n hx hb dX6_record_56 rfl (lv_at hl 0 rfl) ?_
          refine g_6_2 (x := 71) hC hW (by omega) kd_71 gw_485 dX6_record_57 ?_
          refine q_top (v2 := .int (nI (u1))) (congrArg _ ((hJ2 71 (by decide) ▸ hb0 : I2 71 2 = nI u1))) ?_
          refine q_bp 70 hx hb dX6_record_60 (by decide) ?_
          refine q_imul hx hb dX6_record_62 ?_
          refine lv_iload_n hx hb dX6_record_63 rfl (lv_at hl 1 rfl) ?_
          refine q_iadd hx hb dX6_record_64 ?_
          refine lv_aload_n hx hb dX6_record_65 rfl (lv_at hl 0 rfl) ?_
          refine g_6_0 (x := 71) (y := 72) hC hW (by omega) kd_71 gw_483 (hlk 71 0 72 (by omega) rfl) dX6_record_66 ?_
          refine lv_iload_n hx hb dX6_record_69 rfl (lv_at hl 1 rfl) ?_
          refine q_iald (x := 72) (i := k2) hC hW (by omega) kd_72 (by omega) dX6_record_70 ?_
          refine q_top (v2 := .int (I 72 k2)) (congrArg _ (by rw [hJ2 72 (by decide), hb72 72 (by decide) (by decide)])) ?_
          refine q_iast (x := 73) (i := (u1 * 70) + k2) (v := I 72 k2) hC hW (by omega) kd_73 (by omega) dX6_record_71 (fun H locs hW => ?_)
          refine q_iinc (z2 := k2 + 1) (lv' := [(1, .int (nI (k2 + 1))), (0, .ref (ad 71))]) hx hb dX6_record_72 hl (k := 1) rfl (inc_up _ 1 (by decide)) (by decide) rfl (fun ls hl => ?_)
          refine lv_goto (tgt := 46) hx hb dX6_record_75 (by decide) ?_
          exact ih_46 (k2 + 1) (up2 I2 73 ((u1 * 70) + k2) (I 72 k2)) (by omega) (by omega) (fun q => by rw [up2_at]; by_cases e : q = u1 * 70 + k2; (rw [if_pos ⟨rfl, e⟩, if_pos (by omega), e]; congr 1; omega); rw [if_neg (fun x => e x.2), hJ]; by_cases e2 : 70 * u1 ≤ q ∧ q < 70 * u1 + k2; (rw [if_pos e2, if_pos (by omega)]); rw [if_neg e2, if_neg (by omega)]) (fun a ha => by rw [up2_ne ha]; exact hJ2 a ha) _ _ hW _ (lv_sub hl [1, 0] rfl)
    exact lp_46 (70 + 1) 0 Ib (by omega) (by omega) (fun q => by rw [if_neg (by omega)]) (fun _ _ => rfl) _ _ hW _ (lv_sub hl [1, 0] rfl)
  ·
    refine q_ic 0 hx hb dX6_record_9 (by decide) ?_
    refine lv_istore_n (lv' := [(1, .int (nI 0)), (0, .ref (ad 71))]) hx hb dX6_record_10 rfl hl (by decide) rfl (fun ls hl => ?_)
    have lp_11 : ∀ (fu_11 : Nat) (k1 : Nat) (I1 : Ic), 350 - k1 < fu_11 → (k1 ≤ 350) → (∀ q, I1 73 q = if q < k1 then I 73 (q + 70) else I 73 q) → (∀ a, a ≠ 73 → I1 a = I a) → ∀ (H : Heap) (locs : List Loc), Wd G n ad I1 L R (qA n ad s.heap.size) s.heap H locs s → ∀ ls : Array Slot, lv_has ls 2 [(0, .ref (ad 71)), (1, .int (nI (k1)))] → W p_ l e_ ({ frames := 0, cells := 0, slots := 0, locals := 0 } : Room) s m_ ([.ref (ad 71)] : List Value).toArray below meth c_ H locs 0 0 (MQ below (qV1 G (qA n ad s.heap.size) n ad R (fun I1 L1 => HwB I1 (hcN hc) (hiN hc hi (w, K, ro)) ∧ (∀ a, a ≠ 71 → a ≠ 73 → I1 a = I a) ∧ (∀ j, j ≠ 2 → I1 71 j = I 71 j) ∧ L = L1)) ([.ref (ad 71)] : List Value).toArray s 0 0 (qA n ad s.heap.size)) (F0 m_ 11 ls []) := by
      intro fu_11
      induction fu_11 with
      | zero =>
        intro k1 I1 hm; exact absurd hm (Nat.not_lt_zero _)
      | succ fu_11 ih_11 =>
        intro k1 I1 hm_11 hk350 hZ hZ2 H locs hW ls hl
        refine lv_iload_n hx hb dX6_record_11 rfl (lv_at hl 1 rfl) ?_
        refine q_sp 350 hx hb dX6_record_12 (by decide) ?_
        refine q_cge (tgt := 39) hx hb dX6_record_15 (by decide) (by first | omega | exact Nat.lt_of_le_of_lt (hw3 _) (by decide)) (by first | omega | exact Nat.lt_of_le_of_lt (hw3 _) (by decide)) (fun c_15 => ?_) (fun c_15 => ?_)
        ·
          refine lv_aload_n hx hb dX6_record_39 rfl (lv_at hl 0 rfl) ?_
          refine q_ic 5 hx hb dX6_record_40 (by decide) ?_
          refine p_6_2 (x := 71) (v := nI 5) hC hW (by omega) kd_71 gw_485 dX6_record_41 (fun H locs hW => ?_)
          obtain ⟨Ib, hIb⟩ : ∃ Ib : Ic, Ib = up2 I1 71 2 (nI 5) := ⟨_, rfl⟩
          rw [← hIb] at hW
          have he6 : hc = 6 := by omega
          obtain ⟨u1, hs, hu6, hb0, hb1, hcu, hcs⟩ : ∃ (u1 : Nat) (hs : Nat → CM), u1 < 6 ∧ Ib 71 2 = nI u1 ∧ (∀ i, i < u1 → NwA (fun k => Ib 73 (70 * i + k)) (hs i)) ∧ hcN hc = u1 + 1 ∧ hiN hc hi (w, K, ro) = (fun i => if i = u1 then (w, K, ro) else hs i) := ⟨5, fun i => hi (i + 1), by decide, by rw [hIb, up2_at, if_pos ⟨rfl, rfl⟩], fun i hlt => NwI_c (hh3 (i + 1) (by omega)) (fun k hk => by show Ib 73 (70 * i + k) = I 73 (70 * (i + 1) + k); rw [hIb, up2_ne (by decide), hZ, if_pos (by omega)]; congr 1; omega), by unfold hcN; rw [if_pos he6], by unfold hiN; rw [if_pos he6]⟩
          have hb72 : ∀ a, a ≠ 71 → a ≠ 73 → Ib a = I a := fun a h1 h3 => by rw [hIb, up2_ne h1]; exact hZ2 a h3
          have hb71 : ∀ j, j ≠ 2 → Ib 71 j = I 71 j := fun j hj => by rw [hIb, up2_at, if_neg (fun q => hj q.2), hZ2 71 (by decide)]
          refine q_ic 0 hx hb dX6_record_44 (by decide) ?_
          refine lv_istore_n (lv' := [(1, .int (nI 0)), (0, .ref (ad 71))]) hx hb dX6_record_45 rfl hl (by decide) rfl (fun ls hl => ?_)
          have lp_46 : ∀ (fu_46 : Nat) (k2 : Nat) (I2 : Ic), 70 - k2 < fu_46 → (k2 ≤ 70) → (∀ q, I2 73 q = if 70 * u1 ≤ q ∧ q < 70 * u1 + k2 then I 72 (q - 70 * u1) else Ib 73 q) → (∀ a, a ≠ 73 → I2 a = Ib a) → ∀ (H : Heap) (locs : List Loc), Wd G n ad I2 L R (qA n ad s.heap.size) s.heap H locs s → ∀ ls : Array Slot, lv_has ls 2 [(0, .ref (ad 71)), (1, .int (nI (k2)))] → W p_ l e_ ({ frames := 0, cells := 0, slots := 0, locals := 0 } : Room) s m_ ([.ref (ad 71)] : List Value).toArray below meth c_ H locs 0 0 (MQ below (qV1 G (qA n ad s.heap.size) n ad R (fun I1 L1 => HwB I1 (hcN hc) (hiN hc hi (w, K, ro)) ∧ (∀ a, a ≠ 71 → a ≠ 73 → I1 a = I a) ∧ (∀ j, j ≠ 2 → I1 71 j = I 71 j) ∧ L = L1)) ([.ref (ad 71)] : List Value).toArray s 0 0 (qA n ad s.heap.size)) (F0 m_ 46 ls []) := by
            intro fu_46
            induction fu_46 with
            | zero =>
              intro k2 I2 hm; exact absurd hm (Nat.not_lt_zero _)
            | succ fu_46 ih_46 =>
              intro k2 I2 hm_46 hk70 hJ hJ2 H locs hW ls hl
              refine lv_iload_n hx hb dX6_record_46 rfl (lv_at hl 1 rfl) ?_
              refine q_bp 70 hx hb dX6_record_47 (by decide) ?_
              refine q_cge (tgt := 78) hx hb dX6_record_49 (by decide) (by first | omega | exact Nat.lt_of_le_of_lt (hw3 _) (by decide)) (by first | omega | exact Nat.lt_of_le_of_lt (hw3 _) (by decide)) (fun c_49 => ?_) (fun c_49 => ?_)
              ·
                refine lv_aload_n hx hb dX6_record_78 rfl (lv_at hl 0 rfl) ?_
                refine lv_dup hx hb dX6_record_79 rfl ?_
                refine g_6_2 (x := 71) hC hW (by omega) kd_71 gw_485 dX6_record_80 ?_
                refine q_top (v2 := .int (nI (u1))) (congrArg _ ((hJ2 71 (by decide) ▸ hb0 : I2 71 2 = nI u1))) ?_
                refine q_ic 1 hx hb dX6_record_83 (by decide) ?_
                refine q_iadd hx hb dX6_record_84 ?_
                refine p_6_2 (x := 71) (v := nI (u1 + 1)) hC hW (by omega) kd_71 gw_485 dX6_record_85 (fun H locs hW => ?_)
                have e70 : k2 = 70 := by omega
                subst e70
                exact q_vret1 hC hW hr hlk0 (by refine ⟨?_, fun a h1 h3 => by rw [up2_ne h1, hJ2 a h3]; exact hb72 a h1 h3, fun j hj => by rw [up2_at, if_neg (fun q => hj q.2), hJ2 71 (by decide)]; exact hb71 j hj, rfl⟩; rw [hcu, hcs]; exact HwB_add (I := Ib) hu6 hb1 (by rw [hb72 72 (by decide) (by decide)]; exact hN) (fun q => by rw [up2_ne (by decide), hJ q, hb72 72 (by decide) (by decide)]) (by rw [up2_at, if_pos ⟨rfl, rfl⟩])) dX6_record_88
              ·
                refine lv_aload_n hx hb dX6_record_52 rfl (lv_at hl 0 rfl) ?_
                refine g_6_1 (x := 71) (y := 73) hC hW (by omega) kd_71 gw_484 (hlk 71 1 73 (by omega) rfl) dX6_record_53 ?_
                refine lv_aload_n hx hb dX6_record_56 rfl (lv_at hl 0 rfl) ?_
                refine g_6_2 (x := 71) hC hW (by omega) kd_71 gw_485 dX6_record_57 ?_
                refine q_top (v2 := .int (nI (u1))) (congrArg _ ((hJ2 71 (by decide) ▸ hb0 : I2 71 2 = nI u1))) ?_
                refine q_bp 70 hx hb dX6_record_60 (by decide) ?_
                refine q_imul hx hb dX6_record_62 ?_
                refine lv_iload_n hx hb dX6_record_63 rfl (lv_at hl 1 rfl) ?_
                refine q_iadd hx hb dX6_record_64 ?_
                refine lv_aload_n hx hb dX6_record_65 rfl (lv_at hl 0 rfl) ?_
                refine g_6_0 (x := 71) (y := 72) hC hW (by omega) kd_71 gw_483 (hlk 71 0 72 (by omega) rfl) dX6_record_66 ?_
                refine lv_iload_n hx hb dX6_record_69 rfl (lv_at hl 1 rfl) ?_
                refine q_iald (x := 72) (i := k2) hC hW (by omega) kd_72 (by omega) dX6_record_70 ?_
                refine q_top (v2 := .int (I 72 k2)) (congrArg _ (by rw [hJ2 72 (by decide), hb72 72 (by decide) (by decide)])) ?_
                refine q_iast (x := 73) (i := (u1 * 70) + k2) (v := I 72 k2) hC hW (by omega) kd_73 (by omega) dX6_record_71 (fun H locs hW => ?_)
                refine q_iinc (z2 := k2 + 1) (lv' := [(1, .int (nI (k2 + 1))), (0, .ref (ad 71))]) hx hb dX6_record_72 hl (k := 1) rfl (inc_up _ 1 (by decide)) (by decide) rfl (fun ls hl => ?_)
                refine lv_goto (tgt := 46) hx hb dX6_record_75 (by decide) ?_
                exact ih_46 (k2 + 1) (up2 I2 73 ((u1 * 70) + k2) (I 72 k2)) (by omega) (by omega) (fun q => by rw [up2_at]; by_cases e : q = u1 * 70 + k2; (rw [if_pos ⟨rfl, e⟩, if_pos (by omega), e]; congr 1; omega); rw [if_neg (fun x => e x.2), hJ]; by_cases e2 : 70 * u1 ≤ q ∧ q < 70 * u1 + k2; (rw [if_pos e2, if_pos (by omega)]); rw [if_neg e2, if_neg (by omega)]) (fun a ha => by rw [up2_ne ha]; exact hJ2 a ha) _ _ hW _ (lv_sub hl [1, 0] rfl)
          exact lp_46 (70 + 1) 0 Ib (by omega) (by omega) (fun q => by rw [if_neg (by omega)]) (fun _ _ => rfl) _ _ hW _ (lv_sub hl [1, 0] rfl)
        ·
          refine lv_aload_n hx hb dX6_record_18 rfl (lv_at hl 0 rfl) ?_
          refine g_6_1 (x := 71) (y := 73) hC hW (by omega) kd_71 gw_484 (hlk 71 1 73 (by omega) rfl) dX6_record_19 ?_
          refine lv_iload_n hx hb dX6_record_22 rfl (lv_at hl 1 rfl) ?_
          refine lv_aload_n hx hb dX6_record_23 rfl (lv_at hl 0 rfl) ?_
          refine g_6_1 (x := 71) (y := 73) hC hW (by omega) kd_71 gw_484 (hlk 71 1 73 (by omega) rfl) dX6_record_24 ?_
          refine lv_iload_n hx hb dX6_record_27 rfl (lv_at hl 1 rfl) ?_
          refine q_bp 70 hx hb dX6_record_28 (by decide) ?_
          refine q_iadd hx hb dX6_record_30 ?_
          refine q_iald (x := 73) (i := k1 + 70) hC hW (by omega) kd_73 (by omega) dX6_record_31 ?_
          refine q_top (v2 := .int (I 73 (k1 + 70))) (congrArg _ (by rw [hZ, if_neg (by omega)])) ?_
          refine q_iast (x := 73) (i := k1) (v := I 73 (k1 + 70)) hC hW (by omega) kd_73 (by omega) dX6_record_32 (fun H locs hW => ?_)
          refine q_iinc (z2 := k1 + 1) (lv' := [(1, .int (nI (k1 + 1))), (0, .ref (ad 71))]) hx hb dX6_record_33 hl (k := 1) rfl (inc_up _ 1 (by decide)) (by decide) rfl (fun ls hl => ?_)
          refine lv_goto (tgt := 11) hx hb dX6_record_36 (by decide) ?_
          exact ih_11 (k1 + 1) (up2 I1 73 k1 (I 73 (k1 + 70))) (by omega) (by omega) (fun q => by rw [up2_at]; by_cases e : q = k1; (rw [if_pos ⟨rfl, e⟩, if_pos (by omega), e]); rw [if_neg (fun x => e x.2), hZ]; by_cases e2 : q < k1; (rw [if_pos e2, if_pos (by omega)]); rw [if_neg e2, if_neg (by omega)]) (fun a ha => by rw [up2_ne ha]; exact hZ2 a ha) _ _ hW _ (lv_sub hl [1, 0] rfl)
    exact lp_11 (350 + 1) 0 I (by omega) (by omega) (fun q => by rw [if_neg (by omega)]) (fun _ _ => rfl) _ _ hW _ (lv_sub hl [1, 0] rfl)
