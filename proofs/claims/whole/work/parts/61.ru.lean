theorem lkY {R : Rc} (h0 : R 71 0 = some 72) (h1 : R 71 1 = some 73) (h3 : R 71 3 = some 74) (h4 : R 71 4 = some 75) (h5 : R 71 5 = some 76) (h7 : R 71 7 = some 77) (h8 : R 71 8 = some 78) (h9 : R 71 9 = some 79) (h10 : R 71 10 = some 80) (h11 : R 71 11 = some 81) (h14 : R 71 14 = some 82) : ∀ a j y, 71 ≤ a → a < 83 → lkf a j = some y → R a j = some y := fun a j y ha hb hl => by
  have hk : ∀ a, a < 83 → 72 ≤ a → (kd a).1 < 4 := by decide +kernel
  by_cases e : a = 71
  · subst e
    unfold lkf at hl
    rw [kd_71] at hl
    have hl : ([some 72, some 73, none, some 74, some 75, some 76, none, some 77, some 78, some 79, some 80, some 81, none, none, some 82] : List (Option Nat)).getD j none = some y := hl
    by_cases e16 : j < 15
    · have e9 : j = 0 ∨ j = 1 ∨ j = 2 ∨ j = 3 ∨ j = 4 ∨ j = 5 ∨ j = 6 ∨ j = 7 ∨ j = 8 ∨ j = 9 ∨ j = 10 ∨ j = 11 ∨ j = 12 ∨ j = 13 ∨ j = 14 := by omega
      rcases e9 with rfl | rfl | rfl | rfl | rfl | rfl | rfl | rfl | rfl | rfl | rfl | rfl | rfl | rfl | rfl
      · exact h0.trans hl
      · exact h1.trans hl
      · cases hl
      · exact h3.trans hl
      · exact h4.trans hl
      · exact h5.trans hl
      · cases hl
      · exact h7.trans hl
      · exact h8.trans hl
      · exact h9.trans hl
      · exact h10.trans hl
      · exact h11.trans hl
      · cases hl
      · cases hl
      · exact h14.trans hl
    · rw [List.getD_eq_getElem?_getD, List.getElem?_eq_none (by show 15 ≤ j; omega)] at hl
      cases hl
  · have h2 := hk a hb (by omega)
    have hc : (kd a).1 = 0 ∨ (kd a).1 = 1 ∨ (kd a).1 = 2 ∨ (kd a).1 = 3 := by omega
    unfold lkf at hl
    rcases hc with e2 | e2 | e2 | e2 <;> (rw [e2] at hl; cases hl)
def w0r (j : Nat) : Nat → Nat := fun k => if k = 0 ∨ k = 6 ∨ (42 ≤ k ∧ k < 42 + j) then 1 else 0
theorem w0r_s {I1 : Ic} {j : Nat} (h : ∀ k, I1 72 k = nI (w0r j k)) : ∀ k, up2 I1 72 (42 + j) (nI 1) 72 k = nI (w0r (j + 1) k) := fun k => by
  rw [up2_at]
  unfold w0r at h ⊢
  by_cases e : k = 42 + j
  · rw [if_pos ⟨rfl, e⟩, if_pos (by omega)]
  · rw [if_neg (fun q => e q.2), h k]
    by_cases e2 : k = 0 ∨ k = 6 ∨ (42 ≤ k ∧ k < 42 + j)
    · rw [if_pos e2, if_pos (by omega)]
    · rw [if_neg e2, if_neg (by omega)]
theorem w0r_4 {k : Nat} (h : k < 58) : w0r 4 k = rwt w0 k := by
  unfold w0r rwt w0
  by_cases e : k = 0 ∨ k = 6 ∨ (42 ≤ k ∧ k < 42 + 4)
  · rw [if_pos e]
    split
    · rw [if_pos (by omega)]
    · split
      · rw [if_pos (by omega)]
      · rw [if_pos (by omega)]
  · rw [if_neg e]
    split
    · rw [if_neg (by omega)]
    · split
      · rw [if_neg (by omega)]
      · rw [if_neg (by omega)]
/-- the model as it is made -/
def IniB (I : Ic) : Prop := NwI (I 72) w0 0 (fun _ => 0) ∧ I 71 2 = nI 0 ∧ I 71 6 = nI 0 ∧ ∀ j, I 75 j = nI 0

set_option maxRecDepth 100000 in
set_option maxHeartbeats 4000000 in
theorem k_initY (l : Launch) (G : Gx) (ad : Nat → Nat) (sz : Nat) (I : Ic) (L : Lc) (R : Rc) (h2 : I 71 2 = nI 0) (h6 : I 71 6 = nI 0) (hcl : Cl (71 + 1) R) : Met l yX6_init (Cond.code yX6_init cX6_init 2 none :: GW) ({ frames := 1, cells := 11, slots := 958, locals := 36 } : Room) (qPre G 72 ad sz I L R [.ref (ad 71)]) (qV2 G (qA (71 + 1) ad sz) (fun u => NewF 71 (83) ad I L R u.1 u.2.1 u.2.2.1 u.2.2.2.1 u.2.2.2.2 ∧ IniB u.2.2.1)) 11 958 (qA 72 ad sz) := by
  refine q_met (by decide) (Nat.le_of_ble_eq_true rfl) ?_
  intro p_ e_ s m_ below meth c_ hC hr hlk0 hin hsz hW ls hl
  subst hsz
  have hC : CallFix p_ m_ c_ cX6_init 2 s ([.ref (ad 71)] : List Value).toArray GW "CoinRowsModel" := hC
  have hx := hC.1
  have hb := hC.2.1
  have hl : lv_has ls 2 [(0, .ref (ad 71))] := hl
  refine lv_aload_n hx hb dX6_init_0 rfl (lv_at hl 0 rfl) ?_
  refine W.objInit hx hb hC.2.2.2.1 (hC.2.2.2.2 _ gw_482) (hC.2.2.2.2 _ gw_17) (hC.2.2.2.2 _ gw_18) rfl (by rw [hC.2.2.1]; exact hl.1) rfl dX6_init_1 (Nat.le_of_ble_eq_true rfl) (Nat.le_of_ble_eq_true rfl) ?_
  refine W.eq (g2 := F0 m_ 4 ls []) rfl ?_
  refine lv_aload_n hx hb dX6_init_4 rfl (lv_at hl 0 rfl) ?_
  refine q_bp 70 hx hb dX6_init_5 (by decide) ?_
  refine q_nwi hC hW hcl kd_72 (Nat.le_of_ble_eq_true rfl) (Nat.le_of_ble_eq_true rfl) dX6_init_7 (fun ad_7 H hag_7 hcl_7 hW => ?_)
  have hl : lv_has ls 2 [(0, .ref (ad_7 71))] := by rw [hag_7 71 (by omega)]; exact hl
  refine W.eq (g2 := F0 m_ 9 ls [.ref (ad_7 72), .ref (ad_7 71)]) (by rw [hag_7 71 (by omega)]) ?_
  refine p_6_0 (x := 71) hC hW (by omega) kd_71 gw_483 hin rfl dX6_init_9 (fun H locs hW => ?_)
  have hcl_9 := Cl_p (a := 71) (i := 0) (b := 72) hcl_7 (by omega)
  refine lv_aload_n hx hb dX6_init_12 rfl (lv_at hl 0 rfl) ?_
  refine q_sp 420 hx hb dX6_init_13 (by decide) ?_
  refine q_nwi hC hW hcl_9 kd_73 (Nat.le_of_ble_eq_true rfl) (Nat.le_of_ble_eq_true rfl) dX6_init_16 (fun ad_16 H hag_16 hcl_16 hW => ?_)
  have hl : lv_has ls 2 [(0, .ref (ad_16 71))] := by rw [hag_16 71 (by omega)]; exact hl
  refine W.eq (g2 := F0 m_ 18 ls [.ref (ad_16 73), .ref (ad_16 71)]) (by rw [hag_16 71 (by omega)]) ?_
  refine p_6_1 (x := 71) hC hW (by omega) kd_71 gw_484 hin rfl dX6_init_18 (fun H locs hW => ?_)
  have hcl_18 := Cl_p (a := 71) (i := 1) (b := 73) hcl_16 (by omega)
  refine lv_aload_n hx hb dX6_init_21 rfl (lv_at hl 0 rfl) ?_
  refine q_sp 140 hx hb dX6_init_22 (by decide) ?_
  refine q_nwi hC hW hcl_18 kd_74 (Nat.le_of_ble_eq_true rfl) (Nat.le_of_ble_eq_true rfl) dX6_init_25 (fun ad_25 H hag_25 hcl_25 hW => ?_)
  have hl : lv_has ls 2 [(0, .ref (ad_25 71))] := by rw [hag_25 71 (by omega)]; exact hl
  refine W.eq (g2 := F0 m_ 27 ls [.ref (ad_25 74), .ref (ad_25 71)]) (by rw [hag_25 71 (by omega)]) ?_
  refine p_6_3 (x := 71) hC hW (by omega) kd_71 gw_486 hin rfl dX6_init_27 (fun H locs hW => ?_)
  have hcl_27 := Cl_p (a := 71) (i := 3) (b := 74) hcl_25 (by omega)
  refine lv_aload_n hx hb dX6_init_30 rfl (lv_at hl 0 rfl) ?_
  refine q_ic 2 hx hb dX6_init_31 (by decide) ?_
  refine q_nwz hC hW hcl_27 kd_75 (Nat.le_of_ble_eq_true rfl) (Nat.le_of_ble_eq_true rfl) dX6_init_32 (fun ad_32 H hag_32 hcl_32 hW => ?_)
  have hl : lv_has ls 2 [(0, .ref (ad_32 71))] := by rw [hag_32 71 (by omega)]; exact hl
  refine W.eq (g2 := F0 m_ 34 ls [.ref (ad_32 75), .ref (ad_32 71)]) (by rw [hag_32 71 (by omega)]) ?_
  refine p_6_4 (x := 71) hC hW (by omega) kd_71 gw_487 hin rfl dX6_init_34 (fun H locs hW => ?_)
  have hcl_34 := Cl_p (a := 71) (i := 4) (b := 75) hcl_32 (by omega)
  refine lv_aload_n hx hb dX6_init_37 rfl (lv_at hl 0 rfl) ?_
  refine q_bp 80 hx hb dX6_init_38 (by decide) ?_
  refine q_nwi hC hW hcl_34 kd_76 (Nat.le_of_ble_eq_true rfl) (Nat.le_of_ble_eq_true rfl) dX6_init_40 (fun ad_40 H hag_40 hcl_40 hW => ?_)
  have hl : lv_has ls 2 [(0, .ref (ad_40 71))] := by rw [hag_40 71 (by omega)]; exact hl
  refine W.eq (g2 := F0 m_ 42 ls [.ref (ad_40 76), .ref (ad_40 71)]) (by rw [hag_40 71 (by omega)]) ?_
  refine p_6_5 (x := 71) hC hW (by omega) kd_71 gw_488 hin rfl dX6_init_42 (fun H locs hW => ?_)
  have hcl_42 := Cl_p (a := 71) (i := 5) (b := 76) hcl_40 (by omega)
  refine lv_aload_n hx hb dX6_init_45 rfl (lv_at hl 0 rfl) ?_
  refine q_bp 42 hx hb dX6_init_46 (by decide) ?_
  refine q_nwl hC hW hcl_42 kd_77 (Nat.le_of_ble_eq_true rfl) (Nat.le_of_ble_eq_true rfl) dX6_init_48 (fun ad_48 H hag_48 hcl_48 hW => ?_)
  have hl : lv_has ls 2 [(0, .ref (ad_48 71))] := by rw [hag_48 71 (by omega)]; exact hl
  refine W.eq (g2 := F0 m_ 50 ls [.ref (ad_48 77), .ref (ad_48 71)]) (by rw [hag_48 71 (by omega)]) ?_
  refine p_6_7 (x := 71) hC hW (by omega) kd_71 gw_490 hin rfl dX6_init_50 (fun H locs hW => ?_)
  have hcl_50 := Cl_p (a := 71) (i := 7) (b := 77) hcl_48 (by omega)
  refine lv_aload_n hx hb dX6_init_53 rfl (lv_at hl 0 rfl) ?_
  refine q_bp 42 hx hb dX6_init_54 (by decide) ?_
  refine q_nwl hC hW hcl_50 kd_78 (Nat.le_of_ble_eq_true rfl) (Nat.le_of_ble_eq_true rfl) dX6_init_56 (fun ad_56 H hag_56 hcl_56 hW => ?_)
  have hl : lv_has ls 2 [(0, .ref (ad_56 71))] := by rw [hag_56 71 (by omega)]; exact hl
  refine W.eq (g2 := F0 m_ 58 ls [.ref (ad_56 78), .ref (ad_56 71)]) (by rw [hag_56 71 (by omega)]) ?_
  refine p_6_8 (x := 71) hC hW (by omega) kd_71 gw_491 hin rfl dX6_init_58 (fun H locs hW => ?_)
  have hcl_58 := Cl_p (a := 71) (i := 8) (b := 78) hcl_56 (by omega)
  refine lv_aload_n hx hb dX6_init_61 rfl (lv_at hl 0 rfl) ?_
  refine q_bp 42 hx hb dX6_init_62 (by decide) ?_
  refine q_nwi hC hW hcl_58 kd_79 (Nat.le_of_ble_eq_true rfl) (Nat.le_of_ble_eq_true rfl) dX6_init_64 (fun ad_64 H hag_64 hcl_64 hW => ?_)
  have hl : lv_has ls 2 [(0, .ref (ad_64 71))] := by rw [hag_64 71 (by omega)]; exact hl
  refine W.eq (g2 := F0 m_ 66 ls [.ref (ad_64 79), .ref (ad_64 71)]) (by rw [hag_64 71 (by omega)]) ?_
  refine p_6_9 (x := 71) hC hW (by omega) kd_71 gw_492 hin rfl dX6_init_66 (fun H locs hW => ?_)
  have hcl_66 := Cl_p (a := 71) (i := 9) (b := 79) hcl_64 (by omega)
  refine lv_aload_n hx hb dX6_init_69 rfl (lv_at hl 0 rfl) ?_
  refine q_bp 42 hx hb dX6_init_70 (by decide) ?_
  refine q_nwl hC hW hcl_66 kd_80 (Nat.le_of_ble_eq_true rfl) (Nat.le_of_ble_eq_true rfl) dX6_init_72 (fun ad_72 H hag_72 hcl_72 hW => ?_)
  have hl : lv_has ls 2 [(0, .ref (ad_72 71))] := by rw [hag_72 71 (by omega)]; exact hl
  refine W.eq (g2 := F0 m_ 74 ls [.ref (ad_72 80), .ref (ad_72 71)]) (by rw [hag_72 71 (by omega)]) ?_
  refine p_6_10 (x := 71) hC hW (by omega) kd_71 gw_493 hin rfl dX6_init_74 (fun H locs hW => ?_)
  have hcl_74 := Cl_p (a := 71) (i := 10) (b := 80) hcl_72 (by omega)
  refine lv_aload_n hx hb dX6_init_77 rfl (lv_at hl 0 rfl) ?_
  refine q_bp 20 hx hb dX6_init_78 (by decide) ?_
  refine q_nwi hC hW hcl_74 kd_81 (Nat.le_of_ble_eq_true rfl) (Nat.le_of_ble_eq_true rfl) dX6_init_80 (fun ad_80 H hag_80 hcl_80 hW => ?_)
  have hl : lv_has ls 2 [(0, .ref (ad_80 71))] := by rw [hag_80 71 (by omega)]; exact hl
  refine W.eq (g2 := F0 m_ 82 ls [.ref (ad_80 81), .ref (ad_80 71)]) (by rw [hag_80 71 (by omega)]) ?_
  refine p_6_11 (x := 71) hC hW (by omega) kd_71 gw_494 hin rfl dX6_init_82 (fun H locs hW => ?_)
  have hcl_82 := Cl_p (a := 71) (i := 11) (b := 81) hcl_80 (by omega)
  refine lv_aload_n hx hb dX6_init_85 rfl (lv_at hl 0 rfl) ?_
  refine q_bp 58 hx hb dX6_init_86 (by decide) ?_
  refine q_nwl hC hW hcl_82 kd_82 (Nat.le_of_ble_eq_true rfl) (Nat.le_of_ble_eq_true rfl) dX6_init_88 (fun ad_88 H hag_88 hcl_88 hW => ?_)
  have hl : lv_has ls 2 [(0, .ref (ad_88 71))] := by rw [hag_88 71 (by omega)]; exact hl
  refine W.eq (g2 := F0 m_ 90 ls [.ref (ad_88 82), .ref (ad_88 71)]) (by rw [hag_88 71 (by omega)]) ?_
  refine p_6_14 (x := 71) hC hW (by omega) kd_71 gw_497 hin rfl dX6_init_90 (fun H locs hW => ?_)
  have hcl_90 := Cl_p (a := 71) (i := 14) (b := 82) hcl_88 (by omega)
  refine lv_aload_n hx hb dX6_init_93 rfl (lv_at hl 0 rfl) ?_
  refine g_6_0 (x := 71) (y := 72) hC hW (by omega) kd_71 gw_483 (by simp [up2_at, zr_at]) dX6_init_94 ?_
  refine q_ic 0 hx hb dX6_init_97 (by decide) ?_
  refine q_ic 1 hx hb dX6_init_98 (by decide) ?_
  refine q_iast (x := 72) (i := 0) (v := nI 1) hC hW (by omega) kd_72 (by omega) dX6_init_99 (fun H locs hW => ?_)
  refine lv_aload_n hx hb dX6_init_100 rfl (lv_at hl 0 rfl) ?_
  refine g_6_0 (x := 71) (y := 72) hC hW (by omega) kd_71 gw_483 (by simp [up2_at, zr_at]) dX6_init_101 ?_
  refine q_bp 6 hx hb dX6_init_104 (by decide) ?_
  refine q_ic 1 hx hb dX6_init_106 (by decide) ?_
  refine q_iast (x := 72) (i := 6) (v := nI 1) hC hW (by omega) kd_72 (by omega) dX6_init_107 (fun H locs hW => ?_)
  refine q_ic 0 hx hb dX6_init_108 (by decide) ?_
  refine lv_istore_n (lv' := [(1, .int (nI 0)), (0, .ref (ad_88 71))]) hx hb dX6_init_109 rfl hl (by decide) rfl (fun ls hl => ?_)
  have lp_110 : ∀ (fu_110 : Nat) (j1 : Nat) (I1 : Ic), 4 - j1 < fu_110 → (j1 ≤ 4) → (∀ a, a ≠ 72 → I1 a = (zr (zr (zr (zr (zr (zr (zr (zr (zr (zr (zr I 72 0) 73 0) 74 0) 75 0) 76 0) 77 0) 78 0) 79 0) 80 0) 81 0) 82 0) a) → (∀ k, I1 72 k = nI (w0r j1 k)) → ∀ (H : Heap) (locs : List Loc), Wd G 83 ad_88 I1 (zr (zr (zr (zr (zr (zr (zr (zr (zr (zr (zr L 72 0) 73 0) 74 0) 75 0) 76 0) 77 0) 78 0) 79 0) 80 0) 81 0) 82 0) (up2 (zr (up2 (zr (up2 (zr (up2 (zr (up2 (zr (up2 (zr (up2 (zr (up2 (zr (up2 (zr (up2 (zr (up2 (zr R 72 none) 71 0 (some 72)) 73 none) 71 1 (some 73)) 74 none) 71 3 (some 74)) 75 none) 71 4 (some 75)) 76 none) 71 5 (some 76)) 77 none) 71 7 (some 77)) 78 none) 71 8 (some 78)) 79 none) 71 9 (some 79)) 80 none) 71 10 (some 80)) 81 none) 71 11 (some 81)) 82 none) 71 14 (some 82)) (qA 72 ad s.heap.size) s.heap H locs s → ∀ ls : Array Slot, lv_has ls 2 [(0, .ref (ad_88 71)), (1, .int (nI (j1)))] → W p_ l e_ ({ frames := 1, cells := 11, slots := 958, locals := 36 } : Room) s m_ ([.ref (ad 71)] : List Value).toArray below meth c_ H locs 11 958 (MQ below (qV2 G (qA (71 + 1) ad s.heap.size) (fun u => NewF 71 (83) ad I L R u.1 u.2.1 u.2.2.1 u.2.2.2.1 u.2.2.2.2 ∧ IniB u.2.2.1)) ([.ref (ad 71)] : List Value).toArray s 11 958 (qA 72 ad s.heap.size)) (F0 m_ 110 ls []) := by
    intro fu_110
    induction fu_110 with
    | zero =>
      intro j1 I1 hm; exact absurd hm (Nat.not_lt_zero _)
    | succ fu_110 ih_110 =>
      intro j1 I1 hm_110 hj4 hIo hIw H locs hW ls hl
      refine lv_iload_n hx hb dX6_init_110 rfl (lv_at hl 1 rfl) ?_
      refine q_ic 4 hx hb dX6_init_111 (by decide) ?_
      refine q_cge (tgt := 131) hx hb dX6_init_112 (by decide) (by first | omega | exact Nat.lt_of_le_of_lt (hw3 _) (by decide)) (by first | omega | exact Nat.lt_of_le_of_lt (hw3 _) (by decide)) (fun c_112 => ?_) (fun c_112 => ?_)
      ·
        have e4 : j1 = 4 := by omega
        subst e4
        have hIni : IniB I1 := ⟨⟨fun k hk => (hIw k).trans (congrArg nI (w0r_4 hk)), hIw 58, fun j hj => absurd hj (by omega), by decide, w0_ok, fun _ => (by decide : (0 : Nat) < 4)⟩, by rw [hIo 71 (by decide)]; simp [up2_at, zr_at]; exact h2, by rw [hIo 71 (by decide)]; simp [up2_at, zr_at]; exact h6, fun j => by rw [hIo 75 (by decide)]; simp [up2_at, zr_at]; rfl⟩
        refine q_more (c2 := 11) (s2 := 958) (Nat.le_of_ble_eq_true rfl) (Nat.le_of_ble_eq_true rfl) ?_
        exact q_vret2 hC hW hr hlk0 ⟨⟨rfl, (fun k hk => (hag_88 k (by omega)).trans ((hag_80 k (by omega)).trans ((hag_72 k (by omega)).trans ((hag_64 k (by omega)).trans ((hag_56 k (by omega)).trans ((hag_48 k (by omega)).trans ((hag_40 k (by omega)).trans ((hag_32 k (by omega)).trans ((hag_25 k (by omega)).trans ((hag_16 k (by omega)).trans (hag_7 k (by omega)))))))))))), (fun k hk => ⟨(hIo k (by omega)).trans (by simp (disch := omega) only [up2_ne, zr_ne]), by simp (disch := omega) only [up2_ne, zr_ne], by simp (disch := omega) only [up2_ne, zr_ne]⟩), hcl_90, lkY (by simp [up2_at, zr_at]) (by simp [up2_at, zr_at]) (by simp [up2_at, zr_at]) (by simp [up2_at, zr_at]) (by simp [up2_at, zr_at]) (by simp [up2_at, zr_at]) (by simp [up2_at, zr_at]) (by simp [up2_at, zr_at]) (by simp [up2_at, zr_at]) (by simp [up2_at, zr_at]) (by simp [up2_at, zr_at])⟩, hIni⟩ dX6_init_131
      ·
        refine lv_aload_n hx hb dX6_init_115 rfl (lv_at hl 0 rfl) ?_
        refine g_6_0 (x := 71) (y := 72) hC hW (by omega) kd_71 gw_483 (by simp [up2_at, zr_at]) dX6_init_116 ?_
        refine q_bp 42 hx hb dX6_init_119 (by decide) ?_
        refine lv_iload_n hx hb dX6_init_121 rfl (lv_at hl 1 rfl) ?_
        refine q_iadd hx hb dX6_init_122 ?_
        refine q_ic 1 hx hb dX6_init_123 (by decide) ?_
        refine q_iast (x := 72) (i := 42 + j1) (v := nI 1) hC hW (by omega) kd_72 (by omega) dX6_init_124 (fun H locs hW => ?_)
        refine q_iinc (z2 := j1 + 1) (lv' := [(1, .int (nI (j1 + 1))), (0, .ref (ad_88 71))]) hx hb dX6_init_125 hl (k := 1) rfl (inc_up _ 1 (by decide)) (by decide) rfl (fun ls hl => ?_)
        refine lv_goto (tgt := 110) hx hb dX6_init_128 (by decide) ?_
        exact ih_110 (j1 + 1) (up2 I1 72 (42 + j1) (nI 1)) (by omega) (by omega) (fun a ha => by rw [up2_ne ha]; exact hIo a ha) (w0r_s hIw) _ _ hW _ (lv_sub hl [1, 0] rfl)
  exact lp_110 (4 + 1) 0 (up2 (up2 (zr (zr (zr (zr (zr (zr (zr (zr (zr (zr (zr I 72 0) 73 0) 74 0) 75 0) 76 0) 77 0) 78 0) 79 0) 80 0) 81 0) 82 0) 72 0 (nI 1)) 72 6 (nI 1)) (by omega) (by omega) (fun a ha => by rw [up2_ne ha, up2_ne ha]) (fun k => by rw [up2_at]; unfold w0r; by_cases e : k = 6; (rw [if_pos ⟨rfl, e⟩, if_pos (by omega)]); rw [if_neg (fun q => e q.2), up2_at]; by_cases e2 : k = 0; (rw [if_pos ⟨rfl, e2⟩, if_pos (by omega)]); rw [if_neg (fun q => e2 q.2), if_neg (by omega)]; simp [zr_at]; rfl) _ _ hW _ (lv_sub hl [1, 0] rfl)
