/-- what the making of an object x leaves: n1 cells then, those before x as they were -/
def NewF (x n1 : Nat) (ad : Nat → Nat) (I : Ic) (L : Lc) (R : Rc) (n' : Nat) (ad' : Nat → Nat) (I' : Ic) (L' : Lc) (R' : Rc) : Prop := n1 = n' ∧ (∀ k, k < x + 1 → ad' k = ad k) ∧ (∀ k, k < x → I' k = I k ∧ L' k = L k ∧ R' k = R k) ∧ Cl n1 R' ∧ ∀ a j y, x ≤ a → a < n1 → lkf a j = some y → R' a j = some y
theorem lkM {x : Nat} {R : Rc} (h : mdl x) (h0 : R x 0 = some (x + 1)) (h1 : R x 1 = some (x + 2)) : ∀ a j y, x ≤ a → a < x + 3 → lkf a j = some y → R a j = some y := fun a j y ha hb hl => by
  have h3 : a = x ∨ a = x + 1 ∨ a = x + 2 := by omega
  unfold lkf at hl
  rcases h3 with rfl | rfl | rfl
  · rw [h.1] at hl
    have hl : (if j < 2 then some (a + 1 + j) else none) = some y := hl
    by_cases e : j < 2
    · rw [if_pos e] at hl
      cases hl
      have : j = 0 ∨ j = 1 := by omega
      rcases this with rfl | rfl
      · exact h0
      · exact h1
    · rw [if_neg e] at hl; cases hl
  · rw [h.2.1] at hl; cases hl
  · rw [h.2.2] at hl; cases hl
theorem lk1 {x b c : Nat} {R : Rc} (hk : kd x = (b, c)) (hb : b = 11 ∨ b = 13 ∨ b = 14) (hk2 : (kd (x + 1)).1 < 4) (h0 : R x 0 = some (x + 1)) : ∀ a j y, x ≤ a → a < x + 2 → lkf a j = some y → R a j = some y := fun a j y ha hb2 hl => by
  have h3 : a = x ∨ a = x + 1 := by omega
  unfold lkf at hl
  rcases h3 with rfl | rfl
  · rw [hk] at hl
    have hl : (if j = 0 then some (a + 1) else none) = some y := by rcases hb with rfl | rfl | rfl <;> exact hl
    by_cases e : j = 0
    · rw [if_pos e] at hl; cases hl; rw [e]; exact h0
    · rw [if_neg e] at hl; cases hl
  · have hc : (kd (x + 1)).1 = 0 ∨ (kd (x + 1)).1 = 1 ∨ (kd (x + 1)).1 = 2 ∨ (kd (x + 1)).1 = 3 := by omega
    rcases hc with e | e | e | e <;> (rw [e] at hl; cases hl)
theorem zz_at {α : Type} {n c : Nat} {f : Nat → Nat → α} {z : α} {b k : Nat} : zz n c f z b k = if n ≤ b ∧ b < n + c then z else f b k := by
  unfold zz
  by_cases h : n ≤ b ∧ b < n + c <;> simp [h]
theorem lkS {R : Rc} (h8 : ∀ j, j < 5 → R 8 j = some (9 + 8 * j)) (hr : ∀ i, i < 5 → ∀ j, j < 7 → R (9 + 8 * i) j = some (9 + 8 * i + 1 + j)) : ∀ a j y, 8 ≤ a → a < 49 → lkf a j = some y → R a j = some y := fun a j y ha hb hl => by
  have key : ∀ a, a < 49 → 8 ≤ a → a = 8 ∨ ((a - 9) % 8 = 0 ∧ ((kd a).1 = 5 ∨ (kd a).1 = 6)) ∨ ((kd a).1 = 0 ∨ (kd a).1 = 1) := by decide +kernel
  rcases key a hb ha with rfl | ⟨h1, h2⟩ | h1
  · unfold lkf at hl
    rw [kd_8] at hl
    have hl : (if j < 5 then some (8 + 1 + 8 * j) else none) = some y := hl
    by_cases e : j < 5
    · rw [if_pos e] at hl; cases hl; exact h8 j e
    · rw [if_neg e] at hl; cases hl
  · unfold lkf at hl
    have hl : (if j < 7 then some (a + 1 + j) else none) = some y := by rcases h2 with e | e <;> (rw [e] at hl; exact hl)
    by_cases e : j < 7
    · rw [if_pos e] at hl
      cases hl
      by_cases e9 : 9 ≤ a
      · obtain ⟨i, rfl⟩ : ∃ i, a = 9 + 8 * i := ⟨(a - 9) / 8, by omega⟩
        exact hr i (by omega) j e
      · have e8 : a = 8 := by omega
        subst e8
        rcases h2 with e2 | e2 <;> (rw [kd_8] at e2; cases e2)
    · rw [if_neg e] at hl; cases hl
  · unfold lkf at hl
    rcases h1 with e | e <;> (rw [e] at hl; cases hl)

set_option maxRecDepth 100000 in
set_option maxHeartbeats 4000000 in
theorem k_initM (l : Launch) (G : Gx) (n : Nat) (ad : Nat → Nat) (sz : Nat) (I : Ic) (L : Lc) (R : Rc) (hm : mdl n) (hcl : Cl (n + 1) R) : Met l yX0_init (Cond.code yX0_init cX0_init 1 none :: GW) ({ frames := 1, cells := 2, slots := 64, locals := 36 } : Room) (qPre G (n + 1) ad sz I L R [.ref (ad (n))]) (qV2 G (qA (n + 1) ad sz) (fun u => NewF n (n + 3) ad I L R u.1 u.2.1 u.2.2.1 u.2.2.2.1 u.2.2.2.2 ∧ (∀ i, u.2.2.1 (n + 1) i = nI 0) ∧ u.2.2.1 n 2 = nI 0)) 2 64 (qA (n + 1) ad sz) := by
  refine q_met (by decide) (Nat.le_of_ble_eq_true rfl) ?_
  intro p_ e_ s m_ below meth c_ hC hr hlk0 hin hsz hW ls hl
  subst hsz
  have hC : CallFix p_ m_ c_ cX0_init 1 s ([.ref (ad (n))] : List Value).toArray GW "CoinRows$Model" := hC
  have hx := hC.1
  have hb := hC.2.1
  have hl : lv_has ls 1 [(0, .ref (ad (n)))] := hl
  refine lv_aload_n hx hb dX0_init_0 rfl (lv_at hl 0 rfl) ?_
  refine W.objInit hx hb hC.2.2.2.1 (hC.2.2.2.2 _ gw_22) (hC.2.2.2.2 _ gw_15) (hC.2.2.2.2 _ gw_16) rfl (by rw [hC.2.2.1]; exact hl.1) rfl dX0_init_1 (Nat.le_of_ble_eq_true rfl) (Nat.le_of_ble_eq_true rfl) ?_
  refine W.eq (g2 := F0 m_ 4 ls []) rfl ?_
  refine lv_aload_n hx hb dX0_init_4 rfl (lv_at hl 0 rfl) ?_
  refine q_bp 58 hx hb dX0_init_5 (by decide) ?_
  refine q_nwi hC hW hcl hm.2.1 (Nat.le_of_ble_eq_true rfl) (Nat.le_of_ble_eq_true rfl) dX0_init_7 (fun ad_7 H hag_7 hcl_7 hW => ?_)
  have hl : lv_has ls 1 [(0, .ref (ad_7 (n)))] := by rw [hag_7 n (by omega)]; exact hl
  refine W.eq (g2 := F0 m_ 9 ls [.ref (ad_7 (n + 1)), .ref (ad_7 (n))]) (by rw [hag_7 n (by omega)]) ?_
  refine p_0_0 (x := n) hC hW (by omega) hm.1 gw_23 hin rfl dX0_init_9 (fun H locs hW => ?_)
  have hcl_9 := Cl_p (a := n) (i := 0) (b := (n + 1)) hcl_7 (by omega)
  refine lv_aload_n hx hb dX0_init_12 rfl (lv_at hl 0 rfl) ?_
  refine q_bp 6 hx hb dX0_init_13 (by decide) ?_
  refine q_nwi hC hW hcl_9 hm.2.2 (Nat.le_of_ble_eq_true rfl) (Nat.le_of_ble_eq_true rfl) dX0_init_15 (fun ad_15 H hag_15 hcl_15 hW => ?_)
  have hl : lv_has ls 1 [(0, .ref (ad_15 (n)))] := by rw [hag_15 n (by omega)]; exact hl
  refine W.eq (g2 := F0 m_ 17 ls [.ref (ad_15 (n + 2)), .ref (ad_15 (n))]) (by rw [hag_15 n (by omega)]) ?_
  refine p_0_1 (x := n) hC hW (by omega) hm.1 gw_26 hin rfl dX0_init_17 (fun H locs hW => ?_)
  have hcl_17 := Cl_p (a := n) (i := 1) (b := (n + 2)) hcl_15 (by omega)
  refine lv_aload_n hx hb dX0_init_20 rfl (lv_at hl 0 rfl) ?_
  refine q_ic 0 hx hb dX0_init_21 (by decide) ?_
  refine p_0_2 (x := n) (v := nI 0) hC hW (by omega) hm.1 gw_29 dX0_init_22 (fun H locs hW => ?_)
  refine q_more (c2 := 2) (s2 := 64) (Nat.le_of_ble_eq_true rfl) (Nat.le_of_ble_eq_true rfl) ?_
  exact q_vret2 hC hW hr hlk0 ⟨⟨rfl, (fun k hk => (hag_15 k (by omega)).trans (hag_7 k (by omega))), (fun k hk => ⟨by simp (disch := omega) only [up2_ne, zr_ne, zz_lt, mmR_lt], by simp (disch := omega) only [up2_ne, zr_ne, zz_lt, mmR_lt], by simp (disch := omega) only [up2_ne, zr_ne, zz_lt, mmR_lt]⟩), hcl_17, lkM hm (by simp [up2_at, zr_at] <;> omega) (by simp [up2_at, zr_at] <;> omega)⟩, fun i => (by simp [up2_at, zr_at]; rfl), (by simp [up2_at, zr_at])⟩ dX0_init_25
set_option maxRecDepth 100000 in
set_option maxHeartbeats 4000000 in
theorem k_initP (l : Launch) (G : Gx) (ad : Nat → Nat) (sz : Nat) (I : Ic) (L : Lc) (R : Rc)  (hcl : Cl (6 + 1) R) : Met l yX1_init (Cond.code yX1_init cX1_init 1 none :: GW) ({ frames := 1, cells := 1, slots := 80, locals := 36 } : Room) (qPre G 7 ad sz I L R [.ref (ad 6)]) (qV2 G (qA (6 + 1) ad sz) (fun u => NewF 6 (8) ad I L R u.1 u.2.1 u.2.2.1 u.2.2.2.1 u.2.2.2.2 ∧ u.2.2.1 6 1 = nI 0)) 1 80 (qA 7 ad sz) := by
  refine q_met (by decide) (Nat.le_of_ble_eq_true rfl) ?_
  intro p_ e_ s m_ below meth c_ hC hr hlk0 hin hsz hW ls hl
  subst hsz
  have hC : CallFix p_ m_ c_ cX1_init 1 s ([.ref (ad 6)] : List Value).toArray GW "CoinRows$Pad" := hC
  have hx := hC.1
  have hb := hC.2.1
  have hl : lv_has ls 1 [(0, .ref (ad 6))] := hl
  refine lv_aload_n hx hb dX1_init_0 rfl (lv_at hl 0 rfl) ?_
  refine W.objInit hx hb hC.2.2.2.1 (hC.2.2.2.2 _ gw_47) (hC.2.2.2.2 _ gw_15) (hC.2.2.2.2 _ gw_16) rfl (by rw [hC.2.2.1]; exact hl.1) rfl dX1_init_1 (Nat.le_of_ble_eq_true rfl) (Nat.le_of_ble_eq_true rfl) ?_
  refine W.eq (g2 := F0 m_ 4 ls []) rfl ?_
  refine lv_aload_n hx hb dX1_init_4 rfl (lv_at hl 0 rfl) ?_
  refine q_bp 80 hx hb dX1_init_5 (by decide) ?_
  refine q_nwc hC hW hcl kd_7 (Nat.le_of_ble_eq_true rfl) (Nat.le_of_ble_eq_true rfl) dX1_init_7 (fun ad_7 H hag_7 hcl_7 hW => ?_)
  have hl : lv_has ls 1 [(0, .ref (ad_7 6))] := by rw [hag_7 6 (by omega)]; exact hl
  refine W.eq (g2 := F0 m_ 9 ls [.ref (ad_7 7), .ref (ad_7 6)]) (by rw [hag_7 6 (by omega)]) ?_
  refine p_1_0 (x := 6) hC hW (by omega) kd_6 gw_48 hin rfl dX1_init_9 (fun H locs hW => ?_)
  have hcl_9 := Cl_p (a := 6) (i := 0) (b := 7) hcl_7 (by omega)
  refine lv_aload_n hx hb dX1_init_12 rfl (lv_at hl 0 rfl) ?_
  refine q_ic 0 hx hb dX1_init_13 (by decide) ?_
  refine p_1_1 (x := 6) (v := nI 0) hC hW (by omega) kd_6 gw_49 dX1_init_14 (fun H locs hW => ?_)
  refine lv_aload_n hx hb dX1_init_17 rfl (lv_at hl 0 rfl) ?_
  refine q_ic 0 hx hb dX1_init_18 (by decide) ?_
  refine p_1_2 (x := 6) (v := nI 0) hC hW (by omega) kd_6 gw_51 dX1_init_19 (fun H locs hW => ?_)
  refine lv_aload_n hx hb dX1_init_22 rfl (lv_at hl 0 rfl) ?_
  refine q_ic 0 hx hb dX1_init_23 (by decide) ?_
  refine p_1_3 (x := 6) (v := nI 0) hC hW (by omega) kd_6 gw_52 dX1_init_24 (fun H locs hW => ?_)
  refine q_more (c2 := 1) (s2 := 80) (Nat.le_of_ble_eq_true rfl) (Nat.le_of_ble_eq_true rfl) ?_
  exact q_vret2 hC hW hr hlk0 ⟨⟨rfl, (fun k hk => hag_7 k (by omega)), (fun k hk => ⟨by simp (disch := omega) only [up2_ne, zr_ne, zz_lt, mmR_lt], by simp (disch := omega) only [up2_ne, zr_ne, zz_lt, mmR_lt], by simp (disch := omega) only [up2_ne, zr_ne, zz_lt, mmR_lt]⟩), hcl_9, lk1 kd_6 (by decide) (by decide +kernel) (by simp [up2_at, zr_at])⟩, (by simp [up2_at, zr_at])⟩ dX1_init_27
set_option maxRecDepth 100000 in
set_option maxHeartbeats 4000000 in
theorem k_initT (l : Launch) (G : Gx) (ad : Nat → Nat) (sz : Nat) (I : Ic) (L : Lc) (R : Rc)  (hcl : Cl (51 + 1) R) : Met l yX3_init (Cond.code yX3_init cX3_init 1 none :: GW) ({ frames := 1, cells := 1, slots := 58, locals := 36 } : Room) (qPre G 52 ad sz I L R [.ref (ad 51)]) (qV2 G (qA (51 + 1) ad sz) (fun u => NewF 51 (53) ad I L R u.1 u.2.1 u.2.2.1 u.2.2.2.1 u.2.2.2.2)) 1 58 (qA 52 ad sz) := by
  refine q_met (by decide) (Nat.le_of_ble_eq_true rfl) ?_
  intro p_ e_ s m_ below meth c_ hC hr hlk0 hin hsz hW ls hl
  subst hsz
  have hC : CallFix p_ m_ c_ cX3_init 1 s ([.ref (ad 51)] : List Value).toArray GW "CoinRows$Trainer" := hC
  have hx := hC.1
  have hb := hC.2.1
  have hl : lv_has ls 1 [(0, .ref (ad 51))] := hl
  refine lv_aload_n hx hb dX3_init_0 rfl (lv_at hl 0 rfl) ?_
  refine W.objInit hx hb hC.2.2.2.1 (hC.2.2.2.2 _ gw_119) (hC.2.2.2.2 _ gw_15) (hC.2.2.2.2 _ gw_16) rfl (by rw [hC.2.2.1]; exact hl.1) rfl dX3_init_1 (Nat.le_of_ble_eq_true rfl) (Nat.le_of_ble_eq_true rfl) ?_
  refine W.eq (g2 := F0 m_ 4 ls []) rfl ?_
  refine lv_aload_n hx hb dX3_init_4 rfl (lv_at hl 0 rfl) ?_
  refine q_bp 58 hx hb dX3_init_5 (by decide) ?_
  refine q_nwl hC hW hcl kd_52 (Nat.le_of_ble_eq_true rfl) (Nat.le_of_ble_eq_true rfl) dX3_init_7 (fun ad_7 H hag_7 hcl_7 hW => ?_)
  have hl : lv_has ls 1 [(0, .ref (ad_7 51))] := by rw [hag_7 51 (by omega)]; exact hl
  refine W.eq (g2 := F0 m_ 9 ls [.ref (ad_7 52), .ref (ad_7 51)]) (by rw [hag_7 51 (by omega)]) ?_
  refine p_3_0 (x := 51) hC hW (by omega) kd_51 gw_120 hin rfl dX3_init_9 (fun H locs hW => ?_)
  have hcl_9 := Cl_p (a := 51) (i := 0) (b := 52) hcl_7 (by omega)
  refine q_more (c2 := 1) (s2 := 58) (Nat.le_of_ble_eq_true rfl) (Nat.le_of_ble_eq_true rfl) ?_
  exact q_vret2 hC hW hr hlk0 ⟨rfl, (fun k hk => hag_7 k (by omega)), (fun k hk => ⟨by simp (disch := omega) only [up2_ne, zr_ne, zz_lt, mmR_lt], by simp (disch := omega) only [up2_ne, zr_ne, zz_lt, mmR_lt], by simp (disch := omega) only [up2_ne, zr_ne, zz_lt, mmR_lt]⟩), hcl_9, lk1 kd_51 (by decide) (by decide +kernel) (by simp [up2_at, zr_at])⟩ dX3_init_12
set_option maxRecDepth 100000 in
set_option maxHeartbeats 4000000 in
theorem k_initW (l : Launch) (G : Gx) (ad : Nat → Nat) (sz : Nat) (I : Ic) (L : Lc) (R : Rc)  (hcl : Cl (49 + 1) R) : Met l yX4_init (Cond.code yX4_init cX4_init 1 none :: GW) ({ frames := 1, cells := 1, slots := 18, locals := 36 } : Room) (qPre G 50 ad sz I L R [.ref (ad 49)]) (qV2 G (qA (49 + 1) ad sz) (fun u => NewF 49 (51) ad I L R u.1 u.2.1 u.2.2.1 u.2.2.2.1 u.2.2.2.2)) 1 18 (qA 50 ad sz) := by
  refine q_met (by decide) (Nat.le_of_ble_eq_true rfl) ?_
  intro p_ e_ s m_ below meth c_ hC hr hlk0 hin hsz hW ls hl
  subst hsz
  have hC : CallFix p_ m_ c_ cX4_init 1 s ([.ref (ad 49)] : List Value).toArray GW "CoinRows$Walk" := hC
  have hx := hC.1
  have hb := hC.2.1
  have hl : lv_has ls 1 [(0, .ref (ad 49))] := hl
  refine lv_aload_n hx hb dX4_init_0 rfl (lv_at hl 0 rfl) ?_
  refine W.objInit hx hb hC.2.2.2.1 (hC.2.2.2.2 _ gw_99) (hC.2.2.2.2 _ gw_15) (hC.2.2.2.2 _ gw_16) rfl (by rw [hC.2.2.1]; exact hl.1) rfl dX4_init_1 (Nat.le_of_ble_eq_true rfl) (Nat.le_of_ble_eq_true rfl) ?_
  refine W.eq (g2 := F0 m_ 4 ls []) rfl ?_
  refine lv_aload_n hx hb dX4_init_4 rfl (lv_at hl 0 rfl) ?_
  refine q_bp 18 hx hb dX4_init_5 (by decide) ?_
  refine q_nwi hC hW hcl kd_50 (Nat.le_of_ble_eq_true rfl) (Nat.le_of_ble_eq_true rfl) dX4_init_7 (fun ad_7 H hag_7 hcl_7 hW => ?_)
  have hl : lv_has ls 1 [(0, .ref (ad_7 49))] := by rw [hag_7 49 (by omega)]; exact hl
  refine W.eq (g2 := F0 m_ 9 ls [.ref (ad_7 50), .ref (ad_7 49)]) (by rw [hag_7 49 (by omega)]) ?_
  refine p_4_0 (x := 49) hC hW (by omega) kd_49 gw_100 hin rfl dX4_init_9 (fun H locs hW => ?_)
  have hcl_9 := Cl_p (a := 49) (i := 0) (b := 50) hcl_7 (by omega)
  refine lv_aload_n hx hb dX4_init_12 rfl (lv_at hl 0 rfl) ?_
  refine q_ic 0 hx hb dX4_init_13 (by decide) ?_
  refine p_4_1 (x := 49) (v := nI 0) hC hW (by omega) kd_49 gw_101 dX4_init_14 (fun H locs hW => ?_)
  refine lv_aload_n hx hb dX4_init_17 rfl (lv_at hl 0 rfl) ?_
  refine q_lc 1 hx hb dX4_init_18 (by decide) ?_
  refine p_4_2 (x := 49) (v := lN 1) hC hW (by omega) kd_49 gw_102 dX4_init_19 (fun H locs hW => ?_)
  refine lv_aload_n hx hb dX4_init_22 rfl (lv_at hl 0 rfl) ?_
  refine q_ic 0 hx hb dX4_init_23 (by decide) ?_
  refine p_4_3 (x := 49) (v := nI 0) hC hW (by omega) kd_49 gw_104 dX4_init_24 (fun H locs hW => ?_)
  refine q_more (c2 := 1) (s2 := 18) (Nat.le_of_ble_eq_true rfl) (Nat.le_of_ble_eq_true rfl) ?_
  exact q_vret2 hC hW hr hlk0 ⟨rfl, (fun k hk => hag_7 k (by omega)), (fun k hk => ⟨by simp (disch := omega) only [up2_ne, zr_ne, zz_lt, mmR_lt], by simp (disch := omega) only [up2_ne, zr_ne, zz_lt, mmR_lt], by simp (disch := omega) only [up2_ne, zr_ne, zz_lt, mmR_lt]⟩), hcl_9, lk1 kd_49 (by decide) (by decide +kernel) (by simp [up2_at, zr_at])⟩ dX4_init_27
set_option maxRecDepth 100000 in
set_option maxHeartbeats 4000000 in
theorem k_initS (l : Launch) (G : Gx) (ad : Nat → Nat) (sz : Nat) (I : Ic) (L : Lc) (R : Rc)  (hcl : Cl (8 + 1) R) : Met l yX2_init (Cond.code yX2_init cX2_init 1 none :: GW) ({ frames := 1, cells := 40, slots := 259, locals := 36 } : Room) (qPre G 9 ad sz I L R [.ref (ad 8)]) (qV2 G (qA (8 + 1) ad sz) (fun u => NewF 8 (49) ad I L R u.1 u.2.1 u.2.2.1 u.2.2.2.1 u.2.2.2.2 ∧ SI u.2.2.2.1)) 40 259 (qA 9 ad sz) := by
  refine q_met (by decide) (Nat.le_of_ble_eq_true rfl) ?_
  intro p_ e_ s m_ below meth c_ hC hr hlk0 hin hsz hW ls hl
  subst hsz
  have hC : CallFix p_ m_ c_ cX2_init 1 s ([.ref (ad 8)] : List Value).toArray GW "CoinRows$Sums" := hC
  have hx := hC.1
  have hb := hC.2.1
  have hl : lv_has ls 1 [(0, .ref (ad 8))] := hl
  refine lv_aload_n hx hb dX2_init_0 rfl (lv_at hl 0 rfl) ?_
  refine W.objInit hx hb hC.2.2.2.1 (hC.2.2.2.2 _ gw_68) (hC.2.2.2.2 _ gw_15) (hC.2.2.2.2 _ gw_16) rfl (by rw [hC.2.2.1]; exact hl.1) rfl dX2_init_1 (Nat.le_of_ble_eq_true rfl) (Nat.le_of_ble_eq_true rfl) ?_
  refine W.eq (g2 := F0 m_ 4 ls []) rfl ?_
  refine lv_aload_n hx hb dX2_init_4 rfl (lv_at hl 0 rfl) ?_
  refine q_bp 7 hx hb dX2_init_5 (by decide) ?_
  refine q_bp 7 hx hb dX2_init_7 (by decide) ?_
  refine q_nwml hC hW hcl kd_9 (fun j hj => kd_r10 hj) gw_69 (Nat.le_of_ble_eq_true rfl) (Nat.le_of_ble_eq_true rfl) dX2_init_9 (fun ad_9 H hag_9 hcl_9 hW => ?_)
  have hl : lv_has ls 1 [(0, .ref (ad_9 8))] := by rw [hag_9 8 (by omega)]; exact hl
  refine W.eq (g2 := F0 m_ 13 ls [.ref (ad_9 9), .ref (ad_9 8)]) (by rw [hag_9 8 (by omega)]) ?_
  refine p_2_0 (x := 8) hC hW (by omega) kd_8 gw_73 hin rfl dX2_init_13 (fun H locs hW => ?_)
  have hcl_13 := Cl_p (a := 8) (i := 0) (b := 9) hcl_9 (by omega)
  refine lv_aload_n hx hb dX2_init_16 rfl (lv_at hl 0 rfl) ?_
  refine q_bp 7 hx hb dX2_init_17 (by decide) ?_
  refine q_ic 4 hx hb dX2_init_19 (by decide) ?_
  refine q_nwml hC hW hcl_13 kd_17 (fun j hj => kd_r18 hj) gw_69 (Nat.le_of_ble_eq_true rfl) (Nat.le_of_ble_eq_true rfl) dX2_init_20 (fun ad_20 H hag_20 hcl_20 hW => ?_)
  have hl : lv_has ls 1 [(0, .ref (ad_20 8))] := by rw [hag_20 8 (by omega)]; exact hl
  refine W.eq (g2 := F0 m_ 24 ls [.ref (ad_20 17), .ref (ad_20 8)]) (by rw [hag_20 8 (by omega)]) ?_
  refine p_2_1 (x := 8) hC hW (by omega) kd_8 gw_75 hin rfl dX2_init_24 (fun H locs hW => ?_)
  have hcl_24 := Cl_p (a := 8) (i := 1) (b := 17) hcl_20 (by omega)
  refine lv_aload_n hx hb dX2_init_27 rfl (lv_at hl 0 rfl) ?_
  refine q_bp 7 hx hb dX2_init_28 (by decide) ?_
  refine q_bp 7 hx hb dX2_init_30 (by decide) ?_
  refine q_nwml hC hW hcl_24 kd_25 (fun j hj => kd_r26 hj) gw_69 (Nat.le_of_ble_eq_true rfl) (Nat.le_of_ble_eq_true rfl) dX2_init_32 (fun ad_32 H hag_32 hcl_32 hW => ?_)
  have hl : lv_has ls 1 [(0, .ref (ad_32 8))] := by rw [hag_32 8 (by omega)]; exact hl
  refine W.eq (g2 := F0 m_ 36 ls [.ref (ad_32 25), .ref (ad_32 8)]) (by rw [hag_32 8 (by omega)]) ?_
  refine p_2_2 (x := 8) hC hW (by omega) kd_8 gw_76 hin rfl dX2_init_36 (fun H locs hW => ?_)
  have hcl_36 := Cl_p (a := 8) (i := 2) (b := 25) hcl_32 (by omega)
  refine lv_aload_n hx hb dX2_init_39 rfl (lv_at hl 0 rfl) ?_
  refine q_bp 7 hx hb dX2_init_40 (by decide) ?_
  refine q_bp 7 hx hb dX2_init_42 (by decide) ?_
  refine q_nwml hC hW hcl_36 kd_33 (fun j hj => kd_r34 hj) gw_69 (Nat.le_of_ble_eq_true rfl) (Nat.le_of_ble_eq_true rfl) dX2_init_44 (fun ad_44 H hag_44 hcl_44 hW => ?_)
  have hl : lv_has ls 1 [(0, .ref (ad_44 8))] := by rw [hag_44 8 (by omega)]; exact hl
  refine W.eq (g2 := F0 m_ 48 ls [.ref (ad_44 33), .ref (ad_44 8)]) (by rw [hag_44 8 (by omega)]) ?_
  refine p_2_3 (x := 8) hC hW (by omega) kd_8 gw_78 hin rfl dX2_init_48 (fun H locs hW => ?_)
  have hcl_48 := Cl_p (a := 8) (i := 3) (b := 33) hcl_44 (by omega)
  refine lv_aload_n hx hb dX2_init_51 rfl (lv_at hl 0 rfl) ?_
  refine q_bp 7 hx hb dX2_init_52 (by decide) ?_
  refine q_bp 7 hx hb dX2_init_54 (by decide) ?_
  refine q_nwmi hC hW hcl_48 kd_41 (fun j hj => kd_r42 hj) gw_71 (Nat.le_of_ble_eq_true rfl) (Nat.le_of_ble_eq_true rfl) dX2_init_56 (fun ad_56 H hag_56 hcl_56 hW => ?_)
  have hl : lv_has ls 1 [(0, .ref (ad_56 8))] := by rw [hag_56 8 (by omega)]; exact hl
  refine W.eq (g2 := F0 m_ 60 ls [.ref (ad_56 41), .ref (ad_56 8)]) (by rw [hag_56 8 (by omega)]) ?_
  refine p_2_4 (x := 8) hC hW (by omega) kd_8 gw_80 hin rfl dX2_init_60 (fun H locs hW => ?_)
  have hcl_60 := Cl_p (a := 8) (i := 4) (b := 41) hcl_56 (by omega)
  refine lv_aload_n hx hb dX2_init_63 rfl (lv_at hl 0 rfl) ?_
  refine g_2_0 (x := 8) (y := 9) hC hW (by omega) kd_8 gw_73 (by simp (disch := omega) [up2_at, mmR_lt]) dX2_init_64 ?_
  refine q_ic 0 hx hb dX2_init_67 (by decide) ?_
  refine q_aald5 (x := 9) (i := 0) (y := 10) hC hW (by omega) kd_9 (by omega) (by simp (disch := omega) [up2_at, mmR_lt, mmR_n]) dX2_init_68 ?_
  refine q_bp 6 hx hb dX2_init_69 (by decide) ?_
  refine q_lc 1 hx hb dX2_init_71 (by decide) ?_
  refine q_last (x := 10) (i := 6) (v := lN 1) hC hW (by omega) kd_10 (by omega) dX2_init_72 (fun H locs hW => ?_)
  have h8 : ∀ j, j < 5 → (up2 (mmR 41 (up2 (mmR 33 (up2 (mmR 25 (up2 (mmR 17 (up2 (mmR 9 R) 8 0 (some 9))) 8 1 (some 17))) 8 2 (some 25))) 8 3 (some 33))) 8 4 (some 41)) 8 j = some (9 + 8 * j) := fun j hj => by have h9 : j = 0 ∨ j = 1 ∨ j = 2 ∨ j = 3 ∨ j = 4 := (by omega); rcases h9 with rfl | rfl | rfl | rfl | rfl <;> simp (disch := omega) [up2_at, mmR_lt]
  have h8r : ∀ i, i < 5 → ∀ j, j < 7 → (up2 (mmR 41 (up2 (mmR 33 (up2 (mmR 25 (up2 (mmR 17 (up2 (mmR 9 R) 8 0 (some 9))) 8 1 (some 17))) 8 2 (some 25))) 8 3 (some 33))) 8 4 (some 41)) (9 + 8 * i) j = some (9 + 8 * i + 1 + j) := fun i hi j hj => by have h9 : i = 0 ∨ i = 1 ∨ i = 2 ∨ i = 3 ∨ i = 4 := (by omega); rcases h9 with rfl | rfl | rfl | rfl | rfl <;> simp (disch := omega) [up2_at, mmR_lt, mmR_n, hj]
  have hSI9 : SI (up2 (zz 41 8 (zz 33 8 (zz 25 8 (zz 17 8 (zz 9 8 L 0) 0) 0) 0) 0) 10 6 (lN 1)) := ⟨fun f hf => (by rw [up2_at, if_neg (by omega)]; simp [zz_at]; rfl), (by rw [up2_at, if_pos ⟨rfl, rfl⟩]), fun d h1 h2 => (by rw [up2_at, if_neg (by omega), zz_at, if_neg (by omega), zz_at, if_neg (by omega), zz_at, if_neg (by omega), zz_at, if_neg (by omega), zz_at, if_pos (by omega)]; rfl)⟩
  refine q_more (c2 := 40) (s2 := 259) (Nat.le_of_ble_eq_true rfl) (Nat.le_of_ble_eq_true rfl) ?_
  exact q_vret2 hC hW hr hlk0 ⟨⟨rfl, (fun k hk => (hag_56 k (by omega)).trans ((hag_44 k (by omega)).trans ((hag_32 k (by omega)).trans ((hag_20 k (by omega)).trans (hag_9 k (by omega)))))), (fun k hk => ⟨by simp (disch := omega) only [up2_ne, zr_ne, zz_lt, mmR_lt], by simp (disch := omega) only [up2_ne, zr_ne, zz_lt, mmR_lt], by simp (disch := omega) only [up2_ne, zr_ne, zz_lt, mmR_lt]⟩), hcl_60, lkS h8 h8r⟩, hSI9⟩ dX2_init_73
