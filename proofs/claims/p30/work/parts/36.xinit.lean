def LkR (n : Nat) (R : Rc) : Prop := ∀ a j y, 1 ≤ a → a < n → lkf a j = some y → R a j = some y
theorem LkR_new {n0 x n1 : Nat} {R0 R1 : Rc} (h : LkR n0 R0) (h0 : ∀ a, 1 ≤ a → a < n0 → R1 a = R0 a) (hmid : ∀ a, n0 ≤ a → a < x → ∀ j, lkf a j = none) (h1 : ∀ a j y, x ≤ a → a < n1 → lkf a j = some y → R1 a j = some y) : LkR n1 R1 := fun a j y ha hb hl => by
  by_cases e : a < n0
  · rw [h0 a ha e]; exact h a j y ha e hl
  · by_cases e2 : a < x
    · rw [hmid a (by omega) e2 j] at hl; cases hl
    · exact h1 a j y (by omega) hb hl
theorem lkf_4 (j : Nat) : lkf 4 j = none := by unfold lkf; rw [kd_4]; rfl
theorem lkf_5 (j : Nat) : lkf 5 j = none := by unfold lkf; rw [kd_5]; rfl
theorem lk0 {R : Rc} (h0 : R 0 0 = some 1) (h1 : R 0 1 = some 4) (h3 : R 0 3 = some 5) (h4 : R 0 4 = some 6) (h5 : R 0 5 = some 8) (h6 : R 0 6 = some 49) (h7 : R 0 7 = some 51) : ∀ j y, lkf 0 j = some y → R 0 j = some y := fun j y hl => by
  unfold lkf at hl
  rw [kd_0] at hl
  have hl : ([some 1, some 4, none, some 5, some 6, some 8, some 49, some 51] : List (Option Nat)).getD j none = some y := hl
  by_cases e : j < 8
  · have e9 : j = 0 ∨ j = 1 ∨ j = 2 ∨ j = 3 ∨ j = 4 ∨ j = 5 ∨ j = 6 ∨ j = 7 := by omega
    rcases e9 with rfl | rfl | rfl | rfl | rfl | rfl | rfl | rfl
    · exact h0.trans hl
    · exact h1.trans hl
    · cases hl
    · exact h3.trans hl
    · exact h4.trans hl
    · exact h5.trans hl
    · exact h6.trans hl
    · exact h7.trans hl
  · rw [List.getD_eq_getElem?_getD, List.getElem?_eq_none (by show 8 ≤ j; omega)] at hl
    cases hl
def w0 : Nat → Nat := fun k => if k = 36 ∨ k = 0 ∨ (42 ≤ k ∧ k < 46) then 1 else 0
def w0j (j : Nat) : Nat → Nat := fun k => if k = 36 ∨ k = 0 ∨ (42 ≤ k ∧ k < 42 + j) then 1 else 0
theorem w0_ok : Wok w0 := ⟨fun i => by unfold w0; split <;> decide, by decide, by decide, by decide⟩
theorem w0_s {I1 : Ic} {j : Nat} (h : ∀ k, I1 2 k = nI (w0j j k)) : ∀ k, up2 I1 2 (42 + j) (nI 1) 2 k = nI (w0j (j + 1) k) := fun k => by
  rw [up2_at]
  unfold w0j at h ⊢
  by_cases e : k = 42 + j
  · rw [if_pos ⟨rfl, e⟩, if_pos (by omega)]
  · rw [if_neg (fun q => e q.2), h k]
    by_cases e2 : k = 36 ∨ k = 0 ∨ (42 ≤ k ∧ k < 42 + j)
    · rw [if_pos e2, if_pos (by omega)]
    · rw [if_neg e2, if_neg (by omega)]
/-- the class as it is made -/
def IniA (I : Ic) (L : Lc) (R : Rc) : Prop := MdI I w0 0 (fun _ => 0) ∧ SI L ∧ I 6 1 = nI 0 ∧ I 0 2 = nI 0 ∧ (∀ j, j < 6 → R 4 j = some (53 + 3 * j)) ∧ ∀ j, j < 2 → R 5 j = none

set_option maxRecDepth 100000 in
set_option maxHeartbeats 4000000 in
theorem k_initX (l : Launch) (G : Gx) (ad : Nat → Nat) (sz : Nat) (I : Ic) (L : Lc) (R : Rc)  (hcl : Cl (0 + 1) R) : Met l yX5_init (Cond.code yX5_init cX5_init 2 none :: GW) ({ frames := 3, cells := 70, slots := 906, locals := 108 } : Room) (qPre G 1 ad sz I L R [.ref (ad 0)]) (qV2 G (qA (0 + 1) ad sz) (fun u => NewF 0 (71) ad I L R u.1 u.2.1 u.2.2.1 u.2.2.2.1 u.2.2.2.2 ∧ IniA u.2.2.1 u.2.2.2.1 u.2.2.2.2)) 70 906 (qA 1 ad sz) := by
  refine q_met (by decide) (Nat.le_of_ble_eq_true rfl) ?_
  intro p_ e_ s m_ below meth c_ hC hr hlk0 hin hsz hW ls hl
  subst hsz
  have hC : CallFix p_ m_ c_ cX5_init 2 s ([.ref (ad 0)] : List Value).toArray GW "CoinRows" := hC
  have hx := hC.1
  have hb := hC.2.1
  have hl : lv_has ls 2 [(0, .ref (ad 0))] := hl
  refine lv_aload_n hx hb dX5_init_0 rfl (lv_at hl 0 rfl) ?_
  refine W.objInit hx hb hC.2.2.2.1 (hC.2.2.2.2 _ gw_14) (hC.2.2.2.2 _ gw_15) (hC.2.2.2.2 _ gw_16) rfl (by rw [hC.2.2.1]; exact hl.1) rfl dX5_init_1 (Nat.le_of_ble_eq_true rfl) (Nat.le_of_ble_eq_true rfl) ?_
  refine W.eq (g2 := F0 m_ 4 ls []) rfl ?_
  refine lv_aload_n hx hb dX5_init_4 rfl (lv_at hl 0 rfl) ?_
  refine q_nwo0 hC hW hcl kd_1 gw_17 (Nat.le_of_ble_eq_true rfl) (Nat.le_of_ble_eq_true rfl) dX5_init_5 (fun ad_5 H hag_5 hcl_5 hW => ?_)
  have hl : lv_has ls 2 [(0, .ref (ad_5 0))] := by rw [hag_5 0 (by omega)]; exact hl
  refine W.eq (g2 := F0 m_ 8 ls [.ref (ad_5 1), .ref (ad_5 0)]) (by rw [hag_5 0 (by omega)]) ?_
  refine lv_dup hx hb dX5_init_8 rfl ?_
  refine q_kV2 (q_rIN (As := []) (rest := [.ref (ad_5 1), .ref (ad_5 0)]) (x := 1) hC hW mw_X0_init hW.2.2.2.2.2.1 (k_initM l G 1 ad_5 H.size (zr I 1 0) (zr L 1 0) (zr R 1 none) mdl_1 hcl_5) ⟨rfl, rfl⟩ ⟨Nat.le_of_ble_eq_true rfl, Nat.le_of_ble_eq_true rfl⟩ ⟨(Nat.le_of_ble_eq_true rfl), (Nat.le_of_ble_eq_true rfl)⟩ hl.1 rfl rfl (Nat.le_of_ble_eq_true rfl) dX5_init_9) hW (fun n_9 ad_9 I_9 L_9 R_9 H locs hp hW => ?_)
  have hp : NewF 1 (4) ad_5 (zr I 1 0) (zr L 1 0) (zr R 1 none) n_9 ad_9 I_9 L_9 R_9 ∧ (∀ i_, I_9 (1 + 1) i_ = nI 0) ∧ I_9 1 2 = nI 0 := hp
  obtain ⟨⟨rfl, hag_9, hNf_9, hcl_9, hNl_9⟩, hNw_9, hNk_9⟩ := hp
  have hl : lv_has ls 2 [(0, .ref (ad_9 0))] := by rw [hag_9 0 (by omega)]; exact hl
  refine W.eq (g2 := F0 m_ 12 ls [.ref (ad_9 1), .ref (ad_9 0)]) (by rw [hag_9 0 (by omega), hag_9 1 (by omega)]) ?_
  have fw_9 : ∀ i, I_9 2 i = nI 0 := hNw_9
  have fk_9 : I_9 1 2 = nI 0 := hNk_9
  have fl_9 : LkR 4 R_9 := fun a j y h1 h2 hl => hNl_9 a j y h1 h2 hl
  have r0_9_0 : True := trivial
  refine p_5_0 (x := 0) hC hW (by omega) kd_0 gw_124 hin rfl dX5_init_12 (fun H locs hW => ?_)
  have hcl_12 := Cl_p (a := 0) (i := 0) (b := 1) hcl_9 (by omega)
  refine lv_aload_n hx hb dX5_init_15 rfl (lv_at hl 0 rfl) ?_
  refine q_bp 6 hx hb dX5_init_16 (by decide) ?_
  refine q_nwq hC hW hcl_12 kd_4 gw_17 (Nat.le_of_ble_eq_true rfl) (Nat.le_of_ble_eq_true rfl) dX5_init_18 (fun ad_18 H hag_18 hcl_18 hW => ?_)
  have hl : lv_has ls 2 [(0, .ref (ad_18 0))] := by rw [hag_18 0 (by omega)]; exact hl
  refine W.eq (g2 := F0 m_ 21 ls [.ref (ad_18 4), .ref (ad_18 0)]) (by rw [hag_18 0 (by omega)]) ?_
  refine p_5_1 (x := 0) hC hW (by omega) kd_0 gw_125 hin rfl dX5_init_21 (fun H locs hW => ?_)
  have hcl_21 := Cl_p (a := 0) (i := 1) (b := 4) hcl_18 (by omega)
  refine lv_aload_n hx hb dX5_init_24 rfl (lv_at hl 0 rfl) ?_
  refine q_ic 0 hx hb dX5_init_25 (by decide) ?_
  refine p_5_2 (x := 0) (v := nI 0) hC hW (by omega) kd_0 gw_126 dX5_init_26 (fun H locs hW => ?_)
  refine lv_aload_n hx hb dX5_init_29 rfl (lv_at hl 0 rfl) ?_
  refine q_ic 2 hx hb dX5_init_30 (by decide) ?_
  refine q_nwq hC hW hcl_21 kd_5 gw_17 (Nat.le_of_ble_eq_true rfl) (Nat.le_of_ble_eq_true rfl) dX5_init_31 (fun ad_31 H hag_31 hcl_31 hW => ?_)
  have hl : lv_has ls 2 [(0, .ref (ad_31 0))] := by rw [hag_31 0 (by omega)]; exact hl
  refine W.eq (g2 := F0 m_ 34 ls [.ref (ad_31 5), .ref (ad_31 0)]) (by rw [hag_31 0 (by omega)]) ?_
  refine p_5_3 (x := 0) hC hW (by omega) kd_0 gw_127 hin rfl dX5_init_34 (fun H locs hW => ?_)
  have hcl_34 := Cl_p (a := 0) (i := 3) (b := 5) hcl_31 (by omega)
  refine lv_aload_n hx hb dX5_init_37 rfl (lv_at hl 0 rfl) ?_
  refine q_nwo1 hC hW hcl_34 kd_6 gw_42 (Nat.le_of_ble_eq_true rfl) (Nat.le_of_ble_eq_true rfl) dX5_init_38 (fun ad_38 H hag_38 hcl_38 hW => ?_)
  have hl : lv_has ls 2 [(0, .ref (ad_38 0))] := by rw [hag_38 0 (by omega)]; exact hl
  refine W.eq (g2 := F0 m_ 41 ls [.ref (ad_38 6), .ref (ad_38 0)]) (by rw [hag_38 0 (by omega)]) ?_
  refine lv_dup hx hb dX5_init_41 rfl ?_
  refine q_kV2 (q_rIN (As := []) (rest := [.ref (ad_38 6), .ref (ad_38 0)]) (x := 6) hC hW mw_X1_init hW.2.2.2.2.2.2.1 (k_initP l G ad_38 H.size (zr (zr (up2 (zr I_9 4 0) 0 2 (nI 0)) 5 0) 6 0) (zr (zr (zr L_9 4 0) 5 0) 6 0) (zr (up2 (zr (up2 (zr (up2 R_9 0 0 (some 1)) 4 none) 0 1 (some 4)) 5 none) 0 3 (some 5)) 6 none) hcl_38) ⟨rfl, rfl⟩ ⟨Nat.le_of_ble_eq_true rfl, Nat.le_of_ble_eq_true rfl⟩ ⟨(Nat.le_of_ble_eq_true rfl), (Nat.le_of_ble_eq_true rfl)⟩ hl.1 rfl rfl (Nat.le_of_ble_eq_true rfl) dX5_init_42) hW (fun n_42 ad_42 I_42 L_42 R_42 H locs hp hW => ?_)
  have hp : NewF 6 (8) ad_38 (zr (zr (up2 (zr I_9 4 0) 0 2 (nI 0)) 5 0) 6 0) (zr (zr (zr L_9 4 0) 5 0) 6 0) (zr (up2 (zr (up2 (zr (up2 R_9 0 0 (some 1)) 4 none) 0 1 (some 4)) 5 none) 0 3 (some 5)) 6 none) n_42 ad_42 I_42 L_42 R_42 ∧ I_42 6 1 = nI 0 := hp
  obtain ⟨⟨rfl, hag_42, hNf_42, hcl_42, hNl_42⟩, hNp_42⟩ := hp
  have hl : lv_has ls 2 [(0, .ref (ad_42 0))] := by rw [hag_42 0 (by omega)]; exact hl
  refine W.eq (g2 := F0 m_ 45 ls [.ref (ad_42 6), .ref (ad_42 0)]) (by rw [hag_42 0 (by omega), hag_42 6 (by omega)]) ?_
  have fw_42 : ∀ i, I_42 2 i = nI 0 := fun i => by rw [(hNf_42 2 (by decide)).1]; (try simp (disch := omega) only [up2_ne, zr_ne]); exact fw_9 i
  have fk_42 : I_42 1 2 = nI 0 := by rw [(hNf_42 1 (by decide)).1]; (try simp (disch := omega) only [up2_ne, zr_ne]); exact fk_9
  have fl_42 : LkR 8 R_42 := LkR_new (n0 := 4) (x := 6) fl_9 (fun a h1 h2 => by rw [(hNf_42 a (by omega)).2.2]; (try simp (disch := omega) only [up2_ne, zr_ne])) (fun a h1 h2 j => by have h9 : a = 4 ∨ a = 5 := (by omega); rcases h9 with rfl | rfl; (exact lkf_4 j); exact lkf_5 j) (fun a j y h1 h2 hl => hNl_42 a j y h1 h2 hl)
  have r0_42_0 : R_42 0 0 = some 1 := by rw [(hNf_42 0 (by decide)).2.2]; simp [up2_at, zr_at]
  have r0_42_1 : R_42 0 1 = some 4 := by rw [(hNf_42 0 (by decide)).2.2]; simp [up2_at, zr_at]
  have r0_42_3 : R_42 0 3 = some 5 := by rw [(hNf_42 0 (by decide)).2.2]; simp [up2_at, zr_at]
  have fr_42 : I_42 0 2 = nI 0 := by rw [(hNf_42 0 (by decide)).1]; simp [up2_at, zr_at]
  have f4_42 : ∀ j, R_42 4 j = none := fun j => by rw [(hNf_42 4 (by decide)).2.2]; simp [up2_at, zr_at]
  have f5_42 : ∀ j, R_42 5 j = none := fun j => by rw [(hNf_42 5 (by decide)).2.2]; simp [up2_at, zr_at]
  have fp_42 : I_42 6 1 = nI 0 := hNp_42
  refine p_5_4 (x := 0) hC hW (by omega) kd_0 gw_128 hin rfl dX5_init_45 (fun H locs hW => ?_)
  have hcl_45 := Cl_p (a := 0) (i := 4) (b := 6) hcl_42 (by omega)
  refine lv_aload_n hx hb dX5_init_48 rfl (lv_at hl 0 rfl) ?_
  refine q_nwo2 hC hW hcl_45 kd_8 gw_63 (Nat.le_of_ble_eq_true rfl) (Nat.le_of_ble_eq_true rfl) dX5_init_49 (fun ad_49 H hag_49 hcl_49 hW => ?_)
  have hl : lv_has ls 2 [(0, .ref (ad_49 0))] := by rw [hag_49 0 (by omega)]; exact hl
  refine W.eq (g2 := F0 m_ 52 ls [.ref (ad_49 8), .ref (ad_49 0)]) (by rw [hag_49 0 (by omega)]) ?_
  refine lv_dup hx hb dX5_init_52 rfl ?_
  refine q_kV2 (q_rI (As := []) (rest := [.ref (ad_49 8), .ref (ad_49 0)]) (x := 8) hC hW mw_X2_init gw_65 (k_initS l G ad_49 H.size (zr I_42 8 0) (zr L_42 8 0) (zr (up2 R_42 0 4 (some 6)) 8 none) hcl_49) ⟨rfl, rfl⟩ ⟨Nat.le_of_ble_eq_true rfl, Nat.le_of_ble_eq_true rfl⟩ ⟨(Nat.le_of_ble_eq_true rfl), (Nat.le_of_ble_eq_true rfl)⟩ hl.1 rfl rfl (Nat.le_of_ble_eq_true rfl) dX5_init_53) hW (fun n_53 ad_53 I_53 L_53 R_53 H locs hp hW => ?_)
  have hp : NewF 8 (49) ad_49 (zr I_42 8 0) (zr L_42 8 0) (zr (up2 R_42 0 4 (some 6)) 8 none) n_53 ad_53 I_53 L_53 R_53 ∧ SI L_53 := hp
  obtain ⟨⟨rfl, hag_53, hNf_53, hcl_53, hNl_53⟩, hNS_53⟩ := hp
  have hl : lv_has ls 2 [(0, .ref (ad_53 0))] := by rw [hag_53 0 (by omega)]; exact hl
  refine W.eq (g2 := F0 m_ 56 ls [.ref (ad_53 8), .ref (ad_53 0)]) (by rw [hag_53 0 (by omega), hag_53 8 (by omega)]) ?_
  have fw_53 : ∀ i, I_53 2 i = nI 0 := fun i => by rw [(hNf_53 2 (by decide)).1]; (try simp (disch := omega) only [up2_ne, zr_ne]); exact fw_42 i
  have fk_53 : I_53 1 2 = nI 0 := by rw [(hNf_53 1 (by decide)).1]; (try simp (disch := omega) only [up2_ne, zr_ne]); exact fk_42
  have fl_53 : LkR 49 R_53 := LkR_new (n0 := 8) (x := 8) fl_42 (fun a h1 h2 => by rw [(hNf_53 a (by omega)).2.2]; (try simp (disch := omega) only [up2_ne, zr_ne])) (fun a h1 h2 => absurd h1 (by omega)) (fun a j y h1 h2 hl => hNl_53 a j y h1 h2 hl)
  have r0_53_0 : R_53 0 0 = some 1 := by rw [(hNf_53 0 (by decide)).2.2]; simp [up2_at, zr_at, r0_42_0, r0_42_1, r0_42_3]
  have r0_53_1 : R_53 0 1 = some 4 := by rw [(hNf_53 0 (by decide)).2.2]; simp [up2_at, zr_at, r0_42_0, r0_42_1, r0_42_3]
  have r0_53_3 : R_53 0 3 = some 5 := by rw [(hNf_53 0 (by decide)).2.2]; simp [up2_at, zr_at, r0_42_0, r0_42_1, r0_42_3]
  have r0_53_4 : R_53 0 4 = some 6 := by rw [(hNf_53 0 (by decide)).2.2]; simp [up2_at, zr_at, r0_42_0, r0_42_1, r0_42_3]
  have fr_53 : I_53 0 2 = nI 0 := by rw [(hNf_53 0 (by decide)).1]; (try simp (disch := omega) only [up2_ne, zr_ne]); exact fr_42
  have f4_53 : ∀ j, R_53 4 j = none := fun j => by rw [(hNf_53 4 (by decide)).2.2]; (try simp (disch := omega) only [up2_ne, zr_ne]); exact f4_42 j
  have f5_53 : ∀ j, R_53 5 j = none := fun j => by rw [(hNf_53 5 (by decide)).2.2]; (try simp (disch := omega) only [up2_ne, zr_ne]); exact f5_42 j
  have fp_53 : I_53 6 1 = nI 0 := by rw [(hNf_53 6 (by decide)).1]; (try simp (disch := omega) only [up2_ne, zr_ne]); exact fp_42
  have fS_53 : SI L_53 := hNS_53
  refine p_5_5 (x := 0) hC hW (by omega) kd_0 gw_129 hin rfl dX5_init_56 (fun H locs hW => ?_)
  have hcl_56 := Cl_p (a := 0) (i := 5) (b := 8) hcl_53 (by omega)
  refine lv_aload_n hx hb dX5_init_59 rfl (lv_at hl 0 rfl) ?_
  refine q_nwo4 hC hW hcl_56 kd_49 gw_94 (Nat.le_of_ble_eq_true rfl) (Nat.le_of_ble_eq_true rfl) dX5_init_60 (fun ad_60 H hag_60 hcl_60 hW => ?_)
  have hl : lv_has ls 2 [(0, .ref (ad_60 0))] := by rw [hag_60 0 (by omega)]; exact hl
  refine W.eq (g2 := F0 m_ 63 ls [.ref (ad_60 49), .ref (ad_60 0)]) (by rw [hag_60 0 (by omega)]) ?_
  refine lv_dup hx hb dX5_init_63 rfl ?_
  refine q_kV2 (q_rIN (As := []) (rest := [.ref (ad_60 49), .ref (ad_60 0)]) (x := 49) hC hW mw_X4_init hW.2.2.2.2.2.2.2.1 (k_initW l G ad_60 H.size (zr I_53 49 0) (zr L_53 49 0) (zr (up2 R_53 0 5 (some 8)) 49 none) hcl_60) ⟨rfl, rfl⟩ ⟨Nat.le_of_ble_eq_true rfl, Nat.le_of_ble_eq_true rfl⟩ ⟨(Nat.le_of_ble_eq_true rfl), (Nat.le_of_ble_eq_true rfl)⟩ hl.1 rfl rfl (Nat.le_of_ble_eq_true rfl) dX5_init_64) hW (fun n_64 ad_64 I_64 L_64 R_64 H locs hp hW => ?_)
  have hp : NewF 49 (51) ad_60 (zr I_53 49 0) (zr L_53 49 0) (zr (up2 R_53 0 5 (some 8)) 49 none) n_64 ad_64 I_64 L_64 R_64 := hp
  obtain ⟨rfl, hag_64, hNf_64, hcl_64, hNl_64⟩ := hp
  have hl : lv_has ls 2 [(0, .ref (ad_64 0))] := by rw [hag_64 0 (by omega)]; exact hl
  refine W.eq (g2 := F0 m_ 67 ls [.ref (ad_64 49), .ref (ad_64 0)]) (by rw [hag_64 0 (by omega), hag_64 49 (by omega)]) ?_
  have fw_64 : ∀ i, I_64 2 i = nI 0 := fun i => by rw [(hNf_64 2 (by decide)).1]; (try simp (disch := omega) only [up2_ne, zr_ne]); exact fw_53 i
  have fk_64 : I_64 1 2 = nI 0 := by rw [(hNf_64 1 (by decide)).1]; (try simp (disch := omega) only [up2_ne, zr_ne]); exact fk_53
  have fl_64 : LkR 51 R_64 := LkR_new (n0 := 49) (x := 49) fl_53 (fun a h1 h2 => by rw [(hNf_64 a (by omega)).2.2]; (try simp (disch := omega) only [up2_ne, zr_ne])) (fun a h1 h2 => absurd h1 (by omega)) (fun a j y h1 h2 hl => hNl_64 a j y h1 h2 hl)
  have r0_64_0 : R_64 0 0 = some 1 := by rw [(hNf_64 0 (by decide)).2.2]; simp [up2_at, zr_at, r0_53_0, r0_53_1, r0_53_3, r0_53_4]
  have r0_64_1 : R_64 0 1 = some 4 := by rw [(hNf_64 0 (by decide)).2.2]; simp [up2_at, zr_at, r0_53_0, r0_53_1, r0_53_3, r0_53_4]
  have r0_64_3 : R_64 0 3 = some 5 := by rw [(hNf_64 0 (by decide)).2.2]; simp [up2_at, zr_at, r0_53_0, r0_53_1, r0_53_3, r0_53_4]
  have r0_64_4 : R_64 0 4 = some 6 := by rw [(hNf_64 0 (by decide)).2.2]; simp [up2_at, zr_at, r0_53_0, r0_53_1, r0_53_3, r0_53_4]
  have r0_64_5 : R_64 0 5 = some 8 := by rw [(hNf_64 0 (by decide)).2.2]; simp [up2_at, zr_at, r0_53_0, r0_53_1, r0_53_3, r0_53_4]
  have fr_64 : I_64 0 2 = nI 0 := by rw [(hNf_64 0 (by decide)).1]; (try simp (disch := omega) only [up2_ne, zr_ne]); exact fr_53
  have f4_64 : ∀ j, R_64 4 j = none := fun j => by rw [(hNf_64 4 (by decide)).2.2]; (try simp (disch := omega) only [up2_ne, zr_ne]); exact f4_53 j
  have f5_64 : ∀ j, R_64 5 j = none := fun j => by rw [(hNf_64 5 (by decide)).2.2]; (try simp (disch := omega) only [up2_ne, zr_ne]); exact f5_53 j
  have fp_64 : I_64 6 1 = nI 0 := by rw [(hNf_64 6 (by decide)).1]; (try simp (disch := omega) only [up2_ne, zr_ne]); exact fp_53
  have fS_64 : SI L_64 := SI_lo fS_53 (fun a ha => by rw [(hNf_64 a (by omega)).2.1]; (try simp (disch := omega) only [up2_ne, zr_ne]))
  refine p_5_6 (x := 0) hC hW (by omega) kd_0 gw_130 hin rfl dX5_init_67 (fun H locs hW => ?_)
  have hcl_67 := Cl_p (a := 0) (i := 6) (b := 49) hcl_64 (by omega)
  refine lv_aload_n hx hb dX5_init_70 rfl (lv_at hl 0 rfl) ?_
  refine q_nwo3 hC hW hcl_67 kd_51 gw_114 (Nat.le_of_ble_eq_true rfl) (Nat.le_of_ble_eq_true rfl) dX5_init_71 (fun ad_71 H hag_71 hcl_71 hW => ?_)
  have hl : lv_has ls 2 [(0, .ref (ad_71 0))] := by rw [hag_71 0 (by omega)]; exact hl
  refine W.eq (g2 := F0 m_ 74 ls [.ref (ad_71 51), .ref (ad_71 0)]) (by rw [hag_71 0 (by omega)]) ?_
  refine lv_dup hx hb dX5_init_74 rfl ?_
  refine q_kV2 (q_rIN (As := []) (rest := [.ref (ad_71 51), .ref (ad_71 0)]) (x := 51) hC hW mw_X3_init hW.2.2.2.2.2.2.2.2.1 (k_initT l G ad_71 H.size (zr I_64 51 0) (zr L_64 51 0) (zr (up2 R_64 0 6 (some 49)) 51 none) hcl_71) ⟨rfl, rfl⟩ ⟨Nat.le_of_ble_eq_true rfl, Nat.le_of_ble_eq_true rfl⟩ ⟨(Nat.le_of_ble_eq_true rfl), (Nat.le_of_ble_eq_true rfl)⟩ hl.1 rfl rfl (Nat.le_of_ble_eq_true rfl) dX5_init_75) hW (fun n_75 ad_75 I_75 L_75 R_75 H locs hp hW => ?_)
  have hp : NewF 51 (53) ad_71 (zr I_64 51 0) (zr L_64 51 0) (zr (up2 R_64 0 6 (some 49)) 51 none) n_75 ad_75 I_75 L_75 R_75 := hp
  obtain ⟨rfl, hag_75, hNf_75, hcl_75, hNl_75⟩ := hp
  have hl : lv_has ls 2 [(0, .ref (ad_75 0))] := by rw [hag_75 0 (by omega)]; exact hl
  refine W.eq (g2 := F0 m_ 78 ls [.ref (ad_75 51), .ref (ad_75 0)]) (by rw [hag_75 0 (by omega), hag_75 51 (by omega)]) ?_
  have fw_75 : ∀ i, I_75 2 i = nI 0 := fun i => by rw [(hNf_75 2 (by decide)).1]; (try simp (disch := omega) only [up2_ne, zr_ne]); exact fw_64 i
  have fk_75 : I_75 1 2 = nI 0 := by rw [(hNf_75 1 (by decide)).1]; (try simp (disch := omega) only [up2_ne, zr_ne]); exact fk_64
  have fl_75 : LkR 53 R_75 := LkR_new (n0 := 51) (x := 51) fl_64 (fun a h1 h2 => by rw [(hNf_75 a (by omega)).2.2]; (try simp (disch := omega) only [up2_ne, zr_ne])) (fun a h1 h2 => absurd h1 (by omega)) (fun a j y h1 h2 hl => hNl_75 a j y h1 h2 hl)
  have r0_75_0 : R_75 0 0 = some 1 := by rw [(hNf_75 0 (by decide)).2.2]; simp [up2_at, zr_at, r0_64_0, r0_64_1, r0_64_3, r0_64_4, r0_64_5]
  have r0_75_1 : R_75 0 1 = some 4 := by rw [(hNf_75 0 (by decide)).2.2]; simp [up2_at, zr_at, r0_64_0, r0_64_1, r0_64_3, r0_64_4, r0_64_5]
  have r0_75_3 : R_75 0 3 = some 5 := by rw [(hNf_75 0 (by decide)).2.2]; simp [up2_at, zr_at, r0_64_0, r0_64_1, r0_64_3, r0_64_4, r0_64_5]
  have r0_75_4 : R_75 0 4 = some 6 := by rw [(hNf_75 0 (by decide)).2.2]; simp [up2_at, zr_at, r0_64_0, r0_64_1, r0_64_3, r0_64_4, r0_64_5]
  have r0_75_5 : R_75 0 5 = some 8 := by rw [(hNf_75 0 (by decide)).2.2]; simp [up2_at, zr_at, r0_64_0, r0_64_1, r0_64_3, r0_64_4, r0_64_5]
  have r0_75_6 : R_75 0 6 = some 49 := by rw [(hNf_75 0 (by decide)).2.2]; simp [up2_at, zr_at, r0_64_0, r0_64_1, r0_64_3, r0_64_4, r0_64_5]
  have fr_75 : I_75 0 2 = nI 0 := by rw [(hNf_75 0 (by decide)).1]; (try simp (disch := omega) only [up2_ne, zr_ne]); exact fr_64
  have f4_75 : ∀ j, R_75 4 j = none := fun j => by rw [(hNf_75 4 (by decide)).2.2]; (try simp (disch := omega) only [up2_ne, zr_ne]); exact f4_64 j
  have f5_75 : ∀ j, R_75 5 j = none := fun j => by rw [(hNf_75 5 (by decide)).2.2]; (try simp (disch := omega) only [up2_ne, zr_ne]); exact f5_64 j
  have fp_75 : I_75 6 1 = nI 0 := by rw [(hNf_75 6 (by decide)).1]; (try simp (disch := omega) only [up2_ne, zr_ne]); exact fp_64
  have fS_75 : SI L_75 := SI_lo fS_64 (fun a ha => by rw [(hNf_75 a (by omega)).2.1]; (try simp (disch := omega) only [up2_ne, zr_ne]))
  refine p_5_7 (x := 0) hC hW (by omega) kd_0 gw_131 hin rfl dX5_init_78 (fun H locs hW => ?_)
  have hcl_78 := Cl_p (a := 0) (i := 7) (b := 51) hcl_75 (by omega)
  refine lv_aload_n hx hb dX5_init_81 rfl (lv_at hl 0 rfl) ?_
  refine g_5_0 (x := 0) (y := 1) hC hW (by omega) kd_0 gw_124 (by simp [up2_at, r0_75_0, r0_75_1, r0_75_3, r0_75_4, r0_75_5, r0_75_6]) dX5_init_82 ?_
  refine g_0_0 (x := 1) (y := 2) hC hW (by omega) kd_1 gw_24 (by rw [up2_ne (by decide)]; exact fl_75 1 0 2 (by decide) (by decide) rfl) dX5_init_85 ?_
  refine q_bp 36 hx hb dX5_init_88 (by decide) ?_
  refine q_ic 1 hx hb dX5_init_90 (by decide) ?_
  refine q_iast (x := 2) (i := 36) (v := nI 1) hC hW (by omega) kd_2 (by omega) dX5_init_91 (fun H locs hW => ?_)
  refine lv_aload_n hx hb dX5_init_92 rfl (lv_at hl 0 rfl) ?_
  refine g_5_0 (x := 0) (y := 1) hC hW (by omega) kd_0 gw_124 (by simp [up2_at, r0_75_0, r0_75_1, r0_75_3, r0_75_4, r0_75_5, r0_75_6]) dX5_init_93 ?_
  refine g_0_0 (x := 1) (y := 2) hC hW (by omega) kd_1 gw_24 (by rw [up2_ne (by decide)]; exact fl_75 1 0 2 (by decide) (by decide) rfl) dX5_init_96 ?_
  refine q_ic 0 hx hb dX5_init_99 (by decide) ?_
  refine q_ic 1 hx hb dX5_init_100 (by decide) ?_
  refine q_iast (x := 2) (i := 0) (v := nI 1) hC hW (by omega) kd_2 (by omega) dX5_init_101 (fun H locs hW => ?_)
  refine q_ic 0 hx hb dX5_init_102 (by decide) ?_
  refine lv_istore_n (lv' := [(1, .int (nI 0)), (0, .ref (ad_75 0))]) hx hb dX5_init_103 rfl hl (by decide) rfl (fun ls hl => ?_)
  have lp_104 : ∀ (fu_104 : Nat) (j1 : Nat) (I1 : Ic), 4 - j1 < fu_104 → (j1 ≤ 4) → (∀ a, a ≠ 2 → I1 a = I_75 a) → (∀ k, I1 2 k = nI (w0j j1 k)) → ∀ (H : Heap) (locs : List Loc), Wd G 53 ad_75 I1 L_75 (up2 R_75 0 7 (some 51)) (qA 1 ad s.heap.size) s.heap H locs s → ∀ ls : Array Slot, lv_has ls 2 [(0, .ref (ad_75 0)), (1, .int (nI (j1)))] → W p_ l e_ ({ frames := 3, cells := 70, slots := 906, locals := 108 } : Room) s m_ ([.ref (ad 0)] : List Value).toArray below meth c_ H locs 52 504 (MQ below (qV2 G (qA (0 + 1) ad s.heap.size) (fun u => NewF 0 (71) ad I L R u.1 u.2.1 u.2.2.1 u.2.2.2.1 u.2.2.2.2 ∧ IniA u.2.2.1 u.2.2.2.1 u.2.2.2.2)) ([.ref (ad 0)] : List Value).toArray s 70 906 (qA 1 ad s.heap.size)) (F0 m_ 104 ls []) := by
    intro fu_104
    induction fu_104 with
    | zero =>
      intro j1 I1 hm; exact absurd hm (Nat.not_lt_zero _)
    | succ fu_104 ih_104 =>
      intro j1 I1 hm_104 hj4 hIo hIw H locs hW ls hl
      refine lv_iload_n hx hb dX5_init_104 rfl (lv_at hl 1 rfl) ?_
      refine q_ic 4 hx hb dX5_init_105 (by decide) ?_
      refine q_cge (tgt := 128) hx hb dX5_init_106 (by decide) (by first | omega | exact Nat.lt_of_le_of_lt (hw3 _) (by decide)) (by first | omega | exact Nat.lt_of_le_of_lt (hw3 _) (by decide)) (fun c_106 => ?_) (fun c_106 => ?_)
      ·
        have ej : j1 = 4 := by omega
        subst ej
        have hIw : ∀ k, I1 2 k = nI (w0 k) := hIw
        refine q_ic 0 hx hb dX5_init_128 (by decide) ?_
        refine lv_istore_n (lv' := [(1, .int (nI 0)), (0, .ref (ad_75 0))]) hx hb dX5_init_129 rfl hl (by decide) rfl (fun ls hl => ?_)
        have lp_130 : ∀ (fu_130 : Nat) (i : Nat) (ad1 : Nat → Nat) (I2 : Ic) (L2 : Lc) (R2 : Rc), 6 - i < fu_130 → (i ≤ 6) → (ad1 0 = ad 0) → (Cl (53 + 3 * i) R2) → (∀ a, a < 53 → I2 a = I1 a) → (∀ a, a < 53 → L2 a = L_75 a) → (∀ a, a < 53 → a ≠ 4 → R2 a = (up2 R_75 0 7 (some 51)) a) → (∀ j, R2 4 j = if j < i then some (53 + 3 * j) else none) → (∀ a j y, 53 ≤ a → a < 53 + 3 * i → lkf a j = some y → R2 a j = some y) → ∀ (H : Heap) (locs : List Loc), Wd G (53 + 3 * i) ad1 I2 L2 R2 (qA 1 ad s.heap.size) s.heap H locs s → ∀ ls : Array Slot, lv_has ls 2 [(0, .ref (ad1 0)), (1, .int (nI (i)))] → W p_ l e_ ({ frames := 3, cells := 70, slots := 906, locals := 108 } : Room) s m_ ([.ref (ad 0)] : List Value).toArray below meth c_ H locs (52 + 3 * i) (504 + 67 * i) (MQ below (qV2 G (qA (0 + 1) ad s.heap.size) (fun u => NewF 0 (71) ad I L R u.1 u.2.1 u.2.2.1 u.2.2.2.1 u.2.2.2.2 ∧ IniA u.2.2.1 u.2.2.2.1 u.2.2.2.2)) ([.ref (ad 0)] : List Value).toArray s 70 906 (qA 1 ad s.heap.size)) (F0 m_ 130 ls []) := by
          intro fu_130
          induction fu_130 with
          | zero =>
            intro i ad1 I2 L2 R2 hm; exact absurd hm (Nat.not_lt_zero _)
          | succ fu_130 ih_130 =>
            intro i ad1 I2 L2 R2 hm_130 hi6 hag2 hcl2 hI2 hL2 hR2 hR4 hlk2 H locs hW ls hl
            refine lv_iload_n hx hb dX5_init_130 rfl (lv_at hl 1 rfl) ?_
            refine q_bp 6 hx hb dX5_init_131 (by decide) ?_
            refine q_cge (tgt := 155) hx hb dX5_init_133 (by decide) (by first | omega | exact Nat.lt_of_le_of_lt (hw3 _) (by decide)) (by first | omega | exact Nat.lt_of_le_of_lt (hw3 _) (by decide)) (fun c_133 => ?_) (fun c_133 => ?_)
            ·
              have ei : i = 6 := by omega
              subst ei
              have hlk71 : ∀ a j y, 0 ≤ a → a < 71 → lkf a j = some y → R2 a j = some y := fun a j y _ h2 hl => by
                by_cases e0 : a = 0
                · subst e0; exact lk0 (by rw [hR2 0 (by decide) (by decide)]; simp [up2_at, r0_75_0, r0_75_1, r0_75_3, r0_75_4, r0_75_5, r0_75_6]) (by rw [hR2 0 (by decide) (by decide)]; simp [up2_at, r0_75_0, r0_75_1, r0_75_3, r0_75_4, r0_75_5, r0_75_6]) (by rw [hR2 0 (by decide) (by decide)]; simp [up2_at, r0_75_0, r0_75_1, r0_75_3, r0_75_4, r0_75_5, r0_75_6]) (by rw [hR2 0 (by decide) (by decide)]; simp [up2_at, r0_75_0, r0_75_1, r0_75_3, r0_75_4, r0_75_5, r0_75_6]) (by rw [hR2 0 (by decide) (by decide)]; simp [up2_at, r0_75_0, r0_75_1, r0_75_3, r0_75_4, r0_75_5, r0_75_6]) (by rw [hR2 0 (by decide) (by decide)]; simp [up2_at, r0_75_0, r0_75_1, r0_75_3, r0_75_4, r0_75_5, r0_75_6]) (by rw [hR2 0 (by decide) (by decide)]; simp [up2_at, r0_75_0, r0_75_1, r0_75_3, r0_75_4, r0_75_5, r0_75_6]) j y hl
                · by_cases e4 : a = 4
                  · subst e4; rw [lkf_4] at hl; cases hl
                  · by_cases e53 : a < 53
                    · rw [hR2 a e53 e4, up2_ne e0]; exact fl_75 a j y (by omega) e53 hl
                    · exact hlk2 a j y (by omega) h2 hl
              have hIni : IniA I2 L2 R2 := ⟨⟨fun k hk => by rw [hI2 2 (by decide)]; exact hIw k, by rw [hI2 1 (by decide), hIo 1 (by decide)]; exact fk_75, fun j hj => absurd hj (by omega), by decide, w0_ok, fun _ => (by decide : (0 : Nat) < 4)⟩, SI_lo fS_75 (fun a ha => hL2 a (by omega)), by rw [hI2 6 (by decide), hIo 6 (by decide)]; exact fp_75, by rw [hI2 0 (by decide), hIo 0 (by decide)]; exact fr_75, fun j hj => by rw [hR4, if_pos hj], fun j hj => by rw [hR2 5 (by decide) (by decide), up2_ne (by decide)]; exact f5_75 j⟩
              refine q_more (c2 := 70) (s2 := 906) (Nat.le_of_ble_eq_true rfl) (Nat.le_of_ble_eq_true rfl) ?_
              exact q_vret2 hC hW hr hlk0 ⟨⟨rfl, fun k hk => by have h9 : k = 0 := (by omega); subst h9; exact hag2, fun k hk => absurd hk (by omega), hcl2, hlk71⟩, hIni⟩ dX5_init_155
            ·
              refine lv_aload_n hx hb dX5_init_136 rfl (lv_at hl 0 rfl) ?_
              refine g_5_1 (x := 0) (y := 4) hC hW (by omega) kd_0 gw_125 (by rw [hR2 0 (by decide) (by decide)]; simp [up2_at, r0_75_0, r0_75_1, r0_75_3, r0_75_4, r0_75_5, r0_75_6]) dX5_init_137 ?_
              refine lv_iload_n hx hb dX5_init_140 rfl (lv_at hl 1 rfl) ?_
              refine q_nwo0 hC hW hcl2 (mdl_h (by omega)).1 gw_17 (by show _ ≤ 70; omega) (by show _ ≤ 906; omega) dX5_init_141 (fun ad_141 H hag_141 hcl_141 hW => ?_)
              have hl : lv_has ls 2 [(0, .ref (ad_141 0)), (1, .int (nI (i)))] := by rw [hag_141 0 (by omega)]; exact hl
              refine W.eq (g2 := F0 m_ 144 ls [.ref (ad_141 (53 + 3 * i)), .int (nI (i)), .ref (ad_141 4)]) (by rw [hag_141 4 (by omega)]) ?_
              refine lv_dup hx hb dX5_init_144 rfl ?_
              refine q_kV2 (q_rIN (As := []) (rest := [.ref (ad_141 (53 + 3 * i)), .int (nI (i)), .ref (ad_141 4)]) (x := (53 + 3 * i)) hC hW mw_X0_init hW.2.2.2.2.2.1 (k_initM l G (53 + 3 * i) ad_141 H.size (zr I2 (53 + 3 * i) 0) (zr L2 (53 + 3 * i) 0) (zr R2 (53 + 3 * i) none) (mdl_h (by omega)) hcl_141) ⟨rfl, rfl⟩ ⟨Nat.le_of_ble_eq_true rfl, Nat.le_of_ble_eq_true rfl⟩ ⟨(by show _ ≤ 70; omega), (by show _ ≤ 906; omega)⟩ hl.1 rfl rfl (Nat.le_of_ble_eq_true rfl) dX5_init_145) hW (fun n_145 ad_145 I_145 L_145 R_145 H locs hp hW => ?_)
              have hp : NewF (53 + 3 * i) (53 + 3 * i + 3) ad_141 (zr I2 (53 + 3 * i) 0) (zr L2 (53 + 3 * i) 0) (zr R2 (53 + 3 * i) none) n_145 ad_145 I_145 L_145 R_145 ∧ (∀ i_, I_145 (53 + 3 * i + 1) i_ = nI 0) ∧ I_145 (53 + 3 * i) 2 = nI 0 := hp
              obtain ⟨⟨rfl, hag_145, hNf_145, hcl_145, hNl_145⟩, hNw_145, hNk_145⟩ := hp
              have hl : lv_has ls 2 [(0, .ref (ad_145 0)), (1, .int (nI (i)))] := by rw [hag_145 0 (by omega)]; exact hl
              refine W.eq (g2 := F0 m_ 148 ls [.ref (ad_145 (53 + 3 * i)), .int (nI (i)), .ref (ad_145 4)]) (by rw [hag_145 4 (by omega), hag_145 (53 + 3 * i) (by omega)]) ?_
              refine q_aast4 (x := 4) (i := i) (y := (53 + 3 * i)) hC hW (by omega) kd_4 (by omega) (by omega) (mdl_h (by omega)).1 dX5_init_148 (fun H locs hW => ?_)
              have hcl_148 := Cl_p (a := 4) (i := i) (b := (53 + 3 * i)) hcl_145 (by omega)
              refine q_iinc (z2 := i + 1) (lv' := [(1, .int (nI (i + 1))), (0, .ref (ad_145 0))]) hx hb dX5_init_149 hl (k := 1) rfl (inc_up _ 1 (by decide)) (by decide) rfl (fun ls hl => ?_)
              refine lv_goto (tgt := 130) hx hb dX5_init_152 (by decide) ?_
              refine q_more (c2 := 52 + 3 * (i + 1)) (s2 := 504 + 67 * (i + 1)) (by omega) (by omega) ?_
              exact ih_130 (i + 1) ad_145 I_145 L_145 (up2 R_145 4 i (some (53 + 3 * i))) (by omega) (by omega) ((hag_145 0 (by omega)).trans ((hag_141 0 (by omega)).trans hag2)) (by rw [show 53 + 3 * (i + 1) = 53 + 3 * i + 3 by omega]; exact hcl_148) (fun a ha => by rw [(hNf_145 a (by omega)).1, zr_ne (by omega)]; exact hI2 a ha) (fun a ha => by rw [(hNf_145 a (by omega)).2.1, zr_ne (by omega)]; exact hL2 a ha) (fun a ha h4 => by rw [up2_ne h4, (hNf_145 a (by omega)).2.2, zr_ne (by omega)]; exact hR2 a ha h4) (fun j => by rw [up2_at]; by_cases e : j = i; (rw [if_pos ⟨rfl, e⟩, if_pos (by omega), e]); rw [if_neg (fun q => e q.2), (hNf_145 4 (by omega)).2.2, zr_ne (by omega), hR4 j]; by_cases e2 : j < i; (rw [if_pos e2, if_pos (by omega)]); rw [if_neg e2, if_neg (by omega)]) (fun a j y h1 h2 hl => by rw [up2_ne (by omega)]; by_cases e : a < 53 + 3 * i; (rw [(hNf_145 a e).2.2, zr_ne (by omega)]; exact hlk2 a j y h1 e hl); exact hNl_145 a j y (by omega) (by omega) hl) _ _ (by rw [show 53 + 3 * (i + 1) = 53 + 3 * i + 3 by omega]; exact hW) _ (lv_sub hl [1, 0] rfl)
        exact lp_130 (6 + 1) 0 ad_75 I1 L_75 (up2 R_75 0 7 (some 51)) (by omega) (by omega) ((hag_75 0 (by omega)).trans ((hag_71 0 (by omega)).trans ((hag_64 0 (by omega)).trans ((hag_60 0 (by omega)).trans ((hag_53 0 (by omega)).trans ((hag_49 0 (by omega)).trans ((hag_42 0 (by omega)).trans ((hag_38 0 (by omega)).trans ((hag_31 0 (by omega)).trans ((hag_18 0 (by omega)).trans ((hag_9 0 (by omega)).trans (hag_5 0 (by omega))))))))))))) hcl_78 (fun _ _ => rfl) (fun _ _ => rfl) (fun _ _ _ => rfl) (fun j => by rw [if_neg (by omega), up2_ne (by decide)]; exact f4_75 j) (fun a j y h1 h2 => absurd h1 (by omega)) _ _ hW _ (lv_sub hl [1, 0] rfl)
      ·
        refine lv_aload_n hx hb dX5_init_109 rfl (lv_at hl 0 rfl) ?_
        refine g_5_0 (x := 0) (y := 1) hC hW (by omega) kd_0 gw_124 (by simp [up2_at, r0_75_0, r0_75_1, r0_75_3, r0_75_4, r0_75_5, r0_75_6]) dX5_init_110 ?_
        refine g_0_0 (x := 1) (y := 2) hC hW (by omega) kd_1 gw_24 (by rw [up2_ne (by decide)]; exact fl_75 1 0 2 (by decide) (by decide) rfl) dX5_init_113 ?_
        refine q_bp 42 hx hb dX5_init_116 (by decide) ?_
        refine lv_iload_n hx hb dX5_init_118 rfl (lv_at hl 1 rfl) ?_
        refine q_iadd hx hb dX5_init_119 ?_
        refine q_ic 1 hx hb dX5_init_120 (by decide) ?_
        refine q_iast (x := 2) (i := 42 + j1) (v := nI 1) hC hW (by omega) kd_2 (by omega) dX5_init_121 (fun H locs hW => ?_)
        refine q_iinc (z2 := j1 + 1) (lv' := [(1, .int (nI (j1 + 1))), (0, .ref (ad_75 0))]) hx hb dX5_init_122 hl (k := 1) rfl (inc_up _ 1 (by decide)) (by decide) rfl (fun ls hl => ?_)
        refine lv_goto (tgt := 104) hx hb dX5_init_125 (by decide) ?_
        exact ih_104 (j1 + 1) (up2 I1 2 (42 + j1) (nI 1)) (by omega) (by omega) (fun a ha => by rw [up2_ne ha]; exact hIo a ha) (w0_s hIw) _ _ hW _ (lv_sub hl [1, 0] rfl)
  exact lp_104 (4 + 1) 0 (up2 (up2 I_75 2 36 (nI 1)) 2 0 (nI 1)) (by omega) (by omega) (fun a ha => by rw [up2_ne ha, up2_ne ha]) (fun k => by rw [up2_at]; unfold w0j; by_cases e : k = 0; (rw [if_pos ⟨rfl, e⟩, if_pos (by omega)]); rw [if_neg (fun q => e q.2), up2_at]; by_cases e2 : k = 36; (rw [if_pos ⟨rfl, e2⟩, if_pos (by omega)]); rw [if_neg (fun q => e2 q.2), if_neg (by omega)]; exact fw_75 k) _ _ hW _ (lv_sub hl [1, 0] rfl)
