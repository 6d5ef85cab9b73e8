set_option maxRecDepth 100000 in
set_option maxHeartbeats 4000000 in
theorem k_accept (l : Launch) (G : Gx) (n : Nat) (ad : Nat → Nat) (sz : Nat) (I : Ic) (L : Lc) (R : Rc) (lo up : Nat) (pn : Nat) (ch : Nat → Nat) (i : Nat) (hn : 83 ≤ n) (hlk : LkOK n R) (hP : PadI I pn ch) (ha : I 6 2 = nI i) (hi : i ≤ pn) (hlo : lo < 1000) (hup : up < 1000) : Met l yX1_accept (Cond.code yX1_accept cX1_accept 3 (some .boolean) :: GW) ({ frames := 0, cells := 0, slots := 0, locals := 0 } : Room) (qPre G n ad sz I L R [.ref (ad 6), .int (nI (lo)), .int (nI (up))]) (qI1 G (qA n ad sz) n ad R (fun z I1 L1 => (i < pn ∧ lo ≤ ch i ∧ ch i ≤ up ∧ z = nI 1 ∧ I1 = up2 I 6 2 (nI (i + 1)) ∧ L = L1) ∨ (¬ (i < pn ∧ lo ≤ ch i ∧ ch i ≤ up) ∧ z = nI 0 ∧ I = I1 ∧ L = L1))) 0 0 (qA n ad sz) := by
  refine q_met (by decide) (Nat.le_of_ble_eq_true rfl) ?_
  intro p_ e_ s m_ below meth c_ hC hr hlk0 hin hsz hW ls hl
  subst hsz
  have hC : CallFix p_ m_ c_ cX1_accept 3 s ([.ref (ad 6), .int (nI (lo)), .int (nI (up))] : List Value).toArray GW "CoinRows$Pad" := hC
  have hx := hC.1
  have hb := hC.2.1
  have hp80 := hP.2.1
  have hch := hP.2.2.2
  have hci := hch i
  have hl : lv_has ls 3 [(0, .ref (ad 6)), (1, .int (nI (lo))), (2, .int (nI (up)))] := hl
  refine lv_aload_n hx hb dX1_accept_0 rfl (lv_at hl 0 rfl) ?_
  refine g_1_2 (x := 6) hC hW (by omega) kd_6 gw_55 dX1_accept_1 ?_
  refine q_top (v2 := .int (nI (i))) (congrArg _ ha) ?_
  refine lv_aload_n hx hb dX1_accept_4 rfl (lv_at hl 0 rfl) ?_
  refine g_1_1 (x := 6) hC hW (by omega) kd_6 gw_53 dX1_accept_5 ?_
  refine q_top (v2 := .int (nI (pn))) (congrArg _ hP.1) ?_
  refine q_cge (tgt := 37) hx hb dX1_accept_8 (by decide) (by first | omega | exact Nat.lt_of_le_of_lt (hw3 _) (by decide)) (by first | omega | exact Nat.lt_of_le_of_lt (hw3 _) (by decide)) (fun c_8 => ?_) (fun c_8 => ?_)
  ·
    refine q_ic 0 hx hb dX1_accept_37 (by decide) ?_
    exact q_zret1 hC hW hr hlk0 rfl (Or.inr ⟨by omega, rfl, rfl, rfl⟩) dX1_accept_38
  ·
    refine lv_aload_n hx hb dX1_accept_11 rfl (lv_at hl 0 rfl) ?_
    refine g_1_0 (x := 6) (y := 7) hC hW (by omega) kd_6 gw_52 (hlk 6 0 7 (by omega) rfl) dX1_accept_12 ?_
    refine lv_aload_n hx hb dX1_accept_15 rfl (lv_at hl 0 rfl) ?_
    refine g_1_2 (x := 6) hC hW (by omega) kd_6 gw_55 dX1_accept_16 ?_
    refine q_top (v2 := .int (nI (i))) (congrArg _ ha) ?_
    refine q_cald (x := 7) (i := i) hC hW (by omega) kd_7 (by omega) dX1_accept_19 ?_
    refine q_top (v2 := .int (nI (ch i))) (congrArg _ (hP.2.2.1 _ (by omega))) ?_
    refine lv_iload_n hx hb dX1_accept_20 rfl (lv_at hl 1 rfl) ?_
    refine q_clt (tgt := 37) hx hb dX1_accept_21 (by decide) (by first | omega | exact Nat.lt_of_le_of_lt (hw3 _) (by decide)) (by first | omega | exact Nat.lt_of_le_of_lt (hw3 _) (by decide)) (fun c_21 => ?_) (fun c_21 => ?_)
    ·
      refine q_ic 0 hx hb dX1_accept_37 (by decide) ?_
      exact q_zret1 hC hW hr hlk0 rfl (Or.inr ⟨by omega, rfl, rfl, rfl⟩) dX1_accept_38
    ·
      refine lv_aload_n hx hb dX1_accept_24 rfl (lv_at hl 0 rfl) ?_
      refine g_1_0 (x := 6) (y := 7) hC hW (by omega) kd_6 gw_52 (hlk 6 0 7 (by omega) rfl) dX1_accept_25 ?_
      refine lv_aload_n hx hb dX1_accept_28 rfl (lv_at hl 0 rfl) ?_
      refine g_1_2 (x := 6) hC hW (by omega) kd_6 gw_55 dX1_accept_29 ?_
      refine q_top (v2 := .int (nI (i))) (congrArg _ ha) ?_
      refine q_cald (x := 7) (i := i) hC hW (by omega) kd_7 (by omega) dX1_accept_32 ?_
      refine q_top (v2 := .int (nI (ch i))) (congrArg _ (hP.2.2.1 _ (by omega))) ?_
      refine lv_iload_n hx hb dX1_accept_33 rfl (lv_at hl 2 rfl) ?_
      refine q_cle (tgt := 39) hx hb dX1_accept_34 (by decide) (by first | omega | exact Nat.lt_of_le_of_lt (hw3 _) (by decide)) (by first | omega | exact Nat.lt_of_le_of_lt (hw3 _) (by decide)) (fun c_34 => ?_) (fun c_34 => ?_)
      ·
        refine lv_aload_n hx hb dX1_accept_39 rfl (lv_at hl 0 rfl) ?_
        refine lv_dup hx hb dX1_accept_40 rfl ?_
        refine g_1_2 (x := 6) hC hW (by omega) kd_6 gw_55 dX1_accept_41 ?_
        refine q_top (v2 := .int (nI (i))) (congrArg _ ha) ?_
        refine q_ic 1 hx hb dX1_accept_44 (by decide) ?_
        refine q_iadd hx hb dX1_accept_45 ?_
        refine p_1_2 (x := 6) (v := nI (i + 1)) hC hW (by omega) kd_6 gw_55 dX1_accept_46 (fun H locs hW => ?_)
        refine q_ic 1 hx hb dX1_accept_49 (by decide) ?_
        exact q_zret1 hC hW hr hlk0 rfl (Or.inl ⟨by omega, by omega, by omega, rfl, rfl, rfl⟩) dX1_accept_50
      ·
        refine q_ic 0 hx hb dX1_accept_37 (by decide) ?_
        exact q_zret1 hC hW hr hlk0 rfl (Or.inr ⟨by omega, rfl, rfl, rfl⟩) dX1_accept_38
set_option maxRecDepth 100000 in
set_option maxHeartbeats 4000000 in
theorem k_latest (l : Launch) (G : Gx) (n : Nat) (ad : Nat → Nat) (sz : Nat) (I : Ic) (L : Lc) (R : Rc) (pn : Nat) (ch : Nat → Nat) (i : Nat) (hn : 83 ≤ n) (hlk : LkOK n R) (hP : PadI I pn ch) (ha : I 6 2 = nI (i + 1)) (hi : i + 1 ≤ pn) : Met l yX1_latest (Cond.code yX1_latest cX1_latest 1 (some .int) :: GW) ({ frames := 0, cells := 0, slots := 0, locals := 0 } : Room) (qPre G n ad sz I L R [.ref (ad 6)]) (qI0 G (qA n ad sz) (n, ad, I, L, R) (fun z => z = nI (ch i))) 0 0 (qA n ad sz) := by
  refine q_met (by decide) (Nat.le_of_ble_eq_true rfl) ?_
  intro p_ e_ s m_ below meth c_ hC hr hlk0 hin hsz hW ls hl
  subst hsz
  have hC : CallFix p_ m_ c_ cX1_latest 1 s ([.ref (ad 6)] : List Value).toArray GW "CoinRows$Pad" := hC
  have hx := hC.1
  have hb := hC.2.1
  have hp80 := hP.2.1
  have hch := hP.2.2.2
  have hl : lv_has ls 1 [(0, .ref (ad 6))] := hl
  refine lv_aload_n hx hb dX1_latest_0 rfl (lv_at hl 0 rfl) ?_
  refine g_1_2 (x := 6) hC hW (by omega) kd_6 gw_55 dX1_latest_1 ?_
  refine q_top (v2 := .int (nI (i + 1))) (congrArg _ ha) ?_
  refine q_ile (tgt := 21) hx hb dX1_latest_4 (by decide) (by first | omega | exact Nat.lt_of_le_of_lt (hw3 _) (by decide)) (fun c_4 => absurd c_4 (by omega)) (fun c_4 => ?_)
  refine lv_aload_n hx hb dX1_latest_7 rfl (lv_at hl 0 rfl) ?_
  refine g_1_0 (x := 6) (y := 7) hC hW (by omega) kd_6 gw_52 (hlk 6 0 7 (by omega) rfl) dX1_latest_8 ?_
  refine lv_aload_n hx hb dX1_latest_11 rfl (lv_at hl 0 rfl) ?_
  refine g_1_2 (x := 6) hC hW (by omega) kd_6 gw_55 dX1_latest_12 ?_
  refine q_top (v2 := .int (nI (i + 1))) (congrArg _ ha) ?_
  refine q_ic 1 hx hb dX1_latest_15 (by decide) ?_
  refine q_isub hx hb dX1_latest_16 (by omega) ?_
  refine q_top (v2 := .int (nI i)) (by rw [Nat.add_sub_cancel]) ?_
  refine q_cald (x := 7) (i := i) hC hW (by omega) kd_7 (by omega) dX1_latest_17 ?_
  refine q_top (v2 := .int (nI (ch i))) (congrArg _ (hP.2.2.1 _ (by omega))) ?_
  refine lv_goto (tgt := 22) hx hb dX1_latest_18 (by decide) ?_
  exact q_iret0 hC hW hr hlk0 rfl dX1_latest_22
set_option maxRecDepth 100000 in
set_option maxHeartbeats 4000000 in
theorem k_clear (l : Launch) (G : Gx) (n : Nat) (ad : Nat → Nat) (sz : Nat) (I : Ic) (L : Lc) (R : Rc) (pn : Nat) (ch : Nat → Nat) (hn : 83 ≤ n) (hlk : LkOK n R) (hP : PadI I pn ch) : Met l yX1_clear (Cond.code yX1_clear cX1_clear 2 (some .int) :: GW) ({ frames := 0, cells := 0, slots := 0, locals := 0 } : Room) (qPre G n ad sz I L R [.ref (ad 6)]) (qI1 G (qA n ad sz) n ad R (fun z I1 L1 => z = nI pn ∧ I1 = up2 I 6 1 (nI 0) ∧ L = L1)) 0 0 (qA n ad sz) := by
  refine q_met (by decide) (Nat.le_of_ble_eq_true rfl) ?_
  intro p_ e_ s m_ below meth c_ hC hr hlk0 hin hsz hW ls hl
  subst hsz
  have hC : CallFix p_ m_ c_ cX1_clear 2 s ([.ref (ad 6)] : List Value).toArray GW "CoinRows$Pad" := hC
  have hx := hC.1
  have hb := hC.2.1
  have hp80 := hP.2.1
  have hch := hP.2.2.2
  have hl : lv_has ls 2 [(0, .ref (ad 6))] := hl
  refine lv_aload_n hx hb dX1_clear_0 rfl (lv_at hl 0 rfl) ?_
  refine g_1_1 (x := 6) hC hW (by omega) kd_6 gw_53 dX1_clear_1 ?_
  refine q_top (v2 := .int (nI (pn))) (congrArg _ hP.1) ?_
  refine lv_istore_n (lv' := [(1, .int (nI (pn))), (0, .ref (ad 6))]) hx hb dX1_clear_4 rfl hl (by decide) rfl (fun ls hl => ?_)
  refine lv_aload_n hx hb dX1_clear_5 rfl (lv_at hl 1 rfl) ?_
  refine q_ic 0 hx hb dX1_clear_6 (by decide) ?_
  refine p_1_1 (x := 6) (v := nI 0) hC hW (by omega) kd_6 gw_53 dX1_clear_7 (fun H locs hW => ?_)
  refine lv_iload_n hx hb dX1_clear_10 rfl (lv_at hl 0 rfl) ?_
  exact q_iret1 hC hW hr hlk0 ⟨rfl, rfl, rfl⟩ dX1_clear_11
set_option maxRecDepth 100000 in
set_option maxHeartbeats 4000000 in
theorem k_readWeightN (l : Launch) (G : Gx) (n : Nat) (ad : Nat → Nat) (sz : Nat) (I : Ic) (L : Lc) (R : Rc) (q j tp : Nat) (pn : Nat) (ch : Nat → Nat) (s0 : Sg) (I0 : Ic) (i a b m p : Nat) (w : Nat → Nat) (K : Nat) (ro : Nat → Nat) (hn : 83 ≤ n) (hlk : LkOK n R) (hE : PE false pn ch s0 I0 i (q, a, b, m, w, K, ro, p) I) (hq : q < 8) (hj : j < 58) (htp : tp ≤ 3) (hs1 : ∀ c, 48 ≤ c ∧ c ≤ 48 + tp → stp (q, a, b, m, w, K, ro, p) c = some (9, a, b, m, upN w j (c - 48), K, ro, p)) (hs2 : ∀ c, ¬ (48 ≤ c ∧ c ≤ 48 + tp) → stp (q, a, b, m, w, K, ro, p) c = none)  : Met l yX1_readWeight (Cond.code yX1_readWeight cX1_readWeight 4 (some .boolean) :: GW) ({ frames := 1, cells := 0, slots := 0, locals := 36 } : Room) (qPre G n ad sz I L R [.ref (ad 6), .null, .int (nI (j)), .int (nI (tp))]) (qI1 G (qA n ad sz) n ad R (fun z I1 L1 => (z = nI 1 ∧ PE false pn ch s0 I0 (i + 1) (9, a, b, m, (upN w j (ch i - 48)), K, ro, p) I1 ∧ I1 6 3 = I 6 3 ∧ i < pn ∧ L = L1) ∨ (z = nI 0 ∧ PFl false pn ch s0 I0 I1 ∧ I1 6 3 = I 6 3 ∧ L = L1))) 0 0 (qA n ad sz) := by
  refine q_met (by decide) (Nat.le_of_ble_eq_true rfl) ?_
  intro p_ e_ s m_ below meth c_ hC hr hlk0 hin hsz hW ls hl
  subst hsz
  have hC : CallFix p_ m_ c_ cX1_readWeight 4 s ([.ref (ad 6), .null, .int (nI (j)), .int (nI (tp))] : List Value).toArray GW "CoinRows$Pad" := hC
  have hx := hC.1
  have hb := hC.2.1
  have hP0 := hE.2.2.1
  have ha0 := hE.2.2.2.1
  have hip := hE.2.1
  have hp80 := hP0.2.1
  have hch := hP0.2.2.2
  have hci := hch i
  have hl : lv_has ls 4 [(0, .ref (ad 6)), (1, .null), (2, .int (nI (j))), (3, .int (nI (tp)))] := hl
  refine lv_aload_n hx hb dX1_readWeight_0 rfl (lv_at hl 0 rfl) ?_
  refine q_bp 48 hx hb dX1_readWeight_1 (by decide) ?_
  refine q_bp 48 hx hb dX1_readWeight_3 (by decide) ?_
  refine lv_iload_n hx hb dX1_readWeight_5 rfl (lv_at hl 3 rfl) ?_
  refine q_iadd hx hb dX1_readWeight_6 ?_
  refine q_kI1 (q_rV (As := [.int (nI 48), .int (nI (48 + tp))]) (rest := []) (x := 6) hC hW mw_X1_accept gw_311 (k_accept l G n ad s.heap.size I L R 48 (48 + tp) pn ch (i) hn hlk hP0 ha0 (by omega) (by omega) (by omega)) (by omega) (ct_o1 kd_6) rfl ⟨rfl, rfl⟩ ⟨Nat.le_of_ble_eq_true rfl, Nat.le_of_ble_eq_true rfl⟩ ⟨Nat.le_of_ble_eq_true rfl, Nat.le_of_ble_eq_true rfl⟩ hl.1 rfl rfl (Nat.le_of_ble_eq_true rfl) dX1_readWeight_7) hW (fun r_7 I_7 L_7 H locs hp hW => ?_)
  rcases hp with ⟨ha_7, hb_7, hc_7, rfl, rfl, rfl⟩ | ⟨hx_7, rfl, rfl, rfl⟩
  ·
    refine q_ine (tgt := 15) hx hb dX1_readWeight_10 (by decide) (by first | omega | exact Nat.lt_of_le_of_lt (hw3 _) (by decide)) (fun c_10 => ?_) (fun c_10 => absurd c_10 (by decide))
    refine lv_aload_nN hx hb dX1_readWeight_15 rfl (lv_at hl 1 rfl) ?_
    refine lv_ifnullN (tgt := 32) hx hb dX1_readWeight_16 (by decide) ?_
    refine q_ic 1 hx hb dX1_readWeight_32 (by decide) ?_
    exact q_zret1 hC hW hr hlk0 rfl (Or.inl ⟨rfl, PE_v hE ha_7 (hs1 _ ⟨hb_7, hc_7⟩), by rw [up2_at, if_neg (by decide)], ha_7, rfl⟩) dX1_readWeight_33
  ·
    refine q_ine (tgt := 15) hx hb dX1_readWeight_10 (by decide) (by first | omega | exact Nat.lt_of_le_of_lt (hw3 _) (by decide)) (fun c_10 => absurd c_10 (by decide)) (fun c_10 => ?_)
    refine q_ic 0 hx hb dX1_readWeight_13 (by decide) ?_
    exact q_zret1 hC hW hr hlk0 rfl (Or.inr ⟨rfl, PE_fq hE hq hs2 hx_7, rfl, rfl⟩) dX1_readWeight_14
set_option maxRecDepth 100000 in
set_option maxHeartbeats 4000000 in
theorem k_readBeginN (l : Launch) (G : Gx) (n : Nat) (ad : Nat → Nat) (sz : Nat) (I : Ic) (L : Lc) (R : Rc) (pn : Nat) (ch : Nat → Nat) (s0 : Sg) (I0 : Ic) (i a b m p : Nat) (w : Nat → Nat) (K : Nat) (ro : Nat → Nat) (hn : 83 ≤ n) (hlk : LkOK n R) (hE : PE false pn ch s0 I0 i (1, a, b, m, w, K, ro, p) I)  : Met l yX1_readBegin (Cond.code yX1_readBegin cX1_readBegin 2 (some .boolean) :: GW) ({ frames := 2, cells := 0, slots := 0, locals := 72 } : Room) (qPre G n ad sz I L R [.ref (ad 6), .null]) (qI1 G (qA n ad sz) n ad R (fun z I1 L1 => (z = nI 1 ∧ (∃ i1 q1 a1 b1 m1 p1 w1 K1 r1, PE false pn ch s0 I0 i1 (q1, a1, b1, m1, w1, K1, r1, p1) I1 ∧ 8 ≤ q1 ∧ q1 ≤ 9 ∧ i < i1 ∧ (q1 = 8 → ¬ (i1 < pn ∧ 97 ≤ ch i1 ∧ ch i1 ≤ 100 ∧ m1 < 6)) ∧ p1 = p) ∧ I1 6 3 = I 6 3 ∧ L = L1) ∨ (z = nI 0 ∧ PFl false pn ch s0 I0 I1 ∧ I1 6 3 = I 6 3 ∧ L = L1))) 0 0 (qA n ad sz) := by
  refine q_met (by decide) (Nat.le_of_ble_eq_true rfl) ?_
  intro p_ e_ s m_ below meth c_ hC hr hlk0 hin hsz hW ls hl
  subst hsz
  have hC : CallFix p_ m_ c_ cX1_readBegin 2 s ([.ref (ad 6), .null] : List Value).toArray GW "CoinRows$Pad" := hC
  have hx := hC.1
  have hb := hC.2.1
  have hP0 := hE.2.2.1
  have ha0 := hE.2.2.2.1
  have hip := hE.2.1
  have hp80 := hP0.2.1
  have hch := hP0.2.2.2
  have hci := hch i
  have hs0 : ∀ c, ¬ (48 ≤ c ∧ c ≤ 53) → stp (1, a, b, m, w, K, ro, p) c = none := fun c hc => by simp only [stp]; simp; omega
  have hl : lv_has ls 2 [(0, .ref (ad 6)), (1, .null)] := hl
  refine lv_aload_n hx hb dX1_readBegin_0 rfl (lv_at hl 0 rfl) ?_
  refine q_bp 48 hx hb dX1_readBegin_1 (by decide) ?_
  refine q_bp 53 hx hb dX1_readBegin_3 (by decide) ?_
  refine q_kI1 (q_rV (As := [.int (nI 48), .int (nI 53)]) (rest := []) (x := 6) hC hW mw_X1_accept gw_311 (k_accept l G n ad s.heap.size I L R 48 53 pn ch (i) hn hlk hP0 ha0 (by omega) (by omega) (by omega)) (by omega) (ct_o1 kd_6) rfl ⟨rfl, rfl⟩ ⟨Nat.le_of_ble_eq_true rfl, Nat.le_of_ble_eq_true rfl⟩ ⟨Nat.le_of_ble_eq_true rfl, Nat.le_of_ble_eq_true rfl⟩ hl.1 rfl rfl (Nat.le_of_ble_eq_true rfl) dX1_readBegin_5) hW (fun r_5 I_5 L_5 H locs hp hW => ?_)
  rcases hp with ⟨ha_5, hb_5, hc_5, rfl, rfl, rfl⟩ | ⟨hx_5, rfl, rfl, rfl⟩
  ·
    refine q_ine (tgt := 13) hx hb dX1_readBegin_8 (by decide) (by first | omega | exact Nat.lt_of_le_of_lt (hw3 _) (by decide)) (fun c_8 => ?_) (fun c_8 => absurd c_8 (by decide))
    have hE1 : PE false pn ch s0 I0 (i + 1) (2, ch i - 48, b, m, w, K, ro, p) (up2 I 6 2 (nI (i + 1))) := PE_s hE (by omega) (by simp only [stp]; simp; omega)
    refine lv_aload_n hx hb dX1_readBegin_13 rfl (lv_at hl 0 rfl) ?_
    refine lv_aload_nN hx hb dX1_readBegin_14 rfl (lv_at hl 1 rfl) ?_
    refine q_bp 36 hx hb dX1_readBegin_15 (by decide) ?_
    refine lv_aload_n hx hb dX1_readBegin_17 rfl (lv_at hl 0 rfl) ?_
    refine q_kI0 (q_rV (As := []) (rest := [.int (nI 36), .null, .ref (ad 6)]) (x := 6) hC hW mw_X1_latest gw_319 (k_latest l G n ad H.size (up2 I 6 2 (nI (i + 1))) L R pn ch i hn hlk (PadI_at hP0 2 (Or.inl rfl) _) (show up2 I 6 2 (nI (i + 1)) 6 2 = nI (i + 1) by rw [up2_at, if_pos ⟨rfl, rfl⟩]) (by omega)) (by omega) (ct_o1 kd_6) rfl ⟨rfl, rfl⟩ ⟨Nat.le_of_ble_eq_true rfl, Nat.le_of_ble_eq_true rfl⟩ ⟨Nat.le_of_ble_eq_true rfl, Nat.le_of_ble_eq_true rfl⟩ hl.1 rfl rfl (Nat.le_of_ble_eq_true rfl) dX1_readBegin_18) hW (fun r_18 H locs hp hW => ?_)
    subst hp
    have hcl_18 := hch i
    refine q_iadd hx hb dX1_readBegin_21 ?_
    refine q_bp 48 hx hb dX1_readBegin_22 (by decide) ?_
    refine q_isub hx hb dX1_readBegin_24 (by omega) ?_
    refine q_top (v2 := .int (nI (36 + (ch i - 48)))) (by rw [show 36 + ch i - 48 = 36 + (ch i - 48) by omega]) ?_
    refine q_ic 3 hx hb dX1_readBegin_25 (by decide) ?_
    refine q_kI1 (q_rV (As := [.null, .int (nI (36 + (ch i - 48))), .int (nI 3)]) (rest := []) (x := 6) hC hW mw_X1_readWeight gw_323 (k_readWeightN l G n ad H.size (up2 I 6 2 (nI (i + 1))) L R 2 (36 + (ch i - 48)) 3 pn ch s0 I0 (i + 1) (ch i - 48) b m p w K ro hn hlk hE1 (by decide) (by omega) (by decide) (fun c hc => by simp only [stp]; simp; omega) (fun c hc => by simp only [stp]; simp; omega) ) (by omega) (ct_o1 kd_6) rfl ⟨rfl, rfl⟩ ⟨Nat.le_of_ble_eq_true rfl, Nat.le_of_ble_eq_true rfl⟩ ⟨Nat.le_of_ble_eq_true rfl, Nat.le_of_ble_eq_true rfl⟩ hl.1 rfl rfl (Nat.le_of_ble_eq_true rfl) dX1_readBegin_26) hW (fun r_26 I_26 L_26 H locs hp hW => ?_)
    rcases hp with ⟨rfl, hT_26, hU_26, hi_26, rfl⟩ | ⟨rfl, hF_26, hU_26, rfl⟩
    ·
      exact q_zret1 hC hW hr hlk0 rfl (Or.inl ⟨rfl, ⟨_, _, _, _, _, _, _, _, _, hT_26, by omega, by omega, by omega, fun h => absurd h (by decide), rfl⟩, (by rw [hU_26, up2_at, if_neg (by decide)]), rfl⟩) dX1_readBegin_29
    ·
      exact q_zret1 hC hW hr hlk0 rfl (Or.inr ⟨rfl, hF_26, (by rw [hU_26, up2_at, if_neg (by decide)]), rfl⟩) dX1_readBegin_29
  ·
    refine q_ine (tgt := 13) hx hb dX1_readBegin_8 (by decide) (by first | omega | exact Nat.lt_of_le_of_lt (hw3 _) (by decide)) (fun c_8 => absurd c_8 (by decide)) (fun c_8 => ?_)
    refine q_ic 0 hx hb dX1_readBegin_11 (by decide) ?_
    exact q_zret1 hC hW hr hlk0 rfl (Or.inr ⟨rfl, PE_fq hE (show 1 < 8 by decide) hs0 hx_5, rfl, rfl⟩) dX1_readBegin_12
set_option maxRecDepth 100000 in
set_option maxHeartbeats 4000000 in
theorem k_readLetterN (l : Launch) (G : Gx) (n : Nat) (ad : Nat → Nat) (sz : Nat) (I : Ic) (L : Lc) (R : Rc) (pn : Nat) (ch : Nat → Nat) (s0 : Sg) (I0 : Ic) (i a b m p : Nat) (w : Nat → Nat) (K : Nat) (ro : Nat → Nat) (hn : 83 ≤ n) (hlk : LkOK n R) (hE : PE false pn ch s0 I0 i (6, a, b, m, w, K, ro, p) I) (ha4 : a < 4)  : Met l yX1_readLetter (Cond.code yX1_readLetter cX1_readLetter 3 (some .boolean) :: GW) ({ frames := 2, cells := 0, slots := 0, locals := 72 } : Room) (qPre G n ad sz I L R [.ref (ad 6), .null, .int (nI (a))]) (qI1 G (qA n ad sz) n ad R (fun z I1 L1 => (z = nI 1 ∧ (∃ i1 q1 a1 b1 m1 p1 w1 K1 r1, PE false pn ch s0 I0 i1 (q1, a1, b1, m1, w1, K1, r1, p1) I1 ∧ 8 ≤ q1 ∧ q1 ≤ 9 ∧ i < i1 ∧ (q1 = 8 → ¬ (i1 < pn ∧ 97 ≤ ch i1 ∧ ch i1 ≤ 100 ∧ m1 < 6)) ∧ p1 = p) ∧ I1 6 3 = I 6 3 ∧ L = L1) ∨ (z = nI 0 ∧ PFl false pn ch s0 I0 I1 ∧ I1 6 3 = I 6 3 ∧ L = L1))) 0 0 (qA n ad sz) := by
  refine q_met (by decide) (Nat.le_of_ble_eq_true rfl) ?_
  intro p_ e_ s m_ below meth c_ hC hr hlk0 hin hsz hW ls hl
  subst hsz
  have hC : CallFix p_ m_ c_ cX1_readLetter 3 s ([.ref (ad 6), .null, .int (nI (a))] : List Value).toArray GW "CoinRows$Pad" := hC
  have hx := hC.1
  have hb := hC.2.1
  have hP0 := hE.2.2.1
  have ha0 := hE.2.2.2.1
  have hip := hE.2.1
  have hp80 := hP0.2.1
  have hch := hP0.2.2.2
  have hci := hch i
  have hs0 : ∀ c, ¬ (97 ≤ c ∧ c ≤ 100) → stp (6, a, b, m, w, K, ro, p) c = none := fun c hc => by simp only [stp]; simp; omega
  have hl : lv_has ls 3 [(0, .ref (ad 6)), (1, .null), (2, .int (nI (a)))] := hl
  refine lv_aload_n hx hb dX1_readLetter_0 rfl (lv_at hl 0 rfl) ?_
  refine q_bp 97 hx hb dX1_readLetter_1 (by decide) ?_
  refine q_bp 100 hx hb dX1_readLetter_3 (by decide) ?_
  refine q_kI1 (q_rV (As := [.int (nI 97), .int (nI 100)]) (rest := []) (x := 6) hC hW mw_X1_accept gw_311 (k_accept l G n ad s.heap.size I L R 97 100 pn ch (i) hn hlk hP0 ha0 (by omega) (by omega) (by omega)) (by omega) (ct_o1 kd_6) rfl ⟨rfl, rfl⟩ ⟨Nat.le_of_ble_eq_true rfl, Nat.le_of_ble_eq_true rfl⟩ ⟨Nat.le_of_ble_eq_true rfl, Nat.le_of_ble_eq_true rfl⟩ hl.1 rfl rfl (Nat.le_of_ble_eq_true rfl) dX1_readLetter_5) hW (fun r_5 I_5 L_5 H locs hp hW => ?_)
  rcases hp with ⟨ha_5, hb_5, hc_5, rfl, rfl, rfl⟩ | ⟨hx_5, rfl, rfl, rfl⟩
  ·
    refine q_ine (tgt := 13) hx hb dX1_readLetter_8 (by decide) (by first | omega | exact Nat.lt_of_le_of_lt (hw3 _) (by decide)) (fun c_8 => ?_) (fun c_8 => absurd c_8 (by decide))
    have hE1 : PE false pn ch s0 I0 (i + 1) (7, a, ch i - 97, m, w, K, ro, p) (up2 I 6 2 (nI (i + 1))) := PE_s hE (by omega) (by simp only [stp]; simp; omega)
    refine lv_aload_n hx hb dX1_readLetter_13 rfl (lv_at hl 0 rfl) ?_
    refine lv_aload_nN hx hb dX1_readLetter_14 rfl (lv_at hl 1 rfl) ?_
    refine q_bp 42 hx hb dX1_readLetter_15 (by decide) ?_
    refine lv_iload_n hx hb dX1_readLetter_17 rfl (lv_at hl 2 rfl) ?_
    refine q_ic 4 hx hb dX1_readLetter_18 (by decide) ?_
    refine q_imul hx hb dX1_readLetter_19 ?_
    refine q_iadd hx hb dX1_readLetter_20 ?_
    refine lv_aload_n hx hb dX1_readLetter_21 rfl (lv_at hl 0 rfl) ?_
    refine q_kI0 (q_rV (As := []) (rest := [.int (nI (42 + (a * 4))), .null, .ref (ad 6)]) (x := 6) hC hW mw_X1_latest gw_319 (k_latest l G n ad H.size (up2 I 6 2 (nI (i + 1))) L R pn ch i hn hlk (PadI_at hP0 2 (Or.inl rfl) _) (show up2 I 6 2 (nI (i + 1)) 6 2 = nI (i + 1) by rw [up2_at, if_pos ⟨rfl, rfl⟩]) (by omega)) (by omega) (ct_o1 kd_6) rfl ⟨rfl, rfl⟩ ⟨Nat.le_of_ble_eq_true rfl, Nat.le_of_ble_eq_true rfl⟩ ⟨Nat.le_of_ble_eq_true rfl, Nat.le_of_ble_eq_true rfl⟩ hl.1 rfl rfl (Nat.le_of_ble_eq_true rfl) dX1_readLetter_22) hW (fun r_22 H locs hp hW => ?_)
    subst hp
    have hcl_22 := hch i
    refine q_iadd hx hb dX1_readLetter_25 ?_
    refine q_bp 97 hx hb dX1_readLetter_26 (by decide) ?_
    refine q_isub hx hb dX1_readLetter_28 (by omega) ?_
    refine q_top (v2 := .int (nI (42 + a * 4 + (ch i - 97)))) (by rw [show 42 + a * 4 + ch i - 97 = 42 + a * 4 + (ch i - 97) by omega]) ?_
    refine q_ic 3 hx hb dX1_readLetter_29 (by decide) ?_
    refine q_kI1 (q_rV (As := [.null, .int (nI (42 + a * 4 + (ch i - 97))), .int (nI 3)]) (rest := []) (x := 6) hC hW mw_X1_readWeight gw_323 (k_readWeightN l G n ad H.size (up2 I 6 2 (nI (i + 1))) L R 7 (42 + a * 4 + (ch i - 97)) 3 pn ch s0 I0 (i + 1) a (ch i - 97) m p w K ro hn hlk hE1 (by decide) (by omega) (by decide) (fun c hc => by simp only [stp]; simp; omega) (fun c hc => by simp only [stp]; simp; omega) ) (by omega) (ct_o1 kd_6) rfl ⟨rfl, rfl⟩ ⟨Nat.le_of_ble_eq_true rfl, Nat.le_of_ble_eq_true rfl⟩ ⟨Nat.le_of_ble_eq_true rfl, Nat.le_of_ble_eq_true rfl⟩ hl.1 rfl rfl (Nat.le_of_ble_eq_true rfl) dX1_readLetter_30) hW (fun r_30 I_30 L_30 H locs hp hW => ?_)
    rcases hp with ⟨rfl, hT_30, hU_30, hi_30, rfl⟩ | ⟨rfl, hF_30, hU_30, rfl⟩
    ·
      exact q_zret1 hC hW hr hlk0 rfl (Or.inl ⟨rfl, ⟨_, _, _, _, _, _, _, _, _, hT_30, by omega, by omega, by omega, fun h => absurd h (by decide), rfl⟩, (by rw [hU_30, up2_at, if_neg (by decide)]), rfl⟩) dX1_readLetter_33
    ·
      exact q_zret1 hC hW hr hlk0 rfl (Or.inr ⟨rfl, hF_30, (by rw [hU_30, up2_at, if_neg (by decide)]), rfl⟩) dX1_readLetter_33
  ·
    refine q_ine (tgt := 13) hx hb dX1_readLetter_8 (by decide) (by first | omega | exact Nat.lt_of_le_of_lt (hw3 _) (by decide)) (fun c_8 => absurd c_8 (by decide)) (fun c_8 => ?_)
    refine q_ic 0 hx hb dX1_readLetter_11 (by decide) ?_
    exact q_zret1 hC hW hr hlk0 rfl (Or.inr ⟨rfl, PE_fq hE (show 6 < 8 by decide) hs0 hx_5, rfl, rfl⟩) dX1_readLetter_12
set_option maxRecDepth 100000 in
set_option maxHeartbeats 4000000 in
theorem k_readStepN (l : Launch) (G : Gx) (n : Nat) (ad : Nat → Nat) (sz : Nat) (I : Ic) (L : Lc) (R : Rc) (pn : Nat) (ch : Nat → Nat) (s0 : Sg) (I0 : Ic) (i a b m p : Nat) (w : Nat → Nat) (K : Nat) (ro : Nat → Nat) (hn : 83 ≤ n) (hlk : LkOK n R) (hE : PE false pn ch s0 I0 i (4, a, b, m, w, K, ro, p) I) (ha6 : a < 6)  : Met l yX1_readStep (Cond.code yX1_readStep cX1_readStep 4 (some .boolean) :: GW) ({ frames := 2, cells := 0, slots := 0, locals := 72 } : Room) (qPre G n ad sz I L R [.ref (ad 6), .null, .int (nI (a))]) (qI1 G (qA n ad sz) n ad R (fun z I1 L1 => (z = nI 1 ∧ (∃ i1 q1 a1 b1 m1 p1 w1 K1 r1, PE false pn ch s0 I0 i1 (q1, a1, b1, m1, w1, K1, r1, p1) I1 ∧ 8 ≤ q1 ∧ q1 ≤ 9 ∧ i < i1 ∧ (q1 = 8 → ¬ (i1 < pn ∧ 97 ≤ ch i1 ∧ ch i1 ≤ 100 ∧ m1 < 6)) ∧ p1 = p) ∧ I1 6 3 = I 6 3 ∧ L = L1) ∨ (z = nI 0 ∧ PFl false pn ch s0 I0 I1 ∧ I1 6 3 = I 6 3 ∧ L = L1))) 0 0 (qA n ad sz) := by
  refine q_met (by decide) (Nat.le_of_ble_eq_true rfl) ?_
  intro p_ e_ s m_ below meth c_ hC hr hlk0 hin hsz hW ls hl
  subst hsz
  have hC : CallFix p_ m_ c_ cX1_readStep 4 s ([.ref (ad 6), .null, .int (nI (a))] : List Value).toArray GW "CoinRows$Pad" := hC
  have hx := hC.1
  have hb := hC.2.1
  have hP0 := hE.2.2.1
  have ha0 := hE.2.2.2.1
  have hip := hE.2.1
  have hp80 := hP0.2.1
  have hch := hP0.2.2.2
  have hci := hch i
  have hs0 : ∀ c, ¬ (48 ≤ c ∧ c ≤ 53) → stp (4, a, b, m, w, K, ro, p) c = none := fun c hc => by simp only [stp]; simp; omega
  have hl : lv_has ls 4 [(0, .ref (ad 6)), (1, .null), (2, .int (nI (a)))] := hl
  refine lv_aload_n hx hb dX1_readStep_0 rfl (lv_at hl 0 rfl) ?_
  refine q_bp 48 hx hb dX1_readStep_1 (by decide) ?_
  refine q_bp 53 hx hb dX1_readStep_3 (by decide) ?_
  refine q_kI1 (q_rV (As := [.int (nI 48), .int (nI 53)]) (rest := []) (x := 6) hC hW mw_X1_accept gw_311 (k_accept l G n ad s.heap.size I L R 48 53 pn ch (i) hn hlk hP0 ha0 (by omega) (by omega) (by omega)) (by omega) (ct_o1 kd_6) rfl ⟨rfl, rfl⟩ ⟨Nat.le_of_ble_eq_true rfl, Nat.le_of_ble_eq_true rfl⟩ ⟨Nat.le_of_ble_eq_true rfl, Nat.le_of_ble_eq_true rfl⟩ hl.1 rfl rfl (Nat.le_of_ble_eq_true rfl) dX1_readStep_5) hW (fun r_5 I_5 L_5 H locs hp hW => ?_)
  rcases hp with ⟨ha_5, hb_5, hc_5, rfl, rfl, rfl⟩ | ⟨hx_5, rfl, rfl, rfl⟩
  ·
    refine q_ine (tgt := 13) hx hb dX1_readStep_8 (by decide) (by first | omega | exact Nat.lt_of_le_of_lt (hw3 _) (by decide)) (fun c_8 => ?_) (fun c_8 => absurd c_8 (by decide))
    have hE1 : PE false pn ch s0 I0 (i + 1) (5, a, ch i - 48, m, w, K, ro, p) (up2 I 6 2 (nI (i + 1))) := PE_s hE (by omega) (by simp only [stp]; simp; omega)
    refine lv_aload_n hx hb dX1_readStep_13 rfl (lv_at hl 0 rfl) ?_
    refine q_kI0 (q_rV (As := []) (rest := []) (x := 6) hC hW mw_X1_latest gw_319 (k_latest l G n ad H.size (up2 I 6 2 (nI (i + 1))) L R pn ch i hn hlk (PadI_at hP0 2 (Or.inl rfl) _) (show up2 I 6 2 (nI (i + 1)) 6 2 = nI (i + 1) by rw [up2_at, if_pos ⟨rfl, rfl⟩]) (by omega)) (by omega) (ct_o1 kd_6) rfl ⟨rfl, rfl⟩ ⟨Nat.le_of_ble_eq_true rfl, Nat.le_of_ble_eq_true rfl⟩ ⟨Nat.le_of_ble_eq_true rfl, Nat.le_of_ble_eq_true rfl⟩ hl.1 rfl rfl (Nat.le_of_ble_eq_true rfl) dX1_readStep_14) hW (fun r_14 H locs hp hW => ?_)
    subst hp
    have hcl_14 := hch i
    refine q_bp 48 hx hb dX1_readStep_17 (by decide) ?_
    refine q_isub hx hb dX1_readStep_19 (by omega) ?_
    refine lv_istore_n (lv' := [(3, .int (nI ((ch i) - 48))), (0, .ref (ad 6)), (1, .null), (2, .int (nI (a)))]) hx hb dX1_readStep_20 rfl hl (by decide) rfl (fun ls hl => ?_)
    refine lv_aload_n hx hb dX1_readStep_21 rfl (lv_at hl 1 rfl) ?_
    refine lv_aload_nN hx hb dX1_readStep_22 rfl (lv_at hl 2 rfl) ?_
    refine lv_iload_n hx hb dX1_readStep_23 rfl (lv_at hl 3 rfl) ?_
    refine q_bp 6 hx hb dX1_readStep_24 (by decide) ?_
    refine q_imul hx hb dX1_readStep_26 ?_
    refine lv_iload_n hx hb dX1_readStep_27 rfl (lv_at hl 0 rfl) ?_
    refine q_iadd hx hb dX1_readStep_28 ?_
    refine lv_iload_n hx hb dX1_readStep_29 rfl (lv_at hl 3 rfl) ?_
    refine lv_iload_n hx hb dX1_readStep_30 rfl (lv_at hl 0 rfl) ?_
    refine q_kI0 (q_rSN (As := [.int (nI (a)), .int (nI ((ch i) - 48))]) (rest := [.int (nI ((a * 6) + ((ch i) - 48))), .null, .ref (ad 6)]) hC hW mw_X5_isBarred hW.2.2.2.2.2.2.2.2.2.1 (k_isBarred l G n ad H.size (up2 I 6 2 (nI (i + 1))) L R _ _ (by omega) (by omega)) ⟨rfl, rfl⟩ ⟨Nat.le_of_ble_eq_true rfl, Nat.le_of_ble_eq_true rfl⟩ ⟨Nat.le_of_ble_eq_true rfl, Nat.le_of_ble_eq_true rfl⟩ hl.1 rfl rfl (Nat.le_of_ble_eq_true rfl) dX1_readStep_31) hW (fun r_31 H locs hp hW => ?_)
    rcases hp with ⟨hb_31, rfl⟩ | ⟨hb_31, rfl⟩
    ·
      refine q_ieq (tgt := 41) hx hb dX1_readStep_34 (by decide) (by first | omega | exact Nat.lt_of_le_of_lt (hw3 _) (by decide)) (fun c_34 => absurd c_34 (by decide)) (fun c_34 => ?_)
      refine q_ic 0 hx hb dX1_readStep_37 (by decide) ?_
      refine lv_goto (tgt := 42) hx hb dX1_readStep_38 (by decide) ?_
      refine q_kI1 (q_rV (As := [.null, .int (nI ((a * 6) + ((ch i) - 48))), .int (nI 0)]) (rest := []) (x := 6) hC hW mw_X1_readWeight gw_323 (k_readWeightN l G n ad H.size (up2 I 6 2 (nI (i + 1))) L R 5 (a * 6 + (ch i - 48)) 0 pn ch s0 I0 (i + 1) a (ch i - 48) m p w K ro hn hlk hE1 (by decide) (by omega) (by decide) (fun c hc => by have hb9 := hb_31; unfold barred at hb9; simp only [stp]; simp; omega) (fun c hc => by have hb9 := hb_31; unfold barred at hb9; simp only [stp]; simp; omega) ) (by omega) (ct_o1 kd_6) rfl ⟨rfl, rfl⟩ ⟨Nat.le_of_ble_eq_true rfl, Nat.le_of_ble_eq_true rfl⟩ ⟨Nat.le_of_ble_eq_true rfl, Nat.le_of_ble_eq_true rfl⟩ hl.1 rfl rfl (Nat.le_of_ble_eq_true rfl) dX1_readStep_42) hW (fun r_42 I_42 L_42 H locs hp hW => ?_)
      rcases hp with ⟨rfl, hT_42, hU_42, hi_42, rfl⟩ | ⟨rfl, hF_42, hU_42, rfl⟩
      ·
        exact q_zret1 hC hW hr hlk0 rfl (Or.inl ⟨rfl, ⟨_, _, _, _, _, _, _, _, _, hT_42, by omega, by omega, by omega, fun h => absurd h (by decide), rfl⟩, (by rw [hU_42, up2_at, if_neg (by decide)]), rfl⟩) dX1_readStep_45
      ·
        exact q_zret1 hC hW hr hlk0 rfl (Or.inr ⟨rfl, hF_42, (by rw [hU_42, up2_at, if_neg (by decide)]), rfl⟩) dX1_readStep_45
    ·
      refine q_ieq (tgt := 41) hx hb dX1_readStep_34 (by decide) (by first | omega | exact Nat.lt_of_le_of_lt (hw3 _) (by decide)) (fun c_34 => ?_) (fun c_34 => absurd c_34 (by decide))
      refine q_ic 3 hx hb dX1_readStep_41 (by decide) ?_
      refine q_kI1 (q_rV (As := [.null, .int (nI ((a * 6) + ((ch i) - 48))), .int (nI 3)]) (rest := []) (x := 6) hC hW mw_X1_readWeight gw_323 (k_readWeightN l G n ad H.size (up2 I 6 2 (nI (i + 1))) L R 5 (a * 6 + (ch i - 48)) 3 pn ch s0 I0 (i + 1) a (ch i - 48) m p w K ro hn hlk hE1 (by decide) (by omega) (by decide) (fun c hc => by have hb9 := hb_31; unfold barred at hb9; simp only [stp]; simp; omega) (fun c hc => by have hb9 := hb_31; unfold barred at hb9; simp only [stp]; simp; omega) ) (by omega) (ct_o1 kd_6) rfl ⟨rfl, rfl⟩ ⟨Nat.le_of_ble_eq_true rfl, Nat.le_of_ble_eq_true rfl⟩ ⟨Nat.le_of_ble_eq_true rfl, Nat.le_of_ble_eq_true rfl⟩ hl.1 rfl rfl (Nat.le_of_ble_eq_true rfl) dX1_readStep_42) hW (fun r_42 I_42 L_42 H locs hp hW => ?_)
      rcases hp with ⟨rfl, hT_42, hU_42, hi_42, rfl⟩ | ⟨rfl, hF_42, hU_42, rfl⟩
      ·
        exact q_zret1 hC hW hr hlk0 rfl (Or.inl ⟨rfl, ⟨_, _, _, _, _, _, _, _, _, hT_42, by omega, by omega, by omega, fun h => absurd h (by decide), rfl⟩, (by rw [hU_42, up2_at, if_neg (by decide)]), rfl⟩) dX1_readStep_45
      ·
        exact q_zret1 hC hW hr hlk0 rfl (Or.inr ⟨rfl, hF_42, (by rw [hU_42, up2_at, if_neg (by decide)]), rfl⟩) dX1_readStep_45
  ·
    refine q_ine (tgt := 13) hx hb dX1_readStep_8 (by decide) (by first | omega | exact Nat.lt_of_le_of_lt (hw3 _) (by decide)) (fun c_8 => absurd c_8 (by decide)) (fun c_8 => ?_)
    refine q_ic 0 hx hb dX1_readStep_11 (by decide) ?_
    exact q_zret1 hC hW hr hlk0 rfl (Or.inr ⟨rfl, PE_fq hE (show 4 < 8 by decide) hs0 hx_5, rfl, rfl⟩) dX1_readStep_12
set_option maxRecDepth 100000 in
set_option maxHeartbeats 4000000 in
theorem k_readWeightM (l : Launch) (G : Gx) (n : Nat) (ad : Nat → Nat) (sz : Nat) (I : Ic) (L : Lc) (R : Rc) (q j tp : Nat) (pn : Nat) (ch : Nat → Nat) (s0 : Sg) (I0 : Ic) (i a b m p : Nat) (w : Nat → Nat) (K : Nat) (ro : Nat → Nat) (hn : 83 ≤ n) (hlk : LkOK n R) (hE : PE true pn ch s0 I0 i (q, a, b, m, w, K, ro, p) I) (hq : q < 8) (hj : j < 58) (htp : tp ≤ 3) (hs1 : ∀ c, 48 ≤ c ∧ c ≤ 48 + tp → stp (q, a, b, m, w, K, ro, p) c = some (9, a, b, m, upN w j (c - 48), K, ro, p)) (hs2 : ∀ c, ¬ (48 ≤ c ∧ c ≤ 48 + tp) → stp (q, a, b, m, w, K, ro, p) c = none) (hwo : ∀ c, 48 ≤ c ∧ c ≤ 48 + tp → Wok (upN w j (c - 48))) : Met l yX1_readWeight (Cond.code yX1_readWeight cX1_readWeight 4 (some .boolean) :: GW) ({ frames := 1, cells := 0, slots := 0, locals := 36 } : Room) (qPre G n ad sz I L R [.ref (ad 6), .ref (ad 1), .int (nI (j)), .int (nI (tp))]) (qI1 G (qA n ad sz) n ad R (fun z I1 L1 => (z = nI 1 ∧ PE true pn ch s0 I0 (i + 1) (9, a, b, m, (upN w j (ch i - 48)), K, ro, p) I1 ∧ I1 6 3 = I 6 3 ∧ i < pn ∧ L = L1) ∨ (z = nI 0 ∧ PFl true pn ch s0 I0 I1 ∧ I1 6 3 = I 6 3 ∧ L = L1))) 0 0 (qA n ad sz) := by
  refine q_met (by decide) (Nat.le_of_ble_eq_true rfl) ?_
  intro p_ e_ s m_ below meth c_ hC hr hlk0 hin hsz hW ls hl
  subst hsz
  have hC : CallFix p_ m_ c_ cX1_readWeight 4 s ([.ref (ad 6), .ref (ad 1), .int (nI (j)), .int (nI (tp))] : List Value).toArray GW "CoinRows$Pad" := hC
  have hx := hC.1
  have hb := hC.2.1
  have hP0 := hE.2.2.1
  have ha0 := hE.2.2.2.1
  have hip := hE.2.1
  have hp80 := hP0.2.1
  have hch := hP0.2.2.2
  have hci := hch i
  have hl : lv_has ls 4 [(0, .ref (ad 6)), (1, .ref (ad 1)), (2, .int (nI (j))), (3, .int (nI (tp)))] := hl
  refine lv_aload_n hx hb dX1_readWeight_0 rfl (lv_at hl 0 rfl) ?_
  refine q_bp 48 hx hb dX1_readWeight_1 (by decide) ?_
  refine q_bp 48 hx hb dX1_readWeight_3 (by decide) ?_
  refine lv_iload_n hx hb dX1_readWeight_5 rfl (lv_at hl 3 rfl) ?_
  refine q_iadd hx hb dX1_readWeight_6 ?_
  refine q_kI1 (q_rV (As := [.int (nI 48), .int (nI (48 + tp))]) (rest := []) (x := 6) hC hW mw_X1_accept gw_311 (k_accept l G n ad s.heap.size I L R 48 (48 + tp) pn ch (i) hn hlk hP0 ha0 (by omega) (by omega) (by omega)) (by omega) (ct_o1 kd_6) rfl ⟨rfl, rfl⟩ ⟨Nat.le_of_ble_eq_true rfl, Nat.le_of_ble_eq_true rfl⟩ ⟨Nat.le_of_ble_eq_true rfl, Nat.le_of_ble_eq_true rfl⟩ hl.1 rfl rfl (Nat.le_of_ble_eq_true rfl) dX1_readWeight_7) hW (fun r_7 I_7 L_7 H locs hp hW => ?_)
  rcases hp with ⟨ha_7, hb_7, hc_7, rfl, rfl, rfl⟩ | ⟨hx_7, rfl, rfl, rfl⟩
  ·
    refine q_ine (tgt := 15) hx hb dX1_readWeight_10 (by decide) (by first | omega | exact Nat.lt_of_le_of_lt (hw3 _) (by decide)) (fun c_10 => ?_) (fun c_10 => absurd c_10 (by decide))
    refine lv_aload_n hx hb dX1_readWeight_15 rfl (lv_at hl 1 rfl) ?_
    refine lv_ifnull hx hb dX1_readWeight_16 ?_
    refine lv_aload_n hx hb dX1_readWeight_19 rfl (lv_at hl 1 rfl) ?_
    refine g_0_0 (x := 1) (y := 2) hC hW (by omega) kd_1 gw_28 (hlk 1 0 2 (by omega) rfl) dX1_readWeight_20 ?_
    refine lv_iload_n hx hb dX1_readWeight_23 rfl (lv_at hl 2 rfl) ?_
    refine lv_aload_n hx hb dX1_readWeight_24 rfl (lv_at hl 0 rfl) ?_
    refine q_kI0 (q_rV (As := []) (rest := [.int (nI (j)), .ref (ad 2)]) (x := 6) hC hW mw_X1_latest gw_319 (k_latest l G n ad H.size (up2 I 6 2 (nI (i + 1))) L R pn ch i hn hlk (PadI_at hP0 2 (Or.inl rfl) _) (show up2 I 6 2 (nI (i + 1)) 6 2 = nI (i + 1) by rw [up2_at, if_pos ⟨rfl, rfl⟩]) (by omega)) (by omega) (ct_o1 kd_6) rfl ⟨rfl, rfl⟩ ⟨Nat.le_of_ble_eq_true rfl, Nat.le_of_ble_eq_true rfl⟩ ⟨Nat.le_of_ble_eq_true rfl, Nat.le_of_ble_eq_true rfl⟩ hl.1 rfl rfl (Nat.le_of_ble_eq_true rfl) dX1_readWeight_25) hW (fun r_25 H locs hp hW => ?_)
    subst hp
    have hcl_25 := hch i
    refine q_bp 48 hx hb dX1_readWeight_28 (by decide) ?_
    refine q_isub hx hb dX1_readWeight_30 (by omega) ?_
    refine q_iast (x := 2) (i := j) (v := nI ((ch i) - 48)) hC hW (by omega) kd_2 (by omega) dX1_readWeight_31 (fun H locs hW => ?_)
    refine q_ic 1 hx hb dX1_readWeight_32 (by decide) ?_
    exact q_zret1 hC hW hr hlk0 rfl (Or.inl ⟨rfl, PE_w hE ha_7 (hwo _ ⟨hb_7, hc_7⟩) (hs1 _ ⟨hb_7, hc_7⟩), by rw [up2_ne (by decide), up2_at, if_neg (by decide)], ha_7, rfl⟩) dX1_readWeight_33
  ·
    refine q_ine (tgt := 15) hx hb dX1_readWeight_10 (by decide) (by first | omega | exact Nat.lt_of_le_of_lt (hw3 _) (by decide)) (fun c_10 => absurd c_10 (by decide)) (fun c_10 => ?_)
    refine q_ic 0 hx hb dX1_readWeight_13 (by decide) ?_
    exact q_zret1 hC hW hr hlk0 rfl (Or.inr ⟨rfl, PE_fq hE hq hs2 hx_7, rfl, rfl⟩) dX1_readWeight_14
set_option maxRecDepth 100000 in
set_option maxHeartbeats 4000000 in
theorem k_readBeginM (l : Launch) (G : Gx) (n : Nat) (ad : Nat → Nat) (sz : Nat) (I : Ic) (L : Lc) (R : Rc) (pn : Nat) (ch : Nat → Nat) (s0 : Sg) (I0 : Ic) (i a b m p : Nat) (w : Nat → Nat) (K : Nat) (ro : Nat → Nat) (hn : 83 ≤ n) (hlk : LkOK n R) (hE : PE true pn ch s0 I0 i (1, a, b, m, w, K, ro, p) I) (hWo : Wok w) : Met l yX1_readBegin (Cond.code yX1_readBegin cX1_readBegin 2 (some .boolean) :: GW) ({ frames := 2, cells := 0, slots := 0, locals := 72 } : Room) (qPre G n ad sz I L R [.ref (ad 6), .ref (ad 1)]) (qI1 G (qA n ad sz) n ad R (fun z I1 L1 => (z = nI 1 ∧ (∃ i1 q1 a1 b1 m1 p1 w1 K1 r1, PE true pn ch s0 I0 i1 (q1, a1, b1, m1, w1, K1, r1, p1) I1 ∧ 8 ≤ q1 ∧ q1 ≤ 9 ∧ i < i1 ∧ (q1 = 8 → ¬ (i1 < pn ∧ 97 ≤ ch i1 ∧ ch i1 ≤ 100 ∧ m1 < 6)) ∧ p1 = p) ∧ I1 6 3 = I 6 3 ∧ L = L1) ∨ (z = nI 0 ∧ PFl true pn ch s0 I0 I1 ∧ I1 6 3 = I 6 3 ∧ L = L1))) 0 0 (qA n ad sz) := by
  refine q_met (by decide) (Nat.le_of_ble_eq_true rfl) ?_
  intro p_ e_ s m_ below meth c_ hC hr hlk0 hin hsz hW ls hl
  subst hsz
  have hC : CallFix p_ m_ c_ cX1_readBegin 2 s ([.ref (ad 6), .ref (ad 1)] : List Value).toArray GW "CoinRows$Pad" := hC
  have hx := hC.1
  have hb := hC.2.1
  have hP0 := hE.2.2.1
  have ha0 := hE.2.2.2.1
  have hip := hE.2.1
  have hp80 := hP0.2.1
  have hch := hP0.2.2.2
  have hci := hch i
  have hs0 : ∀ c, ¬ (48 ≤ c ∧ c ≤ 53) → stp (1, a, b, m, w, K, ro, p) c = none := fun c hc => by simp only [stp]; simp; omega
  have hl : lv_has ls 2 [(0, .ref (ad 6)), (1, .ref (ad 1))] := hl
  refine lv_aload_n hx hb dX1_readBegin_0 rfl (lv_at hl 0 rfl) ?_
  refine q_bp 48 hx hb dX1_readBegin_1 (by decide) ?_
  refine q_bp 53 hx hb dX1_readBegin_3 (by decide) ?_
  refine q_kI1 (q_rV (As := [.int (nI 48), .int (nI 53)]) (rest := []) (x := 6) hC hW mw_X1_accept gw_311 (k_accept l G n ad s.heap.size I L R 48 53 pn ch (i) hn hlk hP0 ha0 (by omega) (by omega) (by omega)) (by omega) (ct_o1 kd_6) rfl ⟨rfl, rfl⟩ ⟨Nat.le_of_ble_eq_true rfl, Nat.le_of_ble_eq_true rfl⟩ ⟨Nat.le_of_ble_eq_true rfl, Nat.le_of_ble_eq_true rfl⟩ hl.1 rfl rfl (Nat.le_of_ble_eq_true rfl) dX1_readBegin_5) hW (fun r_5 I_5 L_5 H locs hp hW => ?_)
  rcases hp with ⟨ha_5, hb_5, hc_5, rfl, rfl, rfl⟩ | ⟨hx_5, rfl, rfl, rfl⟩
  ·
    refine q_ine (tgt := 13) hx hb dX1_readBegin_8 (by decide) (by first | omega | exact Nat.lt_of_le_of_lt (hw3 _) (by decide)) (fun c_8 => ?_) (fun c_8 => absurd c_8 (by decide))
    have hE1 : PE true pn ch s0 I0 (i + 1) (2, ch i - 48, b, m, w, K, ro, p) (up2 I 6 2 (nI (i + 1))) := PE_s hE (by omega) (by simp only [stp]; simp; omega)
    refine lv_aload_n hx hb dX1_readBegin_13 rfl (lv_at hl 0 rfl) ?_
    refine lv_aload_n hx hb dX1_readBegin_14 rfl (lv_at hl 1 rfl) ?_
    refine q_bp 36 hx hb dX1_readBegin_15 (by decide) ?_
    refine lv_aload_n hx hb dX1_readBegin_17 rfl (lv_at hl 0 rfl) ?_
    refine q_kI0 (q_rV (As := []) (rest := [.int (nI 36), .ref (ad 1), .ref (ad 6)]) (x := 6) hC hW mw_X1_latest gw_319 (k_latest l G n ad H.size (up2 I 6 2 (nI (i + 1))) L R pn ch i hn hlk (PadI_at hP0 2 (Or.inl rfl) _) (show up2 I 6 2 (nI (i + 1)) 6 2 = nI (i + 1) by rw [up2_at, if_pos ⟨rfl, rfl⟩]) (by omega)) (by omega) (ct_o1 kd_6) rfl ⟨rfl, rfl⟩ ⟨Nat.le_of_ble_eq_true rfl, Nat.le_of_ble_eq_true rfl⟩ ⟨Nat.le_of_ble_eq_true rfl, Nat.le_of_ble_eq_true rfl⟩ hl.1 rfl rfl (Nat.le_of_ble_eq_true rfl) dX1_readBegin_18) hW (fun r_18 H locs hp hW => ?_)
    subst hp
    have hcl_18 := hch i
    refine q_iadd hx hb dX1_readBegin_21 ?_
    refine q_bp 48 hx hb dX1_readBegin_22 (by decide) ?_
    refine q_isub hx hb dX1_readBegin_24 (by omega) ?_
    refine q_top (v2 := .int (nI (36 + (ch i - 48)))) (by rw [show 36 + ch i - 48 = 36 + (ch i - 48) by omega]) ?_
    refine q_ic 3 hx hb dX1_readBegin_25 (by decide) ?_
    refine q_kI1 (q_rV (As := [.ref (ad 1), .int (nI (36 + (ch i - 48))), .int (nI 3)]) (rest := []) (x := 6) hC hW mw_X1_readWeight gw_323 (k_readWeightM l G n ad H.size (up2 I 6 2 (nI (i + 1))) L R 2 (36 + (ch i - 48)) 3 pn ch s0 I0 (i + 1) (ch i - 48) b m p w K ro hn hlk hE1 (by decide) (by omega) (by decide) (fun c hc => by simp only [stp]; simp; omega) (fun c hc => by simp only [stp]; simp; omega) (fun c hc => Wok_up hWo (by omega) (by omega))) (by omega) (ct_o1 kd_6) rfl ⟨rfl, rfl⟩ ⟨Nat.le_of_ble_eq_true rfl, Nat.le_of_ble_eq_true rfl⟩ ⟨Nat.le_of_ble_eq_true rfl, Nat.le_of_ble_eq_true rfl⟩ hl.1 rfl rfl (Nat.le_of_ble_eq_true rfl) dX1_readBegin_26) hW (fun r_26 I_26 L_26 H locs hp hW => ?_)
    rcases hp with ⟨rfl, hT_26, hU_26, hi_26, rfl⟩ | ⟨rfl, hF_26, hU_26, rfl⟩
    ·
      exact q_zret1 hC hW hr hlk0 rfl (Or.inl ⟨rfl, ⟨_, _, _, _, _, _, _, _, _, hT_26, by omega, by omega, by omega, fun h => absurd h (by decide), rfl⟩, (by rw [hU_26, up2_at, if_neg (by decide)]), rfl⟩) dX1_readBegin_29
    ·
      exact q_zret1 hC hW hr hlk0 rfl (Or.inr ⟨rfl, hF_26, (by rw [hU_26, up2_at, if_neg (by decide)]), rfl⟩) dX1_readBegin_29
  ·
    refine q_ine (tgt := 13) hx hb dX1_readBegin_8 (by decide) (by first | omega | exact Nat.lt_of_le_of_lt (hw3 _) (by decide)) (fun c_8 => absurd c_8 (by decide)) (fun c_8 => ?_)
    refine q_ic 0 hx hb dX1_readBegin_11 (by decide) ?_
    exact q_zret1 hC hW hr hlk0 rfl (Or.inr ⟨rfl, PE_fq hE (show 1 < 8 by decide) hs0 hx_5, rfl, rfl⟩) dX1_readBegin_12
set_option maxRecDepth 100000 in
set_option maxHeartbeats 4000000 in
theorem k_readLetterM (l : Launch) (G : Gx) (n : Nat) (ad : Nat → Nat) (sz : Nat) (I : Ic) (L : Lc) (R : Rc) (pn : Nat) (ch : Nat → Nat) (s0 : Sg) (I0 : Ic) (i a b m p : Nat) (w : Nat → Nat) (K : Nat) (ro : Nat → Nat) (hn : 83 ≤ n) (hlk : LkOK n R) (hE : PE true pn ch s0 I0 i (6, a, b, m, w, K, ro, p) I) (ha4 : a < 4) (hWo : Wok w) : Met l yX1_readLetter (Cond.code yX1_readLetter cX1_readLetter 3 (some .boolean) :: GW) ({ frames := 2, cells := 0, slots := 0, locals := 72 } : Room) (qPre G n ad sz I L R [.ref (ad 6), .ref (ad 1), .int (nI (a))]) (qI1 G (qA n ad sz) n ad R (fun z I1 L1 => (z = nI 1 ∧ (∃ i1 q1 a1 b1 m1 p1 w1 K1 r1, PE true pn ch s0 I0 i1 (q1, a1, b1, m1, w1, K1, r1, p1) I1 ∧ 8 ≤ q1 ∧ q1 ≤ 9 ∧ i < i1 ∧ (q1 = 8 → ¬ (i1 < pn ∧ 97 ≤ ch i1 ∧ ch i1 ≤ 100 ∧ m1 < 6)) ∧ p1 = p) ∧ I1 6 3 = I 6 3 ∧ L = L1) ∨ (z = nI 0 ∧ PFl true pn ch s0 I0 I1 ∧ I1 6 3 = I 6 3 ∧ L = L1))) 0 0 (qA n ad sz) := by
  refine q_met (by decide) (Nat.le_of_ble_eq_true rfl) ?_
  intro p_ e_ s m_ below meth c_ hC hr hlk0 hin hsz hW ls hl
  subst hsz
  have hC : CallFix p_ m_ c_ cX1_readLetter 3 s ([.ref (ad 6), .ref (ad 1), .int (nI (a))] : List Value).toArray GW "CoinRows$Pad" := hC
  have hx := hC.1
  have hb := hC.2.1
  have hP0 := hE.2.2.1
  have ha0 := hE.2.2.2.1
  have hip := hE.2.1
  have hp80 := hP0.2.1
  have hch := hP0.2.2.2
  have hci := hch i
  have hs0 : ∀ c, ¬ (97 ≤ c ∧ c ≤ 100) → stp (6, a, b, m, w, K, ro, p) c = none := fun c hc => by simp only [stp]; simp; omega
  have hl : lv_has ls 3 [(0, .ref (ad 6)), (1, .ref (ad 1)), (2, .int (nI (a)))] := hl
  refine lv_aload_n hx hb dX1_readLetter_0 rfl (lv_at hl 0 rfl) ?_
  refine q_bp 97 hx hb dX1_readLetter_1 (by decide) ?_
  refine q_bp 100 hx hb dX1_readLetter_3 (by decide) ?_
  refine q_kI1 (q_rV (As := [.int (nI 97), .int (nI 100)]) (rest := []) (x := 6) hC hW mw_X1_accept gw_311 (k_accept l G n ad s.heap.size I L R 97 100 pn ch (i) hn hlk hP0 ha0 (by omega) (by omega) (by omega)) (by omega) (ct_o1 kd_6) rfl ⟨rfl, rfl⟩ ⟨Nat.le_of_ble_eq_true rfl, Nat.le_of_ble_eq_true rfl⟩ ⟨Nat.le_of_ble_eq_true rfl, Nat.le_of_ble_eq_true rfl⟩ hl.1 rfl rfl (Nat.le_of_ble_eq_true rfl) dX1_readLetter_5) hW (fun r_5 I_5 L_5 H locs hp hW => ?_)
  rcases hp with ⟨ha_5, hb_5, hc_5, rfl, rfl, rfl⟩ | ⟨hx_5, rfl, rfl, rfl⟩
  ·
    refine q_ine (tgt := 13) hx hb dX1_readLetter_8 (by decide) (by first | omega | exact Nat.lt_of_le_of_lt (hw3 _) (by decide)) (fun c_8 => ?_) (fun c_8 => absurd c_8 (by decide))
    have hE1 : PE true pn ch s0 I0 (i + 1) (7, a, ch i - 97, m, w, K, ro, p) (up2 I 6 2 (nI (i + 1))) := PE_s hE (by omega) (by simp only [stp]; simp; omega)
    refine lv_aload_n hx hb dX1_readLetter_13 rfl (lv_at hl 0 rfl) ?_
    refine lv_aload_n hx hb dX1_readLetter_14 rfl (lv_at hl 1 rfl) ?_
    refine q_bp 42 hx hb dX1_readLetter_15 (by decide) ?_
    refine lv_iload_n hx hb dX1_readLetter_17 rfl (lv_at hl 2 rfl) ?_
    refine q_ic 4 hx hb dX1_readLetter_18 (by decide) ?_
    refine q_imul hx hb dX1_readLetter_19 ?_
    refine q_iadd hx hb dX1_readLetter_20 ?_
    refine lv_aload_n hx hb dX1_readLetter_21 rfl (lv_at hl 0 rfl) ?_
    refine q_kI0 (q_rV (As := []) (rest := [.int (nI (42 + (a * 4))), .ref (ad 1), .ref (ad 6)]) (x := 6) hC hW mw_X1_latest gw_319 (k_latest l G n ad H.size (up2 I 6 2 (nI (i + 1))) L R pn ch i hn hlk (PadI_at hP0 2 (Or.inl rfl) _) (show up2 I 6 2 (nI (i + 1)) 6 2 = nI (i + 1) by rw [up2_at, if_pos ⟨rfl, rfl⟩]) (by omega)) (by omega) (ct_o1 kd_6) rfl ⟨rfl, rfl⟩ ⟨Nat.le_of_ble_eq_true rfl, Nat.le_of_ble_eq_true rfl⟩ ⟨Nat.le_of_ble_eq_true rfl, Nat.le_of_ble_eq_true rfl⟩ hl.1 rfl rfl (Nat.le_of_ble_eq_true rfl) dX1_readLetter_22) hW (fun r_22 H locs hp hW => ?_)
    subst hp
    have hcl_22 := hch i
    refine q_iadd hx hb dX1_readLetter_25 ?_
    refine q_bp 97 hx hb dX1_readLetter_26 (by decide) ?_
    refine q_isub hx hb dX1_readLetter_28 (by omega) ?_
    refine q_top (v2 := .int (nI (42 + a * 4 + (ch i - 97)))) (by rw [show 42 + a * 4 + ch i - 97 = 42 + a * 4 + (ch i - 97) by omega]) ?_
    refine q_ic 3 hx hb dX1_readLetter_29 (by decide) ?_
    refine q_kI1 (q_rV (As := [.ref (ad 1), .int (nI (42 + a * 4 + (ch i - 97))), .int (nI 3)]) (rest := []) (x := 6) hC hW mw_X1_readWeight gw_323 (k_readWeightM l G n ad H.size (up2 I 6 2 (nI (i + 1))) L R 7 (42 + a * 4 + (ch i - 97)) 3 pn ch s0 I0 (i + 1) a (ch i - 97) m p w K ro hn hlk hE1 (by decide) (by omega) (by decide) (fun c hc => by simp only [stp]; simp; omega) (fun c hc => by simp only [stp]; simp; omega) (fun c hc => Wok_up hWo (by omega) (by omega))) (by omega) (ct_o1 kd_6) rfl ⟨rfl, rfl⟩ ⟨Nat.le_of_ble_eq_true rfl, Nat.le_of_ble_eq_true rfl⟩ ⟨Nat.le_of_ble_eq_true rfl, Nat.le_of_ble_eq_true rfl⟩ hl.1 rfl rfl (Nat.le_of_ble_eq_true rfl) dX1_readLetter_30) hW (fun r_30 I_30 L_30 H locs hp hW => ?_)
    rcases hp with ⟨rfl, hT_30, hU_30, hi_30, rfl⟩ | ⟨rfl, hF_30, hU_30, rfl⟩
    ·
      exact q_zret1 hC hW hr hlk0 rfl (Or.inl ⟨rfl, ⟨_, _, _, _, _, _, _, _, _, hT_30, by omega, by omega, by omega, fun h => absurd h (by decide), rfl⟩, (by rw [hU_30, up2_at, if_neg (by decide)]), rfl⟩) dX1_readLetter_33
    ·
      exact q_zret1 hC hW hr hlk0 rfl (Or.inr ⟨rfl, hF_30, (by rw [hU_30, up2_at, if_neg (by decide)]), rfl⟩) dX1_readLetter_33
  ·
    refine q_ine (tgt := 13) hx hb dX1_readLetter_8 (by decide) (by first | omega | exact Nat.lt_of_le_of_lt (hw3 _) (by decide)) (fun c_8 => absurd c_8 (by decide)) (fun c_8 => ?_)
    refine q_ic 0 hx hb dX1_readLetter_11 (by decide) ?_
    exact q_zret1 hC hW hr hlk0 rfl (Or.inr ⟨rfl, PE_fq hE (show 6 < 8 by decide) hs0 hx_5, rfl, rfl⟩) dX1_readLetter_12
set_option maxRecDepth 100000 in
set_option maxHeartbeats 4000000 in
theorem k_readStepM (l : Launch) (G : Gx) (n : Nat) (ad : Nat → Nat) (sz : Nat) (I : Ic) (L : Lc) (R : Rc) (pn : Nat) (ch : Nat → Nat) (s0 : Sg) (I0 : Ic) (i a b m p : Nat) (w : Nat → Nat) (K : Nat) (ro : Nat → Nat) (hn : 83 ≤ n) (hlk : LkOK n R) (hE : PE true pn ch s0 I0 i (4, a, b, m, w, K, ro, p) I) (ha6 : a < 6) (hWo : Wok w) : Met l yX1_readStep (Cond.code yX1_readStep cX1_readStep 4 (some .boolean) :: GW) ({ frames := 2, cells := 0, slots := 0, locals := 72 } : Room) (qPre G n ad sz I L R [.ref (ad 6), .ref (ad 1), .int (nI (a))]) (qI1 G (qA n ad sz) n ad R (fun z I1 L1 => (z = nI 1 ∧ (∃ i1 q1 a1 b1 m1 p1 w1 K1 r1, PE true pn ch s0 I0 i1 (q1, a1, b1, m1, w1, K1, r1, p1) I1 ∧ 8 ≤ q1 ∧ q1 ≤ 9 ∧ i < i1 ∧ (q1 = 8 → ¬ (i1 < pn ∧ 97 ≤ ch i1 ∧ ch i1 ≤ 100 ∧ m1 < 6)) ∧ p1 = p) ∧ I1 6 3 = I 6 3 ∧ L = L1) ∨ (z = nI 0 ∧ PFl true pn ch s0 I0 I1 ∧ I1 6 3 = I 6 3 ∧ L = L1))) 0 0 (qA n ad sz) := by
  refine q_met (by decide) (Nat.le_of_ble_eq_true rfl) ?_
  intro p_ e_ s m_ below meth c_ hC hr hlk0 hin hsz hW ls hl
  subst hsz
  have hC : CallFix p_ m_ c_ cX1_readStep 4 s ([.ref (ad 6), .ref (ad 1), .int (nI (a))] : List Value).toArray GW "CoinRows$Pad" := hC
  have hx := hC.1
  have hb := hC.2.1
  have hP0 := hE.2.2.1
  have ha0 := hE.2.2.2.1
  have hip := hE.2.1
  have hp80 := hP0.2.1
  have hch := hP0.2.2.2
  have hci := hch i
  have hs0 : ∀ c, ¬ (48 ≤ c ∧ c ≤ 53) → stp (4, a, b, m, w, K, ro, p) c = none := fun c hc => by simp only [stp]; simp; omega
  have hl : lv_has ls 4 [(0, .ref (ad 6)), (1, .ref (ad 1)), (2, .int (nI (a)))] := hl
  refine lv_aload_n hx hb dX1_readStep_0 rfl (lv_at hl 0 rfl) ?_
  refine q_bp 48 hx hb dX1_readStep_1 (by decide) ?_
  refine q_bp 53 hx hb dX1_readStep_3 (by decide) ?_
  refine q_kI1 (q_rV (As := [.int (nI 48), .int (nI 53)]) (rest := []) (x := 6) hC hW mw_X1_accept gw_311 (k_accept l G n ad s.heap.size I L R 48 53 pn ch (i) hn hlk hP0 ha0 (by omega) (by omega) (by omega)) (by omega) (ct_o1 kd_6) rfl ⟨rfl, rfl⟩ ⟨Nat.le_of_ble_eq_true rfl, Nat.le_of_ble_eq_true rfl⟩ ⟨Nat.le_of_ble_eq_true rfl, Nat.le_of_ble_eq_true rfl⟩ hl.1 rfl rfl (Nat.le_of_ble_eq_true rfl) dX1_readStep_5) hW (fun r_5 I_5 L_5 H locs hp hW => ?_)
  rcases hp with ⟨ha_5, hb_5, hc_5, rfl, rfl, rfl⟩ | ⟨hx_5, rfl, rfl, rfl⟩
  ·
    refine q_ine (tgt := 13) hx hb dX1_readStep_8 (by decide) (by first | omega | exact Nat.lt_of_le_of_lt (hw3 _) (by decide)) (fun c_8 => ?_) (fun c_8 => absurd c_8 (by decide))
    have hE1 : PE true pn ch s0 I0 (i + 1) (5, a, ch i - 48, m, w, K, ro, p) (up2 I 6 2 (nI (i + 1))) := PE_s hE (by omega) (by simp only [stp]; simp; omega)
    refine lv_aload_n hx hb dX1_readStep_13 rfl (lv_at hl 0 rfl) ?_
    refine q_kI0 (q_rV (As := []) (rest := []) (x := 6) hC hW mw_X1_latest gw_319 (k_latest l G n ad H.size (up2 I 6 2 (nI (i + 1))) L R pn ch i hn hlk (PadI_at hP0 2 (Or.inl rfl) _) (show up2 I 6 2 (nI (i + 1)) 6 2 = nI (i + 1) by rw [up2_at, if_pos ⟨rfl, rfl⟩]) (by omega)) (by omega) (ct_o1 kd_6) rfl ⟨rfl, rfl⟩ ⟨Nat.le_of_ble_eq_true rfl, Nat.le_of_ble_eq_true rfl⟩ ⟨Nat.le_of_ble_eq_true rfl, Nat.le_of_ble_eq_true rfl⟩ hl.1 rfl rfl (Nat.le_of_ble_eq_true rfl) dX1_readStep_14) hW (fun r_14 H locs hp hW => ?_)
    subst hp
    have hcl_14 := hch i
    refine q_bp 48 hx hb dX1_readStep_17 (by decide) ?_
    refine q_isub hx hb dX1_readStep_19 (by omega) ?_
    refine lv_istore_n (lv' := [(3, .int (nI ((ch i) - 48))), (0, .ref (ad 6)), (1, .ref (ad 1)), (2, .int (nI (a)))]) hx hb dX1_readStep_20 rfl hl (by decide) rfl (fun ls hl => ?_)
    refine lv_aload_n hx hb dX1_readStep_21 rfl (lv_at hl 1 rfl) ?_
    refine lv_aload_n hx hb dX1_readStep_22 rfl (lv_at hl 2 rfl) ?_
    refine lv_iload_n hx hb dX1_readStep_23 rfl (lv_at hl 3 rfl) ?_
    refine q_bp 6 hx hb dX1_readStep_24 (by decide) ?_
    refine q_imul hx hb dX1_readStep_26 ?_
    refine lv_iload_n hx hb dX1_readStep_27 rfl (lv_at hl 0 rfl) ?_
    refine q_iadd hx hb dX1_readStep_28 ?_
    refine lv_iload_n hx hb dX1_readStep_29 rfl (lv_at hl 3 rfl) ?_
    refine lv_iload_n hx hb dX1_readStep_30 rfl (lv_at hl 0 rfl) ?_
    refine q_kI0 (q_rSN (As := [.int (nI (a)), .int (nI ((ch i) - 48))]) (rest := [.int (nI ((a * 6) + ((ch i) - 48))), .ref (ad 1), .ref (ad 6)]) hC hW mw_X5_isBarred hW.2.2.2.2.2.2.2.2.2.1 (k_isBarred l G n ad H.size (up2 I 6 2 (nI (i + 1))) L R _ _ (by omega) (by omega)) ⟨rfl, rfl⟩ ⟨Nat.le_of_ble_eq_true rfl, Nat.le_of_ble_eq_true rfl⟩ ⟨Nat.le_of_ble_eq_true rfl, Nat.le_of_ble_eq_true rfl⟩ hl.1 rfl rfl (Nat.le_of_ble_eq_true rfl) dX1_readStep_31) hW (fun r_31 H locs hp hW => ?_)
    rcases hp with ⟨hb_31, rfl⟩ | ⟨hb_31, rfl⟩
    ·
      refine q_ieq (tgt := 41) hx hb dX1_readStep_34 (by decide) (by first | omega | exact Nat.lt_of_le_of_lt (hw3 _) (by decide)) (fun c_34 => absurd c_34 (by decide)) (fun c_34 => ?_)
      refine q_ic 0 hx hb dX1_readStep_37 (by decide) ?_
      refine lv_goto (tgt := 42) hx hb dX1_readStep_38 (by decide) ?_
      refine q_kI1 (q_rV (As := [.ref (ad 1), .int (nI ((a * 6) + ((ch i) - 48))), .int (nI 0)]) (rest := []) (x := 6) hC hW mw_X1_readWeight gw_323 (k_readWeightM l G n ad H.size (up2 I 6 2 (nI (i + 1))) L R 5 (a * 6 + (ch i - 48)) 0 pn ch s0 I0 (i + 1) a (ch i - 48) m p w K ro hn hlk hE1 (by decide) (by omega) (by decide) (fun c hc => by have hb9 := hb_31; unfold barred at hb9; simp only [stp]; simp; omega) (fun c hc => by have hb9 := hb_31; unfold barred at hb9; simp only [stp]; simp; omega) (fun c hc => Wok_up hWo (by omega) (by omega))) (by omega) (ct_o1 kd_6) rfl ⟨rfl, rfl⟩ ⟨Nat.le_of_ble_eq_true rfl, Nat.le_of_ble_eq_true rfl⟩ ⟨Nat.le_of_ble_eq_true rfl, Nat.le_of_ble_eq_true rfl⟩ hl.1 rfl rfl (Nat.le_of_ble_eq_true rfl) dX1_readStep_42) hW (fun r_42 I_42 L_42 H locs hp hW => ?_)
      rcases hp with ⟨rfl, hT_42, hU_42, hi_42, rfl⟩ | ⟨rfl, hF_42, hU_42, rfl⟩
      ·
        exact q_zret1 hC hW hr hlk0 rfl (Or.inl ⟨rfl, ⟨_, _, _, _, _, _, _, _, _, hT_42, by omega, by omega, by omega, fun h => absurd h (by decide), rfl⟩, (by rw [hU_42, up2_at, if_neg (by decide)]), rfl⟩) dX1_readStep_45
      ·
        exact q_zret1 hC hW hr hlk0 rfl (Or.inr ⟨rfl, hF_42, (by rw [hU_42, up2_at, if_neg (by decide)]), rfl⟩) dX1_readStep_45
    ·
      refine q_ieq (tgt := 41) hx hb dX1_readStep_34 (by decide) (by first | omega | exact Nat.lt_of_le_of_lt (hw3 _) (by decide)) (fun c_34 => ?_) (fun c_34 => absurd c_34 (by decide))
      refine q_ic 3 hx hb dX1_readStep_41 (by decide) ?_
      refine q_kI1 (q_rV (As := [.ref (ad 1), .int (nI ((a * 6) + ((ch i) - 48))), .int (nI 3)]) (rest := []) (x := 6) hC hW mw_X1_readWeight gw_323 (k_readWeightM l G n ad H.size (up2 I 6 2 (nI (i + 1))) L R 5 (a * 6 + (ch i - 48)) 3 pn ch s0 I0 (i + 1) a (ch i - 48) m p w K ro hn hlk hE1 (by decide) (by omega) (by decide) (fun c hc => by have hb9 := hb_31; unfold barred at hb9; simp only [stp]; simp; omega) (fun c hc => by have hb9 := hb_31; unfold barred at hb9; simp only [stp]; simp; omega) (fun c hc => Wok_up hWo (by omega) (by have hb9 := hb_31; unfold barred at hb9; omega))) (by omega) (ct_o1 kd_6) rfl ⟨rfl, rfl⟩ ⟨Nat.le_of_ble_eq_true rfl, Nat.le_of_ble_eq_true rfl⟩ ⟨Nat.le_of_ble_eq_true rfl, Nat.le_of_ble_eq_true rfl⟩ hl.1 rfl rfl (Nat.le_of_ble_eq_true rfl) dX1_readStep_42) hW (fun r_42 I_42 L_42 H locs hp hW => ?_)
      rcases hp with ⟨rfl, hT_42, hU_42, hi_42, rfl⟩ | ⟨rfl, hF_42, hU_42, rfl⟩
      ·
        exact q_zret1 hC hW hr hlk0 rfl (Or.inl ⟨rfl, ⟨_, _, _, _, _, _, _, _, _, hT_42, by omega, by omega, by omega, fun h => absurd h (by decide), rfl⟩, (by rw [hU_42, up2_at, if_neg (by decide)]), rfl⟩) dX1_readStep_45
      ·
        exact q_zret1 hC hW hr hlk0 rfl (Or.inr ⟨rfl, hF_42, (by rw [hU_42, up2_at, if_neg (by decide)]), rfl⟩) dX1_readStep_45
  ·
    refine q_ine (tgt := 13) hx hb dX1_readStep_8 (by decide) (by first | omega | exact Nat.lt_of_le_of_lt (hw3 _) (by decide)) (fun c_8 => absurd c_8 (by decide)) (fun c_8 => ?_)
    refine q_ic 0 hx hb dX1_readStep_11 (by decide) ?_
    exact q_zret1 hC hW hr hlk0 rfl (Or.inr ⟨rfl, PE_fq hE (show 4 < 8 by decide) hs0 hx_5, rfl, rfl⟩) dX1_readStep_12
