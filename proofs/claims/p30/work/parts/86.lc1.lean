set_option maxRecDepth 100000 in
set_option maxHeartbeats 4000000 in
theorem law_l2 {p : Program} {e : Env} {s : State} {m : MethodId} {below : List Frame} {meth : Method} {c : Code} (l : Launch) {b Lx : Nat} {xs : Nat → Int32} (hr : meth.sig.returnType = ret) (hlocks : meth.locks = false) (hC : CallFix p m c cL_law 4 s #[Value.ref b] GW "CoinRowsLaw") (hX : va_X b Lx xs s s.heap) (hbl : b < s.heap.size) (hLx : Lx ≤ 260) {G : Gx} : ∀ (fu k : Nat) (ad : Nat → Nat) (I : Ic) (L : Lc) (R : Rc) (S : ST) (H : Heap) (locs : List Loc), 30 < fu + k → k ≤ 30 → Wd G 71 ad I L R (fun q => s.heap.size ≤ q) s.heap H locs s → InvA 71 I L R S → ∀ ls : Array Slot, lv_has ls 4 [(2, .int (nI (k))), (1, .ref (ad 0)), (0, .ref b)] → W p l e room_1 s m #[Value.ref b] below meth c H locs (71 + 4 * k) (914 + 136 * k) (lw_Z below #[Value.ref b] s) (F0 m 72 ls []) := by
  intro fu
  induction fu with
  | zero =>
    intro k ad I L R S H locs h1 h2; omega
  | succ fu ih =>
    intro k ad I L R S H locs hfu hk hW hA ls hl
    have hx := hC.1
    have hb := hC.2.1
    have hbA : ¬ (fun q : Nat => s.heap.size ≤ q) b := Nat.not_le.mpr hbl
    obtain ⟨⟨w, K, ro⟩, hc, hi, sv, pn, ch⟩ := S
    have hG : Fr7 I I L L R R := fr_0
    refine lv_iload_n hx hb dL_law_72 rfl (lv_at hl 0 rfl) ?_
    refine q_bp 30 hx hb dL_law_73 (by decide) ?_
    refine q_cge (tgt := 107) hx hb dL_law_75 (by decide) (by first | omega | exact Nat.lt_of_le_of_lt (hw3 _) (by decide) | exact Nat.lt_of_lt_of_le (hr4 _) (by decide) | exact Nat.lt_of_le_of_lt (bp_le _) (by decide) | assumption) (by first | omega | exact Nat.lt_of_le_of_lt (hw3 _) (by decide) | exact Nat.lt_of_lt_of_le (hr4 _) (by decide) | exact Nat.lt_of_le_of_lt (bp_le _) (by decide) | assumption) (fun c_75 => ?_) (fun c_75 => ?_)
    ·
      refine lv_aload_n hx hb dL_law_107 rfl (lv_at hl 1 rfl) ?_
      refine q_kI2 (q_rS (As := [.ref (ad 0)]) (rest := []) hC hW mw_L_agree gw_153 (k_agree l G ad H.size I L R w K ro hc hi sv pn ch hA) ⟨rfl, rfl⟩ ⟨Nat.le_of_ble_eq_true rfl, Nat.le_of_ble_eq_true rfl⟩ ⟨(by show _ ≤ 600000; omega), (by show _ ≤ 7302250; omega)⟩ hl.1 rfl rfl (Nat.le_of_ble_eq_true rfl) dL_law_108) hW (fun r_108 n_108 ad_108 I_108 L_108 R_108 H locs hp hW => ?_)
      obtain ⟨hz, hn_, hag_108, hA, hNR⟩ := hp
      have hn_ : n_108 = 74 := hn_
      subst hn_
      subst hz
      have hA : InvA 74 I_108 L_108 R_108 ((w, K, ro), hc, hi, sv, pn, ch) := hA
      have hag_108 : ∀ k, k < 71 → ad_108 k = ad k := hag_108
      have hNR : NoR R_108 71 74 := hNR
      have hG : Fr7 I_108 I_108 L_108 L_108 R_108 R_108 := fr_0
      have hl : lv_has ls 4 [(2, .int (nI (k))), (1, .ref (ad_108 0)), (0, .ref b)] := by rw [hag_108 0 (by omega)]; exact hl
      refine q_top (v2 := .int 1) (by decide) ?_
      refine va_forget (fun q hq => hW.2.2.2.1.2.2 q hq) ?_
      refine q_more (c2 := 600000) (s2 := 7302250) (by omega) (by omega) ?_
      refine W.base ?_
      exact lw_ret (Drawn.sameBut.refl s.drawn lw_cs) hx hb hr hlocks dL_law_111
    ·
      refine lv_aload_n hx hb dL_law_78 rfl (lv_at hl 1 rfl) ?_
      refine q_kI2 (q_rS (As := [.ref (ad 0)]) (rest := []) hC hW mw_L_agree gw_153 (k_agree l G ad H.size I L R w K ro hc hi sv pn ch hA) ⟨rfl, rfl⟩ ⟨Nat.le_of_ble_eq_true rfl, Nat.le_of_ble_eq_true rfl⟩ ⟨(by show _ ≤ 600000; omega), (by show _ ≤ 7302250; omega)⟩ hl.1 rfl rfl (Nat.le_of_ble_eq_true rfl) dL_law_79) hW (fun r_79 n_79 ad_79 I_79 L_79 R_79 H locs hp hW => ?_)
      obtain ⟨hz, hn_, hag_79, hA, hNR⟩ := hp
      have hn_ : n_79 = 74 := hn_
      subst hn_
      subst hz
      have hA : InvA 74 I_79 L_79 R_79 ((w, K, ro), hc, hi, sv, pn, ch) := hA
      have hag_79 : ∀ k, k < 71 → ad_79 k = ad k := hag_79
      have hNR : NoR R_79 71 74 := hNR
      have hG : Fr7 I_79 I_79 L_79 L_79 R_79 R_79 := fr_0
      have hl : lv_has ls 4 [(2, .int (nI (k))), (1, .ref (ad_79 0)), (0, .ref b)] := by rw [hag_79 0 (by omega)]; exact hl
      refine q_ieq (tgt := 99) hx hb dL_law_82 (by decide) (by first | omega | exact Nat.lt_of_le_of_lt (hw3 _) (by decide) | exact Nat.lt_of_lt_of_le (hr4 _) (by decide) | exact Nat.lt_of_le_of_lt (bp_le _) (by decide) | assumption) (fun c_82 => absurd c_82 (by decide)) (fun c_82 => ?_)
      refine lv_aload_n hx hb dL_law_85 rfl (lv_at hl 1 rfl) ?_
      refine lv_aload_n hx hb dL_law_86 rfl (lv_at hl 2 rfl) ?_
      refine q_bp 64 hx hb dL_law_87 (by decide) ?_
      refine q_ic 4 hx hb dL_law_89 (by decide) ?_
      refine lv_iload_n hx hb dL_law_90 rfl (lv_at hl 0 rfl) ?_
      refine q_imul hx hb dL_law_91 ?_
      refine q_iadd hx hb dL_law_92 ?_
      refine q_kI2 (q_rSS (As := [.ref (ad_79 0), .ref b, .int (nI (64 + (4 * k)))]) (rest := []) hC hW hX hbl hbA mw_L_isAct gw_388 (k_isAct l G ad_79 H.size I_79 L_79 R_79 b Lx xs hLx (64 + (4 * k)) (by omega) w K ro hc hi sv pn ch hA hNR) ⟨rfl, rfl⟩ ⟨Nat.le_of_ble_eq_true rfl, Nat.le_of_ble_eq_true rfl⟩ ⟨(by show _ ≤ 600000; omega), (by show _ ≤ 7302250; omega)⟩ hl.1 rfl rfl (Nat.le_of_ble_eq_true rfl) dL_law_93) hW (fun r_93 n_93 ad_93 I_93 L_93 R_93 H locs hp hW => ?_)
      obtain ⟨hz, S_93, h71_93, hag_93, hA⟩ := hp
      subst hz
      have hag_93 : ∀ k, k < 71 → ad_93 k = ad_79 k := hag_93
      have hA : InvA 71 I_93 L_93 R_93 S_93 := hA
      have h71_93 : 71 ≤ n_93 := h71_93
      have hW := Wd_drop hW h71_93
      have hl : lv_has ls 4 [(2, .int (nI (k))), (1, .ref (ad_93 0)), (0, .ref b)] := by rw [hag_93 0 (by omega)]; exact hl
      refine q_ine (tgt := 101) hx hb dL_law_96 (by decide) (by first | omega | exact Nat.lt_of_le_of_lt (hw3 _) (by decide) | exact Nat.lt_of_lt_of_le (hr4 _) (by decide) | exact Nat.lt_of_le_of_lt (bp_le _) (by decide) | assumption) (fun c_96 => ?_) (fun c_96 => absurd c_96 (by decide))
      refine q_iinc (z2 := k + 1) (lv' := [(2, .int (nI (k + 1))), (1, .ref (ad_93 0)), (0, .ref b)]) hx hb dL_law_101 hl (k := 0) rfl (inc_up _ 1 (by decide)) (by decide) rfl (fun ls hl => ?_)
      refine q_more (c2 := 71 + 4 * (k + 1)) (s2 := 914 + 136 * (k + 1)) (by omega) (by omega) ?_
      refine lv_goto (tgt := 72) hx hb dL_law_104 (by decide) ?_
      exact ih (k + 1) ad_93 I_93 L_93 R_93 _ H locs (by omega) (by omega) hW hA ls (lv_sub hl [0, 1, 2] rfl)
set_option maxRecDepth 100000 in
set_option maxHeartbeats 4000000 in
theorem law_l1 {p : Program} {e : Env} {s : State} {m : MethodId} {below : List Frame} {meth : Method} {c : Code} (l : Launch) {b Lx : Nat} {xs : Nat → Int32} (hr : meth.sig.returnType = ret) (hlocks : meth.locks = false) (hC : CallFix p m c cL_law 4 s #[Value.ref b] GW "CoinRowsLaw") (hX : va_X b Lx xs s s.heap) (hbl : b < s.heap.size) (hLx : Lx ≤ 260) {G : Gx} : ∀ (fu k : Nat) (ad : Nat → Nat) (I : Ic) (L : Lc) (R : Rc) (S : ST) (H : Heap) (locs : List Loc), 16 < fu + k → k ≤ 16 → Wd G 71 ad I L R (fun q => s.heap.size ≤ q) s.heap H locs s → InvA 71 I L R S → ∀ ls : Array Slot, lv_has ls 4 [(2, .int (nI (k))), (1, .ref (ad 0)), (0, .ref b)] → W p l e room_1 s m #[Value.ref b] below meth c H locs 71 914 (lw_Z below #[Value.ref b] s) (F0 m 10 ls []) := by
  intro fu
  induction fu with
  | zero =>
    intro k ad I L R S H locs h1 h2; omega
  | succ fu ih =>
    intro k ad I L R S H locs hfu hk hW hA ls hl
    have hx := hC.1
    have hb := hC.2.1
    have hbA : ¬ (fun q : Nat => s.heap.size ≤ q) b := Nat.not_le.mpr hbl
    obtain ⟨⟨w, K, ro⟩, hc, hi, sv, pn, ch⟩ := S
    have hG : Fr7 I I L L R R := fr_0
    refine lv_iload_n hx hb dL_law_10 rfl (lv_at hl 0 rfl) ?_
    refine q_bp 16 hx hb dL_law_11 (by decide) ?_
    refine q_cge (tgt := 70) hx hb dL_law_13 (by decide) (by first | omega | exact Nat.lt_of_le_of_lt (hw3 _) (by decide) | exact Nat.lt_of_lt_of_le (hr4 _) (by decide) | exact Nat.lt_of_le_of_lt (bp_le _) (by decide) | assumption) (by first | omega | exact Nat.lt_of_le_of_lt (hw3 _) (by decide) | exact Nat.lt_of_lt_of_le (hr4 _) (by decide) | exact Nat.lt_of_le_of_lt (bp_le _) (by decide) | assumption) (fun c_13 => ?_) (fun c_13 => ?_)
    ·
      refine q_ic 0 hx hb dL_law_70 (by decide) ?_
      refine lv_istore_n (lv' := [(2, .int (nI 0)), (1, .ref (ad 0)), (0, .ref b)]) hx hb dL_law_71 rfl hl (by decide) rfl (fun ls hl => ?_)
      exact law_l2 l hr hlocks hC hX hbl hLx 31 0 ad I L R _ H locs (by omega) (by omega) hW hA ls (lv_sub hl [0, 1, 2] rfl)
    ·
      refine q_ic 1 hx hb dL_law_16 (by decide) ?_
      refine lv_aload_n hx hb dL_law_17 rfl (lv_at hl 2 rfl) ?_
      refine lv_iload_n hx hb dL_law_18 rfl (lv_at hl 0 rfl) ?_
      refine q_ic 2 hx hb dL_law_19 (by decide) ?_
      refine q_kI0 (q_rSS (As := [.ref b, .int (nI (k)), .int (nI 2)]) (rest := [.int (nI 1)]) hC hW hX hbl hbA mw_L_cell gw_149 (k_cell l G 71 ad H.size I L R b Lx xs hLx k 2 (by omega) (by omega) (by omega)) ⟨rfl, rfl⟩ ⟨Nat.le_of_ble_eq_true rfl, Nat.le_of_ble_eq_true rfl⟩ ⟨(Nat.le_of_ble_eq_true rfl), (Nat.le_of_ble_eq_true rfl)⟩ hl.1 rfl rfl (Nat.le_of_ble_eq_true rfl) dL_law_20) hW (fun r_20 H locs hp hW => ?_)
      obtain ⟨j_20, hj_20, rfl⟩ := hp
      have h9 : j_20 = 0 ∨ j_20 = 1 := by omega
      rcases h9 with rfl | rfl
      ·
        refine q_iadd hx hb dL_law_23 ?_
        refine lv_istore_n (lv' := [(3, .int (nI 1)), (2, .int (nI (k))), (1, .ref (ad 0)), (0, .ref b)]) hx hb dL_law_24 rfl hl (by decide) rfl (fun ls hl => ?_)
        refine lv_aload_n hx hb dL_law_25 rfl (lv_at hl 2 rfl) ?_
        refine lv_iload_n hx hb dL_law_26 rfl (lv_at hl 0 rfl) ?_
        refine lv_aload_n hx hb dL_law_27 rfl (lv_at hl 3 rfl) ?_
        refine q_bp 16 hx hb dL_law_28 (by decide) ?_
        refine lv_iload_n hx hb dL_law_30 rfl (lv_at hl 1 rfl) ?_
        refine q_iadd hx hb dL_law_31 ?_
        refine q_bp 6 hx hb dL_law_32 (by decide) ?_
        refine q_kI0 (q_rSS (As := [.ref b, .int (nI (16 + k)), .int (nI 6)]) (rest := [.int (nI 1), .ref (ad 0)]) hC hW hX hbl hbA mw_L_cell gw_149 (k_cell l G 71 ad H.size I L R b Lx xs hLx (16 + k) 6 (by omega) (by omega) (by omega)) ⟨rfl, rfl⟩ ⟨Nat.le_of_ble_eq_true rfl, Nat.le_of_ble_eq_true rfl⟩ ⟨(Nat.le_of_ble_eq_true rfl), (Nat.le_of_ble_eq_true rfl)⟩ hl.1 rfl rfl (Nat.le_of_ble_eq_true rfl) dL_law_34) hW (fun r_34 H locs hp hW => ?_)
        obtain ⟨j_34, hj_34, rfl⟩ := hp
        refine lv_aload_n hx hb dL_law_37 rfl (lv_at hl 3 rfl) ?_
        refine q_bp 32 hx hb dL_law_38 (by decide) ?_
        refine lv_iload_n hx hb dL_law_40 rfl (lv_at hl 1 rfl) ?_
        refine q_iadd hx hb dL_law_41 ?_
        refine q_bp 6 hx hb dL_law_42 (by decide) ?_
        refine q_kI0 (q_rSS (As := [.ref b, .int (nI (32 + k)), .int (nI 6)]) (rest := [.int (nI (j_34)), .int (nI 1), .ref (ad 0)]) hC hW hX hbl hbA mw_L_cell gw_149 (k_cell l G 71 ad H.size I L R b Lx xs hLx (32 + k) 6 (by omega) (by omega) (by omega)) ⟨rfl, rfl⟩ ⟨Nat.le_of_ble_eq_true rfl, Nat.le_of_ble_eq_true rfl⟩ ⟨(Nat.le_of_ble_eq_true rfl), (Nat.le_of_ble_eq_true rfl)⟩ hl.1 rfl rfl (Nat.le_of_ble_eq_true rfl) dL_law_44) hW (fun r_44 H locs hp hW => ?_)
        obtain ⟨j_44, hj_44, rfl⟩ := hp
        refine lv_aload_n hx hb dL_law_47 rfl (lv_at hl 3 rfl) ?_
        refine q_bp 48 hx hb dL_law_48 (by decide) ?_
        refine lv_iload_n hx hb dL_law_50 rfl (lv_at hl 1 rfl) ?_
        refine q_iadd hx hb dL_law_51 ?_
        refine q_ic 4 hx hb dL_law_52 (by decide) ?_
        refine q_kI0 (q_rSS (As := [.ref b, .int (nI (48 + k)), .int (nI 4)]) (rest := [.int (nI (j_44)), .int (nI (j_34)), .int (nI 1), .ref (ad 0)]) hC hW hX hbl hbA mw_L_cell gw_149 (k_cell l G 71 ad H.size I L R b Lx xs hLx (48 + k) 4 (by omega) (by omega) (by omega)) ⟨rfl, rfl⟩ ⟨Nat.le_of_ble_eq_true rfl, Nat.le_of_ble_eq_true rfl⟩ ⟨(Nat.le_of_ble_eq_true rfl), (Nat.le_of_ble_eq_true rfl)⟩ hl.1 rfl rfl (Nat.le_of_ble_eq_true rfl) dL_law_53) hW (fun r_53 H locs hp hW => ?_)
        obtain ⟨j_53, hj_53, rfl⟩ := hp
        refine q_kI2 (q_rS (As := [.ref (ad 0), .int (nI 1), .int (nI (j_34)), .int (nI (j_44)), .int (nI (j_53))]) (rest := []) hC hW mw_L_isGiven gw_367 (k_isGiven1 l G 71 ad H.size I L R j_34 j_44 j_53 w K ro hc hi sv pn ch hA (by omega) (by omega) (by omega)) ⟨rfl, rfl⟩ ⟨Nat.le_of_ble_eq_true rfl, Nat.le_of_ble_eq_true rfl⟩ ⟨(Nat.le_of_ble_eq_true rfl), (Nat.le_of_ble_eq_true rfl)⟩ hl.1 rfl rfl (Nat.le_of_ble_eq_true rfl) dL_law_56) hW (fun r_56 n_56 ad_56 I_56 L_56 R_56 H locs hp hW => ?_)
        obtain ⟨hz, rfl, rfl, S_, hA, hF⟩ := GV_use hp
        subst hz
        have hG := fr_t hF hG
        refine q_ine (tgt := 64) hx hb dL_law_59 (by decide) (by first | omega | exact Nat.lt_of_le_of_lt (hw3 _) (by decide) | exact Nat.lt_of_lt_of_le (hr4 _) (by decide) | exact Nat.lt_of_le_of_lt (bp_le _) (by decide) | assumption) (fun c_59 => ?_) (fun c_59 => absurd c_59 (by decide))
        refine q_iinc (z2 := k + 1) (lv' := [(2, .int (nI (k + 1))), (3, .int (nI 1)), (1, .ref (ad 0)), (0, .ref b)]) hx hb dL_law_64 hl (k := 1) rfl (inc_up _ 1 (by decide)) (by decide) rfl (fun ls hl => ?_)
        refine lv_goto (tgt := 10) hx hb dL_law_67 (by decide) ?_
        exact ih (k + 1) ad I_56 L_56 R_56 _ H locs (by omega) (by omega) hW hA ls (lv_sub hl [0, 2, 3] rfl)
      ·
        refine q_iadd hx hb dL_law_23 ?_
        refine lv_istore_n (lv' := [(3, .int (nI 2)), (2, .int (nI (k))), (1, .ref (ad 0)), (0, .ref b)]) hx hb dL_law_24 rfl hl (by decide) rfl (fun ls hl => ?_)
        refine lv_aload_n hx hb dL_law_25 rfl (lv_at hl 2 rfl) ?_
        refine lv_iload_n hx hb dL_law_26 rfl (lv_at hl 0 rfl) ?_
        refine lv_aload_n hx hb dL_law_27 rfl (lv_at hl 3 rfl) ?_
        refine q_bp 16 hx hb dL_law_28 (by decide) ?_
        refine lv_iload_n hx hb dL_law_30 rfl (lv_at hl 1 rfl) ?_
        refine q_iadd hx hb dL_law_31 ?_
        refine q_bp 6 hx hb dL_law_32 (by decide) ?_
        refine q_kI0 (q_rSS (As := [.ref b, .int (nI (16 + k)), .int (nI 6)]) (rest := [.int (nI 2), .ref (ad 0)]) hC hW hX hbl hbA mw_L_cell gw_149 (k_cell l G 71 ad H.size I L R b Lx xs hLx (16 + k) 6 (by omega) (by omega) (by omega)) ⟨rfl, rfl⟩ ⟨Nat.le_of_ble_eq_true rfl, Nat.le_of_ble_eq_true rfl⟩ ⟨(Nat.le_of_ble_eq_true rfl), (Nat.le_of_ble_eq_true rfl)⟩ hl.1 rfl rfl (Nat.le_of_ble_eq_true rfl) dL_law_34) hW (fun r_34 H locs hp hW => ?_)
        obtain ⟨j_34, hj_34, rfl⟩ := hp
        refine lv_aload_n hx hb dL_law_37 rfl (lv_at hl 3 rfl) ?_
        refine q_bp 32 hx hb dL_law_38 (by decide) ?_
        refine lv_iload_n hx hb dL_law_40 rfl (lv_at hl 1 rfl) ?_
        refine q_iadd hx hb dL_law_41 ?_
        refine q_bp 6 hx hb dL_law_42 (by decide) ?_
        refine q_kI0 (q_rSS (As := [.ref b, .int (nI (32 + k)), .int (nI 6)]) (rest := [.int (nI (j_34)), .int (nI 2), .ref (ad 0)]) hC hW hX hbl hbA mw_L_cell gw_149 (k_cell l G 71 ad H.size I L R b Lx xs hLx (32 + k) 6 (by omega) (by omega) (by omega)) ⟨rfl, rfl⟩ ⟨Nat.le_of_ble_eq_true rfl, Nat.le_of_ble_eq_true rfl⟩ ⟨(Nat.le_of_ble_eq_true rfl), (Nat.le_of_ble_eq_true rfl)⟩ hl.1 rfl rfl (Nat.le_of_ble_eq_true rfl) dL_law_44) hW (fun r_44 H locs hp hW => ?_)
        obtain ⟨j_44, hj_44, rfl⟩ := hp
        refine lv_aload_n hx hb dL_law_47 rfl (lv_at hl 3 rfl) ?_
        refine q_bp 48 hx hb dL_law_48 (by decide) ?_
        refine lv_iload_n hx hb dL_law_50 rfl (lv_at hl 1 rfl) ?_
        refine q_iadd hx hb dL_law_51 ?_
        refine q_ic 4 hx hb dL_law_52 (by decide) ?_
        refine q_kI0 (q_rSS (As := [.ref b, .int (nI (48 + k)), .int (nI 4)]) (rest := [.int (nI (j_44)), .int (nI (j_34)), .int (nI 2), .ref (ad 0)]) hC hW hX hbl hbA mw_L_cell gw_149 (k_cell l G 71 ad H.size I L R b Lx xs hLx (48 + k) 4 (by omega) (by omega) (by omega)) ⟨rfl, rfl⟩ ⟨Nat.le_of_ble_eq_true rfl, Nat.le_of_ble_eq_true rfl⟩ ⟨(Nat.le_of_ble_eq_true rfl), (Nat.le_of_ble_eq_true rfl)⟩ hl.1 rfl rfl (Nat.le_of_ble_eq_true rfl) dL_law_53) hW (fun r_53 H locs hp hW => ?_)
        obtain ⟨j_53, hj_53, rfl⟩ := hp
        refine q_kI2 (q_rS (As := [.ref (ad 0), .int (nI 2), .int (nI (j_34)), .int (nI (j_44)), .int (nI (j_53))]) (rest := []) hC hW mw_L_isGiven gw_367 (k_isGiven2 l G 71 ad H.size I L R j_34 j_44 j_53 w K ro hc hi sv pn ch hA (by omega) (by omega) (by omega)) ⟨rfl, rfl⟩ ⟨Nat.le_of_ble_eq_true rfl, Nat.le_of_ble_eq_true rfl⟩ ⟨(Nat.le_of_ble_eq_true rfl), (Nat.le_of_ble_eq_true rfl)⟩ hl.1 rfl rfl (Nat.le_of_ble_eq_true rfl) dL_law_56) hW (fun r_56 n_56 ad_56 I_56 L_56 R_56 H locs hp hW => ?_)
        obtain ⟨hz, rfl, rfl, S_, hA, hF⟩ := GV_use hp
        subst hz
        have hG := fr_t hF hG
        refine q_ine (tgt := 64) hx hb dL_law_59 (by decide) (by first | omega | exact Nat.lt_of_le_of_lt (hw3 _) (by decide) | exact Nat.lt_of_lt_of_le (hr4 _) (by decide) | exact Nat.lt_of_le_of_lt (bp_le _) (by decide) | assumption) (fun c_59 => ?_) (fun c_59 => absurd c_59 (by decide))
        refine q_iinc (z2 := k + 1) (lv' := [(2, .int (nI (k + 1))), (3, .int (nI 2)), (1, .ref (ad 0)), (0, .ref b)]) hx hb dL_law_64 hl (k := 1) rfl (inc_up _ 1 (by decide)) (by decide) rfl (fun ls hl => ?_)
        refine lv_goto (tgt := 10) hx hb dL_law_67 (by decide) ?_
        exact ih (k + 1) ad I_56 L_56 R_56 _ H locs (by omega) (by omega) hW hA ls (lv_sub hl [0, 2, 3] rfl)
set_option maxRecDepth 100000 in
set_option maxHeartbeats 4000000 in
theorem law_begin {p : Program} {e : Env} {s : State} {m : MethodId} {below : List Frame} {meth : Method} {c : Code} (l : Launch) {b Lx : Nat} {xs : Nat → Int32} (hr : meth.sig.returnType = ret) (hlocks : meth.locks = false) (hC : CallFix p m c cL_law 4 s #[Value.ref b] GW "CoinRowsLaw") (hX : va_X b Lx xs s s.heap) (hbl : b < s.heap.size) (hLx : Lx ≤ 260) {G : Gx} {ad : Nat → Nat} {I : Ic} {L : Lc} {R : Rc} (hW : Wd G 0 ad I L R (fun q => s.heap.size ≤ q) s.heap s.heap [] s) (ls : Array Slot) (hl : lv_has ls 4 [(0, .ref b)]) : W p l e room_1 s m #[Value.ref b] below meth c s.heap [] 0 0 (lw_Z below #[Value.ref b] s) (F0 m 0 ls []) := by
  have hx := hC.1
  have hb := hC.2.1
  have hcl : Cl 0 R := fun k j y hk => absurd hk (by omega)
  refine q_nwo5 hC hW hcl kd_0 gw_9 (Nat.le_of_ble_eq_true rfl) (Nat.le_of_ble_eq_true rfl) dL_law_0 (fun ad_0 H hag_0 hcl_0 hW => ?_)
  refine lv_dup hx hb dL_law_3 rfl ?_
  refine q_kV2 (q_rI (As := []) (rest := [.ref (ad_0 0)]) (x := 0) hC hW mw_X5_init gw_11 (k_initX l G ad_0 H.size (zr I 0 0) (zr L 0 0) (zr R 0 none) hcl_0) ⟨rfl, rfl⟩ ⟨Nat.le_of_ble_eq_true rfl, Nat.le_of_ble_eq_true rfl⟩ ⟨(Nat.le_of_ble_eq_true rfl), (Nat.le_of_ble_eq_true rfl)⟩ hl.1 rfl rfl (Nat.le_of_ble_eq_true rfl) dL_law_4) hW (fun n_4 ad_4 I_4 L_4 R_4 H locs hp hW => ?_)
  have hN_4 := hp
  obtain ⟨⟨hnn, hag_4, -, -, -⟩, -⟩ := hp
  have hnn : 71 = n_4 := hnn
  subst hnn
  have hag_4 : ∀ k, k < 0 + 1 → ad_4 k = ad_0 k := hag_4
  refine W.eq (g2 := F0 m 7 ls [.ref (ad_4 0)]) (by rw [hag_4 0 (by omega)]) ?_
  refine lv_astore_n (lv' := [(1, .ref (ad_4 0)), (0, .ref b)]) hx hb dL_law_7 rfl hl (by decide) rfl (fun ls hl => ?_)
  refine q_ic 0 hx hb dL_law_8 (by decide) ?_
  refine lv_istore_n (lv' := [(2, .int (nI 0)), (1, .ref (ad_4 0)), (0, .ref b)]) hx hb dL_law_9 rfl hl (by decide) rfl (fun ls hl => ?_)
  exact law_l1 l hr hlocks hC hX hbl hLx 17 0 ad_4 I_4 L_4 R_4 S00 H locs (by omega) (by omega) hW (Inv_0 hN_4) ls (lv_sub hl [0, 1, 2] rfl)
/-- YOUR PART: from the entry, for every script of at most 260 ints, the law comes to its end with true ('hflags': the launch's flags, for a law that throws: no stack traces) -/
theorem whole_start {p : Program} {e : Env} {s : State} {m : MethodId} {below : List Frame} {meth : Method} {c : Code} (l : Launch) (hflags : l.flags = flags0) {b L : Nat} {xs : Nat → Int32} (hL : L ≤ 260) (C0 : lw_At p s m meth c b L xs) : W p l e room_1 s m #[Value.ref b] below meth c s.heap [] 0 0 (lw_Z below #[Value.ref b] s) (entryFrame m ([Value.ref b] : List Value).toArray 4) := by
  obtain ⟨hx, hb, hr, hml, hown, hts, hX, hbl, hlocks, hgv⟩ := id C0
  obtain ⟨G, hK, hNB⟩ := lw_known hts
  have hC : CallFix p m c cL_law 4 s #[Value.ref b] GW "CoinRowsLaw" := ⟨hx, hb, hml, hown, fun w hw => hts w (List.mem_filter.mp hw).1⟩
  have hW : Wd G 0 (fun _ => 0) (fun _ _ => 0) (fun _ _ => 0) (fun _ _ => none) (fun q => s.heap.size ≤ q) s.heap s.heap [] s := ⟨fun k q h => by simp [wl] at h, hK, ⟨fun i j p q h => by simp [wl] at h, fun k q h => by simp [wl] at h⟩, va_S.rf, fun _ h => h, hNB⟩
  have hl := lv_entry ([.ref b]) (n := 4) (Nat.le_of_ble_eq_true rfl)
  rw [lg_entry_eq]
  generalize (lg_sl ([.ref b]) ++ List.replicate (4 - (lg_sl ([.ref b])).length) Slot.unset).toArray = ls at hl ⊢
  have hl : lv_has ls 4 [(0, .ref b)] := hl
  exact law_begin l hr hlocks hC hX hbl hL hW ls hl
-- ===== YOUR PART ENDS =====
set_option maxHeartbeats 4000000 in
theorem lw_walk (l : Launch) (hflags : l.flags = flags0) (b : Addr) (xs : List Int32) : MetFree l x (headSpec (Jvm.Cond.code x code maxLocals ret :: tables_1) room_1) (lw_P b xs) (fun _ _ _ _ _ => True) lw_Q := by
  refine MetFree.of_bodyS (code := code) (maxLocals := maxLocals) (ret := ret) (by decide) ?_ ?_
  · intro args s m h hn
    obtain ⟨meth, c, h1, h2, h3, h4, h5, h6, -, -⟩ := Cond.code_spec hn (atoms_spec (ws := Jvm.Cond.code x code maxLocals ret :: tables_1) h _ List.mem_cons_self)
    exact ⟨meth, c, h1, h2, h3, h4, h5, h6⟩
  · intro p e s m args below meth c s₁ B hml0 hP _
    obtain ⟨rfl, hx, hbd, hgv⟩ := hP
    obtain ⟨scr, harrAt, hlist, hof, hsmall⟩ := hx
    obtain ⟨hcb, hkn, -, -⟩ := State.arrayAt?_spec harrAt
    have hown : s.vm.findClass R_law = some m.cls := findClass_of_methodNamed B.named
    have hts0 : ∀ c ∈ (Jvm.Cond.code x code maxLocals ret :: tables_1), c.before #[Value.ref b] s = true := atoms_spec (ws := Jvm.Cond.code x code maxLocals ret :: tables_1) B.pre
    have hts : ∀ w ∈ lw_tbl, w.before #[Value.ref b] s = true := k2_hts_sels lw_privs (fun w hw => hts0 w (List.mem_cons_of_mem _ hw)) lw_privs_ok
    have hml : c.maxLocals = 4 := B.maxLocals_eq (hts0 _ List.mem_cons_self)
    have X₀ : Stand p l e room_1 s m #[Value.ref b] below meth c s₁ [] 0 0 := Stand.of_body B
    have hh0 : s₁.heap = s.heap := by rw [B.state]; rfl
    have hsz : scr.slots.size = xs.length := by rw [← Array.length_toList, hlist, List.length_map]
    have hval : ∀ j : Nat, j < xs.length → scr.slots[j]? = some (.int (xs.getD j 0)) := fun j hj => by
      rw [← Array.getElem?_toList, hlist]
      simp [hj]
    have hbl : b < s.heap.size := (Array.getElem?_eq_some_iff.mp hcb).1
    have hX : va_X b xs.length (fun j => xs.getD j 0) s s.heap := ⟨scr, hcb, hof, hkn, hsz, hval⟩
    have K : W p l e room_1 s m #[Value.ref b] below meth c s₁.heap [] 0 0 (lw_Z below #[Value.ref b] s) (entryFrame m ([Value.ref b] : List Value).toArray 4) := by
      rw [hh0]
      exact whole_start l hflags hbd ⟨B.exec, B.bytes, B.returns, hml, hown, hts, hX, hbl, B.notSynchronized, hgv⟩
    obtain ⟨t, a1, o, b1, b2, b3⟩ := K s₁ rfl X₀
    exact ⟨t, o, a1, b1, b2, b3⟩
theorem lw_pre_spec {args : Array Value} {s : State} (h : (Jvm.Cond.and given_1 narrow_1).before args s = true) (hr : rest_1_c.before args s = true) : ∃ (b : Addr) (xs : List Int32), lw_P b xs args s := by
  have hs := flat_of_before _ h
  have hq := flat_of_before _ hr
  have hc : (Cond.count 1).before args s = true := hs _ (by decide +kernel)
  have harr : (Cond.arrayOf (.arg 0) .int).before args s = true := hs _ (by decide +kernel)
  have hle : (Cond.le (.length (.arg 0)) (.int 260)).before args s = true := hs _ (by decide +kernel)
  have hlen : (Cond.isInt (.length (.arg 0))).before args s = true := hq _ (by decide +kernel)
  have hall : (Cond.all (.arg 0) (.isInt (.elem (.arg 0) (.index 0)))).before args s = true := hq _ (by decide +kernel)
  obtain ⟨b, xs, hb, hx⟩ := State.ints_of_pre rfl harr hlen hall
  have hsm : xs.length < 2 ^ 31 := hx.choose_spec.2.2.2
  have hev : (Term.length (.arg 0)).eval args s none [] s = some (.int xs.length.toInt32) := hx.length_eval hb
  have hv := Cond.le_ints hev (show (Term.int 260).eval args s none [] s = some (.int 260) from rfl)
  have hd : xs.length.toInt32 ≤ 260 := by
    simpa [Cond.before, Cond.holds, hv] using hle
  have hN : xs.length ≤ 260 := (Int32.ofNat_le_ofNat hsm (by decide)).mp (show Int32.ofNat xs.length ≤ Int32.ofNat 260 from hd)
  exact ⟨b, xs, Cond.one_arg hc (show args[0]? = some (.ref b) from hb), hx, hN, h⟩
theorem lw_comes (l : Launch) (hflags : l.flags = flags0) : Comes l x (Jvm.Cond.code x code maxLocals ret :: tables_1) room_1 (fun tb e args s => Calls_1 tb e args s ∧ rest_1 tb e args s ∧ Pre_1 tb e args s)
    (fun _ _ args s o t => lw_Q args s o t) := by
  intro p e ha hc hk s m args below hf hfit hheap happ hpre
  obtain ⟨b, xs, hP⟩ := lw_pre_spec hpre.2.2 hpre.2.1
  obtain ⟨k, o, h1, h2, h3, hQ⟩ := lw_walk l hflags b xs p e ha hc hk s m args below hf ((Spec.applies_iff_loose hf).mp happ).1 hP trivial
  exact ⟨k, o, h1, h2, h3, hQ⟩
theorem lw_frame {s t : State} {o : Outcome} {args : Array Value} (h : State.butDraws s t lw_cs (fun t1 => Framed s o t1 [] 600000 7302250)) :
    State.butDraws s t [Jvm.Choice.named "NaN.bits"] (fun t1 => Framed s o t1 (fieldLocs frame_1_writes args s ++ arrayLocs frame_1_arrays args s ++ staticLocs frame_1_statics s) 600000 7302250) := h
theorem lw_limb (L : Cond) (hL : ∀ (args : Array Value) (s t : State), L.after args s (.returned (some (.int 1))) t = true) :
    ArmFor flags0 classFile x code maxLocals ret World_1 tables_1 room_1 Calls_1 rest_1 Pre_1
      (fun tb e a s o t => postC L tb e a s o t ∧ State.butDraws s t [Jvm.Choice.named "NaN.bits"] (fun t1 => Framed s o t1 (fieldLocs frame_1_writes a s ++ arrayLocs frame_1_arrays a s ++ staticLocs frame_1_statics s) 600000 7302250)) := by
  intro l hflags _ _ p e ha hc hk s m args below hf hfit hheap happ hpre
  obtain ⟨k, o, h1, h2, h3, rfl, hF⟩ := lw_comes l hflags p e ha hc hk s m args below hf hfit hheap happ hpre
  exact ⟨k, _, h1, h2, h3, hL args s _, lw_frame hF⟩
theorem i_vc : Claimed_1_1 ∧ Claimed_1_2 := ⟨lw_limb limb_1_1 (fun args s t => by simp [limb_1_1, Cond.after, Cond.holds, Cond.value]), lw_limb limb_1_2 (fun args s t => Cond.after_iff.mpr (by
  first | (rw [show limb_1_2 = Cond.eq .result (.int 1) from rfl, Cond.eq_ints (x := 1) (y := 1) rfl rfl]; simp; done) | (simp [limb_1_2, Cond.value, Term.eval]; done)))⟩

